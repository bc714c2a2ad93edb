/-! One call on fresh objects. -/
theorem p1_11_6 {xs : Nat → Int32} {h : mj_H} (hk : xs 0 &&& nI 63 = nI 11)  (hc : ((xs 1).toUInt32 % 65536).toInt32 = nI 103) (HL : h.length = 414) (HZ : mj_sz h ≤ 20000) (H0 : mj_rd h 0 = some (.inr (0, [.ref 1, .ref 38, .ref 299, .ref 336, .ref 373, .ref 375, .ref 378, .ref 381, .ref 387, .ref 393, .null, .null, .ref 397, .ref 398, .ref 399, .long (lN 0), .long (lN 0)]))) (H375 : mj_rd h 375 = some (.inr (7, [.ref 376, .ref 377, .int (nI 0)]))) (H376 : mj_rd h 376 = some (.inl (0, (8, .inl (fun _ => 0))))) (H400 : mj_rd h 400 = some (.inr (17, [.int (nI 0), .ref 401, .ref 402, .ref 1000300, .long (lN 0), .long (lN 0), .ref 410, .null, .null, .null, .ref 411]))) (H402 : mj_rd h 402 = some (.inr (19, [.ref 403, .ref 404, .ref 405, .ref 406, .ref 407, .ref 408, .ref 409, .int (nI 0), .int (nI 4294967295), .int (nI 0), .ref 400]))) (H403 : mj_rd h 403 = some (.inl (0, (8, .inl (fun _ => 0))))) (H412 : mj_rd h 412 = some (.inl (4, (1, .inr (.inl (fun _ => 0)))))) : mj_fin 4 xs h := by
  unfold mj_fin
  refine l_ild (p' := 30) rfl rfl rfl rfl ?_
  refine l_alds (p' := 31) rfl rfl rfl rfl ?_
  refine l_lens (p' := 32) rfl rfl rfl ?_
  refine l_con (p' := 33) rfl rfl rfl ?_
  refine l_bz (p' := 34) (z := (nI 0)) rfl rfl rfl rfl rfl (by decide +kernel) ?_
  refine l_icmp (p' := 37) false rfl rfl (by decide +kernel) rfl ?_
  refine l_alds (p' := 38) rfl rfl rfl rfl ?_
  refine l_ild (p' := 40) rfl rfl rfl rfl ?_
  refine l_ialz (p' := 41) (m := 0) (z := (xs 0)) rfl rfl (by decide +kernel) rfl rfl rfl ?_
  refine l_bip (p' := 43) rfl rfl rfl ?_
  refine l_bz (p' := 44) (z := (nI 11)) rfl rfl rfl rfl rfl hk ?_
  refine l_sp (p' := 837) (ls' := _) rfl rfl rfl rfl rfl ?_
  refine l_aldn (p' := 838) rfl rfl rfl rfl ?_
  refine l_alds (p' := 839) rfl rfl rfl rfl ?_
  refine l_ild (p' := 841) rfl rfl rfl rfl ?_
  refine l_con (p' := 842) rfl rfl rfl ?_
  refine l_bz (p' := 843) (z := (nI 1)) rfl rfl rfl rfl rfl (by decide +kernel) ?_
  refine l_ialz (p' := 844) (m := 1) (z := (xs 1)) rfl rfl (by decide +kernel) rfl rfl rfl ?_
  refine l_bz (p' := 845) (z := (nI 103)) rfl rfl rfl rfl rfl hc ?_
  refine l_aldn (p' := 846) rfl rfl rfl rfl ?_
  refine l_call (p' := 849) (kc := 99) (ls0 := [_, _, _, _]) rfl rfl rfl rfl rfl rfl rfl rfl rfl rfl ?_
  refine s_aldn (p' := 1) rfl rfl rfl ?_
  refine s_con (p' := 2) rfl rfl ?_
  refine s_aldn (p' := 3) rfl rfl rfl ?_
  refine s_ildn (p' := 4) rfl rfl rfl ?_
  refine c_call (p' := 7) (kc := 98) (ls0 := [_, _]) rfl rfl rfl rfl rfl (mj_rcv_is H0) rfl rfl rfl ?_
  refine s_ildn (p' := 1) rfl rfl rfl ?_
  refine c_call (p' := 4) (kc := 97) (ls0 := [_]) rfl rfl rfl rfl rfl rfl rfl rfl rfl ?_
  refine s_ildn (p' := 1) rfl rfl rfl ?_
  refine s_bip (p' := 3) rfl rfl ?_
  refine s_icmp (p' := 6) false rfl (by decide +kernel) rfl ?_
  refine s_ildn (p' := 7) rfl rfl rfl ?_
  refine s_bip (p' := 9) rfl rfl ?_
  refine s_icmp (p' := 12) false rfl (by decide +kernel) rfl ?_
  refine s_con (p' := 13) rfl rfl ?_
  refine s_goto (p' := 17) rfl rfl ?_
  refine c_iret rfl (by decide +kernel) ?_
  refine s_if (p' := 17) true rfl (by decide +kernel) rfl ?_
  refine s_aldn (p' := 18) rfl rfl rfl ?_
  refine s_gf (p' := 21) rfl H0 rfl rfl ?_
  refine s_ildn (p' := 22) rfl rfl rfl ?_
  refine s_bip (p' := 24) rfl rfl ?_
  refine s_bz (p' := 25) (z := (nI 6)) rfl rfl rfl (by decide +kernel) ?_
  refine c_call (p' := 28) (kc := 97) (ls0 := [_, _]) rfl rfl rfl rfl rfl (mj_rcv_is H375) rfl rfl rfl ?_
  refine s_ildn (p' := 1) rfl rfl rfl ?_
  refine s_if (p' := 4) false rfl (by decide +kernel) rfl ?_
  refine s_ildn (p' := 5) rfl rfl rfl ?_
  refine s_aldn (p' := 6) rfl rfl rfl ?_
  refine s_gf (p' := 9) rfl H375 rfl rfl ?_
  refine s_lenz (p' := 10) rfl (mj_rdA_is H376 (by decide)) rfl rfl ?_
  refine s_icmp (p' := 13) false rfl (by decide +kernel) rfl ?_
  refine s_aldn (p' := 14) rfl rfl rfl ?_
  refine s_gf (p' := 17) rfl H375 rfl rfl ?_
  refine s_ildn (p' := 18) rfl rfl rfl ?_
  refine s_ialz (p' := 19) (m := 6) (v := (nI 0)) rfl H376 (by decide +kernel) rfl (by decide +kernel) rfl ?_
  refine s_goto (p' := 23) rfl rfl ?_
  refine c_iret rfl rfl ?_
  refine c_iret rfl rfl ?_
  refine s_bzL (p' := 8) (z := (lN 0)) rfl rfl rfl (by decide +kernel) ?_
  refine s_lasz (p' := 9) (m := 0) rfl rfl H412 (by decide +kernel) rfl rfl rfl ?_
  refine s_goto (p' := 15) rfl rfl ?_
  refine s_con (p' := 16) rfl rfl ?_
  refine k_iret rfl rfl ?_
  refine l_ist (p' := 851) (ls' := [_, _, _, _, _, _, _, _, _, _]) rfl rfl rfl rfl rfl ?_
  refine l_aldn (p' := 852) rfl rfl rfl rfl ?_
  refine l_alds (p' := 853) rfl rfl rfl rfl ?_
  refine l_ild (p' := 855) rfl rfl rfl rfl ?_
  refine l_con (p' := 856) rfl rfl rfl ?_
  refine l_bz (p' := 857) (z := (nI 1)) rfl rfl rfl rfl rfl (by decide +kernel) ?_
  refine l_ialz (p' := 858) (m := 1) (z := (xs 1)) rfl rfl (by decide +kernel) rfl rfl rfl ?_
  refine l_bz (p' := 859) (z := (nI 103)) rfl rfl rfl rfl rfl hc ?_
  refine l_call (p' := 862) (kc := 99) (ls0 := [_, _]) rfl rfl rfl rfl rfl rfl (mj_rcv_is (rd_sn rfl H400)) rfl rfl rfl ?_
  refine s_aldn (p' := 1) rfl rfl rfl ?_
  refine s_ildn (p' := 2) rfl rfl rfl ?_
  refine c_call (p' := 5) (kc := 98) (ls0 := [_]) rfl rfl rfl rfl rfl rfl rfl rfl rfl ?_
  refine s_ildn (p' := 1) rfl rfl rfl ?_
  refine s_bip (p' := 3) rfl rfl ?_
  refine s_bip (p' := 5) rfl rfl ?_
  refine c_call (p' := 8) (kc := 97) (ls0 := [_, _, _]) rfl rfl rfl rfl rfl rfl rfl rfl rfl ?_
  refine s_ildn (p' := 1) rfl rfl rfl ?_
  refine s_ildn (p' := 2) rfl rfl rfl ?_
  refine s_icmp (p' := 5) false rfl (by decide +kernel) rfl ?_
  refine s_ildn (p' := 6) rfl rfl rfl ?_
  refine s_ildn (p' := 7) rfl rfl rfl ?_
  refine s_icmp (p' := 10) false rfl (by decide +kernel) rfl ?_
  refine s_con (p' := 11) rfl rfl ?_
  refine s_goto (p' := 15) rfl rfl ?_
  refine c_iret rfl (by decide +kernel) ?_
  refine c_iret rfl (by decide +kernel) ?_
  refine s_if (p' := 8) false rfl (by decide +kernel) rfl ?_
  refine s_con (p' := 9) rfl rfl ?_
  refine s_goto (p' := 13) rfl rfl ?_
  refine c_call (p' := 16) (kc := 98) (ls0 := [_, _]) rfl rfl rfl rfl rfl (mj_rcv_is (rd_sn rfl H400)) rfl rfl rfl ?_
  refine s_aldn (p' := 1) rfl rfl rfl ?_
  refine s_ildn (p' := 2) rfl rfl rfl ?_
  refine s_pfz (p' := 5) (fs' := [_, _, _, _, _, _, _, _, _, _, _]) rfl rfl (rd_sn rfl H400) rfl rfl rfl rfl ?_
  refine s_ildn (p' := 6) rfl rfl rfl ?_
  refine s_if (p' := 13) true rfl (by decide +kernel) rfl ?_
  refine s_con (p' := 14) rfl rfl ?_
  refine c_iret rfl (by decide +kernel) ?_
  refine s_if (p' := 23) true rfl (by decide +kernel) rfl ?_
  refine s_aldn (p' := 24) rfl rfl rfl ?_
  refine s_gf (p' := 27) rfl (rd_ss rfl (rd_sn rfl H400)) rfl rfl ?_
  refine s_gf (p' := 30) rfl (rd_sn rfl (rd_sn rfl H402)) rfl rfl ?_
  refine s_ildn (p' := 31) rfl rfl rfl ?_
  refine s_bip (p' := 33) rfl rfl ?_
  refine s_bz (p' := 34) (z := (nI 6)) rfl rfl rfl (by decide +kernel) ?_
  refine s_ialz (p' := 35) (m := 6) (v := (nI 0)) rfl (rd_sn rfl (rd_sn rfl H403)) (by decide +kernel) rfl (by decide +kernel) rfl ?_
  refine k_iret rfl rfl ?_
  refine l_ist (p' := 864) (ls' := [_, _, _, _, _, _, _, _, _, _]) rfl rfl rfl rfl rfl ?_
  refine l_aldn (p' := 865) rfl rfl rfl rfl ?_
  refine l_call (p' := 868) (kc := 99) (ls0 := [_]) rfl rfl rfl rfl rfl rfl (mj_rcv_is (rd_ss rfl (rd_sn rfl H400))) rfl rfl rfl ?_
  refine s_aldn (p' := 1) rfl rfl rfl ?_
  refine s_gf (p' := 4) rfl (rd_ss rfl (rd_sn rfl H400)) rfl rfl ?_
  refine k_iret rfl rfl ?_
  refine l_ild (p' := 870) rfl rfl rfl rfl ?_
  refine l_icmp (p' := 875) true rfl rfl (by decide +kernel) rfl ?_
  refine l_ild (p' := 877) rfl rfl rfl rfl ?_
  refine l_if (p' := 880) false rfl rfl (by decide +kernel) rfl ?_
  refine l_aldn (p' := 881) rfl rfl rfl rfl ?_
  refine l_con (p' := 882) rfl rfl rfl ?_
  refine l_lalz (p' := 883) (m := 0) (v := (lN 0)) rfl rfl (rd_sn rfl (rd_ss rfl H412)) (by decide +kernel) rfl (by decide +kernel) rfl ?_
  refine l_ild (p' := 885) rfl rfl rfl rfl ?_
  refine l_bzL (p' := 886) (z := (lN 0)) rfl rfl rfl rfl rfl (by decide +kernel) ?_
  refine l_bz (p' := 887) (z := (nI 0)) rfl rfl rfl rfl rfl (by decide +kernel) ?_
  refine l_if (p' := 892) true rfl rfl (by decide +kernel) rfl ?_
  refine l_goto (p' := 2541) rfl rfl rfl ?_
  refine l_incz (p' := 2544) (w := (nI 4)) (ls' := [_, _, _, _, _, _, _, _, _, _]) rfl rfl rfl rfl (by decide +kernel) rfl rfl ?_
  refine l_goto (p' := 28) rfl rfl rfl ?_
  refine l_ild (p' := 30) rfl rfl rfl rfl ?_
  refine l_alds (p' := 31) rfl rfl rfl rfl ?_
  refine l_lens (p' := 32) rfl rfl rfl ?_
  refine l_con (p' := 33) rfl rfl rfl ?_
  refine l_bz (p' := 34) (z := (nI 0)) rfl rfl rfl rfl rfl (by decide +kernel) ?_
  refine l_icmp (p' := 2547) true rfl rfl (by decide +kernel) rfl ?_
  refine l_con (p' := 2548) rfl rfl rfl ?_
  refine l_end rfl rfl ?_
  exact ⟨Nat.le_trans (Nat.le_of_eq (len_s (len_s HL))) (Nat.le_of_ble_eq_true rfl), Nat.le_trans (sz_s rfl (rd_sn rfl H400) rfl (sz_sA rfl H412 HZ)) (Nat.le_of_ble_eq_true rfl)⟩
theorem p1_11_7 {xs : Nat → Int32} {h : mj_H} (hk : xs 0 &&& nI 63 = nI 11)  (hc : ((xs 1).toUInt32 % 65536).toInt32 = nI 104) (HL : h.length = 414) (HZ : mj_sz h ≤ 20000) (H0 : mj_rd h 0 = some (.inr (0, [.ref 1, .ref 38, .ref 299, .ref 336, .ref 373, .ref 375, .ref 378, .ref 381, .ref 387, .ref 393, .null, .null, .ref 397, .ref 398, .ref 399, .long (lN 0), .long (lN 0)]))) (H375 : mj_rd h 375 = some (.inr (7, [.ref 376, .ref 377, .int (nI 0)]))) (H376 : mj_rd h 376 = some (.inl (0, (8, .inl (fun _ => 0))))) (H400 : mj_rd h 400 = some (.inr (17, [.int (nI 0), .ref 401, .ref 402, .ref 1000300, .long (lN 0), .long (lN 0), .ref 410, .null, .null, .null, .ref 411]))) (H402 : mj_rd h 402 = some (.inr (19, [.ref 403, .ref 404, .ref 405, .ref 406, .ref 407, .ref 408, .ref 409, .int (nI 0), .int (nI 4294967295), .int (nI 0), .ref 400]))) (H403 : mj_rd h 403 = some (.inl (0, (8, .inl (fun _ => 0))))) (H412 : mj_rd h 412 = some (.inl (4, (1, .inr (.inl (fun _ => 0)))))) : mj_fin 4 xs h := by
  unfold mj_fin
  refine l_ild (p' := 30) rfl rfl rfl rfl ?_
  refine l_alds (p' := 31) rfl rfl rfl rfl ?_
  refine l_lens (p' := 32) rfl rfl rfl ?_
  refine l_con (p' := 33) rfl rfl rfl ?_
  refine l_bz (p' := 34) (z := (nI 0)) rfl rfl rfl rfl rfl (by decide +kernel) ?_
  refine l_icmp (p' := 37) false rfl rfl (by decide +kernel) rfl ?_
  refine l_alds (p' := 38) rfl rfl rfl rfl ?_
  refine l_ild (p' := 40) rfl rfl rfl rfl ?_
  refine l_ialz (p' := 41) (m := 0) (z := (xs 0)) rfl rfl (by decide +kernel) rfl rfl rfl ?_
  refine l_bip (p' := 43) rfl rfl rfl ?_
  refine l_bz (p' := 44) (z := (nI 11)) rfl rfl rfl rfl rfl hk ?_
  refine l_sp (p' := 837) (ls' := _) rfl rfl rfl rfl rfl ?_
  refine l_aldn (p' := 838) rfl rfl rfl rfl ?_
  refine l_alds (p' := 839) rfl rfl rfl rfl ?_
  refine l_ild (p' := 841) rfl rfl rfl rfl ?_
  refine l_con (p' := 842) rfl rfl rfl ?_
  refine l_bz (p' := 843) (z := (nI 1)) rfl rfl rfl rfl rfl (by decide +kernel) ?_
  refine l_ialz (p' := 844) (m := 1) (z := (xs 1)) rfl rfl (by decide +kernel) rfl rfl rfl ?_
  refine l_bz (p' := 845) (z := (nI 104)) rfl rfl rfl rfl rfl hc ?_
  refine l_aldn (p' := 846) rfl rfl rfl rfl ?_
  refine l_call (p' := 849) (kc := 99) (ls0 := [_, _, _, _]) rfl rfl rfl rfl rfl rfl rfl rfl rfl rfl ?_
  refine s_aldn (p' := 1) rfl rfl rfl ?_
  refine s_con (p' := 2) rfl rfl ?_
  refine s_aldn (p' := 3) rfl rfl rfl ?_
  refine s_ildn (p' := 4) rfl rfl rfl ?_
  refine c_call (p' := 7) (kc := 98) (ls0 := [_, _]) rfl rfl rfl rfl rfl (mj_rcv_is H0) rfl rfl rfl ?_
  refine s_ildn (p' := 1) rfl rfl rfl ?_
  refine c_call (p' := 4) (kc := 97) (ls0 := [_]) rfl rfl rfl rfl rfl rfl rfl rfl rfl ?_
  refine s_ildn (p' := 1) rfl rfl rfl ?_
  refine s_bip (p' := 3) rfl rfl ?_
  refine s_icmp (p' := 6) false rfl (by decide +kernel) rfl ?_
  refine s_ildn (p' := 7) rfl rfl rfl ?_
  refine s_bip (p' := 9) rfl rfl ?_
  refine s_icmp (p' := 12) false rfl (by decide +kernel) rfl ?_
  refine s_con (p' := 13) rfl rfl ?_
  refine s_goto (p' := 17) rfl rfl ?_
  refine c_iret rfl (by decide +kernel) ?_
  refine s_if (p' := 17) true rfl (by decide +kernel) rfl ?_
  refine s_aldn (p' := 18) rfl rfl rfl ?_
  refine s_gf (p' := 21) rfl H0 rfl rfl ?_
  refine s_ildn (p' := 22) rfl rfl rfl ?_
  refine s_bip (p' := 24) rfl rfl ?_
  refine s_bz (p' := 25) (z := (nI 7)) rfl rfl rfl (by decide +kernel) ?_
  refine c_call (p' := 28) (kc := 97) (ls0 := [_, _]) rfl rfl rfl rfl rfl (mj_rcv_is H375) rfl rfl rfl ?_
  refine s_ildn (p' := 1) rfl rfl rfl ?_
  refine s_if (p' := 4) false rfl (by decide +kernel) rfl ?_
  refine s_ildn (p' := 5) rfl rfl rfl ?_
  refine s_aldn (p' := 6) rfl rfl rfl ?_
  refine s_gf (p' := 9) rfl H375 rfl rfl ?_
  refine s_lenz (p' := 10) rfl (mj_rdA_is H376 (by decide)) rfl rfl ?_
  refine s_icmp (p' := 13) false rfl (by decide +kernel) rfl ?_
  refine s_aldn (p' := 14) rfl rfl rfl ?_
  refine s_gf (p' := 17) rfl H375 rfl rfl ?_
  refine s_ildn (p' := 18) rfl rfl rfl ?_
  refine s_ialz (p' := 19) (m := 7) (v := (nI 0)) rfl H376 (by decide +kernel) rfl (by decide +kernel) rfl ?_
  refine s_goto (p' := 23) rfl rfl ?_
  refine c_iret rfl rfl ?_
  refine c_iret rfl rfl ?_
  refine s_bzL (p' := 8) (z := (lN 0)) rfl rfl rfl (by decide +kernel) ?_
  refine s_lasz (p' := 9) (m := 0) rfl rfl H412 (by decide +kernel) rfl rfl rfl ?_
  refine s_goto (p' := 15) rfl rfl ?_
  refine s_con (p' := 16) rfl rfl ?_
  refine k_iret rfl rfl ?_
  refine l_ist (p' := 851) (ls' := [_, _, _, _, _, _, _, _, _, _]) rfl rfl rfl rfl rfl ?_
  refine l_aldn (p' := 852) rfl rfl rfl rfl ?_
  refine l_alds (p' := 853) rfl rfl rfl rfl ?_
  refine l_ild (p' := 855) rfl rfl rfl rfl ?_
  refine l_con (p' := 856) rfl rfl rfl ?_
  refine l_bz (p' := 857) (z := (nI 1)) rfl rfl rfl rfl rfl (by decide +kernel) ?_
  refine l_ialz (p' := 858) (m := 1) (z := (xs 1)) rfl rfl (by decide +kernel) rfl rfl rfl ?_
  refine l_bz (p' := 859) (z := (nI 104)) rfl rfl rfl rfl rfl hc ?_
  refine l_call (p' := 862) (kc := 99) (ls0 := [_, _]) rfl rfl rfl rfl rfl rfl (mj_rcv_is (rd_sn rfl H400)) rfl rfl rfl ?_
  refine s_aldn (p' := 1) rfl rfl rfl ?_
  refine s_ildn (p' := 2) rfl rfl rfl ?_
  refine c_call (p' := 5) (kc := 98) (ls0 := [_]) rfl rfl rfl rfl rfl rfl rfl rfl rfl ?_
  refine s_ildn (p' := 1) rfl rfl rfl ?_
  refine s_bip (p' := 3) rfl rfl ?_
  refine s_bip (p' := 5) rfl rfl ?_
  refine c_call (p' := 8) (kc := 97) (ls0 := [_, _, _]) rfl rfl rfl rfl rfl rfl rfl rfl rfl ?_
  refine s_ildn (p' := 1) rfl rfl rfl ?_
  refine s_ildn (p' := 2) rfl rfl rfl ?_
  refine s_icmp (p' := 5) false rfl (by decide +kernel) rfl ?_
  refine s_ildn (p' := 6) rfl rfl rfl ?_
  refine s_ildn (p' := 7) rfl rfl rfl ?_
  refine s_icmp (p' := 10) false rfl (by decide +kernel) rfl ?_
  refine s_con (p' := 11) rfl rfl ?_
  refine s_goto (p' := 15) rfl rfl ?_
  refine c_iret rfl (by decide +kernel) ?_
  refine c_iret rfl (by decide +kernel) ?_
  refine s_if (p' := 8) false rfl (by decide +kernel) rfl ?_
  refine s_con (p' := 9) rfl rfl ?_
  refine s_goto (p' := 13) rfl rfl ?_
  refine c_call (p' := 16) (kc := 98) (ls0 := [_, _]) rfl rfl rfl rfl rfl (mj_rcv_is (rd_sn rfl H400)) rfl rfl rfl ?_
  refine s_aldn (p' := 1) rfl rfl rfl ?_
  refine s_ildn (p' := 2) rfl rfl rfl ?_
  refine s_pfz (p' := 5) (fs' := [_, _, _, _, _, _, _, _, _, _, _]) rfl rfl (rd_sn rfl H400) rfl rfl rfl rfl ?_
  refine s_ildn (p' := 6) rfl rfl rfl ?_
  refine s_if (p' := 13) true rfl (by decide +kernel) rfl ?_
  refine s_con (p' := 14) rfl rfl ?_
  refine c_iret rfl (by decide +kernel) ?_
  refine s_if (p' := 23) true rfl (by decide +kernel) rfl ?_
  refine s_aldn (p' := 24) rfl rfl rfl ?_
  refine s_gf (p' := 27) rfl (rd_ss rfl (rd_sn rfl H400)) rfl rfl ?_
  refine s_gf (p' := 30) rfl (rd_sn rfl (rd_sn rfl H402)) rfl rfl ?_
  refine s_ildn (p' := 31) rfl rfl rfl ?_
  refine s_bip (p' := 33) rfl rfl ?_
  refine s_bz (p' := 34) (z := (nI 7)) rfl rfl rfl (by decide +kernel) ?_
  refine s_ialz (p' := 35) (m := 7) (v := (nI 0)) rfl (rd_sn rfl (rd_sn rfl H403)) (by decide +kernel) rfl (by decide +kernel) rfl ?_
  refine k_iret rfl rfl ?_
  refine l_ist (p' := 864) (ls' := [_, _, _, _, _, _, _, _, _, _]) rfl rfl rfl rfl rfl ?_
  refine l_aldn (p' := 865) rfl rfl rfl rfl ?_
  refine l_call (p' := 868) (kc := 99) (ls0 := [_]) rfl rfl rfl rfl rfl rfl (mj_rcv_is (rd_ss rfl (rd_sn rfl H400))) rfl rfl rfl ?_
  refine s_aldn (p' := 1) rfl rfl rfl ?_
  refine s_gf (p' := 4) rfl (rd_ss rfl (rd_sn rfl H400)) rfl rfl ?_
  refine k_iret rfl rfl ?_
  refine l_ild (p' := 870) rfl rfl rfl rfl ?_
  refine l_icmp (p' := 875) true rfl rfl (by decide +kernel) rfl ?_
  refine l_ild (p' := 877) rfl rfl rfl rfl ?_
  refine l_if (p' := 880) false rfl rfl (by decide +kernel) rfl ?_
  refine l_aldn (p' := 881) rfl rfl rfl rfl ?_
  refine l_con (p' := 882) rfl rfl rfl ?_
  refine l_lalz (p' := 883) (m := 0) (v := (lN 0)) rfl rfl (rd_sn rfl (rd_ss rfl H412)) (by decide +kernel) rfl (by decide +kernel) rfl ?_
  refine l_ild (p' := 885) rfl rfl rfl rfl ?_
  refine l_bzL (p' := 886) (z := (lN 0)) rfl rfl rfl rfl rfl (by decide +kernel) ?_
  refine l_bz (p' := 887) (z := (nI 0)) rfl rfl rfl rfl rfl (by decide +kernel) ?_
  refine l_if (p' := 892) true rfl rfl (by decide +kernel) rfl ?_
  refine l_goto (p' := 2541) rfl rfl rfl ?_
  refine l_incz (p' := 2544) (w := (nI 4)) (ls' := [_, _, _, _, _, _, _, _, _, _]) rfl rfl rfl rfl (by decide +kernel) rfl rfl ?_
  refine l_goto (p' := 28) rfl rfl rfl ?_
  refine l_ild (p' := 30) rfl rfl rfl rfl ?_
  refine l_alds (p' := 31) rfl rfl rfl rfl ?_
  refine l_lens (p' := 32) rfl rfl rfl ?_
  refine l_con (p' := 33) rfl rfl rfl ?_
  refine l_bz (p' := 34) (z := (nI 0)) rfl rfl rfl rfl rfl (by decide +kernel) ?_
  refine l_icmp (p' := 2547) true rfl rfl (by decide +kernel) rfl ?_
  refine l_con (p' := 2548) rfl rfl rfl ?_
  refine l_end rfl rfl ?_
  exact ⟨Nat.le_trans (Nat.le_of_eq (len_s (len_s HL))) (Nat.le_of_ble_eq_true rfl), Nat.le_trans (sz_s rfl (rd_sn rfl H400) rfl (sz_sA rfl H412 HZ)) (Nat.le_of_ble_eq_true rfl)⟩
theorem p1_11_n {xs : Nat → Int32} {h : mj_H} (hk : xs 0 &&& nI 63 = nI 11)  {c : Int32} (hc : ((xs 1).toUInt32 % 65536).toInt32 = c) (hcc : c.toInt < 97) (HL : h.length = 414) (HZ : mj_sz h ≤ 20000) (H0 : mj_rd h 0 = some (.inr (0, [.ref 1, .ref 38, .ref 299, .ref 336, .ref 373, .ref 375, .ref 378, .ref 381, .ref 387, .ref 393, .null, .null, .ref 397, .ref 398, .ref 399, .long (lN 0), .long (lN 0)]))) (H400 : mj_rd h 400 = some (.inr (17, [.int (nI 0), .ref 401, .ref 402, .ref 1000300, .long (lN 0), .long (lN 0), .ref 410, .null, .null, .null, .ref 411]))) : mj_fin 4 xs h := by
  unfold mj_fin
  refine l_ild (p' := 30) rfl rfl rfl rfl ?_
  refine l_alds (p' := 31) rfl rfl rfl rfl ?_
  refine l_lens (p' := 32) rfl rfl rfl ?_
  refine l_con (p' := 33) rfl rfl rfl ?_
  refine l_bz (p' := 34) (z := (nI 0)) rfl rfl rfl rfl rfl (by decide +kernel) ?_
  refine l_icmp (p' := 37) false rfl rfl (by decide +kernel) rfl ?_
  refine l_alds (p' := 38) rfl rfl rfl rfl ?_
  refine l_ild (p' := 40) rfl rfl rfl rfl ?_
  refine l_ialz (p' := 41) (m := 0) (z := (xs 0)) rfl rfl (by decide +kernel) rfl rfl rfl ?_
  refine l_bip (p' := 43) rfl rfl rfl ?_
  refine l_bz (p' := 44) (z := (nI 11)) rfl rfl rfl rfl rfl hk ?_
  refine l_sp (p' := 837) (ls' := _) rfl rfl rfl rfl rfl ?_
  refine l_aldn (p' := 838) rfl rfl rfl rfl ?_
  refine l_alds (p' := 839) rfl rfl rfl rfl ?_
  refine l_ild (p' := 841) rfl rfl rfl rfl ?_
  refine l_con (p' := 842) rfl rfl rfl ?_
  refine l_bz (p' := 843) (z := (nI 1)) rfl rfl rfl rfl rfl (by decide +kernel) ?_
  refine l_ialz (p' := 844) (m := 1) (z := (xs 1)) rfl rfl (by decide +kernel) rfl rfl rfl ?_
  refine l_bz (p' := 845) (z := c) rfl rfl rfl rfl rfl hc ?_
  refine l_aldn (p' := 846) rfl rfl rfl rfl ?_
  refine l_call (p' := 849) (kc := 99) (ls0 := [_, _, _, _]) rfl rfl rfl rfl rfl rfl rfl rfl rfl rfl ?_
  refine s_aldn (p' := 1) rfl rfl rfl ?_
  refine s_con (p' := 2) rfl rfl ?_
  refine s_aldn (p' := 3) rfl rfl rfl ?_
  refine s_ildn (p' := 4) rfl rfl rfl ?_
  refine c_call (p' := 7) (kc := 98) (ls0 := [_, _]) rfl rfl rfl rfl rfl (mj_rcv_is H0) rfl rfl rfl ?_
  refine s_ildn (p' := 1) rfl rfl rfl ?_
  refine c_call (p' := 4) (kc := 97) (ls0 := [_]) rfl rfl rfl rfl rfl rfl rfl rfl rfl ?_
  refine s_ildn (p' := 1) rfl rfl rfl ?_
  refine s_bip (p' := 3) rfl rfl ?_
  refine s_icmp (p' := 16) true rfl ((cg_lt (w := 97) (by decide +kernel)).trans (decide_eq_true (by omega))) rfl ?_
  refine s_con (p' := 17) rfl rfl ?_
  refine c_iret rfl (by decide +kernel) ?_
  refine s_if (p' := 7) false rfl (by decide +kernel) rfl ?_
  refine s_thrz (q := 414) rfl HL rfl ?_
  refine K_c (hp := 12) rfl (mj_ocl_is (rd_nw rfl HL)) rfl ?_
  refine s_astn (p' := 13) (ls' := [_, _, _, _]) rfl rfl rfl rfl ?_
  refine s_con (p' := 14) rfl rfl ?_
  refine k_iret rfl rfl ?_
  refine l_ist (p' := 851) (ls' := [_, _, _, _, _, _, _, _, _, _]) rfl rfl rfl rfl rfl ?_
  refine l_aldn (p' := 852) rfl rfl rfl rfl ?_
  refine l_alds (p' := 853) rfl rfl rfl rfl ?_
  refine l_ild (p' := 855) rfl rfl rfl rfl ?_
  refine l_con (p' := 856) rfl rfl rfl ?_
  refine l_bz (p' := 857) (z := (nI 1)) rfl rfl rfl rfl rfl (by decide +kernel) ?_
  refine l_ialz (p' := 858) (m := 1) (z := (xs 1)) rfl rfl (by decide +kernel) rfl rfl rfl ?_
  refine l_bz (p' := 859) (z := c) rfl rfl rfl rfl rfl hc ?_
  refine l_call (p' := 862) (kc := 99) (ls0 := [_, _]) rfl rfl rfl rfl rfl rfl (mj_rcv_is (rd_app H400)) rfl rfl rfl ?_
  refine s_aldn (p' := 1) rfl rfl rfl ?_
  refine s_ildn (p' := 2) rfl rfl rfl ?_
  refine c_call (p' := 5) (kc := 98) (ls0 := [_]) rfl rfl rfl rfl rfl rfl rfl rfl rfl ?_
  refine s_ildn (p' := 1) rfl rfl rfl ?_
  refine s_bip (p' := 3) rfl rfl ?_
  refine s_bip (p' := 5) rfl rfl ?_
  refine c_call (p' := 8) (kc := 97) (ls0 := [_, _, _]) rfl rfl rfl rfl rfl rfl rfl rfl rfl ?_
  refine s_ildn (p' := 1) rfl rfl rfl ?_
  refine s_ildn (p' := 2) rfl rfl rfl ?_
  refine s_icmp (p' := 14) true rfl ((ch_gt (w := 97) (by decide +kernel)).trans (decide_eq_true (by omega))) rfl ?_
  refine s_con (p' := 15) rfl rfl ?_
  refine c_iret rfl (by decide +kernel) ?_
  refine c_iret rfl (by decide +kernel) ?_
  refine s_if (p' := 12) true rfl (by decide +kernel) rfl ?_
  refine s_con (p' := 13) rfl rfl ?_
  refine c_call (p' := 16) (kc := 98) (ls0 := [_, _]) rfl rfl rfl rfl rfl (mj_rcv_is (rd_app H400)) rfl rfl rfl ?_
  refine s_aldn (p' := 1) rfl rfl rfl ?_
  refine s_ildn (p' := 2) rfl rfl rfl ?_
  refine s_pfz (p' := 5) (fs' := [_, _, _, _, _, _, _, _, _, _, _]) rfl rfl (rd_app H400) rfl rfl rfl rfl ?_
  refine s_ildn (p' := 6) rfl rfl rfl ?_
  refine s_if (p' := 9) false rfl (by decide +kernel) rfl ?_
  refine s_con (p' := 10) rfl rfl ?_
  refine s_goto (p' := 14) rfl rfl ?_
  refine c_iret rfl (by decide +kernel) ?_
  refine s_if (p' := 19) false rfl (by decide +kernel) rfl ?_
  refine s_con (p' := 20) rfl rfl ?_
  refine s_goto (p' := 35) rfl rfl ?_
  refine k_iret rfl rfl ?_
  refine l_ist (p' := 864) (ls' := [_, _, _, _, _, _, _, _, _, _]) rfl rfl rfl rfl rfl ?_
  refine l_aldn (p' := 865) rfl rfl rfl rfl ?_
  refine l_call (p' := 868) (kc := 99) (ls0 := [_]) rfl rfl rfl rfl rfl rfl (mj_rcv_is (rd_ss rfl (rd_app H400))) rfl rfl rfl ?_
  refine s_aldn (p' := 1) rfl rfl rfl ?_
  refine s_gf (p' := 4) rfl (rd_ss rfl (rd_app H400)) rfl rfl ?_
  refine k_iret rfl rfl ?_
  refine l_ild (p' := 870) rfl rfl rfl rfl ?_
  refine l_icmp (p' := 875) true rfl rfl (by decide +kernel) rfl ?_
  refine l_ild (p' := 877) rfl rfl rfl rfl ?_
  refine l_if (p' := 892) true rfl rfl (by decide +kernel) rfl ?_
  refine l_goto (p' := 2541) rfl rfl rfl ?_
  refine l_incz (p' := 2544) (w := (nI 4)) (ls' := [_, _, _, _, _, _, _, _, _, _]) rfl rfl rfl rfl (by decide +kernel) rfl rfl ?_
  refine l_goto (p' := 28) rfl rfl rfl ?_
  refine l_ild (p' := 30) rfl rfl rfl rfl ?_
  refine l_alds (p' := 31) rfl rfl rfl rfl ?_
  refine l_lens (p' := 32) rfl rfl rfl ?_
  refine l_con (p' := 33) rfl rfl rfl ?_
  refine l_bz (p' := 34) (z := (nI 0)) rfl rfl rfl rfl rfl (by decide +kernel) ?_
  refine l_icmp (p' := 2547) true rfl rfl (by decide +kernel) rfl ?_
  refine l_con (p' := 2548) rfl rfl rfl ?_
  refine l_end rfl rfl ?_
  exact ⟨Nat.le_trans (Nat.le_of_eq (len_s (len_a HL rfl))) (Nat.le_of_ble_eq_true rfl), Nat.le_trans (sz_s rfl (rd_app H400) rfl (sz_aa (k := 6) (m := 20006) rfl rfl HZ)) (Nat.le_of_ble_eq_true rfl)⟩
theorem p1_11_m {xs : Nat → Int32} {h : mj_H} (hk : xs 0 &&& nI 63 = nI 11)  {c : Int32} (hc : ((xs 1).toUInt32 % 65536).toInt32 = c) (hcc : 104 < c.toInt) (HL : h.length = 414) (HZ : mj_sz h ≤ 20000) (H0 : mj_rd h 0 = some (.inr (0, [.ref 1, .ref 38, .ref 299, .ref 336, .ref 373, .ref 375, .ref 378, .ref 381, .ref 387, .ref 393, .null, .null, .ref 397, .ref 398, .ref 399, .long (lN 0), .long (lN 0)]))) (H400 : mj_rd h 400 = some (.inr (17, [.int (nI 0), .ref 401, .ref 402, .ref 1000300, .long (lN 0), .long (lN 0), .ref 410, .null, .null, .null, .ref 411]))) : mj_fin 4 xs h := by
  unfold mj_fin
  refine l_ild (p' := 30) rfl rfl rfl rfl ?_
  refine l_alds (p' := 31) rfl rfl rfl rfl ?_
  refine l_lens (p' := 32) rfl rfl rfl ?_
  refine l_con (p' := 33) rfl rfl rfl ?_
  refine l_bz (p' := 34) (z := (nI 0)) rfl rfl rfl rfl rfl (by decide +kernel) ?_
  refine l_icmp (p' := 37) false rfl rfl (by decide +kernel) rfl ?_
  refine l_alds (p' := 38) rfl rfl rfl rfl ?_
  refine l_ild (p' := 40) rfl rfl rfl rfl ?_
  refine l_ialz (p' := 41) (m := 0) (z := (xs 0)) rfl rfl (by decide +kernel) rfl rfl rfl ?_
  refine l_bip (p' := 43) rfl rfl rfl ?_
  refine l_bz (p' := 44) (z := (nI 11)) rfl rfl rfl rfl rfl hk ?_
  refine l_sp (p' := 837) (ls' := _) rfl rfl rfl rfl rfl ?_
  refine l_aldn (p' := 838) rfl rfl rfl rfl ?_
  refine l_alds (p' := 839) rfl rfl rfl rfl ?_
  refine l_ild (p' := 841) rfl rfl rfl rfl ?_
  refine l_con (p' := 842) rfl rfl rfl ?_
  refine l_bz (p' := 843) (z := (nI 1)) rfl rfl rfl rfl rfl (by decide +kernel) ?_
  refine l_ialz (p' := 844) (m := 1) (z := (xs 1)) rfl rfl (by decide +kernel) rfl rfl rfl ?_
  refine l_bz (p' := 845) (z := c) rfl rfl rfl rfl rfl hc ?_
  refine l_aldn (p' := 846) rfl rfl rfl rfl ?_
  refine l_call (p' := 849) (kc := 99) (ls0 := [_, _, _, _]) rfl rfl rfl rfl rfl rfl rfl rfl rfl rfl ?_
  refine s_aldn (p' := 1) rfl rfl rfl ?_
  refine s_con (p' := 2) rfl rfl ?_
  refine s_aldn (p' := 3) rfl rfl rfl ?_
  refine s_ildn (p' := 4) rfl rfl rfl ?_
  refine c_call (p' := 7) (kc := 98) (ls0 := [_, _]) rfl rfl rfl rfl rfl (mj_rcv_is H0) rfl rfl rfl ?_
  refine s_ildn (p' := 1) rfl rfl rfl ?_
  refine c_call (p' := 4) (kc := 97) (ls0 := [_]) rfl rfl rfl rfl rfl rfl rfl rfl rfl ?_
  refine s_ildn (p' := 1) rfl rfl rfl ?_
  refine s_bip (p' := 3) rfl rfl ?_
  refine s_icmp (p' := 6) false rfl ((cg_lt (w := 97) (by decide +kernel)).trans (decide_eq_false (by omega))) rfl ?_
  refine s_ildn (p' := 7) rfl rfl rfl ?_
  refine s_bip (p' := 9) rfl rfl ?_
  refine s_icmp (p' := 16) true rfl ((cg_gt (w := 104) (by decide +kernel)).trans (decide_eq_true (by omega))) rfl ?_
  refine s_con (p' := 17) rfl rfl ?_
  refine c_iret rfl (by decide +kernel) ?_
  refine s_if (p' := 7) false rfl (by decide +kernel) rfl ?_
  refine s_thrz (q := 414) rfl HL rfl ?_
  refine K_c (hp := 12) rfl (mj_ocl_is (rd_nw rfl HL)) rfl ?_
  refine s_astn (p' := 13) (ls' := [_, _, _, _]) rfl rfl rfl rfl ?_
  refine s_con (p' := 14) rfl rfl ?_
  refine k_iret rfl rfl ?_
  refine l_ist (p' := 851) (ls' := [_, _, _, _, _, _, _, _, _, _]) rfl rfl rfl rfl rfl ?_
  refine l_aldn (p' := 852) rfl rfl rfl rfl ?_
  refine l_alds (p' := 853) rfl rfl rfl rfl ?_
  refine l_ild (p' := 855) rfl rfl rfl rfl ?_
  refine l_con (p' := 856) rfl rfl rfl ?_
  refine l_bz (p' := 857) (z := (nI 1)) rfl rfl rfl rfl rfl (by decide +kernel) ?_
  refine l_ialz (p' := 858) (m := 1) (z := (xs 1)) rfl rfl (by decide +kernel) rfl rfl rfl ?_
  refine l_bz (p' := 859) (z := c) rfl rfl rfl rfl rfl hc ?_
  refine l_call (p' := 862) (kc := 99) (ls0 := [_, _]) rfl rfl rfl rfl rfl rfl (mj_rcv_is (rd_app H400)) rfl rfl rfl ?_
  refine s_aldn (p' := 1) rfl rfl rfl ?_
  refine s_ildn (p' := 2) rfl rfl rfl ?_
  refine c_call (p' := 5) (kc := 98) (ls0 := [_]) rfl rfl rfl rfl rfl rfl rfl rfl rfl ?_
  refine s_ildn (p' := 1) rfl rfl rfl ?_
  refine s_bip (p' := 3) rfl rfl ?_
  refine s_bip (p' := 5) rfl rfl ?_
  refine c_call (p' := 8) (kc := 97) (ls0 := [_, _, _]) rfl rfl rfl rfl rfl rfl rfl rfl rfl ?_
  refine s_ildn (p' := 1) rfl rfl rfl ?_
  refine s_ildn (p' := 2) rfl rfl rfl ?_
  refine s_icmp (p' := 5) false rfl ((ch_gt (w := 97) (by decide +kernel)).trans (decide_eq_false (by omega))) rfl ?_
  refine s_ildn (p' := 6) rfl rfl rfl ?_
  refine s_ildn (p' := 7) rfl rfl rfl ?_
  refine s_icmp (p' := 14) true rfl ((cg_gt (w := 104) (by decide +kernel)).trans (decide_eq_true (by omega))) rfl ?_
  refine s_con (p' := 15) rfl rfl ?_
  refine c_iret rfl (by decide +kernel) ?_
  refine c_iret rfl (by decide +kernel) ?_
  refine s_if (p' := 12) true rfl (by decide +kernel) rfl ?_
  refine s_con (p' := 13) rfl rfl ?_
  refine c_call (p' := 16) (kc := 98) (ls0 := [_, _]) rfl rfl rfl rfl rfl (mj_rcv_is (rd_app H400)) rfl rfl rfl ?_
  refine s_aldn (p' := 1) rfl rfl rfl ?_
  refine s_ildn (p' := 2) rfl rfl rfl ?_
  refine s_pfz (p' := 5) (fs' := [_, _, _, _, _, _, _, _, _, _, _]) rfl rfl (rd_app H400) rfl rfl rfl rfl ?_
  refine s_ildn (p' := 6) rfl rfl rfl ?_
  refine s_if (p' := 9) false rfl (by decide +kernel) rfl ?_
  refine s_con (p' := 10) rfl rfl ?_
  refine s_goto (p' := 14) rfl rfl ?_
  refine c_iret rfl (by decide +kernel) ?_
  refine s_if (p' := 19) false rfl (by decide +kernel) rfl ?_
  refine s_con (p' := 20) rfl rfl ?_
  refine s_goto (p' := 35) rfl rfl ?_
  refine k_iret rfl rfl ?_
  refine l_ist (p' := 864) (ls' := [_, _, _, _, _, _, _, _, _, _]) rfl rfl rfl rfl rfl ?_
  refine l_aldn (p' := 865) rfl rfl rfl rfl ?_
  refine l_call (p' := 868) (kc := 99) (ls0 := [_]) rfl rfl rfl rfl rfl rfl (mj_rcv_is (rd_ss rfl (rd_app H400))) rfl rfl rfl ?_
  refine s_aldn (p' := 1) rfl rfl rfl ?_
  refine s_gf (p' := 4) rfl (rd_ss rfl (rd_app H400)) rfl rfl ?_
  refine k_iret rfl rfl ?_
  refine l_ild (p' := 870) rfl rfl rfl rfl ?_
  refine l_icmp (p' := 875) true rfl rfl (by decide +kernel) rfl ?_
  refine l_ild (p' := 877) rfl rfl rfl rfl ?_
  refine l_if (p' := 892) true rfl rfl (by decide +kernel) rfl ?_
  refine l_goto (p' := 2541) rfl rfl rfl ?_
  refine l_incz (p' := 2544) (w := (nI 4)) (ls' := [_, _, _, _, _, _, _, _, _, _]) rfl rfl rfl rfl (by decide +kernel) rfl rfl ?_
  refine l_goto (p' := 28) rfl rfl rfl ?_
  refine l_ild (p' := 30) rfl rfl rfl rfl ?_
  refine l_alds (p' := 31) rfl rfl rfl rfl ?_
  refine l_lens (p' := 32) rfl rfl rfl ?_
  refine l_con (p' := 33) rfl rfl rfl ?_
  refine l_bz (p' := 34) (z := (nI 0)) rfl rfl rfl rfl rfl (by decide +kernel) ?_
  refine l_icmp (p' := 2547) true rfl rfl (by decide +kernel) rfl ?_
  refine l_con (p' := 2548) rfl rfl rfl ?_
  refine l_end rfl rfl ?_
  exact ⟨Nat.le_trans (Nat.le_of_eq (len_s (len_a HL rfl))) (Nat.le_of_ble_eq_true rfl), Nat.le_trans (sz_s rfl (rd_app H400) rfl (sz_aa (k := 6) (m := 20006) rfl rfl HZ)) (Nat.le_of_ble_eq_true rfl)⟩
theorem p1_24_0 {xs : Nat → Int32} {h : mj_H} (hk : xs 0 &&& nI 63 = nI 24)  (hc : ((xs 1).toUInt32 % 65536).toInt32 = nI 97) (HL : h.length = 414) (HZ : mj_sz h ≤ 20000) (H0 : mj_rd h 0 = some (.inr (0, [.ref 1, .ref 38, .ref 299, .ref 336, .ref 373, .ref 375, .ref 378, .ref 381, .ref 387, .ref 393, .null, .null, .ref 397, .ref 398, .ref 399, .long (lN 0), .long (lN 0)]))) (H375 : mj_rd h 375 = some (.inr (7, [.ref 376, .ref 377, .int (nI 0)]))) (H376 : mj_rd h 376 = some (.inl (0, (8, .inl (fun _ => 0))))) (H400 : mj_rd h 400 = some (.inr (17, [.int (nI 0), .ref 401, .ref 402, .ref 1000300, .long (lN 0), .long (lN 0), .ref 410, .null, .null, .null, .ref 411]))) (H402 : mj_rd h 402 = some (.inr (19, [.ref 403, .ref 404, .ref 405, .ref 406, .ref 407, .ref 408, .ref 409, .int (nI 0), .int (nI 4294967295), .int (nI 0), .ref 400]))) (H403 : mj_rd h 403 = some (.inl (0, (8, .inl (fun _ => 0))))) (H412 : mj_rd h 412 = some (.inl (4, (1, .inr (.inl (fun _ => 0)))))) : mj_fin 4 xs h := by
  unfold mj_fin
  refine l_ild (p' := 30) rfl rfl rfl rfl ?_
  refine l_alds (p' := 31) rfl rfl rfl rfl ?_
  refine l_lens (p' := 32) rfl rfl rfl ?_
  refine l_con (p' := 33) rfl rfl rfl ?_
  refine l_bz (p' := 34) (z := (nI 0)) rfl rfl rfl rfl rfl (by decide +kernel) ?_
  refine l_icmp (p' := 37) false rfl rfl (by decide +kernel) rfl ?_
  refine l_alds (p' := 38) rfl rfl rfl rfl ?_
  refine l_ild (p' := 40) rfl rfl rfl rfl ?_
  refine l_ialz (p' := 41) (m := 0) (z := (xs 0)) rfl rfl (by decide +kernel) rfl rfl rfl ?_
  refine l_bip (p' := 43) rfl rfl rfl ?_
  refine l_bz (p' := 44) (z := (nI 24)) rfl rfl rfl rfl rfl hk ?_
  refine l_sp (p' := 1524) (ls' := _) rfl rfl rfl rfl rfl ?_
  refine l_aldn (p' := 1525) rfl rfl rfl rfl ?_
  refine l_alds (p' := 1526) rfl rfl rfl rfl ?_
  refine l_ild (p' := 1528) rfl rfl rfl rfl ?_
  refine l_con (p' := 1529) rfl rfl rfl ?_
  refine l_bz (p' := 1530) (z := (nI 1)) rfl rfl rfl rfl rfl (by decide +kernel) ?_
  refine l_ialz (p' := 1531) (m := 1) (z := (xs 1)) rfl rfl (by decide +kernel) rfl rfl rfl ?_
  refine l_bz (p' := 1532) (z := (nI 97)) rfl rfl rfl rfl rfl hc ?_
  refine l_aldn (p' := 1533) rfl rfl rfl rfl ?_
  refine l_call (p' := 1536) (kc := 99) (ls0 := [_, _, _, _]) rfl rfl rfl rfl rfl rfl rfl rfl rfl rfl ?_
  refine s_aldn (p' := 1) rfl rfl rfl ?_
  refine s_con (p' := 2) rfl rfl ?_
  refine s_aldn (p' := 3) rfl rfl rfl ?_
  refine s_ildn (p' := 4) rfl rfl rfl ?_
  refine c_call (p' := 7) (kc := 98) (ls0 := [_, _]) rfl rfl rfl rfl rfl (mj_rcv_is H0) rfl rfl rfl ?_
  refine s_ildn (p' := 1) rfl rfl rfl ?_
  refine c_call (p' := 4) (kc := 97) (ls0 := [_]) rfl rfl rfl rfl rfl rfl rfl rfl rfl ?_
  refine s_ildn (p' := 1) rfl rfl rfl ?_
  refine s_bip (p' := 3) rfl rfl ?_
  refine s_icmp (p' := 6) false rfl (by decide +kernel) rfl ?_
  refine s_ildn (p' := 7) rfl rfl rfl ?_
  refine s_bip (p' := 9) rfl rfl ?_
  refine s_icmp (p' := 12) false rfl (by decide +kernel) rfl ?_
  refine s_con (p' := 13) rfl rfl ?_
  refine s_goto (p' := 17) rfl rfl ?_
  refine c_iret rfl (by decide +kernel) ?_
  refine s_if (p' := 17) true rfl (by decide +kernel) rfl ?_
  refine s_aldn (p' := 18) rfl rfl rfl ?_
  refine s_dupr (p' := 19) rfl rfl ?_
  refine s_gf (p' := 22) rfl H0 rfl rfl ?_
  refine s_aldn (p' := 23) rfl rfl rfl ?_
  refine s_gf (p' := 26) rfl H0 rfl rfl ?_
  refine s_ildn (p' := 27) rfl rfl rfl ?_
  refine s_bip (p' := 29) rfl rfl ?_
  refine s_bz (p' := 30) (z := (nI 0)) rfl rfl rfl (by decide +kernel) ?_
  refine c_call (p' := 33) (kc := 97) (ls0 := [_, _]) rfl rfl rfl rfl rfl (mj_rcv_is H375) rfl rfl rfl ?_
  refine s_ildn (p' := 1) rfl rfl rfl ?_
  refine s_if (p' := 4) false rfl (by decide +kernel) rfl ?_
  refine s_ildn (p' := 5) rfl rfl rfl ?_
  refine s_aldn (p' := 6) rfl rfl rfl ?_
  refine s_gf (p' := 9) rfl H375 rfl rfl ?_
  refine s_lenz (p' := 10) rfl (mj_rdA_is H376 (by decide)) rfl rfl ?_
  refine s_icmp (p' := 13) false rfl (by decide +kernel) rfl ?_
  refine s_aldn (p' := 14) rfl rfl rfl ?_
  refine s_gf (p' := 17) rfl H375 rfl rfl ?_
  refine s_ildn (p' := 18) rfl rfl rfl ?_
  refine s_ialz (p' := 19) (m := 0) (v := (nI 0)) rfl H376 (by decide +kernel) rfl (by decide +kernel) rfl ?_
  refine s_goto (p' := 23) rfl rfl ?_
  refine c_iret rfl rfl ?_
  refine c_call (p' := 36) (kc := 97) (ls0 := [_]) rfl rfl rfl rfl rfl rfl rfl rfl rfl ?_
  refine s_ildn (p' := 1) rfl rfl rfl ?_
  refine s_ildn (p' := 2) rfl rfl rfl ?_
  refine s_con (p' := 3) rfl rfl ?_
  refine s_bz (p' := 4) (z := (nI 0)) rfl rfl rfl (by decide +kernel) ?_
  refine s_sh (p' := 7) (ls' := _) (st' := .int (nI 1431655765) :: _) (h' := _) rfl rfl rfl rfl ?_
  refine s_bz (p' := 8) (z := (nI 0)) rfl rfl rfl (by decide +kernel) ?_
  refine s_bz (p' := 9) (z := (nI 0)) rfl rfl rfl (by decide +kernel) ?_
  refine s_istn (p' := 10) (ls' := [_]) rfl rfl rfl rfl ?_
  refine s_ildn (p' := 11) rfl rfl rfl ?_
  refine s_sh (p' := 14) (ls' := _) (st' := .int (nI 858993459) :: _) (h' := _) rfl rfl rfl rfl ?_
  refine s_bz (p' := 15) (z := (nI 0)) rfl rfl rfl (by decide +kernel) ?_
  refine s_ildn (p' := 16) rfl rfl rfl ?_
  refine s_con (p' := 17) rfl rfl ?_
  refine s_bz (p' := 18) (z := (nI 0)) rfl rfl rfl (by decide +kernel) ?_
  refine s_sh (p' := 21) (ls' := _) (st' := .int (nI 858993459) :: _) (h' := _) rfl rfl rfl rfl ?_
  refine s_bz (p' := 22) (z := (nI 0)) rfl rfl rfl (by decide +kernel) ?_
  refine s_bz (p' := 23) (z := (nI 0)) rfl rfl rfl (by decide +kernel) ?_
  refine s_istn (p' := 24) (ls' := [_]) rfl rfl rfl rfl ?_
  refine s_ildn (p' := 25) rfl rfl rfl ?_
  refine s_ildn (p' := 26) rfl rfl rfl ?_
  refine s_con (p' := 27) rfl rfl ?_
  refine s_bz (p' := 28) (z := (nI 0)) rfl rfl rfl (by decide +kernel) ?_
  refine s_bz (p' := 29) (z := (nI 0)) rfl rfl rfl (by decide +kernel) ?_
  refine s_sh (p' := 32) (ls' := _) (st' := .int (nI 252645135) :: _) (h' := _) rfl rfl rfl rfl ?_
  refine s_bz (p' := 33) (z := (nI 0)) rfl rfl rfl (by decide +kernel) ?_
  refine s_istn (p' := 34) (ls' := [_]) rfl rfl rfl rfl ?_
  refine s_ildn (p' := 35) rfl rfl rfl ?_
  refine s_ildn (p' := 36) rfl rfl rfl ?_
  refine s_bip (p' := 38) rfl rfl ?_
  refine s_bz (p' := 39) (z := (nI 0)) rfl rfl rfl (by decide +kernel) ?_
  refine s_bz (p' := 40) (z := (nI 0)) rfl rfl rfl (by decide +kernel) ?_
  refine s_istn (p' := 41) (ls' := [_]) rfl rfl rfl rfl ?_
  refine s_ildn (p' := 42) rfl rfl rfl ?_
  refine s_ildn (p' := 43) rfl rfl rfl ?_
  refine s_bip (p' := 45) rfl rfl ?_
  refine s_bz (p' := 46) (z := (nI 0)) rfl rfl rfl (by decide +kernel) ?_
  refine s_bz (p' := 47) (z := (nI 0)) rfl rfl rfl (by decide +kernel) ?_
  refine s_istn (p' := 48) (ls' := [_]) rfl rfl rfl rfl ?_
  refine s_ildn (p' := 49) rfl rfl rfl ?_
  refine s_bip (p' := 51) rfl rfl ?_
  refine s_bz (p' := 52) (z := (nI 0)) rfl rfl rfl (by decide +kernel) ?_
  refine c_iret rfl rfl ?_
  refine s_bzL (p' := 37) (z := (lN 0)) rfl rfl rfl (by decide +kernel) ?_
  refine s_bzL (p' := 38) (z := (lN 0)) rfl rfl rfl (by decide +kernel) ?_
  refine s_pfz (p' := 41) (fs' := [_, _, _, _, _, _, _, _, _, _, _, _, _, _, _, _, _]) rfl rfl H0 rfl rfl rfl rfl ?_
  refine s_aldn (p' := 42) rfl rfl rfl ?_
  refine s_gf (p' := 45) rfl (rd_ss rfl H0) rfl rfl ?_
  refine s_ildn (p' := 46) rfl rfl rfl ?_
  refine s_bip (p' := 48) rfl rfl ?_
  refine s_bz (p' := 49) (z := (nI 0)) rfl rfl rfl (by decide +kernel) ?_
  refine s_con (p' := 50) rfl rfl ?_
  refine c_call (p' := 53) (kc := 97) (ls0 := [_, _, _]) rfl rfl rfl rfl rfl (mj_rcv_is (rd_sn rfl H375)) rfl rfl rfl ?_
  refine s_ildn (p' := 1) rfl rfl rfl ?_
  refine s_if (p' := 4) false rfl (by decide +kernel) rfl ?_
  refine s_ildn (p' := 5) rfl rfl rfl ?_
  refine s_aldn (p' := 6) rfl rfl rfl ?_
  refine s_gf (p' := 9) rfl (rd_sn rfl H375) rfl rfl ?_
  refine s_lenz (p' := 10) rfl (mj_rdA_is (rd_sn rfl H376) (by decide)) rfl rfl ?_
  refine s_icmp (p' := 13) false rfl (by decide +kernel) rfl ?_
  refine s_aldn (p' := 14) rfl rfl rfl ?_
  refine s_gf (p' := 17) rfl (rd_sn rfl H375) rfl rfl ?_
  refine s_ildn (p' := 18) rfl rfl rfl ?_
  refine s_ildn (p' := 19) rfl rfl rfl ?_
  refine s_iasz (p' := 20) (m := 0) rfl rfl (rd_sn rfl H376) (by decide +kernel) rfl rfl rfl ?_
  refine c_ret rfl ?_
  refine s_aldn (p' := 54) rfl rfl rfl ?_
  refine s_gf (p' := 57) rfl (rd_sn rfl (rd_ss rfl H0)) rfl rfl ?_
  refine c_lret rfl ?_
  refine s_lasz (p' := 8) (m := 0) rfl rfl (rd_sn rfl (rd_sn rfl H412)) (by decide +kernel) rfl rfl rfl ?_
  refine s_goto (p' := 14) rfl rfl ?_
  refine s_con (p' := 15) rfl rfl ?_
  refine k_iret rfl rfl ?_
  refine l_ist (p' := 1538) (ls' := [_, _, _, _, _, _, _, _, _, _]) rfl rfl rfl rfl rfl ?_
  refine l_aldn (p' := 1539) rfl rfl rfl rfl ?_
  refine l_alds (p' := 1540) rfl rfl rfl rfl ?_
  refine l_ild (p' := 1542) rfl rfl rfl rfl ?_
  refine l_con (p' := 1543) rfl rfl rfl ?_
  refine l_bz (p' := 1544) (z := (nI 1)) rfl rfl rfl rfl rfl (by decide +kernel) ?_
  refine l_ialz (p' := 1545) (m := 1) (z := (xs 1)) rfl rfl (by decide +kernel) rfl rfl rfl ?_
  refine l_bz (p' := 1546) (z := (nI 97)) rfl rfl rfl rfl rfl hc ?_
  refine l_call (p' := 1549) (kc := 99) (ls0 := [_, _]) rfl rfl rfl rfl rfl rfl (mj_rcv_is (rd_sn rfl (rd_sn rfl (rd_sn rfl H400)))) rfl rfl rfl ?_
  refine s_aldn (p' := 1) rfl rfl rfl ?_
  refine s_ildn (p' := 2) rfl rfl rfl ?_
  refine c_call (p' := 5) (kc := 98) (ls0 := [_]) rfl rfl rfl rfl rfl rfl rfl rfl rfl ?_
  refine s_ildn (p' := 1) rfl rfl rfl ?_
  refine s_bip (p' := 3) rfl rfl ?_
  refine s_bip (p' := 5) rfl rfl ?_
  refine c_call (p' := 8) (kc := 97) (ls0 := [_, _, _]) rfl rfl rfl rfl rfl rfl rfl rfl rfl ?_
  refine s_ildn (p' := 1) rfl rfl rfl ?_
  refine s_ildn (p' := 2) rfl rfl rfl ?_
  refine s_icmp (p' := 5) false rfl (by decide +kernel) rfl ?_
  refine s_ildn (p' := 6) rfl rfl rfl ?_
  refine s_ildn (p' := 7) rfl rfl rfl ?_
  refine s_icmp (p' := 10) false rfl (by decide +kernel) rfl ?_
  refine s_con (p' := 11) rfl rfl ?_
  refine s_goto (p' := 15) rfl rfl ?_
  refine c_iret rfl (by decide +kernel) ?_
  refine c_iret rfl (by decide +kernel) ?_
  refine s_if (p' := 8) false rfl (by decide +kernel) rfl ?_
  refine s_con (p' := 9) rfl rfl ?_
  refine s_goto (p' := 13) rfl rfl ?_
  refine c_call (p' := 16) (kc := 98) (ls0 := [_, _]) rfl rfl rfl rfl rfl (mj_rcv_is (rd_sn rfl (rd_sn rfl (rd_sn rfl H400)))) rfl rfl rfl ?_
  refine s_aldn (p' := 1) rfl rfl rfl ?_
  refine s_ildn (p' := 2) rfl rfl rfl ?_
  refine s_pfz (p' := 5) (fs' := [_, _, _, _, _, _, _, _, _, _, _]) rfl rfl (rd_sn rfl (rd_sn rfl (rd_sn rfl H400))) rfl rfl rfl rfl ?_
  refine s_ildn (p' := 6) rfl rfl rfl ?_
  refine s_if (p' := 13) true rfl (by decide +kernel) rfl ?_
  refine s_con (p' := 14) rfl rfl ?_
  refine c_iret rfl (by decide +kernel) ?_
  refine s_if (p' := 21) true rfl (by decide +kernel) rfl ?_
  refine s_aldn (p' := 22) rfl rfl rfl ?_
  refine s_dupr (p' := 23) rfl rfl ?_
  refine s_gf (p' := 26) rfl (rd_ss rfl (rd_sn rfl (rd_sn rfl (rd_sn rfl H400)))) rfl rfl ?_
  refine s_aldn (p' := 27) rfl rfl rfl ?_
  refine s_gf (p' := 30) rfl (rd_ss rfl (rd_sn rfl (rd_sn rfl (rd_sn rfl H400)))) rfl rfl ?_
  refine s_gf (p' := 33) rfl (rd_sn rfl (rd_sn rfl (rd_sn rfl (rd_sn rfl H402)))) rfl rfl ?_
  refine s_ildn (p' := 34) rfl rfl rfl ?_
  refine s_bip (p' := 36) rfl rfl ?_
  refine s_bz (p' := 37) (z := (nI 0)) rfl rfl rfl (by decide +kernel) ?_
  refine s_ialz (p' := 38) (m := 0) (v := (nI 0)) rfl (rd_sn rfl (rd_sn rfl (rd_sn rfl (rd_sn rfl H403)))) (by decide +kernel) rfl (by decide +kernel) rfl ?_
  refine c_call (p' := 41) (kc := 98) (ls0 := [_]) rfl rfl rfl rfl rfl rfl rfl rfl rfl ?_
  refine s_ildn (p' := 1) rfl rfl rfl ?_
  refine s_ildn (p' := 2) rfl rfl rfl ?_
  refine s_con (p' := 3) rfl rfl ?_
  refine s_bz (p' := 4) (z := (nI 0)) rfl rfl rfl (by decide +kernel) ?_
  refine s_sh (p' := 7) (ls' := _) (st' := .int (nI 1431655765) :: _) (h' := _) rfl rfl rfl rfl ?_
  refine s_bz (p' := 8) (z := (nI 0)) rfl rfl rfl (by decide +kernel) ?_
  refine s_bz (p' := 9) (z := (nI 0)) rfl rfl rfl (by decide +kernel) ?_
  refine s_istn (p' := 10) (ls' := [_]) rfl rfl rfl rfl ?_
  refine s_ildn (p' := 11) rfl rfl rfl ?_
  refine s_sh (p' := 14) (ls' := _) (st' := .int (nI 858993459) :: _) (h' := _) rfl rfl rfl rfl ?_
  refine s_bz (p' := 15) (z := (nI 0)) rfl rfl rfl (by decide +kernel) ?_
  refine s_ildn (p' := 16) rfl rfl rfl ?_
  refine s_con (p' := 17) rfl rfl ?_
  refine s_bz (p' := 18) (z := (nI 0)) rfl rfl rfl (by decide +kernel) ?_
  refine s_sh (p' := 21) (ls' := _) (st' := .int (nI 858993459) :: _) (h' := _) rfl rfl rfl rfl ?_
  refine s_bz (p' := 22) (z := (nI 0)) rfl rfl rfl (by decide +kernel) ?_
  refine s_bz (p' := 23) (z := (nI 0)) rfl rfl rfl (by decide +kernel) ?_
  refine s_istn (p' := 24) (ls' := [_]) rfl rfl rfl rfl ?_
  refine s_ildn (p' := 25) rfl rfl rfl ?_
  refine s_ildn (p' := 26) rfl rfl rfl ?_
  refine s_con (p' := 27) rfl rfl ?_
  refine s_bz (p' := 28) (z := (nI 0)) rfl rfl rfl (by decide +kernel) ?_
  refine s_bz (p' := 29) (z := (nI 0)) rfl rfl rfl (by decide +kernel) ?_
  refine s_sh (p' := 32) (ls' := _) (st' := .int (nI 252645135) :: _) (h' := _) rfl rfl rfl rfl ?_
  refine s_bz (p' := 33) (z := (nI 0)) rfl rfl rfl (by decide +kernel) ?_
  refine s_istn (p' := 34) (ls' := [_]) rfl rfl rfl rfl ?_
  refine s_ildn (p' := 35) rfl rfl rfl ?_
  refine s_ildn (p' := 36) rfl rfl rfl ?_
  refine s_bip (p' := 38) rfl rfl ?_
  refine s_bz (p' := 39) (z := (nI 0)) rfl rfl rfl (by decide +kernel) ?_
  refine s_bz (p' := 40) (z := (nI 0)) rfl rfl rfl (by decide +kernel) ?_
  refine s_istn (p' := 41) (ls' := [_]) rfl rfl rfl rfl ?_
  refine s_ildn (p' := 42) rfl rfl rfl ?_
  refine s_ildn (p' := 43) rfl rfl rfl ?_
  refine s_bip (p' := 45) rfl rfl ?_
  refine s_bz (p' := 46) (z := (nI 0)) rfl rfl rfl (by decide +kernel) ?_
  refine s_bz (p' := 47) (z := (nI 0)) rfl rfl rfl (by decide +kernel) ?_
  refine s_istn (p' := 48) (ls' := [_]) rfl rfl rfl rfl ?_
  refine s_ildn (p' := 49) rfl rfl rfl ?_
  refine s_bip (p' := 51) rfl rfl ?_
  refine s_bz (p' := 52) (z := (nI 0)) rfl rfl rfl (by decide +kernel) ?_
  refine c_iret rfl rfl ?_
  refine s_bzL (p' := 42) (z := (lN 0)) rfl rfl rfl (by decide +kernel) ?_
  refine s_bzL (p' := 43) (z := (lN 0)) rfl rfl rfl (by decide +kernel) ?_
  refine s_pfz (p' := 46) (fs' := [_, _, _, _, _, _, _, _, _, _, _]) rfl rfl (rd_ss rfl (rd_sn rfl (rd_sn rfl (rd_sn rfl H400)))) rfl rfl rfl rfl ?_
  refine s_aldn (p' := 47) rfl rfl rfl ?_
  refine s_gf (p' := 50) rfl (rd_ss rfl (rd_ss rfl (rd_sn rfl (rd_sn rfl (rd_sn rfl H400))))) rfl rfl ?_
  refine s_gf (p' := 53) rfl (rd_sn rfl (rd_sn rfl (rd_sn rfl (rd_sn rfl (rd_sn rfl H402))))) rfl rfl ?_
  refine s_ildn (p' := 54) rfl rfl rfl ?_
  refine s_bip (p' := 56) rfl rfl ?_
  refine s_bz (p' := 57) (z := (nI 0)) rfl rfl rfl (by decide +kernel) ?_
  refine s_con (p' := 58) rfl rfl ?_
  refine s_iasz (p' := 59) (m := 0) rfl rfl (rd_sn rfl (rd_sn rfl (rd_sn rfl (rd_sn rfl (rd_sn rfl H403))))) (by decide +kernel) rfl rfl rfl ?_
  refine s_aldn (p' := 60) rfl rfl rfl ?_
  refine s_gf (p' := 63) rfl (rd_sn rfl (rd_ss rfl (rd_ss rfl (rd_sn rfl (rd_sn rfl (rd_sn rfl H400)))))) rfl rfl ?_
  refine k_lret rfl ?_
  refine l_sp (p' := 1551) (ls' := [_, _, _, _, _, _, _, _, _, _]) rfl rfl rfl rfl rfl ?_
  refine l_aldn (p' := 1552) rfl rfl rfl rfl ?_
  refine l_call (p' := 1555) (kc := 99) (ls0 := [_]) rfl rfl rfl rfl rfl rfl (mj_rcv_is (rd_sn rfl (rd_ss rfl (rd_ss rfl (rd_sn rfl (rd_sn rfl (rd_sn rfl H400))))))) rfl rfl rfl ?_
  refine s_aldn (p' := 1) rfl rfl rfl ?_
  refine s_gf (p' := 4) rfl (rd_sn rfl (rd_ss rfl (rd_ss rfl (rd_sn rfl (rd_sn rfl (rd_sn rfl H400)))))) rfl rfl ?_
  refine k_iret rfl rfl ?_
  refine l_ild (p' := 1557) rfl rfl rfl rfl ?_
  refine l_icmp (p' := 1562) true rfl rfl (by decide +kernel) rfl ?_
  refine l_ild (p' := 1564) rfl rfl rfl rfl ?_
  refine l_if (p' := 1567) false rfl rfl (by decide +kernel) rfl ?_
  refine l_aldn (p' := 1568) rfl rfl rfl rfl ?_
  refine l_con (p' := 1569) rfl rfl rfl ?_
  refine l_lalz (p' := 1570) (m := 0) (v := (lN 0)) rfl rfl (rd_sn rfl (rd_sn rfl (rd_sn rfl (rd_ss rfl (rd_sn rfl (rd_sn rfl H412)))))) (by decide +kernel) rfl (by decide +kernel) rfl ?_
  refine l_sp (p' := 1572) (ls' := _) rfl rfl rfl rfl rfl ?_
  refine l_bz (p' := 1573) (z := (nI 0)) rfl rfl rfl rfl rfl (by decide +kernel) ?_
  refine l_if (p' := 1578) true rfl rfl (by decide +kernel) rfl ?_
  refine l_goto (p' := 2541) rfl rfl rfl ?_
  refine l_incz (p' := 2544) (w := (nI 4)) (ls' := [_, _, _, _, _, _, _, _, _, _]) rfl rfl rfl rfl (by decide +kernel) rfl rfl ?_
  refine l_goto (p' := 28) rfl rfl rfl ?_
  refine l_ild (p' := 30) rfl rfl rfl rfl ?_
  refine l_alds (p' := 31) rfl rfl rfl rfl ?_
  refine l_lens (p' := 32) rfl rfl rfl ?_
  refine l_con (p' := 33) rfl rfl rfl ?_
  refine l_bz (p' := 34) (z := (nI 0)) rfl rfl rfl rfl rfl (by decide +kernel) ?_
  refine l_icmp (p' := 2547) true rfl rfl (by decide +kernel) rfl ?_
  refine l_con (p' := 2548) rfl rfl rfl ?_
  refine l_end rfl rfl ?_
  exact ⟨Nat.le_trans (Nat.le_of_eq (len_s (len_s (len_s (len_s (len_s (len_s HL))))))) (Nat.le_of_ble_eq_true rfl), Nat.le_trans (sz_sA rfl (rd_sn rfl (rd_sn rfl (rd_sn rfl (rd_sn rfl (rd_sn rfl H403))))) (sz_s rfl (rd_ss rfl (rd_sn rfl (rd_sn rfl (rd_sn rfl H400)))) rfl (sz_s rfl (rd_sn rfl (rd_sn rfl (rd_sn rfl H400))) rfl (sz_sA rfl (rd_sn rfl (rd_sn rfl H412)) (sz_sA rfl (rd_sn rfl H376) (sz_s rfl H0 rfl HZ)))))) (Nat.le_of_ble_eq_true rfl)⟩
theorem p1_24_1 {xs : Nat → Int32} {h : mj_H} (hk : xs 0 &&& nI 63 = nI 24)  (hc : ((xs 1).toUInt32 % 65536).toInt32 = nI 98) (HL : h.length = 414) (HZ : mj_sz h ≤ 20000) (H0 : mj_rd h 0 = some (.inr (0, [.ref 1, .ref 38, .ref 299, .ref 336, .ref 373, .ref 375, .ref 378, .ref 381, .ref 387, .ref 393, .null, .null, .ref 397, .ref 398, .ref 399, .long (lN 0), .long (lN 0)]))) (H375 : mj_rd h 375 = some (.inr (7, [.ref 376, .ref 377, .int (nI 0)]))) (H376 : mj_rd h 376 = some (.inl (0, (8, .inl (fun _ => 0))))) (H400 : mj_rd h 400 = some (.inr (17, [.int (nI 0), .ref 401, .ref 402, .ref 1000300, .long (lN 0), .long (lN 0), .ref 410, .null, .null, .null, .ref 411]))) (H402 : mj_rd h 402 = some (.inr (19, [.ref 403, .ref 404, .ref 405, .ref 406, .ref 407, .ref 408, .ref 409, .int (nI 0), .int (nI 4294967295), .int (nI 0), .ref 400]))) (H403 : mj_rd h 403 = some (.inl (0, (8, .inl (fun _ => 0))))) (H412 : mj_rd h 412 = some (.inl (4, (1, .inr (.inl (fun _ => 0)))))) : mj_fin 4 xs h := by
  unfold mj_fin
  refine l_ild (p' := 30) rfl rfl rfl rfl ?_
  refine l_alds (p' := 31) rfl rfl rfl rfl ?_
  refine l_lens (p' := 32) rfl rfl rfl ?_
  refine l_con (p' := 33) rfl rfl rfl ?_
  refine l_bz (p' := 34) (z := (nI 0)) rfl rfl rfl rfl rfl (by decide +kernel) ?_
  refine l_icmp (p' := 37) false rfl rfl (by decide +kernel) rfl ?_
  refine l_alds (p' := 38) rfl rfl rfl rfl ?_
  refine l_ild (p' := 40) rfl rfl rfl rfl ?_
  refine l_ialz (p' := 41) (m := 0) (z := (xs 0)) rfl rfl (by decide +kernel) rfl rfl rfl ?_
  refine l_bip (p' := 43) rfl rfl rfl ?_
  refine l_bz (p' := 44) (z := (nI 24)) rfl rfl rfl rfl rfl hk ?_
  refine l_sp (p' := 1524) (ls' := _) rfl rfl rfl rfl rfl ?_
  refine l_aldn (p' := 1525) rfl rfl rfl rfl ?_
  refine l_alds (p' := 1526) rfl rfl rfl rfl ?_
  refine l_ild (p' := 1528) rfl rfl rfl rfl ?_
  refine l_con (p' := 1529) rfl rfl rfl ?_
  refine l_bz (p' := 1530) (z := (nI 1)) rfl rfl rfl rfl rfl (by decide +kernel) ?_
  refine l_ialz (p' := 1531) (m := 1) (z := (xs 1)) rfl rfl (by decide +kernel) rfl rfl rfl ?_
  refine l_bz (p' := 1532) (z := (nI 98)) rfl rfl rfl rfl rfl hc ?_
  refine l_aldn (p' := 1533) rfl rfl rfl rfl ?_
  refine l_call (p' := 1536) (kc := 99) (ls0 := [_, _, _, _]) rfl rfl rfl rfl rfl rfl rfl rfl rfl rfl ?_
  refine s_aldn (p' := 1) rfl rfl rfl ?_
  refine s_con (p' := 2) rfl rfl ?_
  refine s_aldn (p' := 3) rfl rfl rfl ?_
  refine s_ildn (p' := 4) rfl rfl rfl ?_
  refine c_call (p' := 7) (kc := 98) (ls0 := [_, _]) rfl rfl rfl rfl rfl (mj_rcv_is H0) rfl rfl rfl ?_
  refine s_ildn (p' := 1) rfl rfl rfl ?_
  refine c_call (p' := 4) (kc := 97) (ls0 := [_]) rfl rfl rfl rfl rfl rfl rfl rfl rfl ?_
  refine s_ildn (p' := 1) rfl rfl rfl ?_
  refine s_bip (p' := 3) rfl rfl ?_
  refine s_icmp (p' := 6) false rfl (by decide +kernel) rfl ?_
  refine s_ildn (p' := 7) rfl rfl rfl ?_
  refine s_bip (p' := 9) rfl rfl ?_
  refine s_icmp (p' := 12) false rfl (by decide +kernel) rfl ?_
  refine s_con (p' := 13) rfl rfl ?_
  refine s_goto (p' := 17) rfl rfl ?_
  refine c_iret rfl (by decide +kernel) ?_
  refine s_if (p' := 17) true rfl (by decide +kernel) rfl ?_
  refine s_aldn (p' := 18) rfl rfl rfl ?_
  refine s_dupr (p' := 19) rfl rfl ?_
  refine s_gf (p' := 22) rfl H0 rfl rfl ?_
  refine s_aldn (p' := 23) rfl rfl rfl ?_
  refine s_gf (p' := 26) rfl H0 rfl rfl ?_
  refine s_ildn (p' := 27) rfl rfl rfl ?_
  refine s_bip (p' := 29) rfl rfl ?_
  refine s_bz (p' := 30) (z := (nI 1)) rfl rfl rfl (by decide +kernel) ?_
  refine c_call (p' := 33) (kc := 97) (ls0 := [_, _]) rfl rfl rfl rfl rfl (mj_rcv_is H375) rfl rfl rfl ?_
  refine s_ildn (p' := 1) rfl rfl rfl ?_
  refine s_if (p' := 4) false rfl (by decide +kernel) rfl ?_
  refine s_ildn (p' := 5) rfl rfl rfl ?_
  refine s_aldn (p' := 6) rfl rfl rfl ?_
  refine s_gf (p' := 9) rfl H375 rfl rfl ?_
  refine s_lenz (p' := 10) rfl (mj_rdA_is H376 (by decide)) rfl rfl ?_
  refine s_icmp (p' := 13) false rfl (by decide +kernel) rfl ?_
  refine s_aldn (p' := 14) rfl rfl rfl ?_
  refine s_gf (p' := 17) rfl H375 rfl rfl ?_
  refine s_ildn (p' := 18) rfl rfl rfl ?_
  refine s_ialz (p' := 19) (m := 1) (v := (nI 0)) rfl H376 (by decide +kernel) rfl (by decide +kernel) rfl ?_
  refine s_goto (p' := 23) rfl rfl ?_
  refine c_iret rfl rfl ?_
  refine c_call (p' := 36) (kc := 97) (ls0 := [_]) rfl rfl rfl rfl rfl rfl rfl rfl rfl ?_
  refine s_ildn (p' := 1) rfl rfl rfl ?_
  refine s_ildn (p' := 2) rfl rfl rfl ?_
  refine s_con (p' := 3) rfl rfl ?_
  refine s_bz (p' := 4) (z := (nI 0)) rfl rfl rfl (by decide +kernel) ?_
  refine s_sh (p' := 7) (ls' := _) (st' := .int (nI 1431655765) :: _) (h' := _) rfl rfl rfl rfl ?_
  refine s_bz (p' := 8) (z := (nI 0)) rfl rfl rfl (by decide +kernel) ?_
  refine s_bz (p' := 9) (z := (nI 0)) rfl rfl rfl (by decide +kernel) ?_
  refine s_istn (p' := 10) (ls' := [_]) rfl rfl rfl rfl ?_
  refine s_ildn (p' := 11) rfl rfl rfl ?_
  refine s_sh (p' := 14) (ls' := _) (st' := .int (nI 858993459) :: _) (h' := _) rfl rfl rfl rfl ?_
  refine s_bz (p' := 15) (z := (nI 0)) rfl rfl rfl (by decide +kernel) ?_
  refine s_ildn (p' := 16) rfl rfl rfl ?_
  refine s_con (p' := 17) rfl rfl ?_
  refine s_bz (p' := 18) (z := (nI 0)) rfl rfl rfl (by decide +kernel) ?_
  refine s_sh (p' := 21) (ls' := _) (st' := .int (nI 858993459) :: _) (h' := _) rfl rfl rfl rfl ?_
  refine s_bz (p' := 22) (z := (nI 0)) rfl rfl rfl (by decide +kernel) ?_
  refine s_bz (p' := 23) (z := (nI 0)) rfl rfl rfl (by decide +kernel) ?_
  refine s_istn (p' := 24) (ls' := [_]) rfl rfl rfl rfl ?_
  refine s_ildn (p' := 25) rfl rfl rfl ?_
  refine s_ildn (p' := 26) rfl rfl rfl ?_
  refine s_con (p' := 27) rfl rfl ?_
  refine s_bz (p' := 28) (z := (nI 0)) rfl rfl rfl (by decide +kernel) ?_
  refine s_bz (p' := 29) (z := (nI 0)) rfl rfl rfl (by decide +kernel) ?_
  refine s_sh (p' := 32) (ls' := _) (st' := .int (nI 252645135) :: _) (h' := _) rfl rfl rfl rfl ?_
  refine s_bz (p' := 33) (z := (nI 0)) rfl rfl rfl (by decide +kernel) ?_
  refine s_istn (p' := 34) (ls' := [_]) rfl rfl rfl rfl ?_
  refine s_ildn (p' := 35) rfl rfl rfl ?_
  refine s_ildn (p' := 36) rfl rfl rfl ?_
  refine s_bip (p' := 38) rfl rfl ?_
  refine s_bz (p' := 39) (z := (nI 0)) rfl rfl rfl (by decide +kernel) ?_
  refine s_bz (p' := 40) (z := (nI 0)) rfl rfl rfl (by decide +kernel) ?_
  refine s_istn (p' := 41) (ls' := [_]) rfl rfl rfl rfl ?_
  refine s_ildn (p' := 42) rfl rfl rfl ?_
  refine s_ildn (p' := 43) rfl rfl rfl ?_
  refine s_bip (p' := 45) rfl rfl ?_
  refine s_bz (p' := 46) (z := (nI 0)) rfl rfl rfl (by decide +kernel) ?_
  refine s_bz (p' := 47) (z := (nI 0)) rfl rfl rfl (by decide +kernel) ?_
  refine s_istn (p' := 48) (ls' := [_]) rfl rfl rfl rfl ?_
  refine s_ildn (p' := 49) rfl rfl rfl ?_
  refine s_bip (p' := 51) rfl rfl ?_
  refine s_bz (p' := 52) (z := (nI 0)) rfl rfl rfl (by decide +kernel) ?_
  refine c_iret rfl rfl ?_
  refine s_bzL (p' := 37) (z := (lN 0)) rfl rfl rfl (by decide +kernel) ?_
  refine s_bzL (p' := 38) (z := (lN 0)) rfl rfl rfl (by decide +kernel) ?_
  refine s_pfz (p' := 41) (fs' := [_, _, _, _, _, _, _, _, _, _, _, _, _, _, _, _, _]) rfl rfl H0 rfl rfl rfl rfl ?_
  refine s_aldn (p' := 42) rfl rfl rfl ?_
  refine s_gf (p' := 45) rfl (rd_ss rfl H0) rfl rfl ?_
  refine s_ildn (p' := 46) rfl rfl rfl ?_
  refine s_bip (p' := 48) rfl rfl ?_
  refine s_bz (p' := 49) (z := (nI 1)) rfl rfl rfl (by decide +kernel) ?_
  refine s_con (p' := 50) rfl rfl ?_
  refine c_call (p' := 53) (kc := 97) (ls0 := [_, _, _]) rfl rfl rfl rfl rfl (mj_rcv_is (rd_sn rfl H375)) rfl rfl rfl ?_
  refine s_ildn (p' := 1) rfl rfl rfl ?_
  refine s_if (p' := 4) false rfl (by decide +kernel) rfl ?_
  refine s_ildn (p' := 5) rfl rfl rfl ?_
  refine s_aldn (p' := 6) rfl rfl rfl ?_
  refine s_gf (p' := 9) rfl (rd_sn rfl H375) rfl rfl ?_
  refine s_lenz (p' := 10) rfl (mj_rdA_is (rd_sn rfl H376) (by decide)) rfl rfl ?_
  refine s_icmp (p' := 13) false rfl (by decide +kernel) rfl ?_
  refine s_aldn (p' := 14) rfl rfl rfl ?_
  refine s_gf (p' := 17) rfl (rd_sn rfl H375) rfl rfl ?_
  refine s_ildn (p' := 18) rfl rfl rfl ?_
  refine s_ildn (p' := 19) rfl rfl rfl ?_
  refine s_iasz (p' := 20) (m := 1) rfl rfl (rd_sn rfl H376) (by decide +kernel) rfl rfl rfl ?_
  refine c_ret rfl ?_
  refine s_aldn (p' := 54) rfl rfl rfl ?_
  refine s_gf (p' := 57) rfl (rd_sn rfl (rd_ss rfl H0)) rfl rfl ?_
  refine c_lret rfl ?_
  refine s_lasz (p' := 8) (m := 0) rfl rfl (rd_sn rfl (rd_sn rfl H412)) (by decide +kernel) rfl rfl rfl ?_
  refine s_goto (p' := 14) rfl rfl ?_
  refine s_con (p' := 15) rfl rfl ?_
  refine k_iret rfl rfl ?_
  refine l_ist (p' := 1538) (ls' := [_, _, _, _, _, _, _, _, _, _]) rfl rfl rfl rfl rfl ?_
  refine l_aldn (p' := 1539) rfl rfl rfl rfl ?_
  refine l_alds (p' := 1540) rfl rfl rfl rfl ?_
  refine l_ild (p' := 1542) rfl rfl rfl rfl ?_
  refine l_con (p' := 1543) rfl rfl rfl ?_
  refine l_bz (p' := 1544) (z := (nI 1)) rfl rfl rfl rfl rfl (by decide +kernel) ?_
  refine l_ialz (p' := 1545) (m := 1) (z := (xs 1)) rfl rfl (by decide +kernel) rfl rfl rfl ?_
  refine l_bz (p' := 1546) (z := (nI 98)) rfl rfl rfl rfl rfl hc ?_
  refine l_call (p' := 1549) (kc := 99) (ls0 := [_, _]) rfl rfl rfl rfl rfl rfl (mj_rcv_is (rd_sn rfl (rd_sn rfl (rd_sn rfl H400)))) rfl rfl rfl ?_
  refine s_aldn (p' := 1) rfl rfl rfl ?_
  refine s_ildn (p' := 2) rfl rfl rfl ?_
  refine c_call (p' := 5) (kc := 98) (ls0 := [_]) rfl rfl rfl rfl rfl rfl rfl rfl rfl ?_
  refine s_ildn (p' := 1) rfl rfl rfl ?_
  refine s_bip (p' := 3) rfl rfl ?_
  refine s_bip (p' := 5) rfl rfl ?_
  refine c_call (p' := 8) (kc := 97) (ls0 := [_, _, _]) rfl rfl rfl rfl rfl rfl rfl rfl rfl ?_
  refine s_ildn (p' := 1) rfl rfl rfl ?_
  refine s_ildn (p' := 2) rfl rfl rfl ?_
  refine s_icmp (p' := 5) false rfl (by decide +kernel) rfl ?_
  refine s_ildn (p' := 6) rfl rfl rfl ?_
  refine s_ildn (p' := 7) rfl rfl rfl ?_
  refine s_icmp (p' := 10) false rfl (by decide +kernel) rfl ?_
  refine s_con (p' := 11) rfl rfl ?_
  refine s_goto (p' := 15) rfl rfl ?_
  refine c_iret rfl (by decide +kernel) ?_
  refine c_iret rfl (by decide +kernel) ?_
  refine s_if (p' := 8) false rfl (by decide +kernel) rfl ?_
  refine s_con (p' := 9) rfl rfl ?_
  refine s_goto (p' := 13) rfl rfl ?_
  refine c_call (p' := 16) (kc := 98) (ls0 := [_, _]) rfl rfl rfl rfl rfl (mj_rcv_is (rd_sn rfl (rd_sn rfl (rd_sn rfl H400)))) rfl rfl rfl ?_
  refine s_aldn (p' := 1) rfl rfl rfl ?_
  refine s_ildn (p' := 2) rfl rfl rfl ?_
  refine s_pfz (p' := 5) (fs' := [_, _, _, _, _, _, _, _, _, _, _]) rfl rfl (rd_sn rfl (rd_sn rfl (rd_sn rfl H400))) rfl rfl rfl rfl ?_
  refine s_ildn (p' := 6) rfl rfl rfl ?_
  refine s_if (p' := 13) true rfl (by decide +kernel) rfl ?_
  refine s_con (p' := 14) rfl rfl ?_
  refine c_iret rfl (by decide +kernel) ?_
  refine s_if (p' := 21) true rfl (by decide +kernel) rfl ?_
  refine s_aldn (p' := 22) rfl rfl rfl ?_
  refine s_dupr (p' := 23) rfl rfl ?_
  refine s_gf (p' := 26) rfl (rd_ss rfl (rd_sn rfl (rd_sn rfl (rd_sn rfl H400)))) rfl rfl ?_
  refine s_aldn (p' := 27) rfl rfl rfl ?_
  refine s_gf (p' := 30) rfl (rd_ss rfl (rd_sn rfl (rd_sn rfl (rd_sn rfl H400)))) rfl rfl ?_
  refine s_gf (p' := 33) rfl (rd_sn rfl (rd_sn rfl (rd_sn rfl (rd_sn rfl H402)))) rfl rfl ?_
  refine s_ildn (p' := 34) rfl rfl rfl ?_
  refine s_bip (p' := 36) rfl rfl ?_
  refine s_bz (p' := 37) (z := (nI 1)) rfl rfl rfl (by decide +kernel) ?_
  refine s_ialz (p' := 38) (m := 1) (v := (nI 0)) rfl (rd_sn rfl (rd_sn rfl (rd_sn rfl (rd_sn rfl H403)))) (by decide +kernel) rfl (by decide +kernel) rfl ?_
  refine c_call (p' := 41) (kc := 98) (ls0 := [_]) rfl rfl rfl rfl rfl rfl rfl rfl rfl ?_
  refine s_ildn (p' := 1) rfl rfl rfl ?_
  refine s_ildn (p' := 2) rfl rfl rfl ?_
  refine s_con (p' := 3) rfl rfl ?_
  refine s_bz (p' := 4) (z := (nI 0)) rfl rfl rfl (by decide +kernel) ?_
  refine s_sh (p' := 7) (ls' := _) (st' := .int (nI 1431655765) :: _) (h' := _) rfl rfl rfl rfl ?_
  refine s_bz (p' := 8) (z := (nI 0)) rfl rfl rfl (by decide +kernel) ?_
  refine s_bz (p' := 9) (z := (nI 0)) rfl rfl rfl (by decide +kernel) ?_
  refine s_istn (p' := 10) (ls' := [_]) rfl rfl rfl rfl ?_
  refine s_ildn (p' := 11) rfl rfl rfl ?_
  refine s_sh (p' := 14) (ls' := _) (st' := .int (nI 858993459) :: _) (h' := _) rfl rfl rfl rfl ?_
  refine s_bz (p' := 15) (z := (nI 0)) rfl rfl rfl (by decide +kernel) ?_
  refine s_ildn (p' := 16) rfl rfl rfl ?_
  refine s_con (p' := 17) rfl rfl ?_
  refine s_bz (p' := 18) (z := (nI 0)) rfl rfl rfl (by decide +kernel) ?_
  refine s_sh (p' := 21) (ls' := _) (st' := .int (nI 858993459) :: _) (h' := _) rfl rfl rfl rfl ?_
  refine s_bz (p' := 22) (z := (nI 0)) rfl rfl rfl (by decide +kernel) ?_
  refine s_bz (p' := 23) (z := (nI 0)) rfl rfl rfl (by decide +kernel) ?_
  refine s_istn (p' := 24) (ls' := [_]) rfl rfl rfl rfl ?_
  refine s_ildn (p' := 25) rfl rfl rfl ?_
  refine s_ildn (p' := 26) rfl rfl rfl ?_
  refine s_con (p' := 27) rfl rfl ?_
  refine s_bz (p' := 28) (z := (nI 0)) rfl rfl rfl (by decide +kernel) ?_
  refine s_bz (p' := 29) (z := (nI 0)) rfl rfl rfl (by decide +kernel) ?_
  refine s_sh (p' := 32) (ls' := _) (st' := .int (nI 252645135) :: _) (h' := _) rfl rfl rfl rfl ?_
  refine s_bz (p' := 33) (z := (nI 0)) rfl rfl rfl (by decide +kernel) ?_
  refine s_istn (p' := 34) (ls' := [_]) rfl rfl rfl rfl ?_
  refine s_ildn (p' := 35) rfl rfl rfl ?_
  refine s_ildn (p' := 36) rfl rfl rfl ?_
  refine s_bip (p' := 38) rfl rfl ?_
  refine s_bz (p' := 39) (z := (nI 0)) rfl rfl rfl (by decide +kernel) ?_
  refine s_bz (p' := 40) (z := (nI 0)) rfl rfl rfl (by decide +kernel) ?_
  refine s_istn (p' := 41) (ls' := [_]) rfl rfl rfl rfl ?_
  refine s_ildn (p' := 42) rfl rfl rfl ?_
  refine s_ildn (p' := 43) rfl rfl rfl ?_
  refine s_bip (p' := 45) rfl rfl ?_
  refine s_bz (p' := 46) (z := (nI 0)) rfl rfl rfl (by decide +kernel) ?_
  refine s_bz (p' := 47) (z := (nI 0)) rfl rfl rfl (by decide +kernel) ?_
  refine s_istn (p' := 48) (ls' := [_]) rfl rfl rfl rfl ?_
  refine s_ildn (p' := 49) rfl rfl rfl ?_
  refine s_bip (p' := 51) rfl rfl ?_
  refine s_bz (p' := 52) (z := (nI 0)) rfl rfl rfl (by decide +kernel) ?_
  refine c_iret rfl rfl ?_
  refine s_bzL (p' := 42) (z := (lN 0)) rfl rfl rfl (by decide +kernel) ?_
  refine s_bzL (p' := 43) (z := (lN 0)) rfl rfl rfl (by decide +kernel) ?_
  refine s_pfz (p' := 46) (fs' := [_, _, _, _, _, _, _, _, _, _, _]) rfl rfl (rd_ss rfl (rd_sn rfl (rd_sn rfl (rd_sn rfl H400)))) rfl rfl rfl rfl ?_
  refine s_aldn (p' := 47) rfl rfl rfl ?_
  refine s_gf (p' := 50) rfl (rd_ss rfl (rd_ss rfl (rd_sn rfl (rd_sn rfl (rd_sn rfl H400))))) rfl rfl ?_
  refine s_gf (p' := 53) rfl (rd_sn rfl (rd_sn rfl (rd_sn rfl (rd_sn rfl (rd_sn rfl H402))))) rfl rfl ?_
  refine s_ildn (p' := 54) rfl rfl rfl ?_
  refine s_bip (p' := 56) rfl rfl ?_
  refine s_bz (p' := 57) (z := (nI 1)) rfl rfl rfl (by decide +kernel) ?_
  refine s_con (p' := 58) rfl rfl ?_
  refine s_iasz (p' := 59) (m := 1) rfl rfl (rd_sn rfl (rd_sn rfl (rd_sn rfl (rd_sn rfl (rd_sn rfl H403))))) (by decide +kernel) rfl rfl rfl ?_
  refine s_aldn (p' := 60) rfl rfl rfl ?_
  refine s_gf (p' := 63) rfl (rd_sn rfl (rd_ss rfl (rd_ss rfl (rd_sn rfl (rd_sn rfl (rd_sn rfl H400)))))) rfl rfl ?_
  refine k_lret rfl ?_
  refine l_sp (p' := 1551) (ls' := [_, _, _, _, _, _, _, _, _, _]) rfl rfl rfl rfl rfl ?_
  refine l_aldn (p' := 1552) rfl rfl rfl rfl ?_
  refine l_call (p' := 1555) (kc := 99) (ls0 := [_]) rfl rfl rfl rfl rfl rfl (mj_rcv_is (rd_sn rfl (rd_ss rfl (rd_ss rfl (rd_sn rfl (rd_sn rfl (rd_sn rfl H400))))))) rfl rfl rfl ?_
  refine s_aldn (p' := 1) rfl rfl rfl ?_
  refine s_gf (p' := 4) rfl (rd_sn rfl (rd_ss rfl (rd_ss rfl (rd_sn rfl (rd_sn rfl (rd_sn rfl H400)))))) rfl rfl ?_
  refine k_iret rfl rfl ?_
  refine l_ild (p' := 1557) rfl rfl rfl rfl ?_
  refine l_icmp (p' := 1562) true rfl rfl (by decide +kernel) rfl ?_
  refine l_ild (p' := 1564) rfl rfl rfl rfl ?_
  refine l_if (p' := 1567) false rfl rfl (by decide +kernel) rfl ?_
  refine l_aldn (p' := 1568) rfl rfl rfl rfl ?_
  refine l_con (p' := 1569) rfl rfl rfl ?_
  refine l_lalz (p' := 1570) (m := 0) (v := (lN 0)) rfl rfl (rd_sn rfl (rd_sn rfl (rd_sn rfl (rd_ss rfl (rd_sn rfl (rd_sn rfl H412)))))) (by decide +kernel) rfl (by decide +kernel) rfl ?_
  refine l_sp (p' := 1572) (ls' := _) rfl rfl rfl rfl rfl ?_
  refine l_bz (p' := 1573) (z := (nI 0)) rfl rfl rfl rfl rfl (by decide +kernel) ?_
  refine l_if (p' := 1578) true rfl rfl (by decide +kernel) rfl ?_
  refine l_goto (p' := 2541) rfl rfl rfl ?_
  refine l_incz (p' := 2544) (w := (nI 4)) (ls' := [_, _, _, _, _, _, _, _, _, _]) rfl rfl rfl rfl (by decide +kernel) rfl rfl ?_
  refine l_goto (p' := 28) rfl rfl rfl ?_
  refine l_ild (p' := 30) rfl rfl rfl rfl ?_
  refine l_alds (p' := 31) rfl rfl rfl rfl ?_
  refine l_lens (p' := 32) rfl rfl rfl ?_
  refine l_con (p' := 33) rfl rfl rfl ?_
  refine l_bz (p' := 34) (z := (nI 0)) rfl rfl rfl rfl rfl (by decide +kernel) ?_
  refine l_icmp (p' := 2547) true rfl rfl (by decide +kernel) rfl ?_
  refine l_con (p' := 2548) rfl rfl rfl ?_
  refine l_end rfl rfl ?_
  exact ⟨Nat.le_trans (Nat.le_of_eq (len_s (len_s (len_s (len_s (len_s (len_s HL))))))) (Nat.le_of_ble_eq_true rfl), Nat.le_trans (sz_sA rfl (rd_sn rfl (rd_sn rfl (rd_sn rfl (rd_sn rfl (rd_sn rfl H403))))) (sz_s rfl (rd_ss rfl (rd_sn rfl (rd_sn rfl (rd_sn rfl H400)))) rfl (sz_s rfl (rd_sn rfl (rd_sn rfl (rd_sn rfl H400))) rfl (sz_sA rfl (rd_sn rfl (rd_sn rfl H412)) (sz_sA rfl (rd_sn rfl H376) (sz_s rfl H0 rfl HZ)))))) (Nat.le_of_ble_eq_true rfl)⟩
theorem p1_24_2 {xs : Nat → Int32} {h : mj_H} (hk : xs 0 &&& nI 63 = nI 24)  (hc : ((xs 1).toUInt32 % 65536).toInt32 = nI 99) (HL : h.length = 414) (HZ : mj_sz h ≤ 20000) (H0 : mj_rd h 0 = some (.inr (0, [.ref 1, .ref 38, .ref 299, .ref 336, .ref 373, .ref 375, .ref 378, .ref 381, .ref 387, .ref 393, .null, .null, .ref 397, .ref 398, .ref 399, .long (lN 0), .long (lN 0)]))) (H375 : mj_rd h 375 = some (.inr (7, [.ref 376, .ref 377, .int (nI 0)]))) (H376 : mj_rd h 376 = some (.inl (0, (8, .inl (fun _ => 0))))) (H400 : mj_rd h 400 = some (.inr (17, [.int (nI 0), .ref 401, .ref 402, .ref 1000300, .long (lN 0), .long (lN 0), .ref 410, .null, .null, .null, .ref 411]))) (H402 : mj_rd h 402 = some (.inr (19, [.ref 403, .ref 404, .ref 405, .ref 406, .ref 407, .ref 408, .ref 409, .int (nI 0), .int (nI 4294967295), .int (nI 0), .ref 400]))) (H403 : mj_rd h 403 = some (.inl (0, (8, .inl (fun _ => 0))))) (H412 : mj_rd h 412 = some (.inl (4, (1, .inr (.inl (fun _ => 0)))))) : mj_fin 4 xs h := by
  unfold mj_fin
  refine l_ild (p' := 30) rfl rfl rfl rfl ?_
  refine l_alds (p' := 31) rfl rfl rfl rfl ?_
  refine l_lens (p' := 32) rfl rfl rfl ?_
  refine l_con (p' := 33) rfl rfl rfl ?_
  refine l_bz (p' := 34) (z := (nI 0)) rfl rfl rfl rfl rfl (by decide +kernel) ?_
  refine l_icmp (p' := 37) false rfl rfl (by decide +kernel) rfl ?_
  refine l_alds (p' := 38) rfl rfl rfl rfl ?_
  refine l_ild (p' := 40) rfl rfl rfl rfl ?_
  refine l_ialz (p' := 41) (m := 0) (z := (xs 0)) rfl rfl (by decide +kernel) rfl rfl rfl ?_
  refine l_bip (p' := 43) rfl rfl rfl ?_
  refine l_bz (p' := 44) (z := (nI 24)) rfl rfl rfl rfl rfl hk ?_
  refine l_sp (p' := 1524) (ls' := _) rfl rfl rfl rfl rfl ?_
  refine l_aldn (p' := 1525) rfl rfl rfl rfl ?_
  refine l_alds (p' := 1526) rfl rfl rfl rfl ?_
  refine l_ild (p' := 1528) rfl rfl rfl rfl ?_
  refine l_con (p' := 1529) rfl rfl rfl ?_
  refine l_bz (p' := 1530) (z := (nI 1)) rfl rfl rfl rfl rfl (by decide +kernel) ?_
  refine l_ialz (p' := 1531) (m := 1) (z := (xs 1)) rfl rfl (by decide +kernel) rfl rfl rfl ?_
  refine l_bz (p' := 1532) (z := (nI 99)) rfl rfl rfl rfl rfl hc ?_
  refine l_aldn (p' := 1533) rfl rfl rfl rfl ?_
  refine l_call (p' := 1536) (kc := 99) (ls0 := [_, _, _, _]) rfl rfl rfl rfl rfl rfl rfl rfl rfl rfl ?_
  refine s_aldn (p' := 1) rfl rfl rfl ?_
  refine s_con (p' := 2) rfl rfl ?_
  refine s_aldn (p' := 3) rfl rfl rfl ?_
  refine s_ildn (p' := 4) rfl rfl rfl ?_
  refine c_call (p' := 7) (kc := 98) (ls0 := [_, _]) rfl rfl rfl rfl rfl (mj_rcv_is H0) rfl rfl rfl ?_
  refine s_ildn (p' := 1) rfl rfl rfl ?_
  refine c_call (p' := 4) (kc := 97) (ls0 := [_]) rfl rfl rfl rfl rfl rfl rfl rfl rfl ?_
  refine s_ildn (p' := 1) rfl rfl rfl ?_
  refine s_bip (p' := 3) rfl rfl ?_
  refine s_icmp (p' := 6) false rfl (by decide +kernel) rfl ?_
  refine s_ildn (p' := 7) rfl rfl rfl ?_
  refine s_bip (p' := 9) rfl rfl ?_
  refine s_icmp (p' := 12) false rfl (by decide +kernel) rfl ?_
  refine s_con (p' := 13) rfl rfl ?_
  refine s_goto (p' := 17) rfl rfl ?_
  refine c_iret rfl (by decide +kernel) ?_
  refine s_if (p' := 17) true rfl (by decide +kernel) rfl ?_
  refine s_aldn (p' := 18) rfl rfl rfl ?_
  refine s_dupr (p' := 19) rfl rfl ?_
  refine s_gf (p' := 22) rfl H0 rfl rfl ?_
  refine s_aldn (p' := 23) rfl rfl rfl ?_
  refine s_gf (p' := 26) rfl H0 rfl rfl ?_
  refine s_ildn (p' := 27) rfl rfl rfl ?_
  refine s_bip (p' := 29) rfl rfl ?_
  refine s_bz (p' := 30) (z := (nI 2)) rfl rfl rfl (by decide +kernel) ?_
  refine c_call (p' := 33) (kc := 97) (ls0 := [_, _]) rfl rfl rfl rfl rfl (mj_rcv_is H375) rfl rfl rfl ?_
  refine s_ildn (p' := 1) rfl rfl rfl ?_
  refine s_if (p' := 4) false rfl (by decide +kernel) rfl ?_
  refine s_ildn (p' := 5) rfl rfl rfl ?_
  refine s_aldn (p' := 6) rfl rfl rfl ?_
  refine s_gf (p' := 9) rfl H375 rfl rfl ?_
  refine s_lenz (p' := 10) rfl (mj_rdA_is H376 (by decide)) rfl rfl ?_
  refine s_icmp (p' := 13) false rfl (by decide +kernel) rfl ?_
  refine s_aldn (p' := 14) rfl rfl rfl ?_
  refine s_gf (p' := 17) rfl H375 rfl rfl ?_
  refine s_ildn (p' := 18) rfl rfl rfl ?_
  refine s_ialz (p' := 19) (m := 2) (v := (nI 0)) rfl H376 (by decide +kernel) rfl (by decide +kernel) rfl ?_
  refine s_goto (p' := 23) rfl rfl ?_
  refine c_iret rfl rfl ?_
  refine c_call (p' := 36) (kc := 97) (ls0 := [_]) rfl rfl rfl rfl rfl rfl rfl rfl rfl ?_
  refine s_ildn (p' := 1) rfl rfl rfl ?_
  refine s_ildn (p' := 2) rfl rfl rfl ?_
  refine s_con (p' := 3) rfl rfl ?_
  refine s_bz (p' := 4) (z := (nI 0)) rfl rfl rfl (by decide +kernel) ?_
  refine s_sh (p' := 7) (ls' := _) (st' := .int (nI 1431655765) :: _) (h' := _) rfl rfl rfl rfl ?_
  refine s_bz (p' := 8) (z := (nI 0)) rfl rfl rfl (by decide +kernel) ?_
  refine s_bz (p' := 9) (z := (nI 0)) rfl rfl rfl (by decide +kernel) ?_
  refine s_istn (p' := 10) (ls' := [_]) rfl rfl rfl rfl ?_
  refine s_ildn (p' := 11) rfl rfl rfl ?_
  refine s_sh (p' := 14) (ls' := _) (st' := .int (nI 858993459) :: _) (h' := _) rfl rfl rfl rfl ?_
  refine s_bz (p' := 15) (z := (nI 0)) rfl rfl rfl (by decide +kernel) ?_
  refine s_ildn (p' := 16) rfl rfl rfl ?_
  refine s_con (p' := 17) rfl rfl ?_
  refine s_bz (p' := 18) (z := (nI 0)) rfl rfl rfl (by decide +kernel) ?_
  refine s_sh (p' := 21) (ls' := _) (st' := .int (nI 858993459) :: _) (h' := _) rfl rfl rfl rfl ?_
  refine s_bz (p' := 22) (z := (nI 0)) rfl rfl rfl (by decide +kernel) ?_
  refine s_bz (p' := 23) (z := (nI 0)) rfl rfl rfl (by decide +kernel) ?_
  refine s_istn (p' := 24) (ls' := [_]) rfl rfl rfl rfl ?_
  refine s_ildn (p' := 25) rfl rfl rfl ?_
  refine s_ildn (p' := 26) rfl rfl rfl ?_
  refine s_con (p' := 27) rfl rfl ?_
  refine s_bz (p' := 28) (z := (nI 0)) rfl rfl rfl (by decide +kernel) ?_
  refine s_bz (p' := 29) (z := (nI 0)) rfl rfl rfl (by decide +kernel) ?_
  refine s_sh (p' := 32) (ls' := _) (st' := .int (nI 252645135) :: _) (h' := _) rfl rfl rfl rfl ?_
  refine s_bz (p' := 33) (z := (nI 0)) rfl rfl rfl (by decide +kernel) ?_
  refine s_istn (p' := 34) (ls' := [_]) rfl rfl rfl rfl ?_
  refine s_ildn (p' := 35) rfl rfl rfl ?_
  refine s_ildn (p' := 36) rfl rfl rfl ?_
  refine s_bip (p' := 38) rfl rfl ?_
  refine s_bz (p' := 39) (z := (nI 0)) rfl rfl rfl (by decide +kernel) ?_
  refine s_bz (p' := 40) (z := (nI 0)) rfl rfl rfl (by decide +kernel) ?_
  refine s_istn (p' := 41) (ls' := [_]) rfl rfl rfl rfl ?_
  refine s_ildn (p' := 42) rfl rfl rfl ?_
  refine s_ildn (p' := 43) rfl rfl rfl ?_
  refine s_bip (p' := 45) rfl rfl ?_
  refine s_bz (p' := 46) (z := (nI 0)) rfl rfl rfl (by decide +kernel) ?_
  refine s_bz (p' := 47) (z := (nI 0)) rfl rfl rfl (by decide +kernel) ?_
  refine s_istn (p' := 48) (ls' := [_]) rfl rfl rfl rfl ?_
  refine s_ildn (p' := 49) rfl rfl rfl ?_
  refine s_bip (p' := 51) rfl rfl ?_
  refine s_bz (p' := 52) (z := (nI 0)) rfl rfl rfl (by decide +kernel) ?_
  refine c_iret rfl rfl ?_
  refine s_bzL (p' := 37) (z := (lN 0)) rfl rfl rfl (by decide +kernel) ?_
  refine s_bzL (p' := 38) (z := (lN 0)) rfl rfl rfl (by decide +kernel) ?_
  refine s_pfz (p' := 41) (fs' := [_, _, _, _, _, _, _, _, _, _, _, _, _, _, _, _, _]) rfl rfl H0 rfl rfl rfl rfl ?_
  refine s_aldn (p' := 42) rfl rfl rfl ?_
  refine s_gf (p' := 45) rfl (rd_ss rfl H0) rfl rfl ?_
  refine s_ildn (p' := 46) rfl rfl rfl ?_
  refine s_bip (p' := 48) rfl rfl ?_
  refine s_bz (p' := 49) (z := (nI 2)) rfl rfl rfl (by decide +kernel) ?_
  refine s_con (p' := 50) rfl rfl ?_
  refine c_call (p' := 53) (kc := 97) (ls0 := [_, _, _]) rfl rfl rfl rfl rfl (mj_rcv_is (rd_sn rfl H375)) rfl rfl rfl ?_
  refine s_ildn (p' := 1) rfl rfl rfl ?_
  refine s_if (p' := 4) false rfl (by decide +kernel) rfl ?_
  refine s_ildn (p' := 5) rfl rfl rfl ?_
  refine s_aldn (p' := 6) rfl rfl rfl ?_
  refine s_gf (p' := 9) rfl (rd_sn rfl H375) rfl rfl ?_
  refine s_lenz (p' := 10) rfl (mj_rdA_is (rd_sn rfl H376) (by decide)) rfl rfl ?_
  refine s_icmp (p' := 13) false rfl (by decide +kernel) rfl ?_
  refine s_aldn (p' := 14) rfl rfl rfl ?_
  refine s_gf (p' := 17) rfl (rd_sn rfl H375) rfl rfl ?_
  refine s_ildn (p' := 18) rfl rfl rfl ?_
  refine s_ildn (p' := 19) rfl rfl rfl ?_
  refine s_iasz (p' := 20) (m := 2) rfl rfl (rd_sn rfl H376) (by decide +kernel) rfl rfl rfl ?_
  refine c_ret rfl ?_
  refine s_aldn (p' := 54) rfl rfl rfl ?_
  refine s_gf (p' := 57) rfl (rd_sn rfl (rd_ss rfl H0)) rfl rfl ?_
  refine c_lret rfl ?_
  refine s_lasz (p' := 8) (m := 0) rfl rfl (rd_sn rfl (rd_sn rfl H412)) (by decide +kernel) rfl rfl rfl ?_
  refine s_goto (p' := 14) rfl rfl ?_
  refine s_con (p' := 15) rfl rfl ?_
  refine k_iret rfl rfl ?_
  refine l_ist (p' := 1538) (ls' := [_, _, _, _, _, _, _, _, _, _]) rfl rfl rfl rfl rfl ?_
  refine l_aldn (p' := 1539) rfl rfl rfl rfl ?_
  refine l_alds (p' := 1540) rfl rfl rfl rfl ?_
  refine l_ild (p' := 1542) rfl rfl rfl rfl ?_
  refine l_con (p' := 1543) rfl rfl rfl ?_
  refine l_bz (p' := 1544) (z := (nI 1)) rfl rfl rfl rfl rfl (by decide +kernel) ?_
  refine l_ialz (p' := 1545) (m := 1) (z := (xs 1)) rfl rfl (by decide +kernel) rfl rfl rfl ?_
  refine l_bz (p' := 1546) (z := (nI 99)) rfl rfl rfl rfl rfl hc ?_
  refine l_call (p' := 1549) (kc := 99) (ls0 := [_, _]) rfl rfl rfl rfl rfl rfl (mj_rcv_is (rd_sn rfl (rd_sn rfl (rd_sn rfl H400)))) rfl rfl rfl ?_
  refine s_aldn (p' := 1) rfl rfl rfl ?_
  refine s_ildn (p' := 2) rfl rfl rfl ?_
  refine c_call (p' := 5) (kc := 98) (ls0 := [_]) rfl rfl rfl rfl rfl rfl rfl rfl rfl ?_
  refine s_ildn (p' := 1) rfl rfl rfl ?_
  refine s_bip (p' := 3) rfl rfl ?_
  refine s_bip (p' := 5) rfl rfl ?_
  refine c_call (p' := 8) (kc := 97) (ls0 := [_, _, _]) rfl rfl rfl rfl rfl rfl rfl rfl rfl ?_
  refine s_ildn (p' := 1) rfl rfl rfl ?_
  refine s_ildn (p' := 2) rfl rfl rfl ?_
  refine s_icmp (p' := 5) false rfl (by decide +kernel) rfl ?_
  refine s_ildn (p' := 6) rfl rfl rfl ?_
  refine s_ildn (p' := 7) rfl rfl rfl ?_
  refine s_icmp (p' := 10) false rfl (by decide +kernel) rfl ?_
  refine s_con (p' := 11) rfl rfl ?_
  refine s_goto (p' := 15) rfl rfl ?_
  refine c_iret rfl (by decide +kernel) ?_
  refine c_iret rfl (by decide +kernel) ?_
  refine s_if (p' := 8) false rfl (by decide +kernel) rfl ?_
  refine s_con (p' := 9) rfl rfl ?_
  refine s_goto (p' := 13) rfl rfl ?_
  refine c_call (p' := 16) (kc := 98) (ls0 := [_, _]) rfl rfl rfl rfl rfl (mj_rcv_is (rd_sn rfl (rd_sn rfl (rd_sn rfl H400)))) rfl rfl rfl ?_
  refine s_aldn (p' := 1) rfl rfl rfl ?_
  refine s_ildn (p' := 2) rfl rfl rfl ?_
  refine s_pfz (p' := 5) (fs' := [_, _, _, _, _, _, _, _, _, _, _]) rfl rfl (rd_sn rfl (rd_sn rfl (rd_sn rfl H400))) rfl rfl rfl rfl ?_
  refine s_ildn (p' := 6) rfl rfl rfl ?_
  refine s_if (p' := 13) true rfl (by decide +kernel) rfl ?_
  refine s_con (p' := 14) rfl rfl ?_
  refine c_iret rfl (by decide +kernel) ?_
  refine s_if (p' := 21) true rfl (by decide +kernel) rfl ?_
  refine s_aldn (p' := 22) rfl rfl rfl ?_
  refine s_dupr (p' := 23) rfl rfl ?_
  refine s_gf (p' := 26) rfl (rd_ss rfl (rd_sn rfl (rd_sn rfl (rd_sn rfl H400)))) rfl rfl ?_
  refine s_aldn (p' := 27) rfl rfl rfl ?_
  refine s_gf (p' := 30) rfl (rd_ss rfl (rd_sn rfl (rd_sn rfl (rd_sn rfl H400)))) rfl rfl ?_
  refine s_gf (p' := 33) rfl (rd_sn rfl (rd_sn rfl (rd_sn rfl (rd_sn rfl H402)))) rfl rfl ?_
  refine s_ildn (p' := 34) rfl rfl rfl ?_
  refine s_bip (p' := 36) rfl rfl ?_
  refine s_bz (p' := 37) (z := (nI 2)) rfl rfl rfl (by decide +kernel) ?_
  refine s_ialz (p' := 38) (m := 2) (v := (nI 0)) rfl (rd_sn rfl (rd_sn rfl (rd_sn rfl (rd_sn rfl H403)))) (by decide +kernel) rfl (by decide +kernel) rfl ?_
  refine c_call (p' := 41) (kc := 98) (ls0 := [_]) rfl rfl rfl rfl rfl rfl rfl rfl rfl ?_
  refine s_ildn (p' := 1) rfl rfl rfl ?_
  refine s_ildn (p' := 2) rfl rfl rfl ?_
  refine s_con (p' := 3) rfl rfl ?_
  refine s_bz (p' := 4) (z := (nI 0)) rfl rfl rfl (by decide +kernel) ?_
  refine s_sh (p' := 7) (ls' := _) (st' := .int (nI 1431655765) :: _) (h' := _) rfl rfl rfl rfl ?_
  refine s_bz (p' := 8) (z := (nI 0)) rfl rfl rfl (by decide +kernel) ?_
  refine s_bz (p' := 9) (z := (nI 0)) rfl rfl rfl (by decide +kernel) ?_
  refine s_istn (p' := 10) (ls' := [_]) rfl rfl rfl rfl ?_
  refine s_ildn (p' := 11) rfl rfl rfl ?_
  refine s_sh (p' := 14) (ls' := _) (st' := .int (nI 858993459) :: _) (h' := _) rfl rfl rfl rfl ?_
  refine s_bz (p' := 15) (z := (nI 0)) rfl rfl rfl (by decide +kernel) ?_
  refine s_ildn (p' := 16) rfl rfl rfl ?_
  refine s_con (p' := 17) rfl rfl ?_
  refine s_bz (p' := 18) (z := (nI 0)) rfl rfl rfl (by decide +kernel) ?_
  refine s_sh (p' := 21) (ls' := _) (st' := .int (nI 858993459) :: _) (h' := _) rfl rfl rfl rfl ?_
  refine s_bz (p' := 22) (z := (nI 0)) rfl rfl rfl (by decide +kernel) ?_
  refine s_bz (p' := 23) (z := (nI 0)) rfl rfl rfl (by decide +kernel) ?_
  refine s_istn (p' := 24) (ls' := [_]) rfl rfl rfl rfl ?_
  refine s_ildn (p' := 25) rfl rfl rfl ?_
  refine s_ildn (p' := 26) rfl rfl rfl ?_
  refine s_con (p' := 27) rfl rfl ?_
  refine s_bz (p' := 28) (z := (nI 0)) rfl rfl rfl (by decide +kernel) ?_
  refine s_bz (p' := 29) (z := (nI 0)) rfl rfl rfl (by decide +kernel) ?_
  refine s_sh (p' := 32) (ls' := _) (st' := .int (nI 252645135) :: _) (h' := _) rfl rfl rfl rfl ?_
  refine s_bz (p' := 33) (z := (nI 0)) rfl rfl rfl (by decide +kernel) ?_
  refine s_istn (p' := 34) (ls' := [_]) rfl rfl rfl rfl ?_
  refine s_ildn (p' := 35) rfl rfl rfl ?_
  refine s_ildn (p' := 36) rfl rfl rfl ?_
  refine s_bip (p' := 38) rfl rfl ?_
  refine s_bz (p' := 39) (z := (nI 0)) rfl rfl rfl (by decide +kernel) ?_
  refine s_bz (p' := 40) (z := (nI 0)) rfl rfl rfl (by decide +kernel) ?_
  refine s_istn (p' := 41) (ls' := [_]) rfl rfl rfl rfl ?_
  refine s_ildn (p' := 42) rfl rfl rfl ?_
  refine s_ildn (p' := 43) rfl rfl rfl ?_
  refine s_bip (p' := 45) rfl rfl ?_
  refine s_bz (p' := 46) (z := (nI 0)) rfl rfl rfl (by decide +kernel) ?_
  refine s_bz (p' := 47) (z := (nI 0)) rfl rfl rfl (by decide +kernel) ?_
  refine s_istn (p' := 48) (ls' := [_]) rfl rfl rfl rfl ?_
  refine s_ildn (p' := 49) rfl rfl rfl ?_
  refine s_bip (p' := 51) rfl rfl ?_
  refine s_bz (p' := 52) (z := (nI 0)) rfl rfl rfl (by decide +kernel) ?_
  refine c_iret rfl rfl ?_
  refine s_bzL (p' := 42) (z := (lN 0)) rfl rfl rfl (by decide +kernel) ?_
  refine s_bzL (p' := 43) (z := (lN 0)) rfl rfl rfl (by decide +kernel) ?_
  refine s_pfz (p' := 46) (fs' := [_, _, _, _, _, _, _, _, _, _, _]) rfl rfl (rd_ss rfl (rd_sn rfl (rd_sn rfl (rd_sn rfl H400)))) rfl rfl rfl rfl ?_
  refine s_aldn (p' := 47) rfl rfl rfl ?_
  refine s_gf (p' := 50) rfl (rd_ss rfl (rd_ss rfl (rd_sn rfl (rd_sn rfl (rd_sn rfl H400))))) rfl rfl ?_
  refine s_gf (p' := 53) rfl (rd_sn rfl (rd_sn rfl (rd_sn rfl (rd_sn rfl (rd_sn rfl H402))))) rfl rfl ?_
  refine s_ildn (p' := 54) rfl rfl rfl ?_
  refine s_bip (p' := 56) rfl rfl ?_
  refine s_bz (p' := 57) (z := (nI 2)) rfl rfl rfl (by decide +kernel) ?_
  refine s_con (p' := 58) rfl rfl ?_
  refine s_iasz (p' := 59) (m := 2) rfl rfl (rd_sn rfl (rd_sn rfl (rd_sn rfl (rd_sn rfl (rd_sn rfl H403))))) (by decide +kernel) rfl rfl rfl ?_
  refine s_aldn (p' := 60) rfl rfl rfl ?_
  refine s_gf (p' := 63) rfl (rd_sn rfl (rd_ss rfl (rd_ss rfl (rd_sn rfl (rd_sn rfl (rd_sn rfl H400)))))) rfl rfl ?_
  refine k_lret rfl ?_
  refine l_sp (p' := 1551) (ls' := [_, _, _, _, _, _, _, _, _, _]) rfl rfl rfl rfl rfl ?_
  refine l_aldn (p' := 1552) rfl rfl rfl rfl ?_
  refine l_call (p' := 1555) (kc := 99) (ls0 := [_]) rfl rfl rfl rfl rfl rfl (mj_rcv_is (rd_sn rfl (rd_ss rfl (rd_ss rfl (rd_sn rfl (rd_sn rfl (rd_sn rfl H400))))))) rfl rfl rfl ?_
  refine s_aldn (p' := 1) rfl rfl rfl ?_
  refine s_gf (p' := 4) rfl (rd_sn rfl (rd_ss rfl (rd_ss rfl (rd_sn rfl (rd_sn rfl (rd_sn rfl H400)))))) rfl rfl ?_
  refine k_iret rfl rfl ?_
  refine l_ild (p' := 1557) rfl rfl rfl rfl ?_
  refine l_icmp (p' := 1562) true rfl rfl (by decide +kernel) rfl ?_
  refine l_ild (p' := 1564) rfl rfl rfl rfl ?_
  refine l_if (p' := 1567) false rfl rfl (by decide +kernel) rfl ?_
  refine l_aldn (p' := 1568) rfl rfl rfl rfl ?_
  refine l_con (p' := 1569) rfl rfl rfl ?_
  refine l_lalz (p' := 1570) (m := 0) (v := (lN 0)) rfl rfl (rd_sn rfl (rd_sn rfl (rd_sn rfl (rd_ss rfl (rd_sn rfl (rd_sn rfl H412)))))) (by decide +kernel) rfl (by decide +kernel) rfl ?_
  refine l_sp (p' := 1572) (ls' := _) rfl rfl rfl rfl rfl ?_
  refine l_bz (p' := 1573) (z := (nI 0)) rfl rfl rfl rfl rfl (by decide +kernel) ?_
  refine l_if (p' := 1578) true rfl rfl (by decide +kernel) rfl ?_
  refine l_goto (p' := 2541) rfl rfl rfl ?_
  refine l_incz (p' := 2544) (w := (nI 4)) (ls' := [_, _, _, _, _, _, _, _, _, _]) rfl rfl rfl rfl (by decide +kernel) rfl rfl ?_
  refine l_goto (p' := 28) rfl rfl rfl ?_
  refine l_ild (p' := 30) rfl rfl rfl rfl ?_
  refine l_alds (p' := 31) rfl rfl rfl rfl ?_
  refine l_lens (p' := 32) rfl rfl rfl ?_
  refine l_con (p' := 33) rfl rfl rfl ?_
  refine l_bz (p' := 34) (z := (nI 0)) rfl rfl rfl rfl rfl (by decide +kernel) ?_
  refine l_icmp (p' := 2547) true rfl rfl (by decide +kernel) rfl ?_
  refine l_con (p' := 2548) rfl rfl rfl ?_
  refine l_end rfl rfl ?_
  exact ⟨Nat.le_trans (Nat.le_of_eq (len_s (len_s (len_s (len_s (len_s (len_s HL))))))) (Nat.le_of_ble_eq_true rfl), Nat.le_trans (sz_sA rfl (rd_sn rfl (rd_sn rfl (rd_sn rfl (rd_sn rfl (rd_sn rfl H403))))) (sz_s rfl (rd_ss rfl (rd_sn rfl (rd_sn rfl (rd_sn rfl H400)))) rfl (sz_s rfl (rd_sn rfl (rd_sn rfl (rd_sn rfl H400))) rfl (sz_sA rfl (rd_sn rfl (rd_sn rfl H412)) (sz_sA rfl (rd_sn rfl H376) (sz_s rfl H0 rfl HZ)))))) (Nat.le_of_ble_eq_true rfl)⟩
theorem p1_24_3 {xs : Nat → Int32} {h : mj_H} (hk : xs 0 &&& nI 63 = nI 24)  (hc : ((xs 1).toUInt32 % 65536).toInt32 = nI 100) (HL : h.length = 414) (HZ : mj_sz h ≤ 20000) (H0 : mj_rd h 0 = some (.inr (0, [.ref 1, .ref 38, .ref 299, .ref 336, .ref 373, .ref 375, .ref 378, .ref 381, .ref 387, .ref 393, .null, .null, .ref 397, .ref 398, .ref 399, .long (lN 0), .long (lN 0)]))) (H375 : mj_rd h 375 = some (.inr (7, [.ref 376, .ref 377, .int (nI 0)]))) (H376 : mj_rd h 376 = some (.inl (0, (8, .inl (fun _ => 0))))) (H400 : mj_rd h 400 = some (.inr (17, [.int (nI 0), .ref 401, .ref 402, .ref 1000300, .long (lN 0), .long (lN 0), .ref 410, .null, .null, .null, .ref 411]))) (H402 : mj_rd h 402 = some (.inr (19, [.ref 403, .ref 404, .ref 405, .ref 406, .ref 407, .ref 408, .ref 409, .int (nI 0), .int (nI 4294967295), .int (nI 0), .ref 400]))) (H403 : mj_rd h 403 = some (.inl (0, (8, .inl (fun _ => 0))))) (H412 : mj_rd h 412 = some (.inl (4, (1, .inr (.inl (fun _ => 0)))))) : mj_fin 4 xs h := by
  unfold mj_fin
  refine l_ild (p' := 30) rfl rfl rfl rfl ?_
  refine l_alds (p' := 31) rfl rfl rfl rfl ?_
  refine l_lens (p' := 32) rfl rfl rfl ?_
  refine l_con (p' := 33) rfl rfl rfl ?_
  refine l_bz (p' := 34) (z := (nI 0)) rfl rfl rfl rfl rfl (by decide +kernel) ?_
  refine l_icmp (p' := 37) false rfl rfl (by decide +kernel) rfl ?_
  refine l_alds (p' := 38) rfl rfl rfl rfl ?_
  refine l_ild (p' := 40) rfl rfl rfl rfl ?_
  refine l_ialz (p' := 41) (m := 0) (z := (xs 0)) rfl rfl (by decide +kernel) rfl rfl rfl ?_
  refine l_bip (p' := 43) rfl rfl rfl ?_
  refine l_bz (p' := 44) (z := (nI 24)) rfl rfl rfl rfl rfl hk ?_
  refine l_sp (p' := 1524) (ls' := _) rfl rfl rfl rfl rfl ?_
  refine l_aldn (p' := 1525) rfl rfl rfl rfl ?_
  refine l_alds (p' := 1526) rfl rfl rfl rfl ?_
  refine l_ild (p' := 1528) rfl rfl rfl rfl ?_
  refine l_con (p' := 1529) rfl rfl rfl ?_
  refine l_bz (p' := 1530) (z := (nI 1)) rfl rfl rfl rfl rfl (by decide +kernel) ?_
  refine l_ialz (p' := 1531) (m := 1) (z := (xs 1)) rfl rfl (by decide +kernel) rfl rfl rfl ?_
  refine l_bz (p' := 1532) (z := (nI 100)) rfl rfl rfl rfl rfl hc ?_
  refine l_aldn (p' := 1533) rfl rfl rfl rfl ?_
  refine l_call (p' := 1536) (kc := 99) (ls0 := [_, _, _, _]) rfl rfl rfl rfl rfl rfl rfl rfl rfl rfl ?_
  refine s_aldn (p' := 1) rfl rfl rfl ?_
  refine s_con (p' := 2) rfl rfl ?_
  refine s_aldn (p' := 3) rfl rfl rfl ?_
  refine s_ildn (p' := 4) rfl rfl rfl ?_
  refine c_call (p' := 7) (kc := 98) (ls0 := [_, _]) rfl rfl rfl rfl rfl (mj_rcv_is H0) rfl rfl rfl ?_
  refine s_ildn (p' := 1) rfl rfl rfl ?_
  refine c_call (p' := 4) (kc := 97) (ls0 := [_]) rfl rfl rfl rfl rfl rfl rfl rfl rfl ?_
  refine s_ildn (p' := 1) rfl rfl rfl ?_
  refine s_bip (p' := 3) rfl rfl ?_
  refine s_icmp (p' := 6) false rfl (by decide +kernel) rfl ?_
  refine s_ildn (p' := 7) rfl rfl rfl ?_
  refine s_bip (p' := 9) rfl rfl ?_
  refine s_icmp (p' := 12) false rfl (by decide +kernel) rfl ?_
  refine s_con (p' := 13) rfl rfl ?_
  refine s_goto (p' := 17) rfl rfl ?_
  refine c_iret rfl (by decide +kernel) ?_
  refine s_if (p' := 17) true rfl (by decide +kernel) rfl ?_
  refine s_aldn (p' := 18) rfl rfl rfl ?_
  refine s_dupr (p' := 19) rfl rfl ?_
  refine s_gf (p' := 22) rfl H0 rfl rfl ?_
  refine s_aldn (p' := 23) rfl rfl rfl ?_
  refine s_gf (p' := 26) rfl H0 rfl rfl ?_
  refine s_ildn (p' := 27) rfl rfl rfl ?_
  refine s_bip (p' := 29) rfl rfl ?_
  refine s_bz (p' := 30) (z := (nI 3)) rfl rfl rfl (by decide +kernel) ?_
  refine c_call (p' := 33) (kc := 97) (ls0 := [_, _]) rfl rfl rfl rfl rfl (mj_rcv_is H375) rfl rfl rfl ?_
  refine s_ildn (p' := 1) rfl rfl rfl ?_
  refine s_if (p' := 4) false rfl (by decide +kernel) rfl ?_
  refine s_ildn (p' := 5) rfl rfl rfl ?_
  refine s_aldn (p' := 6) rfl rfl rfl ?_
  refine s_gf (p' := 9) rfl H375 rfl rfl ?_
  refine s_lenz (p' := 10) rfl (mj_rdA_is H376 (by decide)) rfl rfl ?_
  refine s_icmp (p' := 13) false rfl (by decide +kernel) rfl ?_
  refine s_aldn (p' := 14) rfl rfl rfl ?_
  refine s_gf (p' := 17) rfl H375 rfl rfl ?_
  refine s_ildn (p' := 18) rfl rfl rfl ?_
  refine s_ialz (p' := 19) (m := 3) (v := (nI 0)) rfl H376 (by decide +kernel) rfl (by decide +kernel) rfl ?_
  refine s_goto (p' := 23) rfl rfl ?_
  refine c_iret rfl rfl ?_
  refine c_call (p' := 36) (kc := 97) (ls0 := [_]) rfl rfl rfl rfl rfl rfl rfl rfl rfl ?_
  refine s_ildn (p' := 1) rfl rfl rfl ?_
  refine s_ildn (p' := 2) rfl rfl rfl ?_
  refine s_con (p' := 3) rfl rfl ?_
  refine s_bz (p' := 4) (z := (nI 0)) rfl rfl rfl (by decide +kernel) ?_
  refine s_sh (p' := 7) (ls' := _) (st' := .int (nI 1431655765) :: _) (h' := _) rfl rfl rfl rfl ?_
  refine s_bz (p' := 8) (z := (nI 0)) rfl rfl rfl (by decide +kernel) ?_
  refine s_bz (p' := 9) (z := (nI 0)) rfl rfl rfl (by decide +kernel) ?_
  refine s_istn (p' := 10) (ls' := [_]) rfl rfl rfl rfl ?_
  refine s_ildn (p' := 11) rfl rfl rfl ?_
  refine s_sh (p' := 14) (ls' := _) (st' := .int (nI 858993459) :: _) (h' := _) rfl rfl rfl rfl ?_
  refine s_bz (p' := 15) (z := (nI 0)) rfl rfl rfl (by decide +kernel) ?_
  refine s_ildn (p' := 16) rfl rfl rfl ?_
  refine s_con (p' := 17) rfl rfl ?_
  refine s_bz (p' := 18) (z := (nI 0)) rfl rfl rfl (by decide +kernel) ?_
  refine s_sh (p' := 21) (ls' := _) (st' := .int (nI 858993459) :: _) (h' := _) rfl rfl rfl rfl ?_
  refine s_bz (p' := 22) (z := (nI 0)) rfl rfl rfl (by decide +kernel) ?_
  refine s_bz (p' := 23) (z := (nI 0)) rfl rfl rfl (by decide +kernel) ?_
  refine s_istn (p' := 24) (ls' := [_]) rfl rfl rfl rfl ?_
  refine s_ildn (p' := 25) rfl rfl rfl ?_
  refine s_ildn (p' := 26) rfl rfl rfl ?_
  refine s_con (p' := 27) rfl rfl ?_
  refine s_bz (p' := 28) (z := (nI 0)) rfl rfl rfl (by decide +kernel) ?_
  refine s_bz (p' := 29) (z := (nI 0)) rfl rfl rfl (by decide +kernel) ?_
  refine s_sh (p' := 32) (ls' := _) (st' := .int (nI 252645135) :: _) (h' := _) rfl rfl rfl rfl ?_
  refine s_bz (p' := 33) (z := (nI 0)) rfl rfl rfl (by decide +kernel) ?_
  refine s_istn (p' := 34) (ls' := [_]) rfl rfl rfl rfl ?_
  refine s_ildn (p' := 35) rfl rfl rfl ?_
  refine s_ildn (p' := 36) rfl rfl rfl ?_
  refine s_bip (p' := 38) rfl rfl ?_
  refine s_bz (p' := 39) (z := (nI 0)) rfl rfl rfl (by decide +kernel) ?_
  refine s_bz (p' := 40) (z := (nI 0)) rfl rfl rfl (by decide +kernel) ?_
  refine s_istn (p' := 41) (ls' := [_]) rfl rfl rfl rfl ?_
  refine s_ildn (p' := 42) rfl rfl rfl ?_
  refine s_ildn (p' := 43) rfl rfl rfl ?_
  refine s_bip (p' := 45) rfl rfl ?_
  refine s_bz (p' := 46) (z := (nI 0)) rfl rfl rfl (by decide +kernel) ?_
  refine s_bz (p' := 47) (z := (nI 0)) rfl rfl rfl (by decide +kernel) ?_
  refine s_istn (p' := 48) (ls' := [_]) rfl rfl rfl rfl ?_
  refine s_ildn (p' := 49) rfl rfl rfl ?_
  refine s_bip (p' := 51) rfl rfl ?_
  refine s_bz (p' := 52) (z := (nI 0)) rfl rfl rfl (by decide +kernel) ?_
  refine c_iret rfl rfl ?_
  refine s_bzL (p' := 37) (z := (lN 0)) rfl rfl rfl (by decide +kernel) ?_
  refine s_bzL (p' := 38) (z := (lN 0)) rfl rfl rfl (by decide +kernel) ?_
  refine s_pfz (p' := 41) (fs' := [_, _, _, _, _, _, _, _, _, _, _, _, _, _, _, _, _]) rfl rfl H0 rfl rfl rfl rfl ?_
  refine s_aldn (p' := 42) rfl rfl rfl ?_
  refine s_gf (p' := 45) rfl (rd_ss rfl H0) rfl rfl ?_
  refine s_ildn (p' := 46) rfl rfl rfl ?_
  refine s_bip (p' := 48) rfl rfl ?_
  refine s_bz (p' := 49) (z := (nI 3)) rfl rfl rfl (by decide +kernel) ?_
  refine s_con (p' := 50) rfl rfl ?_
  refine c_call (p' := 53) (kc := 97) (ls0 := [_, _, _]) rfl rfl rfl rfl rfl (mj_rcv_is (rd_sn rfl H375)) rfl rfl rfl ?_
  refine s_ildn (p' := 1) rfl rfl rfl ?_
  refine s_if (p' := 4) false rfl (by decide +kernel) rfl ?_
  refine s_ildn (p' := 5) rfl rfl rfl ?_
  refine s_aldn (p' := 6) rfl rfl rfl ?_
  refine s_gf (p' := 9) rfl (rd_sn rfl H375) rfl rfl ?_
  refine s_lenz (p' := 10) rfl (mj_rdA_is (rd_sn rfl H376) (by decide)) rfl rfl ?_
  refine s_icmp (p' := 13) false rfl (by decide +kernel) rfl ?_
  refine s_aldn (p' := 14) rfl rfl rfl ?_
  refine s_gf (p' := 17) rfl (rd_sn rfl H375) rfl rfl ?_
  refine s_ildn (p' := 18) rfl rfl rfl ?_
  refine s_ildn (p' := 19) rfl rfl rfl ?_
  refine s_iasz (p' := 20) (m := 3) rfl rfl (rd_sn rfl H376) (by decide +kernel) rfl rfl rfl ?_
  refine c_ret rfl ?_
  refine s_aldn (p' := 54) rfl rfl rfl ?_
  refine s_gf (p' := 57) rfl (rd_sn rfl (rd_ss rfl H0)) rfl rfl ?_
  refine c_lret rfl ?_
  refine s_lasz (p' := 8) (m := 0) rfl rfl (rd_sn rfl (rd_sn rfl H412)) (by decide +kernel) rfl rfl rfl ?_
  refine s_goto (p' := 14) rfl rfl ?_
  refine s_con (p' := 15) rfl rfl ?_
  refine k_iret rfl rfl ?_
  refine l_ist (p' := 1538) (ls' := [_, _, _, _, _, _, _, _, _, _]) rfl rfl rfl rfl rfl ?_
  refine l_aldn (p' := 1539) rfl rfl rfl rfl ?_
  refine l_alds (p' := 1540) rfl rfl rfl rfl ?_
  refine l_ild (p' := 1542) rfl rfl rfl rfl ?_
  refine l_con (p' := 1543) rfl rfl rfl ?_
  refine l_bz (p' := 1544) (z := (nI 1)) rfl rfl rfl rfl rfl (by decide +kernel) ?_
  refine l_ialz (p' := 1545) (m := 1) (z := (xs 1)) rfl rfl (by decide +kernel) rfl rfl rfl ?_
  refine l_bz (p' := 1546) (z := (nI 100)) rfl rfl rfl rfl rfl hc ?_
  refine l_call (p' := 1549) (kc := 99) (ls0 := [_, _]) rfl rfl rfl rfl rfl rfl (mj_rcv_is (rd_sn rfl (rd_sn rfl (rd_sn rfl H400)))) rfl rfl rfl ?_
  refine s_aldn (p' := 1) rfl rfl rfl ?_
  refine s_ildn (p' := 2) rfl rfl rfl ?_
  refine c_call (p' := 5) (kc := 98) (ls0 := [_]) rfl rfl rfl rfl rfl rfl rfl rfl rfl ?_
  refine s_ildn (p' := 1) rfl rfl rfl ?_
  refine s_bip (p' := 3) rfl rfl ?_
  refine s_bip (p' := 5) rfl rfl ?_
  refine c_call (p' := 8) (kc := 97) (ls0 := [_, _, _]) rfl rfl rfl rfl rfl rfl rfl rfl rfl ?_
  refine s_ildn (p' := 1) rfl rfl rfl ?_
  refine s_ildn (p' := 2) rfl rfl rfl ?_
  refine s_icmp (p' := 5) false rfl (by decide +kernel) rfl ?_
  refine s_ildn (p' := 6) rfl rfl rfl ?_
  refine s_ildn (p' := 7) rfl rfl rfl ?_
  refine s_icmp (p' := 10) false rfl (by decide +kernel) rfl ?_
  refine s_con (p' := 11) rfl rfl ?_
  refine s_goto (p' := 15) rfl rfl ?_
  refine c_iret rfl (by decide +kernel) ?_
  refine c_iret rfl (by decide +kernel) ?_
  refine s_if (p' := 8) false rfl (by decide +kernel) rfl ?_
  refine s_con (p' := 9) rfl rfl ?_
  refine s_goto (p' := 13) rfl rfl ?_
  refine c_call (p' := 16) (kc := 98) (ls0 := [_, _]) rfl rfl rfl rfl rfl (mj_rcv_is (rd_sn rfl (rd_sn rfl (rd_sn rfl H400)))) rfl rfl rfl ?_
  refine s_aldn (p' := 1) rfl rfl rfl ?_
  refine s_ildn (p' := 2) rfl rfl rfl ?_
  refine s_pfz (p' := 5) (fs' := [_, _, _, _, _, _, _, _, _, _, _]) rfl rfl (rd_sn rfl (rd_sn rfl (rd_sn rfl H400))) rfl rfl rfl rfl ?_
  refine s_ildn (p' := 6) rfl rfl rfl ?_
  refine s_if (p' := 13) true rfl (by decide +kernel) rfl ?_
  refine s_con (p' := 14) rfl rfl ?_
  refine c_iret rfl (by decide +kernel) ?_
  refine s_if (p' := 21) true rfl (by decide +kernel) rfl ?_
  refine s_aldn (p' := 22) rfl rfl rfl ?_
  refine s_dupr (p' := 23) rfl rfl ?_
  refine s_gf (p' := 26) rfl (rd_ss rfl (rd_sn rfl (rd_sn rfl (rd_sn rfl H400)))) rfl rfl ?_
  refine s_aldn (p' := 27) rfl rfl rfl ?_
  refine s_gf (p' := 30) rfl (rd_ss rfl (rd_sn rfl (rd_sn rfl (rd_sn rfl H400)))) rfl rfl ?_
  refine s_gf (p' := 33) rfl (rd_sn rfl (rd_sn rfl (rd_sn rfl (rd_sn rfl H402)))) rfl rfl ?_
  refine s_ildn (p' := 34) rfl rfl rfl ?_
  refine s_bip (p' := 36) rfl rfl ?_
  refine s_bz (p' := 37) (z := (nI 3)) rfl rfl rfl (by decide +kernel) ?_
  refine s_ialz (p' := 38) (m := 3) (v := (nI 0)) rfl (rd_sn rfl (rd_sn rfl (rd_sn rfl (rd_sn rfl H403)))) (by decide +kernel) rfl (by decide +kernel) rfl ?_
  refine c_call (p' := 41) (kc := 98) (ls0 := [_]) rfl rfl rfl rfl rfl rfl rfl rfl rfl ?_
  refine s_ildn (p' := 1) rfl rfl rfl ?_
  refine s_ildn (p' := 2) rfl rfl rfl ?_
  refine s_con (p' := 3) rfl rfl ?_
  refine s_bz (p' := 4) (z := (nI 0)) rfl rfl rfl (by decide +kernel) ?_
  refine s_sh (p' := 7) (ls' := _) (st' := .int (nI 1431655765) :: _) (h' := _) rfl rfl rfl rfl ?_
  refine s_bz (p' := 8) (z := (nI 0)) rfl rfl rfl (by decide +kernel) ?_
  refine s_bz (p' := 9) (z := (nI 0)) rfl rfl rfl (by decide +kernel) ?_
  refine s_istn (p' := 10) (ls' := [_]) rfl rfl rfl rfl ?_
  refine s_ildn (p' := 11) rfl rfl rfl ?_
  refine s_sh (p' := 14) (ls' := _) (st' := .int (nI 858993459) :: _) (h' := _) rfl rfl rfl rfl ?_
  refine s_bz (p' := 15) (z := (nI 0)) rfl rfl rfl (by decide +kernel) ?_
  refine s_ildn (p' := 16) rfl rfl rfl ?_
  refine s_con (p' := 17) rfl rfl ?_
  refine s_bz (p' := 18) (z := (nI 0)) rfl rfl rfl (by decide +kernel) ?_
  refine s_sh (p' := 21) (ls' := _) (st' := .int (nI 858993459) :: _) (h' := _) rfl rfl rfl rfl ?_
  refine s_bz (p' := 22) (z := (nI 0)) rfl rfl rfl (by decide +kernel) ?_
  refine s_bz (p' := 23) (z := (nI 0)) rfl rfl rfl (by decide +kernel) ?_
  refine s_istn (p' := 24) (ls' := [_]) rfl rfl rfl rfl ?_
  refine s_ildn (p' := 25) rfl rfl rfl ?_
  refine s_ildn (p' := 26) rfl rfl rfl ?_
  refine s_con (p' := 27) rfl rfl ?_
  refine s_bz (p' := 28) (z := (nI 0)) rfl rfl rfl (by decide +kernel) ?_
  refine s_bz (p' := 29) (z := (nI 0)) rfl rfl rfl (by decide +kernel) ?_
  refine s_sh (p' := 32) (ls' := _) (st' := .int (nI 252645135) :: _) (h' := _) rfl rfl rfl rfl ?_
  refine s_bz (p' := 33) (z := (nI 0)) rfl rfl rfl (by decide +kernel) ?_
  refine s_istn (p' := 34) (ls' := [_]) rfl rfl rfl rfl ?_
  refine s_ildn (p' := 35) rfl rfl rfl ?_
  refine s_ildn (p' := 36) rfl rfl rfl ?_
  refine s_bip (p' := 38) rfl rfl ?_
  refine s_bz (p' := 39) (z := (nI 0)) rfl rfl rfl (by decide +kernel) ?_
  refine s_bz (p' := 40) (z := (nI 0)) rfl rfl rfl (by decide +kernel) ?_
  refine s_istn (p' := 41) (ls' := [_]) rfl rfl rfl rfl ?_
  refine s_ildn (p' := 42) rfl rfl rfl ?_
  refine s_ildn (p' := 43) rfl rfl rfl ?_
  refine s_bip (p' := 45) rfl rfl ?_
  refine s_bz (p' := 46) (z := (nI 0)) rfl rfl rfl (by decide +kernel) ?_
  refine s_bz (p' := 47) (z := (nI 0)) rfl rfl rfl (by decide +kernel) ?_
  refine s_istn (p' := 48) (ls' := [_]) rfl rfl rfl rfl ?_
  refine s_ildn (p' := 49) rfl rfl rfl ?_
  refine s_bip (p' := 51) rfl rfl ?_
  refine s_bz (p' := 52) (z := (nI 0)) rfl rfl rfl (by decide +kernel) ?_
  refine c_iret rfl rfl ?_
  refine s_bzL (p' := 42) (z := (lN 0)) rfl rfl rfl (by decide +kernel) ?_
  refine s_bzL (p' := 43) (z := (lN 0)) rfl rfl rfl (by decide +kernel) ?_
  refine s_pfz (p' := 46) (fs' := [_, _, _, _, _, _, _, _, _, _, _]) rfl rfl (rd_ss rfl (rd_sn rfl (rd_sn rfl (rd_sn rfl H400)))) rfl rfl rfl rfl ?_
  refine s_aldn (p' := 47) rfl rfl rfl ?_
  refine s_gf (p' := 50) rfl (rd_ss rfl (rd_ss rfl (rd_sn rfl (rd_sn rfl (rd_sn rfl H400))))) rfl rfl ?_
  refine s_gf (p' := 53) rfl (rd_sn rfl (rd_sn rfl (rd_sn rfl (rd_sn rfl (rd_sn rfl H402))))) rfl rfl ?_
  refine s_ildn (p' := 54) rfl rfl rfl ?_
  refine s_bip (p' := 56) rfl rfl ?_
  refine s_bz (p' := 57) (z := (nI 3)) rfl rfl rfl (by decide +kernel) ?_
  refine s_con (p' := 58) rfl rfl ?_
  refine s_iasz (p' := 59) (m := 3) rfl rfl (rd_sn rfl (rd_sn rfl (rd_sn rfl (rd_sn rfl (rd_sn rfl H403))))) (by decide +kernel) rfl rfl rfl ?_
  refine s_aldn (p' := 60) rfl rfl rfl ?_
  refine s_gf (p' := 63) rfl (rd_sn rfl (rd_ss rfl (rd_ss rfl (rd_sn rfl (rd_sn rfl (rd_sn rfl H400)))))) rfl rfl ?_
  refine k_lret rfl ?_
  refine l_sp (p' := 1551) (ls' := [_, _, _, _, _, _, _, _, _, _]) rfl rfl rfl rfl rfl ?_
  refine l_aldn (p' := 1552) rfl rfl rfl rfl ?_
  refine l_call (p' := 1555) (kc := 99) (ls0 := [_]) rfl rfl rfl rfl rfl rfl (mj_rcv_is (rd_sn rfl (rd_ss rfl (rd_ss rfl (rd_sn rfl (rd_sn rfl (rd_sn rfl H400))))))) rfl rfl rfl ?_
  refine s_aldn (p' := 1) rfl rfl rfl ?_
  refine s_gf (p' := 4) rfl (rd_sn rfl (rd_ss rfl (rd_ss rfl (rd_sn rfl (rd_sn rfl (rd_sn rfl H400)))))) rfl rfl ?_
  refine k_iret rfl rfl ?_
  refine l_ild (p' := 1557) rfl rfl rfl rfl ?_
  refine l_icmp (p' := 1562) true rfl rfl (by decide +kernel) rfl ?_
  refine l_ild (p' := 1564) rfl rfl rfl rfl ?_
  refine l_if (p' := 1567) false rfl rfl (by decide +kernel) rfl ?_
  refine l_aldn (p' := 1568) rfl rfl rfl rfl ?_
  refine l_con (p' := 1569) rfl rfl rfl ?_
  refine l_lalz (p' := 1570) (m := 0) (v := (lN 0)) rfl rfl (rd_sn rfl (rd_sn rfl (rd_sn rfl (rd_ss rfl (rd_sn rfl (rd_sn rfl H412)))))) (by decide +kernel) rfl (by decide +kernel) rfl ?_
  refine l_sp (p' := 1572) (ls' := _) rfl rfl rfl rfl rfl ?_
  refine l_bz (p' := 1573) (z := (nI 0)) rfl rfl rfl rfl rfl (by decide +kernel) ?_
  refine l_if (p' := 1578) true rfl rfl (by decide +kernel) rfl ?_
  refine l_goto (p' := 2541) rfl rfl rfl ?_
  refine l_incz (p' := 2544) (w := (nI 4)) (ls' := [_, _, _, _, _, _, _, _, _, _]) rfl rfl rfl rfl (by decide +kernel) rfl rfl ?_
  refine l_goto (p' := 28) rfl rfl rfl ?_
  refine l_ild (p' := 30) rfl rfl rfl rfl ?_
  refine l_alds (p' := 31) rfl rfl rfl rfl ?_
  refine l_lens (p' := 32) rfl rfl rfl ?_
  refine l_con (p' := 33) rfl rfl rfl ?_
  refine l_bz (p' := 34) (z := (nI 0)) rfl rfl rfl rfl rfl (by decide +kernel) ?_
  refine l_icmp (p' := 2547) true rfl rfl (by decide +kernel) rfl ?_
  refine l_con (p' := 2548) rfl rfl rfl ?_
  refine l_end rfl rfl ?_
  exact ⟨Nat.le_trans (Nat.le_of_eq (len_s (len_s (len_s (len_s (len_s (len_s HL))))))) (Nat.le_of_ble_eq_true rfl), Nat.le_trans (sz_sA rfl (rd_sn rfl (rd_sn rfl (rd_sn rfl (rd_sn rfl (rd_sn rfl H403))))) (sz_s rfl (rd_ss rfl (rd_sn rfl (rd_sn rfl (rd_sn rfl H400)))) rfl (sz_s rfl (rd_sn rfl (rd_sn rfl (rd_sn rfl H400))) rfl (sz_sA rfl (rd_sn rfl (rd_sn rfl H412)) (sz_sA rfl (rd_sn rfl H376) (sz_s rfl H0 rfl HZ)))))) (Nat.le_of_ble_eq_true rfl)⟩
theorem p1_24_4 {xs : Nat → Int32} {h : mj_H} (hk : xs 0 &&& nI 63 = nI 24)  (hc : ((xs 1).toUInt32 % 65536).toInt32 = nI 101) (HL : h.length = 414) (HZ : mj_sz h ≤ 20000) (H0 : mj_rd h 0 = some (.inr (0, [.ref 1, .ref 38, .ref 299, .ref 336, .ref 373, .ref 375, .ref 378, .ref 381, .ref 387, .ref 393, .null, .null, .ref 397, .ref 398, .ref 399, .long (lN 0), .long (lN 0)]))) (H375 : mj_rd h 375 = some (.inr (7, [.ref 376, .ref 377, .int (nI 0)]))) (H376 : mj_rd h 376 = some (.inl (0, (8, .inl (fun _ => 0))))) (H400 : mj_rd h 400 = some (.inr (17, [.int (nI 0), .ref 401, .ref 402, .ref 1000300, .long (lN 0), .long (lN 0), .ref 410, .null, .null, .null, .ref 411]))) (H402 : mj_rd h 402 = some (.inr (19, [.ref 403, .ref 404, .ref 405, .ref 406, .ref 407, .ref 408, .ref 409, .int (nI 0), .int (nI 4294967295), .int (nI 0), .ref 400]))) (H403 : mj_rd h 403 = some (.inl (0, (8, .inl (fun _ => 0))))) (H412 : mj_rd h 412 = some (.inl (4, (1, .inr (.inl (fun _ => 0)))))) : mj_fin 4 xs h := by
  unfold mj_fin
  refine l_ild (p' := 30) rfl rfl rfl rfl ?_
  refine l_alds (p' := 31) rfl rfl rfl rfl ?_
  refine l_lens (p' := 32) rfl rfl rfl ?_
  refine l_con (p' := 33) rfl rfl rfl ?_
  refine l_bz (p' := 34) (z := (nI 0)) rfl rfl rfl rfl rfl (by decide +kernel) ?_
  refine l_icmp (p' := 37) false rfl rfl (by decide +kernel) rfl ?_
  refine l_alds (p' := 38) rfl rfl rfl rfl ?_
  refine l_ild (p' := 40) rfl rfl rfl rfl ?_
  refine l_ialz (p' := 41) (m := 0) (z := (xs 0)) rfl rfl (by decide +kernel) rfl rfl rfl ?_
  refine l_bip (p' := 43) rfl rfl rfl ?_
  refine l_bz (p' := 44) (z := (nI 24)) rfl rfl rfl rfl rfl hk ?_
  refine l_sp (p' := 1524) (ls' := _) rfl rfl rfl rfl rfl ?_
  refine l_aldn (p' := 1525) rfl rfl rfl rfl ?_
  refine l_alds (p' := 1526) rfl rfl rfl rfl ?_
  refine l_ild (p' := 1528) rfl rfl rfl rfl ?_
  refine l_con (p' := 1529) rfl rfl rfl ?_
  refine l_bz (p' := 1530) (z := (nI 1)) rfl rfl rfl rfl rfl (by decide +kernel) ?_
  refine l_ialz (p' := 1531) (m := 1) (z := (xs 1)) rfl rfl (by decide +kernel) rfl rfl rfl ?_
  refine l_bz (p' := 1532) (z := (nI 101)) rfl rfl rfl rfl rfl hc ?_
  refine l_aldn (p' := 1533) rfl rfl rfl rfl ?_
  refine l_call (p' := 1536) (kc := 99) (ls0 := [_, _, _, _]) rfl rfl rfl rfl rfl rfl rfl rfl rfl rfl ?_
  refine s_aldn (p' := 1) rfl rfl rfl ?_
  refine s_con (p' := 2) rfl rfl ?_
  refine s_aldn (p' := 3) rfl rfl rfl ?_
  refine s_ildn (p' := 4) rfl rfl rfl ?_
  refine c_call (p' := 7) (kc := 98) (ls0 := [_, _]) rfl rfl rfl rfl rfl (mj_rcv_is H0) rfl rfl rfl ?_
  refine s_ildn (p' := 1) rfl rfl rfl ?_
  refine c_call (p' := 4) (kc := 97) (ls0 := [_]) rfl rfl rfl rfl rfl rfl rfl rfl rfl ?_
  refine s_ildn (p' := 1) rfl rfl rfl ?_
  refine s_bip (p' := 3) rfl rfl ?_
  refine s_icmp (p' := 6) false rfl (by decide +kernel) rfl ?_
  refine s_ildn (p' := 7) rfl rfl rfl ?_
  refine s_bip (p' := 9) rfl rfl ?_
  refine s_icmp (p' := 12) false rfl (by decide +kernel) rfl ?_
  refine s_con (p' := 13) rfl rfl ?_
  refine s_goto (p' := 17) rfl rfl ?_
  refine c_iret rfl (by decide +kernel) ?_
  refine s_if (p' := 17) true rfl (by decide +kernel) rfl ?_
  refine s_aldn (p' := 18) rfl rfl rfl ?_
  refine s_dupr (p' := 19) rfl rfl ?_
  refine s_gf (p' := 22) rfl H0 rfl rfl ?_
  refine s_aldn (p' := 23) rfl rfl rfl ?_
  refine s_gf (p' := 26) rfl H0 rfl rfl ?_
  refine s_ildn (p' := 27) rfl rfl rfl ?_
  refine s_bip (p' := 29) rfl rfl ?_
  refine s_bz (p' := 30) (z := (nI 4)) rfl rfl rfl (by decide +kernel) ?_
  refine c_call (p' := 33) (kc := 97) (ls0 := [_, _]) rfl rfl rfl rfl rfl (mj_rcv_is H375) rfl rfl rfl ?_
  refine s_ildn (p' := 1) rfl rfl rfl ?_
  refine s_if (p' := 4) false rfl (by decide +kernel) rfl ?_
  refine s_ildn (p' := 5) rfl rfl rfl ?_
  refine s_aldn (p' := 6) rfl rfl rfl ?_
  refine s_gf (p' := 9) rfl H375 rfl rfl ?_
  refine s_lenz (p' := 10) rfl (mj_rdA_is H376 (by decide)) rfl rfl ?_
  refine s_icmp (p' := 13) false rfl (by decide +kernel) rfl ?_
  refine s_aldn (p' := 14) rfl rfl rfl ?_
  refine s_gf (p' := 17) rfl H375 rfl rfl ?_
  refine s_ildn (p' := 18) rfl rfl rfl ?_
  refine s_ialz (p' := 19) (m := 4) (v := (nI 0)) rfl H376 (by decide +kernel) rfl (by decide +kernel) rfl ?_
  refine s_goto (p' := 23) rfl rfl ?_
  refine c_iret rfl rfl ?_
  refine c_call (p' := 36) (kc := 97) (ls0 := [_]) rfl rfl rfl rfl rfl rfl rfl rfl rfl ?_
  refine s_ildn (p' := 1) rfl rfl rfl ?_
  refine s_ildn (p' := 2) rfl rfl rfl ?_
  refine s_con (p' := 3) rfl rfl ?_
  refine s_bz (p' := 4) (z := (nI 0)) rfl rfl rfl (by decide +kernel) ?_
  refine s_sh (p' := 7) (ls' := _) (st' := .int (nI 1431655765) :: _) (h' := _) rfl rfl rfl rfl ?_
  refine s_bz (p' := 8) (z := (nI 0)) rfl rfl rfl (by decide +kernel) ?_
  refine s_bz (p' := 9) (z := (nI 0)) rfl rfl rfl (by decide +kernel) ?_
  refine s_istn (p' := 10) (ls' := [_]) rfl rfl rfl rfl ?_
  refine s_ildn (p' := 11) rfl rfl rfl ?_
  refine s_sh (p' := 14) (ls' := _) (st' := .int (nI 858993459) :: _) (h' := _) rfl rfl rfl rfl ?_
  refine s_bz (p' := 15) (z := (nI 0)) rfl rfl rfl (by decide +kernel) ?_
  refine s_ildn (p' := 16) rfl rfl rfl ?_
  refine s_con (p' := 17) rfl rfl ?_
  refine s_bz (p' := 18) (z := (nI 0)) rfl rfl rfl (by decide +kernel) ?_
  refine s_sh (p' := 21) (ls' := _) (st' := .int (nI 858993459) :: _) (h' := _) rfl rfl rfl rfl ?_
  refine s_bz (p' := 22) (z := (nI 0)) rfl rfl rfl (by decide +kernel) ?_
  refine s_bz (p' := 23) (z := (nI 0)) rfl rfl rfl (by decide +kernel) ?_
  refine s_istn (p' := 24) (ls' := [_]) rfl rfl rfl rfl ?_
  refine s_ildn (p' := 25) rfl rfl rfl ?_
  refine s_ildn (p' := 26) rfl rfl rfl ?_
  refine s_con (p' := 27) rfl rfl ?_
  refine s_bz (p' := 28) (z := (nI 0)) rfl rfl rfl (by decide +kernel) ?_
  refine s_bz (p' := 29) (z := (nI 0)) rfl rfl rfl (by decide +kernel) ?_
  refine s_sh (p' := 32) (ls' := _) (st' := .int (nI 252645135) :: _) (h' := _) rfl rfl rfl rfl ?_
  refine s_bz (p' := 33) (z := (nI 0)) rfl rfl rfl (by decide +kernel) ?_
  refine s_istn (p' := 34) (ls' := [_]) rfl rfl rfl rfl ?_
  refine s_ildn (p' := 35) rfl rfl rfl ?_
  refine s_ildn (p' := 36) rfl rfl rfl ?_
  refine s_bip (p' := 38) rfl rfl ?_
  refine s_bz (p' := 39) (z := (nI 0)) rfl rfl rfl (by decide +kernel) ?_
  refine s_bz (p' := 40) (z := (nI 0)) rfl rfl rfl (by decide +kernel) ?_
  refine s_istn (p' := 41) (ls' := [_]) rfl rfl rfl rfl ?_
  refine s_ildn (p' := 42) rfl rfl rfl ?_
  refine s_ildn (p' := 43) rfl rfl rfl ?_
  refine s_bip (p' := 45) rfl rfl ?_
  refine s_bz (p' := 46) (z := (nI 0)) rfl rfl rfl (by decide +kernel) ?_
  refine s_bz (p' := 47) (z := (nI 0)) rfl rfl rfl (by decide +kernel) ?_
  refine s_istn (p' := 48) (ls' := [_]) rfl rfl rfl rfl ?_
  refine s_ildn (p' := 49) rfl rfl rfl ?_
  refine s_bip (p' := 51) rfl rfl ?_
  refine s_bz (p' := 52) (z := (nI 0)) rfl rfl rfl (by decide +kernel) ?_
  refine c_iret rfl rfl ?_
  refine s_bzL (p' := 37) (z := (lN 0)) rfl rfl rfl (by decide +kernel) ?_
  refine s_bzL (p' := 38) (z := (lN 0)) rfl rfl rfl (by decide +kernel) ?_
  refine s_pfz (p' := 41) (fs' := [_, _, _, _, _, _, _, _, _, _, _, _, _, _, _, _, _]) rfl rfl H0 rfl rfl rfl rfl ?_
  refine s_aldn (p' := 42) rfl rfl rfl ?_
  refine s_gf (p' := 45) rfl (rd_ss rfl H0) rfl rfl ?_
  refine s_ildn (p' := 46) rfl rfl rfl ?_
  refine s_bip (p' := 48) rfl rfl ?_
  refine s_bz (p' := 49) (z := (nI 4)) rfl rfl rfl (by decide +kernel) ?_
  refine s_con (p' := 50) rfl rfl ?_
  refine c_call (p' := 53) (kc := 97) (ls0 := [_, _, _]) rfl rfl rfl rfl rfl (mj_rcv_is (rd_sn rfl H375)) rfl rfl rfl ?_
  refine s_ildn (p' := 1) rfl rfl rfl ?_
  refine s_if (p' := 4) false rfl (by decide +kernel) rfl ?_
  refine s_ildn (p' := 5) rfl rfl rfl ?_
  refine s_aldn (p' := 6) rfl rfl rfl ?_
  refine s_gf (p' := 9) rfl (rd_sn rfl H375) rfl rfl ?_
  refine s_lenz (p' := 10) rfl (mj_rdA_is (rd_sn rfl H376) (by decide)) rfl rfl ?_
  refine s_icmp (p' := 13) false rfl (by decide +kernel) rfl ?_
  refine s_aldn (p' := 14) rfl rfl rfl ?_
  refine s_gf (p' := 17) rfl (rd_sn rfl H375) rfl rfl ?_
  refine s_ildn (p' := 18) rfl rfl rfl ?_
  refine s_ildn (p' := 19) rfl rfl rfl ?_
  refine s_iasz (p' := 20) (m := 4) rfl rfl (rd_sn rfl H376) (by decide +kernel) rfl rfl rfl ?_
  refine c_ret rfl ?_
  refine s_aldn (p' := 54) rfl rfl rfl ?_
  refine s_gf (p' := 57) rfl (rd_sn rfl (rd_ss rfl H0)) rfl rfl ?_
  refine c_lret rfl ?_
  refine s_lasz (p' := 8) (m := 0) rfl rfl (rd_sn rfl (rd_sn rfl H412)) (by decide +kernel) rfl rfl rfl ?_
  refine s_goto (p' := 14) rfl rfl ?_
  refine s_con (p' := 15) rfl rfl ?_
  refine k_iret rfl rfl ?_
  refine l_ist (p' := 1538) (ls' := [_, _, _, _, _, _, _, _, _, _]) rfl rfl rfl rfl rfl ?_
  refine l_aldn (p' := 1539) rfl rfl rfl rfl ?_
  refine l_alds (p' := 1540) rfl rfl rfl rfl ?_
  refine l_ild (p' := 1542) rfl rfl rfl rfl ?_
  refine l_con (p' := 1543) rfl rfl rfl ?_
  refine l_bz (p' := 1544) (z := (nI 1)) rfl rfl rfl rfl rfl (by decide +kernel) ?_
  refine l_ialz (p' := 1545) (m := 1) (z := (xs 1)) rfl rfl (by decide +kernel) rfl rfl rfl ?_
  refine l_bz (p' := 1546) (z := (nI 101)) rfl rfl rfl rfl rfl hc ?_
  refine l_call (p' := 1549) (kc := 99) (ls0 := [_, _]) rfl rfl rfl rfl rfl rfl (mj_rcv_is (rd_sn rfl (rd_sn rfl (rd_sn rfl H400)))) rfl rfl rfl ?_
  refine s_aldn (p' := 1) rfl rfl rfl ?_
  refine s_ildn (p' := 2) rfl rfl rfl ?_
  refine c_call (p' := 5) (kc := 98) (ls0 := [_]) rfl rfl rfl rfl rfl rfl rfl rfl rfl ?_
  refine s_ildn (p' := 1) rfl rfl rfl ?_
  refine s_bip (p' := 3) rfl rfl ?_
  refine s_bip (p' := 5) rfl rfl ?_
  refine c_call (p' := 8) (kc := 97) (ls0 := [_, _, _]) rfl rfl rfl rfl rfl rfl rfl rfl rfl ?_
  refine s_ildn (p' := 1) rfl rfl rfl ?_
  refine s_ildn (p' := 2) rfl rfl rfl ?_
  refine s_icmp (p' := 5) false rfl (by decide +kernel) rfl ?_
  refine s_ildn (p' := 6) rfl rfl rfl ?_
  refine s_ildn (p' := 7) rfl rfl rfl ?_
  refine s_icmp (p' := 10) false rfl (by decide +kernel) rfl ?_
  refine s_con (p' := 11) rfl rfl ?_
  refine s_goto (p' := 15) rfl rfl ?_
  refine c_iret rfl (by decide +kernel) ?_
  refine c_iret rfl (by decide +kernel) ?_
  refine s_if (p' := 8) false rfl (by decide +kernel) rfl ?_
  refine s_con (p' := 9) rfl rfl ?_
  refine s_goto (p' := 13) rfl rfl ?_
  refine c_call (p' := 16) (kc := 98) (ls0 := [_, _]) rfl rfl rfl rfl rfl (mj_rcv_is (rd_sn rfl (rd_sn rfl (rd_sn rfl H400)))) rfl rfl rfl ?_
  refine s_aldn (p' := 1) rfl rfl rfl ?_
  refine s_ildn (p' := 2) rfl rfl rfl ?_
  refine s_pfz (p' := 5) (fs' := [_, _, _, _, _, _, _, _, _, _, _]) rfl rfl (rd_sn rfl (rd_sn rfl (rd_sn rfl H400))) rfl rfl rfl rfl ?_
  refine s_ildn (p' := 6) rfl rfl rfl ?_
  refine s_if (p' := 13) true rfl (by decide +kernel) rfl ?_
  refine s_con (p' := 14) rfl rfl ?_
  refine c_iret rfl (by decide +kernel) ?_
  refine s_if (p' := 21) true rfl (by decide +kernel) rfl ?_
  refine s_aldn (p' := 22) rfl rfl rfl ?_
  refine s_dupr (p' := 23) rfl rfl ?_
  refine s_gf (p' := 26) rfl (rd_ss rfl (rd_sn rfl (rd_sn rfl (rd_sn rfl H400)))) rfl rfl ?_
  refine s_aldn (p' := 27) rfl rfl rfl ?_
  refine s_gf (p' := 30) rfl (rd_ss rfl (rd_sn rfl (rd_sn rfl (rd_sn rfl H400)))) rfl rfl ?_
  refine s_gf (p' := 33) rfl (rd_sn rfl (rd_sn rfl (rd_sn rfl (rd_sn rfl H402)))) rfl rfl ?_
  refine s_ildn (p' := 34) rfl rfl rfl ?_
  refine s_bip (p' := 36) rfl rfl ?_
  refine s_bz (p' := 37) (z := (nI 4)) rfl rfl rfl (by decide +kernel) ?_
  refine s_ialz (p' := 38) (m := 4) (v := (nI 0)) rfl (rd_sn rfl (rd_sn rfl (rd_sn rfl (rd_sn rfl H403)))) (by decide +kernel) rfl (by decide +kernel) rfl ?_
  refine c_call (p' := 41) (kc := 98) (ls0 := [_]) rfl rfl rfl rfl rfl rfl rfl rfl rfl ?_
  refine s_ildn (p' := 1) rfl rfl rfl ?_
  refine s_ildn (p' := 2) rfl rfl rfl ?_
  refine s_con (p' := 3) rfl rfl ?_
  refine s_bz (p' := 4) (z := (nI 0)) rfl rfl rfl (by decide +kernel) ?_
  refine s_sh (p' := 7) (ls' := _) (st' := .int (nI 1431655765) :: _) (h' := _) rfl rfl rfl rfl ?_
  refine s_bz (p' := 8) (z := (nI 0)) rfl rfl rfl (by decide +kernel) ?_
  refine s_bz (p' := 9) (z := (nI 0)) rfl rfl rfl (by decide +kernel) ?_
  refine s_istn (p' := 10) (ls' := [_]) rfl rfl rfl rfl ?_
  refine s_ildn (p' := 11) rfl rfl rfl ?_
  refine s_sh (p' := 14) (ls' := _) (st' := .int (nI 858993459) :: _) (h' := _) rfl rfl rfl rfl ?_
  refine s_bz (p' := 15) (z := (nI 0)) rfl rfl rfl (by decide +kernel) ?_
  refine s_ildn (p' := 16) rfl rfl rfl ?_
  refine s_con (p' := 17) rfl rfl ?_
  refine s_bz (p' := 18) (z := (nI 0)) rfl rfl rfl (by decide +kernel) ?_
  refine s_sh (p' := 21) (ls' := _) (st' := .int (nI 858993459) :: _) (h' := _) rfl rfl rfl rfl ?_
  refine s_bz (p' := 22) (z := (nI 0)) rfl rfl rfl (by decide +kernel) ?_
  refine s_bz (p' := 23) (z := (nI 0)) rfl rfl rfl (by decide +kernel) ?_
  refine s_istn (p' := 24) (ls' := [_]) rfl rfl rfl rfl ?_
  refine s_ildn (p' := 25) rfl rfl rfl ?_
  refine s_ildn (p' := 26) rfl rfl rfl ?_
  refine s_con (p' := 27) rfl rfl ?_
  refine s_bz (p' := 28) (z := (nI 0)) rfl rfl rfl (by decide +kernel) ?_
  refine s_bz (p' := 29) (z := (nI 0)) rfl rfl rfl (by decide +kernel) ?_
  refine s_sh (p' := 32) (ls' := _) (st' := .int (nI 252645135) :: _) (h' := _) rfl rfl rfl rfl ?_
  refine s_bz (p' := 33) (z := (nI 0)) rfl rfl rfl (by decide +kernel) ?_
  refine s_istn (p' := 34) (ls' := [_]) rfl rfl rfl rfl ?_
  refine s_ildn (p' := 35) rfl rfl rfl ?_
  refine s_ildn (p' := 36) rfl rfl rfl ?_
  refine s_bip (p' := 38) rfl rfl ?_
  refine s_bz (p' := 39) (z := (nI 0)) rfl rfl rfl (by decide +kernel) ?_
  refine s_bz (p' := 40) (z := (nI 0)) rfl rfl rfl (by decide +kernel) ?_
  refine s_istn (p' := 41) (ls' := [_]) rfl rfl rfl rfl ?_
  refine s_ildn (p' := 42) rfl rfl rfl ?_
  refine s_ildn (p' := 43) rfl rfl rfl ?_
  refine s_bip (p' := 45) rfl rfl ?_
  refine s_bz (p' := 46) (z := (nI 0)) rfl rfl rfl (by decide +kernel) ?_
  refine s_bz (p' := 47) (z := (nI 0)) rfl rfl rfl (by decide +kernel) ?_
  refine s_istn (p' := 48) (ls' := [_]) rfl rfl rfl rfl ?_
  refine s_ildn (p' := 49) rfl rfl rfl ?_
  refine s_bip (p' := 51) rfl rfl ?_
  refine s_bz (p' := 52) (z := (nI 0)) rfl rfl rfl (by decide +kernel) ?_
  refine c_iret rfl rfl ?_
  refine s_bzL (p' := 42) (z := (lN 0)) rfl rfl rfl (by decide +kernel) ?_
  refine s_bzL (p' := 43) (z := (lN 0)) rfl rfl rfl (by decide +kernel) ?_
  refine s_pfz (p' := 46) (fs' := [_, _, _, _, _, _, _, _, _, _, _]) rfl rfl (rd_ss rfl (rd_sn rfl (rd_sn rfl (rd_sn rfl H400)))) rfl rfl rfl rfl ?_
  refine s_aldn (p' := 47) rfl rfl rfl ?_
  refine s_gf (p' := 50) rfl (rd_ss rfl (rd_ss rfl (rd_sn rfl (rd_sn rfl (rd_sn rfl H400))))) rfl rfl ?_
  refine s_gf (p' := 53) rfl (rd_sn rfl (rd_sn rfl (rd_sn rfl (rd_sn rfl (rd_sn rfl H402))))) rfl rfl ?_
  refine s_ildn (p' := 54) rfl rfl rfl ?_
  refine s_bip (p' := 56) rfl rfl ?_
  refine s_bz (p' := 57) (z := (nI 4)) rfl rfl rfl (by decide +kernel) ?_
  refine s_con (p' := 58) rfl rfl ?_
  refine s_iasz (p' := 59) (m := 4) rfl rfl (rd_sn rfl (rd_sn rfl (rd_sn rfl (rd_sn rfl (rd_sn rfl H403))))) (by decide +kernel) rfl rfl rfl ?_
  refine s_aldn (p' := 60) rfl rfl rfl ?_
  refine s_gf (p' := 63) rfl (rd_sn rfl (rd_ss rfl (rd_ss rfl (rd_sn rfl (rd_sn rfl (rd_sn rfl H400)))))) rfl rfl ?_
  refine k_lret rfl ?_
  refine l_sp (p' := 1551) (ls' := [_, _, _, _, _, _, _, _, _, _]) rfl rfl rfl rfl rfl ?_
  refine l_aldn (p' := 1552) rfl rfl rfl rfl ?_
  refine l_call (p' := 1555) (kc := 99) (ls0 := [_]) rfl rfl rfl rfl rfl rfl (mj_rcv_is (rd_sn rfl (rd_ss rfl (rd_ss rfl (rd_sn rfl (rd_sn rfl (rd_sn rfl H400))))))) rfl rfl rfl ?_
  refine s_aldn (p' := 1) rfl rfl rfl ?_
  refine s_gf (p' := 4) rfl (rd_sn rfl (rd_ss rfl (rd_ss rfl (rd_sn rfl (rd_sn rfl (rd_sn rfl H400)))))) rfl rfl ?_
  refine k_iret rfl rfl ?_
  refine l_ild (p' := 1557) rfl rfl rfl rfl ?_
  refine l_icmp (p' := 1562) true rfl rfl (by decide +kernel) rfl ?_
  refine l_ild (p' := 1564) rfl rfl rfl rfl ?_
  refine l_if (p' := 1567) false rfl rfl (by decide +kernel) rfl ?_
  refine l_aldn (p' := 1568) rfl rfl rfl rfl ?_
  refine l_con (p' := 1569) rfl rfl rfl ?_
  refine l_lalz (p' := 1570) (m := 0) (v := (lN 0)) rfl rfl (rd_sn rfl (rd_sn rfl (rd_sn rfl (rd_ss rfl (rd_sn rfl (rd_sn rfl H412)))))) (by decide +kernel) rfl (by decide +kernel) rfl ?_
  refine l_sp (p' := 1572) (ls' := _) rfl rfl rfl rfl rfl ?_
  refine l_bz (p' := 1573) (z := (nI 0)) rfl rfl rfl rfl rfl (by decide +kernel) ?_
  refine l_if (p' := 1578) true rfl rfl (by decide +kernel) rfl ?_
  refine l_goto (p' := 2541) rfl rfl rfl ?_
  refine l_incz (p' := 2544) (w := (nI 4)) (ls' := [_, _, _, _, _, _, _, _, _, _]) rfl rfl rfl rfl (by decide +kernel) rfl rfl ?_
  refine l_goto (p' := 28) rfl rfl rfl ?_
  refine l_ild (p' := 30) rfl rfl rfl rfl ?_
  refine l_alds (p' := 31) rfl rfl rfl rfl ?_
  refine l_lens (p' := 32) rfl rfl rfl ?_
  refine l_con (p' := 33) rfl rfl rfl ?_
  refine l_bz (p' := 34) (z := (nI 0)) rfl rfl rfl rfl rfl (by decide +kernel) ?_
  refine l_icmp (p' := 2547) true rfl rfl (by decide +kernel) rfl ?_
  refine l_con (p' := 2548) rfl rfl rfl ?_
  refine l_end rfl rfl ?_
  exact ⟨Nat.le_trans (Nat.le_of_eq (len_s (len_s (len_s (len_s (len_s (len_s HL))))))) (Nat.le_of_ble_eq_true rfl), Nat.le_trans (sz_sA rfl (rd_sn rfl (rd_sn rfl (rd_sn rfl (rd_sn rfl (rd_sn rfl H403))))) (sz_s rfl (rd_ss rfl (rd_sn rfl (rd_sn rfl (rd_sn rfl H400)))) rfl (sz_s rfl (rd_sn rfl (rd_sn rfl (rd_sn rfl H400))) rfl (sz_sA rfl (rd_sn rfl (rd_sn rfl H412)) (sz_sA rfl (rd_sn rfl H376) (sz_s rfl H0 rfl HZ)))))) (Nat.le_of_ble_eq_true rfl)⟩
theorem p1_24_5 {xs : Nat → Int32} {h : mj_H} (hk : xs 0 &&& nI 63 = nI 24)  (hc : ((xs 1).toUInt32 % 65536).toInt32 = nI 102) (HL : h.length = 414) (HZ : mj_sz h ≤ 20000) (H0 : mj_rd h 0 = some (.inr (0, [.ref 1, .ref 38, .ref 299, .ref 336, .ref 373, .ref 375, .ref 378, .ref 381, .ref 387, .ref 393, .null, .null, .ref 397, .ref 398, .ref 399, .long (lN 0), .long (lN 0)]))) (H375 : mj_rd h 375 = some (.inr (7, [.ref 376, .ref 377, .int (nI 0)]))) (H376 : mj_rd h 376 = some (.inl (0, (8, .inl (fun _ => 0))))) (H400 : mj_rd h 400 = some (.inr (17, [.int (nI 0), .ref 401, .ref 402, .ref 1000300, .long (lN 0), .long (lN 0), .ref 410, .null, .null, .null, .ref 411]))) (H402 : mj_rd h 402 = some (.inr (19, [.ref 403, .ref 404, .ref 405, .ref 406, .ref 407, .ref 408, .ref 409, .int (nI 0), .int (nI 4294967295), .int (nI 0), .ref 400]))) (H403 : mj_rd h 403 = some (.inl (0, (8, .inl (fun _ => 0))))) (H412 : mj_rd h 412 = some (.inl (4, (1, .inr (.inl (fun _ => 0)))))) : mj_fin 4 xs h := by
  unfold mj_fin
  refine l_ild (p' := 30) rfl rfl rfl rfl ?_
  refine l_alds (p' := 31) rfl rfl rfl rfl ?_
  refine l_lens (p' := 32) rfl rfl rfl ?_
  refine l_con (p' := 33) rfl rfl rfl ?_
  refine l_bz (p' := 34) (z := (nI 0)) rfl rfl rfl rfl rfl (by decide +kernel) ?_
  refine l_icmp (p' := 37) false rfl rfl (by decide +kernel) rfl ?_
  refine l_alds (p' := 38) rfl rfl rfl rfl ?_
  refine l_ild (p' := 40) rfl rfl rfl rfl ?_
  refine l_ialz (p' := 41) (m := 0) (z := (xs 0)) rfl rfl (by decide +kernel) rfl rfl rfl ?_
  refine l_bip (p' := 43) rfl rfl rfl ?_
  refine l_bz (p' := 44) (z := (nI 24)) rfl rfl rfl rfl rfl hk ?_
  refine l_sp (p' := 1524) (ls' := _) rfl rfl rfl rfl rfl ?_
  refine l_aldn (p' := 1525) rfl rfl rfl rfl ?_
  refine l_alds (p' := 1526) rfl rfl rfl rfl ?_
  refine l_ild (p' := 1528) rfl rfl rfl rfl ?_
  refine l_con (p' := 1529) rfl rfl rfl ?_
  refine l_bz (p' := 1530) (z := (nI 1)) rfl rfl rfl rfl rfl (by decide +kernel) ?_
  refine l_ialz (p' := 1531) (m := 1) (z := (xs 1)) rfl rfl (by decide +kernel) rfl rfl rfl ?_
  refine l_bz (p' := 1532) (z := (nI 102)) rfl rfl rfl rfl rfl hc ?_
  refine l_aldn (p' := 1533) rfl rfl rfl rfl ?_
  refine l_call (p' := 1536) (kc := 99) (ls0 := [_, _, _, _]) rfl rfl rfl rfl rfl rfl rfl rfl rfl rfl ?_
  refine s_aldn (p' := 1) rfl rfl rfl ?_
  refine s_con (p' := 2) rfl rfl ?_
  refine s_aldn (p' := 3) rfl rfl rfl ?_
  refine s_ildn (p' := 4) rfl rfl rfl ?_
  refine c_call (p' := 7) (kc := 98) (ls0 := [_, _]) rfl rfl rfl rfl rfl (mj_rcv_is H0) rfl rfl rfl ?_
  refine s_ildn (p' := 1) rfl rfl rfl ?_
  refine c_call (p' := 4) (kc := 97) (ls0 := [_]) rfl rfl rfl rfl rfl rfl rfl rfl rfl ?_
  refine s_ildn (p' := 1) rfl rfl rfl ?_
  refine s_bip (p' := 3) rfl rfl ?_
  refine s_icmp (p' := 6) false rfl (by decide +kernel) rfl ?_
  refine s_ildn (p' := 7) rfl rfl rfl ?_
  refine s_bip (p' := 9) rfl rfl ?_
  refine s_icmp (p' := 12) false rfl (by decide +kernel) rfl ?_
  refine s_con (p' := 13) rfl rfl ?_
  refine s_goto (p' := 17) rfl rfl ?_
  refine c_iret rfl (by decide +kernel) ?_
  refine s_if (p' := 17) true rfl (by decide +kernel) rfl ?_
  refine s_aldn (p' := 18) rfl rfl rfl ?_
  refine s_dupr (p' := 19) rfl rfl ?_
  refine s_gf (p' := 22) rfl H0 rfl rfl ?_
  refine s_aldn (p' := 23) rfl rfl rfl ?_
  refine s_gf (p' := 26) rfl H0 rfl rfl ?_
  refine s_ildn (p' := 27) rfl rfl rfl ?_
  refine s_bip (p' := 29) rfl rfl ?_
  refine s_bz (p' := 30) (z := (nI 5)) rfl rfl rfl (by decide +kernel) ?_
  refine c_call (p' := 33) (kc := 97) (ls0 := [_, _]) rfl rfl rfl rfl rfl (mj_rcv_is H375) rfl rfl rfl ?_
  refine s_ildn (p' := 1) rfl rfl rfl ?_
  refine s_if (p' := 4) false rfl (by decide +kernel) rfl ?_
  refine s_ildn (p' := 5) rfl rfl rfl ?_
  refine s_aldn (p' := 6) rfl rfl rfl ?_
  refine s_gf (p' := 9) rfl H375 rfl rfl ?_
  refine s_lenz (p' := 10) rfl (mj_rdA_is H376 (by decide)) rfl rfl ?_
  refine s_icmp (p' := 13) false rfl (by decide +kernel) rfl ?_
  refine s_aldn (p' := 14) rfl rfl rfl ?_
  refine s_gf (p' := 17) rfl H375 rfl rfl ?_
  refine s_ildn (p' := 18) rfl rfl rfl ?_
  refine s_ialz (p' := 19) (m := 5) (v := (nI 0)) rfl H376 (by decide +kernel) rfl (by decide +kernel) rfl ?_
  refine s_goto (p' := 23) rfl rfl ?_
  refine c_iret rfl rfl ?_
  refine c_call (p' := 36) (kc := 97) (ls0 := [_]) rfl rfl rfl rfl rfl rfl rfl rfl rfl ?_
  refine s_ildn (p' := 1) rfl rfl rfl ?_
  refine s_ildn (p' := 2) rfl rfl rfl ?_
  refine s_con (p' := 3) rfl rfl ?_
  refine s_bz (p' := 4) (z := (nI 0)) rfl rfl rfl (by decide +kernel) ?_
  refine s_sh (p' := 7) (ls' := _) (st' := .int (nI 1431655765) :: _) (h' := _) rfl rfl rfl rfl ?_
  refine s_bz (p' := 8) (z := (nI 0)) rfl rfl rfl (by decide +kernel) ?_
  refine s_bz (p' := 9) (z := (nI 0)) rfl rfl rfl (by decide +kernel) ?_
  refine s_istn (p' := 10) (ls' := [_]) rfl rfl rfl rfl ?_
  refine s_ildn (p' := 11) rfl rfl rfl ?_
  refine s_sh (p' := 14) (ls' := _) (st' := .int (nI 858993459) :: _) (h' := _) rfl rfl rfl rfl ?_
  refine s_bz (p' := 15) (z := (nI 0)) rfl rfl rfl (by decide +kernel) ?_
  refine s_ildn (p' := 16) rfl rfl rfl ?_
  refine s_con (p' := 17) rfl rfl ?_
  refine s_bz (p' := 18) (z := (nI 0)) rfl rfl rfl (by decide +kernel) ?_
  refine s_sh (p' := 21) (ls' := _) (st' := .int (nI 858993459) :: _) (h' := _) rfl rfl rfl rfl ?_
  refine s_bz (p' := 22) (z := (nI 0)) rfl rfl rfl (by decide +kernel) ?_
  refine s_bz (p' := 23) (z := (nI 0)) rfl rfl rfl (by decide +kernel) ?_
  refine s_istn (p' := 24) (ls' := [_]) rfl rfl rfl rfl ?_
  refine s_ildn (p' := 25) rfl rfl rfl ?_
  refine s_ildn (p' := 26) rfl rfl rfl ?_
  refine s_con (p' := 27) rfl rfl ?_
  refine s_bz (p' := 28) (z := (nI 0)) rfl rfl rfl (by decide +kernel) ?_
  refine s_bz (p' := 29) (z := (nI 0)) rfl rfl rfl (by decide +kernel) ?_
  refine s_sh (p' := 32) (ls' := _) (st' := .int (nI 252645135) :: _) (h' := _) rfl rfl rfl rfl ?_
  refine s_bz (p' := 33) (z := (nI 0)) rfl rfl rfl (by decide +kernel) ?_
  refine s_istn (p' := 34) (ls' := [_]) rfl rfl rfl rfl ?_
  refine s_ildn (p' := 35) rfl rfl rfl ?_
  refine s_ildn (p' := 36) rfl rfl rfl ?_
  refine s_bip (p' := 38) rfl rfl ?_
  refine s_bz (p' := 39) (z := (nI 0)) rfl rfl rfl (by decide +kernel) ?_
  refine s_bz (p' := 40) (z := (nI 0)) rfl rfl rfl (by decide +kernel) ?_
  refine s_istn (p' := 41) (ls' := [_]) rfl rfl rfl rfl ?_
  refine s_ildn (p' := 42) rfl rfl rfl ?_
  refine s_ildn (p' := 43) rfl rfl rfl ?_
  refine s_bip (p' := 45) rfl rfl ?_
  refine s_bz (p' := 46) (z := (nI 0)) rfl rfl rfl (by decide +kernel) ?_
  refine s_bz (p' := 47) (z := (nI 0)) rfl rfl rfl (by decide +kernel) ?_
  refine s_istn (p' := 48) (ls' := [_]) rfl rfl rfl rfl ?_
  refine s_ildn (p' := 49) rfl rfl rfl ?_
  refine s_bip (p' := 51) rfl rfl ?_
  refine s_bz (p' := 52) (z := (nI 0)) rfl rfl rfl (by decide +kernel) ?_
  refine c_iret rfl rfl ?_
  refine s_bzL (p' := 37) (z := (lN 0)) rfl rfl rfl (by decide +kernel) ?_
  refine s_bzL (p' := 38) (z := (lN 0)) rfl rfl rfl (by decide +kernel) ?_
  refine s_pfz (p' := 41) (fs' := [_, _, _, _, _, _, _, _, _, _, _, _, _, _, _, _, _]) rfl rfl H0 rfl rfl rfl rfl ?_
  refine s_aldn (p' := 42) rfl rfl rfl ?_
  refine s_gf (p' := 45) rfl (rd_ss rfl H0) rfl rfl ?_
  refine s_ildn (p' := 46) rfl rfl rfl ?_
  refine s_bip (p' := 48) rfl rfl ?_
  refine s_bz (p' := 49) (z := (nI 5)) rfl rfl rfl (by decide +kernel) ?_
  refine s_con (p' := 50) rfl rfl ?_
  refine c_call (p' := 53) (kc := 97) (ls0 := [_, _, _]) rfl rfl rfl rfl rfl (mj_rcv_is (rd_sn rfl H375)) rfl rfl rfl ?_
  refine s_ildn (p' := 1) rfl rfl rfl ?_
  refine s_if (p' := 4) false rfl (by decide +kernel) rfl ?_
  refine s_ildn (p' := 5) rfl rfl rfl ?_
  refine s_aldn (p' := 6) rfl rfl rfl ?_
  refine s_gf (p' := 9) rfl (rd_sn rfl H375) rfl rfl ?_
  refine s_lenz (p' := 10) rfl (mj_rdA_is (rd_sn rfl H376) (by decide)) rfl rfl ?_
  refine s_icmp (p' := 13) false rfl (by decide +kernel) rfl ?_
  refine s_aldn (p' := 14) rfl rfl rfl ?_
  refine s_gf (p' := 17) rfl (rd_sn rfl H375) rfl rfl ?_
  refine s_ildn (p' := 18) rfl rfl rfl ?_
  refine s_ildn (p' := 19) rfl rfl rfl ?_
  refine s_iasz (p' := 20) (m := 5) rfl rfl (rd_sn rfl H376) (by decide +kernel) rfl rfl rfl ?_
  refine c_ret rfl ?_
  refine s_aldn (p' := 54) rfl rfl rfl ?_
  refine s_gf (p' := 57) rfl (rd_sn rfl (rd_ss rfl H0)) rfl rfl ?_
  refine c_lret rfl ?_
  refine s_lasz (p' := 8) (m := 0) rfl rfl (rd_sn rfl (rd_sn rfl H412)) (by decide +kernel) rfl rfl rfl ?_
  refine s_goto (p' := 14) rfl rfl ?_
  refine s_con (p' := 15) rfl rfl ?_
  refine k_iret rfl rfl ?_
  refine l_ist (p' := 1538) (ls' := [_, _, _, _, _, _, _, _, _, _]) rfl rfl rfl rfl rfl ?_
  refine l_aldn (p' := 1539) rfl rfl rfl rfl ?_
  refine l_alds (p' := 1540) rfl rfl rfl rfl ?_
  refine l_ild (p' := 1542) rfl rfl rfl rfl ?_
  refine l_con (p' := 1543) rfl rfl rfl ?_
  refine l_bz (p' := 1544) (z := (nI 1)) rfl rfl rfl rfl rfl (by decide +kernel) ?_
  refine l_ialz (p' := 1545) (m := 1) (z := (xs 1)) rfl rfl (by decide +kernel) rfl rfl rfl ?_
  refine l_bz (p' := 1546) (z := (nI 102)) rfl rfl rfl rfl rfl hc ?_
  refine l_call (p' := 1549) (kc := 99) (ls0 := [_, _]) rfl rfl rfl rfl rfl rfl (mj_rcv_is (rd_sn rfl (rd_sn rfl (rd_sn rfl H400)))) rfl rfl rfl ?_
  refine s_aldn (p' := 1) rfl rfl rfl ?_
  refine s_ildn (p' := 2) rfl rfl rfl ?_
  refine c_call (p' := 5) (kc := 98) (ls0 := [_]) rfl rfl rfl rfl rfl rfl rfl rfl rfl ?_
  refine s_ildn (p' := 1) rfl rfl rfl ?_
  refine s_bip (p' := 3) rfl rfl ?_
  refine s_bip (p' := 5) rfl rfl ?_
  refine c_call (p' := 8) (kc := 97) (ls0 := [_, _, _]) rfl rfl rfl rfl rfl rfl rfl rfl rfl ?_
  refine s_ildn (p' := 1) rfl rfl rfl ?_
  refine s_ildn (p' := 2) rfl rfl rfl ?_
  refine s_icmp (p' := 5) false rfl (by decide +kernel) rfl ?_
  refine s_ildn (p' := 6) rfl rfl rfl ?_
  refine s_ildn (p' := 7) rfl rfl rfl ?_
  refine s_icmp (p' := 10) false rfl (by decide +kernel) rfl ?_
  refine s_con (p' := 11) rfl rfl ?_
  refine s_goto (p' := 15) rfl rfl ?_
  refine c_iret rfl (by decide +kernel) ?_
  refine c_iret rfl (by decide +kernel) ?_
  refine s_if (p' := 8) false rfl (by decide +kernel) rfl ?_
  refine s_con (p' := 9) rfl rfl ?_
  refine s_goto (p' := 13) rfl rfl ?_
  refine c_call (p' := 16) (kc := 98) (ls0 := [_, _]) rfl rfl rfl rfl rfl (mj_rcv_is (rd_sn rfl (rd_sn rfl (rd_sn rfl H400)))) rfl rfl rfl ?_
  refine s_aldn (p' := 1) rfl rfl rfl ?_
  refine s_ildn (p' := 2) rfl rfl rfl ?_
  refine s_pfz (p' := 5) (fs' := [_, _, _, _, _, _, _, _, _, _, _]) rfl rfl (rd_sn rfl (rd_sn rfl (rd_sn rfl H400))) rfl rfl rfl rfl ?_
  refine s_ildn (p' := 6) rfl rfl rfl ?_
  refine s_if (p' := 13) true rfl (by decide +kernel) rfl ?_
  refine s_con (p' := 14) rfl rfl ?_
  refine c_iret rfl (by decide +kernel) ?_
  refine s_if (p' := 21) true rfl (by decide +kernel) rfl ?_
  refine s_aldn (p' := 22) rfl rfl rfl ?_
  refine s_dupr (p' := 23) rfl rfl ?_
  refine s_gf (p' := 26) rfl (rd_ss rfl (rd_sn rfl (rd_sn rfl (rd_sn rfl H400)))) rfl rfl ?_
  refine s_aldn (p' := 27) rfl rfl rfl ?_
  refine s_gf (p' := 30) rfl (rd_ss rfl (rd_sn rfl (rd_sn rfl (rd_sn rfl H400)))) rfl rfl ?_
  refine s_gf (p' := 33) rfl (rd_sn rfl (rd_sn rfl (rd_sn rfl (rd_sn rfl H402)))) rfl rfl ?_
  refine s_ildn (p' := 34) rfl rfl rfl ?_
  refine s_bip (p' := 36) rfl rfl ?_
  refine s_bz (p' := 37) (z := (nI 5)) rfl rfl rfl (by decide +kernel) ?_
  refine s_ialz (p' := 38) (m := 5) (v := (nI 0)) rfl (rd_sn rfl (rd_sn rfl (rd_sn rfl (rd_sn rfl H403)))) (by decide +kernel) rfl (by decide +kernel) rfl ?_
  refine c_call (p' := 41) (kc := 98) (ls0 := [_]) rfl rfl rfl rfl rfl rfl rfl rfl rfl ?_
  refine s_ildn (p' := 1) rfl rfl rfl ?_
  refine s_ildn (p' := 2) rfl rfl rfl ?_
  refine s_con (p' := 3) rfl rfl ?_
  refine s_bz (p' := 4) (z := (nI 0)) rfl rfl rfl (by decide +kernel) ?_
  refine s_sh (p' := 7) (ls' := _) (st' := .int (nI 1431655765) :: _) (h' := _) rfl rfl rfl rfl ?_
  refine s_bz (p' := 8) (z := (nI 0)) rfl rfl rfl (by decide +kernel) ?_
  refine s_bz (p' := 9) (z := (nI 0)) rfl rfl rfl (by decide +kernel) ?_
  refine s_istn (p' := 10) (ls' := [_]) rfl rfl rfl rfl ?_
  refine s_ildn (p' := 11) rfl rfl rfl ?_
  refine s_sh (p' := 14) (ls' := _) (st' := .int (nI 858993459) :: _) (h' := _) rfl rfl rfl rfl ?_
  refine s_bz (p' := 15) (z := (nI 0)) rfl rfl rfl (by decide +kernel) ?_
  refine s_ildn (p' := 16) rfl rfl rfl ?_
  refine s_con (p' := 17) rfl rfl ?_
  refine s_bz (p' := 18) (z := (nI 0)) rfl rfl rfl (by decide +kernel) ?_
  refine s_sh (p' := 21) (ls' := _) (st' := .int (nI 858993459) :: _) (h' := _) rfl rfl rfl rfl ?_
  refine s_bz (p' := 22) (z := (nI 0)) rfl rfl rfl (by decide +kernel) ?_
  refine s_bz (p' := 23) (z := (nI 0)) rfl rfl rfl (by decide +kernel) ?_
  refine s_istn (p' := 24) (ls' := [_]) rfl rfl rfl rfl ?_
  refine s_ildn (p' := 25) rfl rfl rfl ?_
  refine s_ildn (p' := 26) rfl rfl rfl ?_
  refine s_con (p' := 27) rfl rfl ?_
  refine s_bz (p' := 28) (z := (nI 0)) rfl rfl rfl (by decide +kernel) ?_
  refine s_bz (p' := 29) (z := (nI 0)) rfl rfl rfl (by decide +kernel) ?_
  refine s_sh (p' := 32) (ls' := _) (st' := .int (nI 252645135) :: _) (h' := _) rfl rfl rfl rfl ?_
  refine s_bz (p' := 33) (z := (nI 0)) rfl rfl rfl (by decide +kernel) ?_
  refine s_istn (p' := 34) (ls' := [_]) rfl rfl rfl rfl ?_
  refine s_ildn (p' := 35) rfl rfl rfl ?_
  refine s_ildn (p' := 36) rfl rfl rfl ?_
  refine s_bip (p' := 38) rfl rfl ?_
  refine s_bz (p' := 39) (z := (nI 0)) rfl rfl rfl (by decide +kernel) ?_
  refine s_bz (p' := 40) (z := (nI 0)) rfl rfl rfl (by decide +kernel) ?_
  refine s_istn (p' := 41) (ls' := [_]) rfl rfl rfl rfl ?_
  refine s_ildn (p' := 42) rfl rfl rfl ?_
  refine s_ildn (p' := 43) rfl rfl rfl ?_
  refine s_bip (p' := 45) rfl rfl ?_
  refine s_bz (p' := 46) (z := (nI 0)) rfl rfl rfl (by decide +kernel) ?_
  refine s_bz (p' := 47) (z := (nI 0)) rfl rfl rfl (by decide +kernel) ?_
  refine s_istn (p' := 48) (ls' := [_]) rfl rfl rfl rfl ?_
  refine s_ildn (p' := 49) rfl rfl rfl ?_
  refine s_bip (p' := 51) rfl rfl ?_
  refine s_bz (p' := 52) (z := (nI 0)) rfl rfl rfl (by decide +kernel) ?_
  refine c_iret rfl rfl ?_
  refine s_bzL (p' := 42) (z := (lN 0)) rfl rfl rfl (by decide +kernel) ?_
  refine s_bzL (p' := 43) (z := (lN 0)) rfl rfl rfl (by decide +kernel) ?_
  refine s_pfz (p' := 46) (fs' := [_, _, _, _, _, _, _, _, _, _, _]) rfl rfl (rd_ss rfl (rd_sn rfl (rd_sn rfl (rd_sn rfl H400)))) rfl rfl rfl rfl ?_
  refine s_aldn (p' := 47) rfl rfl rfl ?_
  refine s_gf (p' := 50) rfl (rd_ss rfl (rd_ss rfl (rd_sn rfl (rd_sn rfl (rd_sn rfl H400))))) rfl rfl ?_
  refine s_gf (p' := 53) rfl (rd_sn rfl (rd_sn rfl (rd_sn rfl (rd_sn rfl (rd_sn rfl H402))))) rfl rfl ?_
  refine s_ildn (p' := 54) rfl rfl rfl ?_
  refine s_bip (p' := 56) rfl rfl ?_
  refine s_bz (p' := 57) (z := (nI 5)) rfl rfl rfl (by decide +kernel) ?_
  refine s_con (p' := 58) rfl rfl ?_
  refine s_iasz (p' := 59) (m := 5) rfl rfl (rd_sn rfl (rd_sn rfl (rd_sn rfl (rd_sn rfl (rd_sn rfl H403))))) (by decide +kernel) rfl rfl rfl ?_
  refine s_aldn (p' := 60) rfl rfl rfl ?_
  refine s_gf (p' := 63) rfl (rd_sn rfl (rd_ss rfl (rd_ss rfl (rd_sn rfl (rd_sn rfl (rd_sn rfl H400)))))) rfl rfl ?_
  refine k_lret rfl ?_
  refine l_sp (p' := 1551) (ls' := [_, _, _, _, _, _, _, _, _, _]) rfl rfl rfl rfl rfl ?_
  refine l_aldn (p' := 1552) rfl rfl rfl rfl ?_
  refine l_call (p' := 1555) (kc := 99) (ls0 := [_]) rfl rfl rfl rfl rfl rfl (mj_rcv_is (rd_sn rfl (rd_ss rfl (rd_ss rfl (rd_sn rfl (rd_sn rfl (rd_sn rfl H400))))))) rfl rfl rfl ?_
  refine s_aldn (p' := 1) rfl rfl rfl ?_
  refine s_gf (p' := 4) rfl (rd_sn rfl (rd_ss rfl (rd_ss rfl (rd_sn rfl (rd_sn rfl (rd_sn rfl H400)))))) rfl rfl ?_
  refine k_iret rfl rfl ?_
  refine l_ild (p' := 1557) rfl rfl rfl rfl ?_
  refine l_icmp (p' := 1562) true rfl rfl (by decide +kernel) rfl ?_
  refine l_ild (p' := 1564) rfl rfl rfl rfl ?_
  refine l_if (p' := 1567) false rfl rfl (by decide +kernel) rfl ?_
  refine l_aldn (p' := 1568) rfl rfl rfl rfl ?_
  refine l_con (p' := 1569) rfl rfl rfl ?_
  refine l_lalz (p' := 1570) (m := 0) (v := (lN 0)) rfl rfl (rd_sn rfl (rd_sn rfl (rd_sn rfl (rd_ss rfl (rd_sn rfl (rd_sn rfl H412)))))) (by decide +kernel) rfl (by decide +kernel) rfl ?_
  refine l_sp (p' := 1572) (ls' := _) rfl rfl rfl rfl rfl ?_
  refine l_bz (p' := 1573) (z := (nI 0)) rfl rfl rfl rfl rfl (by decide +kernel) ?_
  refine l_if (p' := 1578) true rfl rfl (by decide +kernel) rfl ?_
  refine l_goto (p' := 2541) rfl rfl rfl ?_
  refine l_incz (p' := 2544) (w := (nI 4)) (ls' := [_, _, _, _, _, _, _, _, _, _]) rfl rfl rfl rfl (by decide +kernel) rfl rfl ?_
  refine l_goto (p' := 28) rfl rfl rfl ?_
  refine l_ild (p' := 30) rfl rfl rfl rfl ?_
  refine l_alds (p' := 31) rfl rfl rfl rfl ?_
  refine l_lens (p' := 32) rfl rfl rfl ?_
  refine l_con (p' := 33) rfl rfl rfl ?_
  refine l_bz (p' := 34) (z := (nI 0)) rfl rfl rfl rfl rfl (by decide +kernel) ?_
  refine l_icmp (p' := 2547) true rfl rfl (by decide +kernel) rfl ?_
  refine l_con (p' := 2548) rfl rfl rfl ?_
  refine l_end rfl rfl ?_
  exact ⟨Nat.le_trans (Nat.le_of_eq (len_s (len_s (len_s (len_s (len_s (len_s HL))))))) (Nat.le_of_ble_eq_true rfl), Nat.le_trans (sz_sA rfl (rd_sn rfl (rd_sn rfl (rd_sn rfl (rd_sn rfl (rd_sn rfl H403))))) (sz_s rfl (rd_ss rfl (rd_sn rfl (rd_sn rfl (rd_sn rfl H400)))) rfl (sz_s rfl (rd_sn rfl (rd_sn rfl (rd_sn rfl H400))) rfl (sz_sA rfl (rd_sn rfl (rd_sn rfl H412)) (sz_sA rfl (rd_sn rfl H376) (sz_s rfl H0 rfl HZ)))))) (Nat.le_of_ble_eq_true rfl)⟩
theorem p1_24_6 {xs : Nat → Int32} {h : mj_H} (hk : xs 0 &&& nI 63 = nI 24)  (hc : ((xs 1).toUInt32 % 65536).toInt32 = nI 103) (HL : h.length = 414) (HZ : mj_sz h ≤ 20000) (H0 : mj_rd h 0 = some (.inr (0, [.ref 1, .ref 38, .ref 299, .ref 336, .ref 373, .ref 375, .ref 378, .ref 381, .ref 387, .ref 393, .null, .null, .ref 397, .ref 398, .ref 399, .long (lN 0), .long (lN 0)]))) (H375 : mj_rd h 375 = some (.inr (7, [.ref 376, .ref 377, .int (nI 0)]))) (H376 : mj_rd h 376 = some (.inl (0, (8, .inl (fun _ => 0))))) (H400 : mj_rd h 400 = some (.inr (17, [.int (nI 0), .ref 401, .ref 402, .ref 1000300, .long (lN 0), .long (lN 0), .ref 410, .null, .null, .null, .ref 411]))) (H402 : mj_rd h 402 = some (.inr (19, [.ref 403, .ref 404, .ref 405, .ref 406, .ref 407, .ref 408, .ref 409, .int (nI 0), .int (nI 4294967295), .int (nI 0), .ref 400]))) (H403 : mj_rd h 403 = some (.inl (0, (8, .inl (fun _ => 0))))) (H412 : mj_rd h 412 = some (.inl (4, (1, .inr (.inl (fun _ => 0)))))) : mj_fin 4 xs h := by
  unfold mj_fin
  refine l_ild (p' := 30) rfl rfl rfl rfl ?_
  refine l_alds (p' := 31) rfl rfl rfl rfl ?_
  refine l_lens (p' := 32) rfl rfl rfl ?_
  refine l_con (p' := 33) rfl rfl rfl ?_
  refine l_bz (p' := 34) (z := (nI 0)) rfl rfl rfl rfl rfl (by decide +kernel) ?_
  refine l_icmp (p' := 37) false rfl rfl (by decide +kernel) rfl ?_
  refine l_alds (p' := 38) rfl rfl rfl rfl ?_
  refine l_ild (p' := 40) rfl rfl rfl rfl ?_
  refine l_ialz (p' := 41) (m := 0) (z := (xs 0)) rfl rfl (by decide +kernel) rfl rfl rfl ?_
  refine l_bip (p' := 43) rfl rfl rfl ?_
  refine l_bz (p' := 44) (z := (nI 24)) rfl rfl rfl rfl rfl hk ?_
  refine l_sp (p' := 1524) (ls' := _) rfl rfl rfl rfl rfl ?_
  refine l_aldn (p' := 1525) rfl rfl rfl rfl ?_
  refine l_alds (p' := 1526) rfl rfl rfl rfl ?_
  refine l_ild (p' := 1528) rfl rfl rfl rfl ?_
  refine l_con (p' := 1529) rfl rfl rfl ?_
  refine l_bz (p' := 1530) (z := (nI 1)) rfl rfl rfl rfl rfl (by decide +kernel) ?_
  refine l_ialz (p' := 1531) (m := 1) (z := (xs 1)) rfl rfl (by decide +kernel) rfl rfl rfl ?_
  refine l_bz (p' := 1532) (z := (nI 103)) rfl rfl rfl rfl rfl hc ?_
  refine l_aldn (p' := 1533) rfl rfl rfl rfl ?_
  refine l_call (p' := 1536) (kc := 99) (ls0 := [_, _, _, _]) rfl rfl rfl rfl rfl rfl rfl rfl rfl rfl ?_
  refine s_aldn (p' := 1) rfl rfl rfl ?_
  refine s_con (p' := 2) rfl rfl ?_
  refine s_aldn (p' := 3) rfl rfl rfl ?_
  refine s_ildn (p' := 4) rfl rfl rfl ?_
  refine c_call (p' := 7) (kc := 98) (ls0 := [_, _]) rfl rfl rfl rfl rfl (mj_rcv_is H0) rfl rfl rfl ?_
  refine s_ildn (p' := 1) rfl rfl rfl ?_
  refine c_call (p' := 4) (kc := 97) (ls0 := [_]) rfl rfl rfl rfl rfl rfl rfl rfl rfl ?_
  refine s_ildn (p' := 1) rfl rfl rfl ?_
  refine s_bip (p' := 3) rfl rfl ?_
  refine s_icmp (p' := 6) false rfl (by decide +kernel) rfl ?_
  refine s_ildn (p' := 7) rfl rfl rfl ?_
  refine s_bip (p' := 9) rfl rfl ?_
  refine s_icmp (p' := 12) false rfl (by decide +kernel) rfl ?_
  refine s_con (p' := 13) rfl rfl ?_
  refine s_goto (p' := 17) rfl rfl ?_
  refine c_iret rfl (by decide +kernel) ?_
  refine s_if (p' := 17) true rfl (by decide +kernel) rfl ?_
  refine s_aldn (p' := 18) rfl rfl rfl ?_
  refine s_dupr (p' := 19) rfl rfl ?_
  refine s_gf (p' := 22) rfl H0 rfl rfl ?_
  refine s_aldn (p' := 23) rfl rfl rfl ?_
  refine s_gf (p' := 26) rfl H0 rfl rfl ?_
  refine s_ildn (p' := 27) rfl rfl rfl ?_
  refine s_bip (p' := 29) rfl rfl ?_
  refine s_bz (p' := 30) (z := (nI 6)) rfl rfl rfl (by decide +kernel) ?_
  refine c_call (p' := 33) (kc := 97) (ls0 := [_, _]) rfl rfl rfl rfl rfl (mj_rcv_is H375) rfl rfl rfl ?_
  refine s_ildn (p' := 1) rfl rfl rfl ?_
  refine s_if (p' := 4) false rfl (by decide +kernel) rfl ?_
  refine s_ildn (p' := 5) rfl rfl rfl ?_
  refine s_aldn (p' := 6) rfl rfl rfl ?_
  refine s_gf (p' := 9) rfl H375 rfl rfl ?_
  refine s_lenz (p' := 10) rfl (mj_rdA_is H376 (by decide)) rfl rfl ?_
  refine s_icmp (p' := 13) false rfl (by decide +kernel) rfl ?_
  refine s_aldn (p' := 14) rfl rfl rfl ?_
  refine s_gf (p' := 17) rfl H375 rfl rfl ?_
  refine s_ildn (p' := 18) rfl rfl rfl ?_
  refine s_ialz (p' := 19) (m := 6) (v := (nI 0)) rfl H376 (by decide +kernel) rfl (by decide +kernel) rfl ?_
  refine s_goto (p' := 23) rfl rfl ?_
  refine c_iret rfl rfl ?_
  refine c_call (p' := 36) (kc := 97) (ls0 := [_]) rfl rfl rfl rfl rfl rfl rfl rfl rfl ?_
  refine s_ildn (p' := 1) rfl rfl rfl ?_
  refine s_ildn (p' := 2) rfl rfl rfl ?_
  refine s_con (p' := 3) rfl rfl ?_
  refine s_bz (p' := 4) (z := (nI 0)) rfl rfl rfl (by decide +kernel) ?_
  refine s_sh (p' := 7) (ls' := _) (st' := .int (nI 1431655765) :: _) (h' := _) rfl rfl rfl rfl ?_
  refine s_bz (p' := 8) (z := (nI 0)) rfl rfl rfl (by decide +kernel) ?_
  refine s_bz (p' := 9) (z := (nI 0)) rfl rfl rfl (by decide +kernel) ?_
  refine s_istn (p' := 10) (ls' := [_]) rfl rfl rfl rfl ?_
  refine s_ildn (p' := 11) rfl rfl rfl ?_
  refine s_sh (p' := 14) (ls' := _) (st' := .int (nI 858993459) :: _) (h' := _) rfl rfl rfl rfl ?_
  refine s_bz (p' := 15) (z := (nI 0)) rfl rfl rfl (by decide +kernel) ?_
  refine s_ildn (p' := 16) rfl rfl rfl ?_
  refine s_con (p' := 17) rfl rfl ?_
  refine s_bz (p' := 18) (z := (nI 0)) rfl rfl rfl (by decide +kernel) ?_
  refine s_sh (p' := 21) (ls' := _) (st' := .int (nI 858993459) :: _) (h' := _) rfl rfl rfl rfl ?_
  refine s_bz (p' := 22) (z := (nI 0)) rfl rfl rfl (by decide +kernel) ?_
  refine s_bz (p' := 23) (z := (nI 0)) rfl rfl rfl (by decide +kernel) ?_
  refine s_istn (p' := 24) (ls' := [_]) rfl rfl rfl rfl ?_
  refine s_ildn (p' := 25) rfl rfl rfl ?_
  refine s_ildn (p' := 26) rfl rfl rfl ?_
  refine s_con (p' := 27) rfl rfl ?_
  refine s_bz (p' := 28) (z := (nI 0)) rfl rfl rfl (by decide +kernel) ?_
  refine s_bz (p' := 29) (z := (nI 0)) rfl rfl rfl (by decide +kernel) ?_
  refine s_sh (p' := 32) (ls' := _) (st' := .int (nI 252645135) :: _) (h' := _) rfl rfl rfl rfl ?_
  refine s_bz (p' := 33) (z := (nI 0)) rfl rfl rfl (by decide +kernel) ?_
  refine s_istn (p' := 34) (ls' := [_]) rfl rfl rfl rfl ?_
  refine s_ildn (p' := 35) rfl rfl rfl ?_
  refine s_ildn (p' := 36) rfl rfl rfl ?_
  refine s_bip (p' := 38) rfl rfl ?_
  refine s_bz (p' := 39) (z := (nI 0)) rfl rfl rfl (by decide +kernel) ?_
  refine s_bz (p' := 40) (z := (nI 0)) rfl rfl rfl (by decide +kernel) ?_
  refine s_istn (p' := 41) (ls' := [_]) rfl rfl rfl rfl ?_
  refine s_ildn (p' := 42) rfl rfl rfl ?_
  refine s_ildn (p' := 43) rfl rfl rfl ?_
  refine s_bip (p' := 45) rfl rfl ?_
  refine s_bz (p' := 46) (z := (nI 0)) rfl rfl rfl (by decide +kernel) ?_
  refine s_bz (p' := 47) (z := (nI 0)) rfl rfl rfl (by decide +kernel) ?_
  refine s_istn (p' := 48) (ls' := [_]) rfl rfl rfl rfl ?_
  refine s_ildn (p' := 49) rfl rfl rfl ?_
  refine s_bip (p' := 51) rfl rfl ?_
  refine s_bz (p' := 52) (z := (nI 0)) rfl rfl rfl (by decide +kernel) ?_
  refine c_iret rfl rfl ?_
  refine s_bzL (p' := 37) (z := (lN 0)) rfl rfl rfl (by decide +kernel) ?_
  refine s_bzL (p' := 38) (z := (lN 0)) rfl rfl rfl (by decide +kernel) ?_
  refine s_pfz (p' := 41) (fs' := [_, _, _, _, _, _, _, _, _, _, _, _, _, _, _, _, _]) rfl rfl H0 rfl rfl rfl rfl ?_
  refine s_aldn (p' := 42) rfl rfl rfl ?_
  refine s_gf (p' := 45) rfl (rd_ss rfl H0) rfl rfl ?_
  refine s_ildn (p' := 46) rfl rfl rfl ?_
  refine s_bip (p' := 48) rfl rfl ?_
  refine s_bz (p' := 49) (z := (nI 6)) rfl rfl rfl (by decide +kernel) ?_
  refine s_con (p' := 50) rfl rfl ?_
  refine c_call (p' := 53) (kc := 97) (ls0 := [_, _, _]) rfl rfl rfl rfl rfl (mj_rcv_is (rd_sn rfl H375)) rfl rfl rfl ?_
  refine s_ildn (p' := 1) rfl rfl rfl ?_
  refine s_if (p' := 4) false rfl (by decide +kernel) rfl ?_
  refine s_ildn (p' := 5) rfl rfl rfl ?_
  refine s_aldn (p' := 6) rfl rfl rfl ?_
  refine s_gf (p' := 9) rfl (rd_sn rfl H375) rfl rfl ?_
  refine s_lenz (p' := 10) rfl (mj_rdA_is (rd_sn rfl H376) (by decide)) rfl rfl ?_
  refine s_icmp (p' := 13) false rfl (by decide +kernel) rfl ?_
  refine s_aldn (p' := 14) rfl rfl rfl ?_
  refine s_gf (p' := 17) rfl (rd_sn rfl H375) rfl rfl ?_
  refine s_ildn (p' := 18) rfl rfl rfl ?_
  refine s_ildn (p' := 19) rfl rfl rfl ?_
  refine s_iasz (p' := 20) (m := 6) rfl rfl (rd_sn rfl H376) (by decide +kernel) rfl rfl rfl ?_
  refine c_ret rfl ?_
  refine s_aldn (p' := 54) rfl rfl rfl ?_
  refine s_gf (p' := 57) rfl (rd_sn rfl (rd_ss rfl H0)) rfl rfl ?_
  refine c_lret rfl ?_
  refine s_lasz (p' := 8) (m := 0) rfl rfl (rd_sn rfl (rd_sn rfl H412)) (by decide +kernel) rfl rfl rfl ?_
  refine s_goto (p' := 14) rfl rfl ?_
  refine s_con (p' := 15) rfl rfl ?_
  refine k_iret rfl rfl ?_
  refine l_ist (p' := 1538) (ls' := [_, _, _, _, _, _, _, _, _, _]) rfl rfl rfl rfl rfl ?_
  refine l_aldn (p' := 1539) rfl rfl rfl rfl ?_
  refine l_alds (p' := 1540) rfl rfl rfl rfl ?_
  refine l_ild (p' := 1542) rfl rfl rfl rfl ?_
  refine l_con (p' := 1543) rfl rfl rfl ?_
  refine l_bz (p' := 1544) (z := (nI 1)) rfl rfl rfl rfl rfl (by decide +kernel) ?_
  refine l_ialz (p' := 1545) (m := 1) (z := (xs 1)) rfl rfl (by decide +kernel) rfl rfl rfl ?_
  refine l_bz (p' := 1546) (z := (nI 103)) rfl rfl rfl rfl rfl hc ?_
  refine l_call (p' := 1549) (kc := 99) (ls0 := [_, _]) rfl rfl rfl rfl rfl rfl (mj_rcv_is (rd_sn rfl (rd_sn rfl (rd_sn rfl H400)))) rfl rfl rfl ?_
  refine s_aldn (p' := 1) rfl rfl rfl ?_
  refine s_ildn (p' := 2) rfl rfl rfl ?_
  refine c_call (p' := 5) (kc := 98) (ls0 := [_]) rfl rfl rfl rfl rfl rfl rfl rfl rfl ?_
  refine s_ildn (p' := 1) rfl rfl rfl ?_
  refine s_bip (p' := 3) rfl rfl ?_
  refine s_bip (p' := 5) rfl rfl ?_
  refine c_call (p' := 8) (kc := 97) (ls0 := [_, _, _]) rfl rfl rfl rfl rfl rfl rfl rfl rfl ?_
  refine s_ildn (p' := 1) rfl rfl rfl ?_
  refine s_ildn (p' := 2) rfl rfl rfl ?_
  refine s_icmp (p' := 5) false rfl (by decide +kernel) rfl ?_
  refine s_ildn (p' := 6) rfl rfl rfl ?_
  refine s_ildn (p' := 7) rfl rfl rfl ?_
  refine s_icmp (p' := 10) false rfl (by decide +kernel) rfl ?_
  refine s_con (p' := 11) rfl rfl ?_
  refine s_goto (p' := 15) rfl rfl ?_
  refine c_iret rfl (by decide +kernel) ?_
  refine c_iret rfl (by decide +kernel) ?_
  refine s_if (p' := 8) false rfl (by decide +kernel) rfl ?_
  refine s_con (p' := 9) rfl rfl ?_
  refine s_goto (p' := 13) rfl rfl ?_
  refine c_call (p' := 16) (kc := 98) (ls0 := [_, _]) rfl rfl rfl rfl rfl (mj_rcv_is (rd_sn rfl (rd_sn rfl (rd_sn rfl H400)))) rfl rfl rfl ?_
  refine s_aldn (p' := 1) rfl rfl rfl ?_
  refine s_ildn (p' := 2) rfl rfl rfl ?_
  refine s_pfz (p' := 5) (fs' := [_, _, _, _, _, _, _, _, _, _, _]) rfl rfl (rd_sn rfl (rd_sn rfl (rd_sn rfl H400))) rfl rfl rfl rfl ?_
  refine s_ildn (p' := 6) rfl rfl rfl ?_
  refine s_if (p' := 13) true rfl (by decide +kernel) rfl ?_
  refine s_con (p' := 14) rfl rfl ?_
  refine c_iret rfl (by decide +kernel) ?_
  refine s_if (p' := 21) true rfl (by decide +kernel) rfl ?_
  refine s_aldn (p' := 22) rfl rfl rfl ?_
  refine s_dupr (p' := 23) rfl rfl ?_
  refine s_gf (p' := 26) rfl (rd_ss rfl (rd_sn rfl (rd_sn rfl (rd_sn rfl H400)))) rfl rfl ?_
  refine s_aldn (p' := 27) rfl rfl rfl ?_
  refine s_gf (p' := 30) rfl (rd_ss rfl (rd_sn rfl (rd_sn rfl (rd_sn rfl H400)))) rfl rfl ?_
  refine s_gf (p' := 33) rfl (rd_sn rfl (rd_sn rfl (rd_sn rfl (rd_sn rfl H402)))) rfl rfl ?_
  refine s_ildn (p' := 34) rfl rfl rfl ?_
  refine s_bip (p' := 36) rfl rfl ?_
  refine s_bz (p' := 37) (z := (nI 6)) rfl rfl rfl (by decide +kernel) ?_
  refine s_ialz (p' := 38) (m := 6) (v := (nI 0)) rfl (rd_sn rfl (rd_sn rfl (rd_sn rfl (rd_sn rfl H403)))) (by decide +kernel) rfl (by decide +kernel) rfl ?_
  refine c_call (p' := 41) (kc := 98) (ls0 := [_]) rfl rfl rfl rfl rfl rfl rfl rfl rfl ?_
  refine s_ildn (p' := 1) rfl rfl rfl ?_
  refine s_ildn (p' := 2) rfl rfl rfl ?_
  refine s_con (p' := 3) rfl rfl ?_
  refine s_bz (p' := 4) (z := (nI 0)) rfl rfl rfl (by decide +kernel) ?_
  refine s_sh (p' := 7) (ls' := _) (st' := .int (nI 1431655765) :: _) (h' := _) rfl rfl rfl rfl ?_
  refine s_bz (p' := 8) (z := (nI 0)) rfl rfl rfl (by decide +kernel) ?_
  refine s_bz (p' := 9) (z := (nI 0)) rfl rfl rfl (by decide +kernel) ?_
  refine s_istn (p' := 10) (ls' := [_]) rfl rfl rfl rfl ?_
  refine s_ildn (p' := 11) rfl rfl rfl ?_
  refine s_sh (p' := 14) (ls' := _) (st' := .int (nI 858993459) :: _) (h' := _) rfl rfl rfl rfl ?_
  refine s_bz (p' := 15) (z := (nI 0)) rfl rfl rfl (by decide +kernel) ?_
  refine s_ildn (p' := 16) rfl rfl rfl ?_
  refine s_con (p' := 17) rfl rfl ?_
  refine s_bz (p' := 18) (z := (nI 0)) rfl rfl rfl (by decide +kernel) ?_
  refine s_sh (p' := 21) (ls' := _) (st' := .int (nI 858993459) :: _) (h' := _) rfl rfl rfl rfl ?_
  refine s_bz (p' := 22) (z := (nI 0)) rfl rfl rfl (by decide +kernel) ?_
  refine s_bz (p' := 23) (z := (nI 0)) rfl rfl rfl (by decide +kernel) ?_
  refine s_istn (p' := 24) (ls' := [_]) rfl rfl rfl rfl ?_
  refine s_ildn (p' := 25) rfl rfl rfl ?_
  refine s_ildn (p' := 26) rfl rfl rfl ?_
  refine s_con (p' := 27) rfl rfl ?_
  refine s_bz (p' := 28) (z := (nI 0)) rfl rfl rfl (by decide +kernel) ?_
  refine s_bz (p' := 29) (z := (nI 0)) rfl rfl rfl (by decide +kernel) ?_
  refine s_sh (p' := 32) (ls' := _) (st' := .int (nI 252645135) :: _) (h' := _) rfl rfl rfl rfl ?_
  refine s_bz (p' := 33) (z := (nI 0)) rfl rfl rfl (by decide +kernel) ?_
  refine s_istn (p' := 34) (ls' := [_]) rfl rfl rfl rfl ?_
  refine s_ildn (p' := 35) rfl rfl rfl ?_
  refine s_ildn (p' := 36) rfl rfl rfl ?_
  refine s_bip (p' := 38) rfl rfl ?_
  refine s_bz (p' := 39) (z := (nI 0)) rfl rfl rfl (by decide +kernel) ?_
  refine s_bz (p' := 40) (z := (nI 0)) rfl rfl rfl (by decide +kernel) ?_
  refine s_istn (p' := 41) (ls' := [_]) rfl rfl rfl rfl ?_
  refine s_ildn (p' := 42) rfl rfl rfl ?_
  refine s_ildn (p' := 43) rfl rfl rfl ?_
  refine s_bip (p' := 45) rfl rfl ?_
  refine s_bz (p' := 46) (z := (nI 0)) rfl rfl rfl (by decide +kernel) ?_
  refine s_bz (p' := 47) (z := (nI 0)) rfl rfl rfl (by decide +kernel) ?_
  refine s_istn (p' := 48) (ls' := [_]) rfl rfl rfl rfl ?_
  refine s_ildn (p' := 49) rfl rfl rfl ?_
  refine s_bip (p' := 51) rfl rfl ?_
  refine s_bz (p' := 52) (z := (nI 0)) rfl rfl rfl (by decide +kernel) ?_
  refine c_iret rfl rfl ?_
  refine s_bzL (p' := 42) (z := (lN 0)) rfl rfl rfl (by decide +kernel) ?_
  refine s_bzL (p' := 43) (z := (lN 0)) rfl rfl rfl (by decide +kernel) ?_
  refine s_pfz (p' := 46) (fs' := [_, _, _, _, _, _, _, _, _, _, _]) rfl rfl (rd_ss rfl (rd_sn rfl (rd_sn rfl (rd_sn rfl H400)))) rfl rfl rfl rfl ?_
  refine s_aldn (p' := 47) rfl rfl rfl ?_
  refine s_gf (p' := 50) rfl (rd_ss rfl (rd_ss rfl (rd_sn rfl (rd_sn rfl (rd_sn rfl H400))))) rfl rfl ?_
  refine s_gf (p' := 53) rfl (rd_sn rfl (rd_sn rfl (rd_sn rfl (rd_sn rfl (rd_sn rfl H402))))) rfl rfl ?_
  refine s_ildn (p' := 54) rfl rfl rfl ?_
  refine s_bip (p' := 56) rfl rfl ?_
  refine s_bz (p' := 57) (z := (nI 6)) rfl rfl rfl (by decide +kernel) ?_
  refine s_con (p' := 58) rfl rfl ?_
  refine s_iasz (p' := 59) (m := 6) rfl rfl (rd_sn rfl (rd_sn rfl (rd_sn rfl (rd_sn rfl (rd_sn rfl H403))))) (by decide +kernel) rfl rfl rfl ?_
  refine s_aldn (p' := 60) rfl rfl rfl ?_
  refine s_gf (p' := 63) rfl (rd_sn rfl (rd_ss rfl (rd_ss rfl (rd_sn rfl (rd_sn rfl (rd_sn rfl H400)))))) rfl rfl ?_
  refine k_lret rfl ?_
  refine l_sp (p' := 1551) (ls' := [_, _, _, _, _, _, _, _, _, _]) rfl rfl rfl rfl rfl ?_
  refine l_aldn (p' := 1552) rfl rfl rfl rfl ?_
  refine l_call (p' := 1555) (kc := 99) (ls0 := [_]) rfl rfl rfl rfl rfl rfl (mj_rcv_is (rd_sn rfl (rd_ss rfl (rd_ss rfl (rd_sn rfl (rd_sn rfl (rd_sn rfl H400))))))) rfl rfl rfl ?_
  refine s_aldn (p' := 1) rfl rfl rfl ?_
  refine s_gf (p' := 4) rfl (rd_sn rfl (rd_ss rfl (rd_ss rfl (rd_sn rfl (rd_sn rfl (rd_sn rfl H400)))))) rfl rfl ?_
  refine k_iret rfl rfl ?_
  refine l_ild (p' := 1557) rfl rfl rfl rfl ?_
  refine l_icmp (p' := 1562) true rfl rfl (by decide +kernel) rfl ?_
  refine l_ild (p' := 1564) rfl rfl rfl rfl ?_
  refine l_if (p' := 1567) false rfl rfl (by decide +kernel) rfl ?_
  refine l_aldn (p' := 1568) rfl rfl rfl rfl ?_
  refine l_con (p' := 1569) rfl rfl rfl ?_
  refine l_lalz (p' := 1570) (m := 0) (v := (lN 0)) rfl rfl (rd_sn rfl (rd_sn rfl (rd_sn rfl (rd_ss rfl (rd_sn rfl (rd_sn rfl H412)))))) (by decide +kernel) rfl (by decide +kernel) rfl ?_
  refine l_sp (p' := 1572) (ls' := _) rfl rfl rfl rfl rfl ?_
  refine l_bz (p' := 1573) (z := (nI 0)) rfl rfl rfl rfl rfl (by decide +kernel) ?_
  refine l_if (p' := 1578) true rfl rfl (by decide +kernel) rfl ?_
  refine l_goto (p' := 2541) rfl rfl rfl ?_
  refine l_incz (p' := 2544) (w := (nI 4)) (ls' := [_, _, _, _, _, _, _, _, _, _]) rfl rfl rfl rfl (by decide +kernel) rfl rfl ?_
  refine l_goto (p' := 28) rfl rfl rfl ?_
  refine l_ild (p' := 30) rfl rfl rfl rfl ?_
  refine l_alds (p' := 31) rfl rfl rfl rfl ?_
  refine l_lens (p' := 32) rfl rfl rfl ?_
  refine l_con (p' := 33) rfl rfl rfl ?_
  refine l_bz (p' := 34) (z := (nI 0)) rfl rfl rfl rfl rfl (by decide +kernel) ?_
  refine l_icmp (p' := 2547) true rfl rfl (by decide +kernel) rfl ?_
  refine l_con (p' := 2548) rfl rfl rfl ?_
  refine l_end rfl rfl ?_
  exact ⟨Nat.le_trans (Nat.le_of_eq (len_s (len_s (len_s (len_s (len_s (len_s HL))))))) (Nat.le_of_ble_eq_true rfl), Nat.le_trans (sz_sA rfl (rd_sn rfl (rd_sn rfl (rd_sn rfl (rd_sn rfl (rd_sn rfl H403))))) (sz_s rfl (rd_ss rfl (rd_sn rfl (rd_sn rfl (rd_sn rfl H400)))) rfl (sz_s rfl (rd_sn rfl (rd_sn rfl (rd_sn rfl H400))) rfl (sz_sA rfl (rd_sn rfl (rd_sn rfl H412)) (sz_sA rfl (rd_sn rfl H376) (sz_s rfl H0 rfl HZ)))))) (Nat.le_of_ble_eq_true rfl)⟩
theorem p1_24_7 {xs : Nat → Int32} {h : mj_H} (hk : xs 0 &&& nI 63 = nI 24)  (hc : ((xs 1).toUInt32 % 65536).toInt32 = nI 104) (HL : h.length = 414) (HZ : mj_sz h ≤ 20000) (H0 : mj_rd h 0 = some (.inr (0, [.ref 1, .ref 38, .ref 299, .ref 336, .ref 373, .ref 375, .ref 378, .ref 381, .ref 387, .ref 393, .null, .null, .ref 397, .ref 398, .ref 399, .long (lN 0), .long (lN 0)]))) (H375 : mj_rd h 375 = some (.inr (7, [.ref 376, .ref 377, .int (nI 0)]))) (H376 : mj_rd h 376 = some (.inl (0, (8, .inl (fun _ => 0))))) (H400 : mj_rd h 400 = some (.inr (17, [.int (nI 0), .ref 401, .ref 402, .ref 1000300, .long (lN 0), .long (lN 0), .ref 410, .null, .null, .null, .ref 411]))) (H402 : mj_rd h 402 = some (.inr (19, [.ref 403, .ref 404, .ref 405, .ref 406, .ref 407, .ref 408, .ref 409, .int (nI 0), .int (nI 4294967295), .int (nI 0), .ref 400]))) (H403 : mj_rd h 403 = some (.inl (0, (8, .inl (fun _ => 0))))) (H412 : mj_rd h 412 = some (.inl (4, (1, .inr (.inl (fun _ => 0)))))) : mj_fin 4 xs h := by
  unfold mj_fin
  refine l_ild (p' := 30) rfl rfl rfl rfl ?_
  refine l_alds (p' := 31) rfl rfl rfl rfl ?_
  refine l_lens (p' := 32) rfl rfl rfl ?_
  refine l_con (p' := 33) rfl rfl rfl ?_
  refine l_bz (p' := 34) (z := (nI 0)) rfl rfl rfl rfl rfl (by decide +kernel) ?_
  refine l_icmp (p' := 37) false rfl rfl (by decide +kernel) rfl ?_
  refine l_alds (p' := 38) rfl rfl rfl rfl ?_
  refine l_ild (p' := 40) rfl rfl rfl rfl ?_
  refine l_ialz (p' := 41) (m := 0) (z := (xs 0)) rfl rfl (by decide +kernel) rfl rfl rfl ?_
  refine l_bip (p' := 43) rfl rfl rfl ?_
  refine l_bz (p' := 44) (z := (nI 24)) rfl rfl rfl rfl rfl hk ?_
  refine l_sp (p' := 1524) (ls' := _) rfl rfl rfl rfl rfl ?_
  refine l_aldn (p' := 1525) rfl rfl rfl rfl ?_
  refine l_alds (p' := 1526) rfl rfl rfl rfl ?_
  refine l_ild (p' := 1528) rfl rfl rfl rfl ?_
  refine l_con (p' := 1529) rfl rfl rfl ?_
  refine l_bz (p' := 1530) (z := (nI 1)) rfl rfl rfl rfl rfl (by decide +kernel) ?_
  refine l_ialz (p' := 1531) (m := 1) (z := (xs 1)) rfl rfl (by decide +kernel) rfl rfl rfl ?_
  refine l_bz (p' := 1532) (z := (nI 104)) rfl rfl rfl rfl rfl hc ?_
  refine l_aldn (p' := 1533) rfl rfl rfl rfl ?_
  refine l_call (p' := 1536) (kc := 99) (ls0 := [_, _, _, _]) rfl rfl rfl rfl rfl rfl rfl rfl rfl rfl ?_
  refine s_aldn (p' := 1) rfl rfl rfl ?_
  refine s_con (p' := 2) rfl rfl ?_
  refine s_aldn (p' := 3) rfl rfl rfl ?_
  refine s_ildn (p' := 4) rfl rfl rfl ?_
  refine c_call (p' := 7) (kc := 98) (ls0 := [_, _]) rfl rfl rfl rfl rfl (mj_rcv_is H0) rfl rfl rfl ?_
  refine s_ildn (p' := 1) rfl rfl rfl ?_
  refine c_call (p' := 4) (kc := 97) (ls0 := [_]) rfl rfl rfl rfl rfl rfl rfl rfl rfl ?_
  refine s_ildn (p' := 1) rfl rfl rfl ?_
  refine s_bip (p' := 3) rfl rfl ?_
  refine s_icmp (p' := 6) false rfl (by decide +kernel) rfl ?_
  refine s_ildn (p' := 7) rfl rfl rfl ?_
  refine s_bip (p' := 9) rfl rfl ?_
  refine s_icmp (p' := 12) false rfl (by decide +kernel) rfl ?_
  refine s_con (p' := 13) rfl rfl ?_
  refine s_goto (p' := 17) rfl rfl ?_
  refine c_iret rfl (by decide +kernel) ?_
  refine s_if (p' := 17) true rfl (by decide +kernel) rfl ?_
  refine s_aldn (p' := 18) rfl rfl rfl ?_
  refine s_dupr (p' := 19) rfl rfl ?_
  refine s_gf (p' := 22) rfl H0 rfl rfl ?_
  refine s_aldn (p' := 23) rfl rfl rfl ?_
  refine s_gf (p' := 26) rfl H0 rfl rfl ?_
  refine s_ildn (p' := 27) rfl rfl rfl ?_
  refine s_bip (p' := 29) rfl rfl ?_
  refine s_bz (p' := 30) (z := (nI 7)) rfl rfl rfl (by decide +kernel) ?_
  refine c_call (p' := 33) (kc := 97) (ls0 := [_, _]) rfl rfl rfl rfl rfl (mj_rcv_is H375) rfl rfl rfl ?_
  refine s_ildn (p' := 1) rfl rfl rfl ?_
  refine s_if (p' := 4) false rfl (by decide +kernel) rfl ?_
  refine s_ildn (p' := 5) rfl rfl rfl ?_
  refine s_aldn (p' := 6) rfl rfl rfl ?_
  refine s_gf (p' := 9) rfl H375 rfl rfl ?_
  refine s_lenz (p' := 10) rfl (mj_rdA_is H376 (by decide)) rfl rfl ?_
  refine s_icmp (p' := 13) false rfl (by decide +kernel) rfl ?_
  refine s_aldn (p' := 14) rfl rfl rfl ?_
  refine s_gf (p' := 17) rfl H375 rfl rfl ?_
  refine s_ildn (p' := 18) rfl rfl rfl ?_
  refine s_ialz (p' := 19) (m := 7) (v := (nI 0)) rfl H376 (by decide +kernel) rfl (by decide +kernel) rfl ?_
  refine s_goto (p' := 23) rfl rfl ?_
  refine c_iret rfl rfl ?_
  refine c_call (p' := 36) (kc := 97) (ls0 := [_]) rfl rfl rfl rfl rfl rfl rfl rfl rfl ?_
  refine s_ildn (p' := 1) rfl rfl rfl ?_
  refine s_ildn (p' := 2) rfl rfl rfl ?_
  refine s_con (p' := 3) rfl rfl ?_
  refine s_bz (p' := 4) (z := (nI 0)) rfl rfl rfl (by decide +kernel) ?_
  refine s_sh (p' := 7) (ls' := _) (st' := .int (nI 1431655765) :: _) (h' := _) rfl rfl rfl rfl ?_
  refine s_bz (p' := 8) (z := (nI 0)) rfl rfl rfl (by decide +kernel) ?_
  refine s_bz (p' := 9) (z := (nI 0)) rfl rfl rfl (by decide +kernel) ?_
  refine s_istn (p' := 10) (ls' := [_]) rfl rfl rfl rfl ?_
  refine s_ildn (p' := 11) rfl rfl rfl ?_
  refine s_sh (p' := 14) (ls' := _) (st' := .int (nI 858993459) :: _) (h' := _) rfl rfl rfl rfl ?_
  refine s_bz (p' := 15) (z := (nI 0)) rfl rfl rfl (by decide +kernel) ?_
  refine s_ildn (p' := 16) rfl rfl rfl ?_
  refine s_con (p' := 17) rfl rfl ?_
  refine s_bz (p' := 18) (z := (nI 0)) rfl rfl rfl (by decide +kernel) ?_
  refine s_sh (p' := 21) (ls' := _) (st' := .int (nI 858993459) :: _) (h' := _) rfl rfl rfl rfl ?_
  refine s_bz (p' := 22) (z := (nI 0)) rfl rfl rfl (by decide +kernel) ?_
  refine s_bz (p' := 23) (z := (nI 0)) rfl rfl rfl (by decide +kernel) ?_
  refine s_istn (p' := 24) (ls' := [_]) rfl rfl rfl rfl ?_
  refine s_ildn (p' := 25) rfl rfl rfl ?_
  refine s_ildn (p' := 26) rfl rfl rfl ?_
  refine s_con (p' := 27) rfl rfl ?_
  refine s_bz (p' := 28) (z := (nI 0)) rfl rfl rfl (by decide +kernel) ?_
  refine s_bz (p' := 29) (z := (nI 0)) rfl rfl rfl (by decide +kernel) ?_
  refine s_sh (p' := 32) (ls' := _) (st' := .int (nI 252645135) :: _) (h' := _) rfl rfl rfl rfl ?_
  refine s_bz (p' := 33) (z := (nI 0)) rfl rfl rfl (by decide +kernel) ?_
  refine s_istn (p' := 34) (ls' := [_]) rfl rfl rfl rfl ?_
  refine s_ildn (p' := 35) rfl rfl rfl ?_
  refine s_ildn (p' := 36) rfl rfl rfl ?_
  refine s_bip (p' := 38) rfl rfl ?_
  refine s_bz (p' := 39) (z := (nI 0)) rfl rfl rfl (by decide +kernel) ?_
  refine s_bz (p' := 40) (z := (nI 0)) rfl rfl rfl (by decide +kernel) ?_
  refine s_istn (p' := 41) (ls' := [_]) rfl rfl rfl rfl ?_
  refine s_ildn (p' := 42) rfl rfl rfl ?_
  refine s_ildn (p' := 43) rfl rfl rfl ?_
  refine s_bip (p' := 45) rfl rfl ?_
  refine s_bz (p' := 46) (z := (nI 0)) rfl rfl rfl (by decide +kernel) ?_
  refine s_bz (p' := 47) (z := (nI 0)) rfl rfl rfl (by decide +kernel) ?_
  refine s_istn (p' := 48) (ls' := [_]) rfl rfl rfl rfl ?_
  refine s_ildn (p' := 49) rfl rfl rfl ?_
  refine s_bip (p' := 51) rfl rfl ?_
  refine s_bz (p' := 52) (z := (nI 0)) rfl rfl rfl (by decide +kernel) ?_
  refine c_iret rfl rfl ?_
  refine s_bzL (p' := 37) (z := (lN 0)) rfl rfl rfl (by decide +kernel) ?_
  refine s_bzL (p' := 38) (z := (lN 0)) rfl rfl rfl (by decide +kernel) ?_
  refine s_pfz (p' := 41) (fs' := [_, _, _, _, _, _, _, _, _, _, _, _, _, _, _, _, _]) rfl rfl H0 rfl rfl rfl rfl ?_
  refine s_aldn (p' := 42) rfl rfl rfl ?_
  refine s_gf (p' := 45) rfl (rd_ss rfl H0) rfl rfl ?_
  refine s_ildn (p' := 46) rfl rfl rfl ?_
  refine s_bip (p' := 48) rfl rfl ?_
  refine s_bz (p' := 49) (z := (nI 7)) rfl rfl rfl (by decide +kernel) ?_
  refine s_con (p' := 50) rfl rfl ?_
  refine c_call (p' := 53) (kc := 97) (ls0 := [_, _, _]) rfl rfl rfl rfl rfl (mj_rcv_is (rd_sn rfl H375)) rfl rfl rfl ?_
  refine s_ildn (p' := 1) rfl rfl rfl ?_
  refine s_if (p' := 4) false rfl (by decide +kernel) rfl ?_
  refine s_ildn (p' := 5) rfl rfl rfl ?_
  refine s_aldn (p' := 6) rfl rfl rfl ?_
  refine s_gf (p' := 9) rfl (rd_sn rfl H375) rfl rfl ?_
  refine s_lenz (p' := 10) rfl (mj_rdA_is (rd_sn rfl H376) (by decide)) rfl rfl ?_
  refine s_icmp (p' := 13) false rfl (by decide +kernel) rfl ?_
  refine s_aldn (p' := 14) rfl rfl rfl ?_
  refine s_gf (p' := 17) rfl (rd_sn rfl H375) rfl rfl ?_
  refine s_ildn (p' := 18) rfl rfl rfl ?_
  refine s_ildn (p' := 19) rfl rfl rfl ?_
  refine s_iasz (p' := 20) (m := 7) rfl rfl (rd_sn rfl H376) (by decide +kernel) rfl rfl rfl ?_
  refine c_ret rfl ?_
  refine s_aldn (p' := 54) rfl rfl rfl ?_
  refine s_gf (p' := 57) rfl (rd_sn rfl (rd_ss rfl H0)) rfl rfl ?_
  refine c_lret rfl ?_
  refine s_lasz (p' := 8) (m := 0) rfl rfl (rd_sn rfl (rd_sn rfl H412)) (by decide +kernel) rfl rfl rfl ?_
  refine s_goto (p' := 14) rfl rfl ?_
  refine s_con (p' := 15) rfl rfl ?_
  refine k_iret rfl rfl ?_
  refine l_ist (p' := 1538) (ls' := [_, _, _, _, _, _, _, _, _, _]) rfl rfl rfl rfl rfl ?_
  refine l_aldn (p' := 1539) rfl rfl rfl rfl ?_
  refine l_alds (p' := 1540) rfl rfl rfl rfl ?_
  refine l_ild (p' := 1542) rfl rfl rfl rfl ?_
  refine l_con (p' := 1543) rfl rfl rfl ?_
  refine l_bz (p' := 1544) (z := (nI 1)) rfl rfl rfl rfl rfl (by decide +kernel) ?_
  refine l_ialz (p' := 1545) (m := 1) (z := (xs 1)) rfl rfl (by decide +kernel) rfl rfl rfl ?_
  refine l_bz (p' := 1546) (z := (nI 104)) rfl rfl rfl rfl rfl hc ?_
  refine l_call (p' := 1549) (kc := 99) (ls0 := [_, _]) rfl rfl rfl rfl rfl rfl (mj_rcv_is (rd_sn rfl (rd_sn rfl (rd_sn rfl H400)))) rfl rfl rfl ?_
  refine s_aldn (p' := 1) rfl rfl rfl ?_
  refine s_ildn (p' := 2) rfl rfl rfl ?_
  refine c_call (p' := 5) (kc := 98) (ls0 := [_]) rfl rfl rfl rfl rfl rfl rfl rfl rfl ?_
  refine s_ildn (p' := 1) rfl rfl rfl ?_
  refine s_bip (p' := 3) rfl rfl ?_
  refine s_bip (p' := 5) rfl rfl ?_
  refine c_call (p' := 8) (kc := 97) (ls0 := [_, _, _]) rfl rfl rfl rfl rfl rfl rfl rfl rfl ?_
  refine s_ildn (p' := 1) rfl rfl rfl ?_
  refine s_ildn (p' := 2) rfl rfl rfl ?_
  refine s_icmp (p' := 5) false rfl (by decide +kernel) rfl ?_
  refine s_ildn (p' := 6) rfl rfl rfl ?_
  refine s_ildn (p' := 7) rfl rfl rfl ?_
  refine s_icmp (p' := 10) false rfl (by decide +kernel) rfl ?_
  refine s_con (p' := 11) rfl rfl ?_
  refine s_goto (p' := 15) rfl rfl ?_
  refine c_iret rfl (by decide +kernel) ?_
  refine c_iret rfl (by decide +kernel) ?_
  refine s_if (p' := 8) false rfl (by decide +kernel) rfl ?_
  refine s_con (p' := 9) rfl rfl ?_
  refine s_goto (p' := 13) rfl rfl ?_
  refine c_call (p' := 16) (kc := 98) (ls0 := [_, _]) rfl rfl rfl rfl rfl (mj_rcv_is (rd_sn rfl (rd_sn rfl (rd_sn rfl H400)))) rfl rfl rfl ?_
  refine s_aldn (p' := 1) rfl rfl rfl ?_
  refine s_ildn (p' := 2) rfl rfl rfl ?_
  refine s_pfz (p' := 5) (fs' := [_, _, _, _, _, _, _, _, _, _, _]) rfl rfl (rd_sn rfl (rd_sn rfl (rd_sn rfl H400))) rfl rfl rfl rfl ?_
  refine s_ildn (p' := 6) rfl rfl rfl ?_
  refine s_if (p' := 13) true rfl (by decide +kernel) rfl ?_
  refine s_con (p' := 14) rfl rfl ?_
  refine c_iret rfl (by decide +kernel) ?_
  refine s_if (p' := 21) true rfl (by decide +kernel) rfl ?_
  refine s_aldn (p' := 22) rfl rfl rfl ?_
  refine s_dupr (p' := 23) rfl rfl ?_
  refine s_gf (p' := 26) rfl (rd_ss rfl (rd_sn rfl (rd_sn rfl (rd_sn rfl H400)))) rfl rfl ?_
  refine s_aldn (p' := 27) rfl rfl rfl ?_
  refine s_gf (p' := 30) rfl (rd_ss rfl (rd_sn rfl (rd_sn rfl (rd_sn rfl H400)))) rfl rfl ?_
  refine s_gf (p' := 33) rfl (rd_sn rfl (rd_sn rfl (rd_sn rfl (rd_sn rfl H402)))) rfl rfl ?_
  refine s_ildn (p' := 34) rfl rfl rfl ?_
  refine s_bip (p' := 36) rfl rfl ?_
  refine s_bz (p' := 37) (z := (nI 7)) rfl rfl rfl (by decide +kernel) ?_
  refine s_ialz (p' := 38) (m := 7) (v := (nI 0)) rfl (rd_sn rfl (rd_sn rfl (rd_sn rfl (rd_sn rfl H403)))) (by decide +kernel) rfl (by decide +kernel) rfl ?_
  refine c_call (p' := 41) (kc := 98) (ls0 := [_]) rfl rfl rfl rfl rfl rfl rfl rfl rfl ?_
  refine s_ildn (p' := 1) rfl rfl rfl ?_
  refine s_ildn (p' := 2) rfl rfl rfl ?_
  refine s_con (p' := 3) rfl rfl ?_
  refine s_bz (p' := 4) (z := (nI 0)) rfl rfl rfl (by decide +kernel) ?_
  refine s_sh (p' := 7) (ls' := _) (st' := .int (nI 1431655765) :: _) (h' := _) rfl rfl rfl rfl ?_
  refine s_bz (p' := 8) (z := (nI 0)) rfl rfl rfl (by decide +kernel) ?_
  refine s_bz (p' := 9) (z := (nI 0)) rfl rfl rfl (by decide +kernel) ?_
  refine s_istn (p' := 10) (ls' := [_]) rfl rfl rfl rfl ?_
  refine s_ildn (p' := 11) rfl rfl rfl ?_
  refine s_sh (p' := 14) (ls' := _) (st' := .int (nI 858993459) :: _) (h' := _) rfl rfl rfl rfl ?_
  refine s_bz (p' := 15) (z := (nI 0)) rfl rfl rfl (by decide +kernel) ?_
  refine s_ildn (p' := 16) rfl rfl rfl ?_
  refine s_con (p' := 17) rfl rfl ?_
  refine s_bz (p' := 18) (z := (nI 0)) rfl rfl rfl (by decide +kernel) ?_
  refine s_sh (p' := 21) (ls' := _) (st' := .int (nI 858993459) :: _) (h' := _) rfl rfl rfl rfl ?_
  refine s_bz (p' := 22) (z := (nI 0)) rfl rfl rfl (by decide +kernel) ?_
  refine s_bz (p' := 23) (z := (nI 0)) rfl rfl rfl (by decide +kernel) ?_
  refine s_istn (p' := 24) (ls' := [_]) rfl rfl rfl rfl ?_
  refine s_ildn (p' := 25) rfl rfl rfl ?_
  refine s_ildn (p' := 26) rfl rfl rfl ?_
  refine s_con (p' := 27) rfl rfl ?_
  refine s_bz (p' := 28) (z := (nI 0)) rfl rfl rfl (by decide +kernel) ?_
  refine s_bz (p' := 29) (z := (nI 0)) rfl rfl rfl (by decide +kernel) ?_
  refine s_sh (p' := 32) (ls' := _) (st' := .int (nI 252645135) :: _) (h' := _) rfl rfl rfl rfl ?_
  refine s_bz (p' := 33) (z := (nI 0)) rfl rfl rfl (by decide +kernel) ?_
  refine s_istn (p' := 34) (ls' := [_]) rfl rfl rfl rfl ?_
  refine s_ildn (p' := 35) rfl rfl rfl ?_
  refine s_ildn (p' := 36) rfl rfl rfl ?_
  refine s_bip (p' := 38) rfl rfl ?_
  refine s_bz (p' := 39) (z := (nI 0)) rfl rfl rfl (by decide +kernel) ?_
  refine s_bz (p' := 40) (z := (nI 0)) rfl rfl rfl (by decide +kernel) ?_
  refine s_istn (p' := 41) (ls' := [_]) rfl rfl rfl rfl ?_
  refine s_ildn (p' := 42) rfl rfl rfl ?_
  refine s_ildn (p' := 43) rfl rfl rfl ?_
  refine s_bip (p' := 45) rfl rfl ?_
  refine s_bz (p' := 46) (z := (nI 0)) rfl rfl rfl (by decide +kernel) ?_
  refine s_bz (p' := 47) (z := (nI 0)) rfl rfl rfl (by decide +kernel) ?_
  refine s_istn (p' := 48) (ls' := [_]) rfl rfl rfl rfl ?_
  refine s_ildn (p' := 49) rfl rfl rfl ?_
  refine s_bip (p' := 51) rfl rfl ?_
  refine s_bz (p' := 52) (z := (nI 0)) rfl rfl rfl (by decide +kernel) ?_
  refine c_iret rfl rfl ?_
  refine s_bzL (p' := 42) (z := (lN 0)) rfl rfl rfl (by decide +kernel) ?_
  refine s_bzL (p' := 43) (z := (lN 0)) rfl rfl rfl (by decide +kernel) ?_
  refine s_pfz (p' := 46) (fs' := [_, _, _, _, _, _, _, _, _, _, _]) rfl rfl (rd_ss rfl (rd_sn rfl (rd_sn rfl (rd_sn rfl H400)))) rfl rfl rfl rfl ?_
  refine s_aldn (p' := 47) rfl rfl rfl ?_
  refine s_gf (p' := 50) rfl (rd_ss rfl (rd_ss rfl (rd_sn rfl (rd_sn rfl (rd_sn rfl H400))))) rfl rfl ?_
  refine s_gf (p' := 53) rfl (rd_sn rfl (rd_sn rfl (rd_sn rfl (rd_sn rfl (rd_sn rfl H402))))) rfl rfl ?_
  refine s_ildn (p' := 54) rfl rfl rfl ?_
  refine s_bip (p' := 56) rfl rfl ?_
  refine s_bz (p' := 57) (z := (nI 7)) rfl rfl rfl (by decide +kernel) ?_
  refine s_con (p' := 58) rfl rfl ?_
  refine s_iasz (p' := 59) (m := 7) rfl rfl (rd_sn rfl (rd_sn rfl (rd_sn rfl (rd_sn rfl (rd_sn rfl H403))))) (by decide +kernel) rfl rfl rfl ?_
  refine s_aldn (p' := 60) rfl rfl rfl ?_
  refine s_gf (p' := 63) rfl (rd_sn rfl (rd_ss rfl (rd_ss rfl (rd_sn rfl (rd_sn rfl (rd_sn rfl H400)))))) rfl rfl ?_
  refine k_lret rfl ?_
  refine l_sp (p' := 1551) (ls' := [_, _, _, _, _, _, _, _, _, _]) rfl rfl rfl rfl rfl ?_
  refine l_aldn (p' := 1552) rfl rfl rfl rfl ?_
  refine l_call (p' := 1555) (kc := 99) (ls0 := [_]) rfl rfl rfl rfl rfl rfl (mj_rcv_is (rd_sn rfl (rd_ss rfl (rd_ss rfl (rd_sn rfl (rd_sn rfl (rd_sn rfl H400))))))) rfl rfl rfl ?_
  refine s_aldn (p' := 1) rfl rfl rfl ?_
  refine s_gf (p' := 4) rfl (rd_sn rfl (rd_ss rfl (rd_ss rfl (rd_sn rfl (rd_sn rfl (rd_sn rfl H400)))))) rfl rfl ?_
  refine k_iret rfl rfl ?_
  refine l_ild (p' := 1557) rfl rfl rfl rfl ?_
  refine l_icmp (p' := 1562) true rfl rfl (by decide +kernel) rfl ?_
  refine l_ild (p' := 1564) rfl rfl rfl rfl ?_
  refine l_if (p' := 1567) false rfl rfl (by decide +kernel) rfl ?_
  refine l_aldn (p' := 1568) rfl rfl rfl rfl ?_
  refine l_con (p' := 1569) rfl rfl rfl ?_
  refine l_lalz (p' := 1570) (m := 0) (v := (lN 0)) rfl rfl (rd_sn rfl (rd_sn rfl (rd_sn rfl (rd_ss rfl (rd_sn rfl (rd_sn rfl H412)))))) (by decide +kernel) rfl (by decide +kernel) rfl ?_
  refine l_sp (p' := 1572) (ls' := _) rfl rfl rfl rfl rfl ?_
  refine l_bz (p' := 1573) (z := (nI 0)) rfl rfl rfl rfl rfl (by decide +kernel) ?_
  refine l_if (p' := 1578) true rfl rfl (by decide +kernel) rfl ?_
  refine l_goto (p' := 2541) rfl rfl rfl ?_
  refine l_incz (p' := 2544) (w := (nI 4)) (ls' := [_, _, _, _, _, _, _, _, _, _]) rfl rfl rfl rfl (by decide +kernel) rfl rfl ?_
  refine l_goto (p' := 28) rfl rfl rfl ?_
  refine l_ild (p' := 30) rfl rfl rfl rfl ?_
  refine l_alds (p' := 31) rfl rfl rfl rfl ?_
  refine l_lens (p' := 32) rfl rfl rfl ?_
  refine l_con (p' := 33) rfl rfl rfl ?_
  refine l_bz (p' := 34) (z := (nI 0)) rfl rfl rfl rfl rfl (by decide +kernel) ?_
  refine l_icmp (p' := 2547) true rfl rfl (by decide +kernel) rfl ?_
  refine l_con (p' := 2548) rfl rfl rfl ?_
  refine l_end rfl rfl ?_
  exact ⟨Nat.le_trans (Nat.le_of_eq (len_s (len_s (len_s (len_s (len_s (len_s HL))))))) (Nat.le_of_ble_eq_true rfl), Nat.le_trans (sz_sA rfl (rd_sn rfl (rd_sn rfl (rd_sn rfl (rd_sn rfl (rd_sn rfl H403))))) (sz_s rfl (rd_ss rfl (rd_sn rfl (rd_sn rfl (rd_sn rfl H400)))) rfl (sz_s rfl (rd_sn rfl (rd_sn rfl (rd_sn rfl H400))) rfl (sz_sA rfl (rd_sn rfl (rd_sn rfl H412)) (sz_sA rfl (rd_sn rfl H376) (sz_s rfl H0 rfl HZ)))))) (Nat.le_of_ble_eq_true rfl)⟩
theorem p1_24_n {xs : Nat → Int32} {h : mj_H} (hk : xs 0 &&& nI 63 = nI 24)  {c : Int32} (hc : ((xs 1).toUInt32 % 65536).toInt32 = c) (hcc : c.toInt < 97) (HL : h.length = 414) (HZ : mj_sz h ≤ 20000) (H0 : mj_rd h 0 = some (.inr (0, [.ref 1, .ref 38, .ref 299, .ref 336, .ref 373, .ref 375, .ref 378, .ref 381, .ref 387, .ref 393, .null, .null, .ref 397, .ref 398, .ref 399, .long (lN 0), .long (lN 0)]))) (H400 : mj_rd h 400 = some (.inr (17, [.int (nI 0), .ref 401, .ref 402, .ref 1000300, .long (lN 0), .long (lN 0), .ref 410, .null, .null, .null, .ref 411]))) : mj_fin 4 xs h := by
  unfold mj_fin
  refine l_ild (p' := 30) rfl rfl rfl rfl ?_
  refine l_alds (p' := 31) rfl rfl rfl rfl ?_
  refine l_lens (p' := 32) rfl rfl rfl ?_
  refine l_con (p' := 33) rfl rfl rfl ?_
  refine l_bz (p' := 34) (z := (nI 0)) rfl rfl rfl rfl rfl (by decide +kernel) ?_
  refine l_icmp (p' := 37) false rfl rfl (by decide +kernel) rfl ?_
  refine l_alds (p' := 38) rfl rfl rfl rfl ?_
  refine l_ild (p' := 40) rfl rfl rfl rfl ?_
  refine l_ialz (p' := 41) (m := 0) (z := (xs 0)) rfl rfl (by decide +kernel) rfl rfl rfl ?_
  refine l_bip (p' := 43) rfl rfl rfl ?_
  refine l_bz (p' := 44) (z := (nI 24)) rfl rfl rfl rfl rfl hk ?_
  refine l_sp (p' := 1524) (ls' := _) rfl rfl rfl rfl rfl ?_
  refine l_aldn (p' := 1525) rfl rfl rfl rfl ?_
  refine l_alds (p' := 1526) rfl rfl rfl rfl ?_
  refine l_ild (p' := 1528) rfl rfl rfl rfl ?_
  refine l_con (p' := 1529) rfl rfl rfl ?_
  refine l_bz (p' := 1530) (z := (nI 1)) rfl rfl rfl rfl rfl (by decide +kernel) ?_
  refine l_ialz (p' := 1531) (m := 1) (z := (xs 1)) rfl rfl (by decide +kernel) rfl rfl rfl ?_
  refine l_bz (p' := 1532) (z := c) rfl rfl rfl rfl rfl hc ?_
  refine l_aldn (p' := 1533) rfl rfl rfl rfl ?_
  refine l_call (p' := 1536) (kc := 99) (ls0 := [_, _, _, _]) rfl rfl rfl rfl rfl rfl rfl rfl rfl rfl ?_
  refine s_aldn (p' := 1) rfl rfl rfl ?_
  refine s_con (p' := 2) rfl rfl ?_
  refine s_aldn (p' := 3) rfl rfl rfl ?_
  refine s_ildn (p' := 4) rfl rfl rfl ?_
  refine c_call (p' := 7) (kc := 98) (ls0 := [_, _]) rfl rfl rfl rfl rfl (mj_rcv_is H0) rfl rfl rfl ?_
  refine s_ildn (p' := 1) rfl rfl rfl ?_
  refine c_call (p' := 4) (kc := 97) (ls0 := [_]) rfl rfl rfl rfl rfl rfl rfl rfl rfl ?_
  refine s_ildn (p' := 1) rfl rfl rfl ?_
  refine s_bip (p' := 3) rfl rfl ?_
  refine s_icmp (p' := 16) true rfl ((cg_lt (w := 97) (by decide +kernel)).trans (decide_eq_true (by omega))) rfl ?_
  refine s_con (p' := 17) rfl rfl ?_
  refine c_iret rfl (by decide +kernel) ?_
  refine s_if (p' := 7) false rfl (by decide +kernel) rfl ?_
  refine s_thrz (q := 414) rfl HL rfl ?_
  refine K_c (hp := 11) rfl (mj_ocl_is (rd_nw rfl HL)) rfl ?_
  refine s_astn (p' := 12) (ls' := [_, _, _, _]) rfl rfl rfl rfl ?_
  refine s_con (p' := 13) rfl rfl ?_
  refine k_iret rfl rfl ?_
  refine l_ist (p' := 1538) (ls' := [_, _, _, _, _, _, _, _, _, _]) rfl rfl rfl rfl rfl ?_
  refine l_aldn (p' := 1539) rfl rfl rfl rfl ?_
  refine l_alds (p' := 1540) rfl rfl rfl rfl ?_
  refine l_ild (p' := 1542) rfl rfl rfl rfl ?_
  refine l_con (p' := 1543) rfl rfl rfl ?_
  refine l_bz (p' := 1544) (z := (nI 1)) rfl rfl rfl rfl rfl (by decide +kernel) ?_
  refine l_ialz (p' := 1545) (m := 1) (z := (xs 1)) rfl rfl (by decide +kernel) rfl rfl rfl ?_
  refine l_bz (p' := 1546) (z := c) rfl rfl rfl rfl rfl hc ?_
  refine l_call (p' := 1549) (kc := 99) (ls0 := [_, _]) rfl rfl rfl rfl rfl rfl (mj_rcv_is (rd_app H400)) rfl rfl rfl ?_
  refine s_aldn (p' := 1) rfl rfl rfl ?_
  refine s_ildn (p' := 2) rfl rfl rfl ?_
  refine c_call (p' := 5) (kc := 98) (ls0 := [_]) rfl rfl rfl rfl rfl rfl rfl rfl rfl ?_
  refine s_ildn (p' := 1) rfl rfl rfl ?_
  refine s_bip (p' := 3) rfl rfl ?_
  refine s_bip (p' := 5) rfl rfl ?_
  refine c_call (p' := 8) (kc := 97) (ls0 := [_, _, _]) rfl rfl rfl rfl rfl rfl rfl rfl rfl ?_
  refine s_ildn (p' := 1) rfl rfl rfl ?_
  refine s_ildn (p' := 2) rfl rfl rfl ?_
  refine s_icmp (p' := 14) true rfl ((ch_gt (w := 97) (by decide +kernel)).trans (decide_eq_true (by omega))) rfl ?_
  refine s_con (p' := 15) rfl rfl ?_
  refine c_iret rfl (by decide +kernel) ?_
  refine c_iret rfl (by decide +kernel) ?_
  refine s_if (p' := 12) true rfl (by decide +kernel) rfl ?_
  refine s_con (p' := 13) rfl rfl ?_
  refine c_call (p' := 16) (kc := 98) (ls0 := [_, _]) rfl rfl rfl rfl rfl (mj_rcv_is (rd_app H400)) rfl rfl rfl ?_
  refine s_aldn (p' := 1) rfl rfl rfl ?_
  refine s_ildn (p' := 2) rfl rfl rfl ?_
  refine s_pfz (p' := 5) (fs' := [_, _, _, _, _, _, _, _, _, _, _]) rfl rfl (rd_app H400) rfl rfl rfl rfl ?_
  refine s_ildn (p' := 6) rfl rfl rfl ?_
  refine s_if (p' := 9) false rfl (by decide +kernel) rfl ?_
  refine s_con (p' := 10) rfl rfl ?_
  refine s_goto (p' := 14) rfl rfl ?_
  refine c_iret rfl (by decide +kernel) ?_
  refine s_if (p' := 19) false rfl (by decide +kernel) rfl ?_
  refine s_sp (p' := 20) (ls' := _) rfl rfl rfl ?_
  refine k_lret rfl ?_
  refine l_sp (p' := 1551) (ls' := [_, _, _, _, _, _, _, _, _, _]) rfl rfl rfl rfl rfl ?_
  refine l_aldn (p' := 1552) rfl rfl rfl rfl ?_
  refine l_call (p' := 1555) (kc := 99) (ls0 := [_]) rfl rfl rfl rfl rfl rfl (mj_rcv_is (rd_ss rfl (rd_app H400))) rfl rfl rfl ?_
  refine s_aldn (p' := 1) rfl rfl rfl ?_
  refine s_gf (p' := 4) rfl (rd_ss rfl (rd_app H400)) rfl rfl ?_
  refine k_iret rfl rfl ?_
  refine l_ild (p' := 1557) rfl rfl rfl rfl ?_
  refine l_icmp (p' := 1562) true rfl rfl (by decide +kernel) rfl ?_
  refine l_ild (p' := 1564) rfl rfl rfl rfl ?_
  refine l_if (p' := 1578) true rfl rfl (by decide +kernel) rfl ?_
  refine l_goto (p' := 2541) rfl rfl rfl ?_
  refine l_incz (p' := 2544) (w := (nI 4)) (ls' := [_, _, _, _, _, _, _, _, _, _]) rfl rfl rfl rfl (by decide +kernel) rfl rfl ?_
  refine l_goto (p' := 28) rfl rfl rfl ?_
  refine l_ild (p' := 30) rfl rfl rfl rfl ?_
  refine l_alds (p' := 31) rfl rfl rfl rfl ?_
  refine l_lens (p' := 32) rfl rfl rfl ?_
  refine l_con (p' := 33) rfl rfl rfl ?_
  refine l_bz (p' := 34) (z := (nI 0)) rfl rfl rfl rfl rfl (by decide +kernel) ?_
  refine l_icmp (p' := 2547) true rfl rfl (by decide +kernel) rfl ?_
  refine l_con (p' := 2548) rfl rfl rfl ?_
  refine l_end rfl rfl ?_
  exact ⟨Nat.le_trans (Nat.le_of_eq (len_s (len_a HL rfl))) (Nat.le_of_ble_eq_true rfl), Nat.le_trans (sz_s rfl (rd_app H400) rfl (sz_aa (k := 6) (m := 20006) rfl rfl HZ)) (Nat.le_of_ble_eq_true rfl)⟩
theorem p1_24_m {xs : Nat → Int32} {h : mj_H} (hk : xs 0 &&& nI 63 = nI 24)  {c : Int32} (hc : ((xs 1).toUInt32 % 65536).toInt32 = c) (hcc : 104 < c.toInt) (HL : h.length = 414) (HZ : mj_sz h ≤ 20000) (H0 : mj_rd h 0 = some (.inr (0, [.ref 1, .ref 38, .ref 299, .ref 336, .ref 373, .ref 375, .ref 378, .ref 381, .ref 387, .ref 393, .null, .null, .ref 397, .ref 398, .ref 399, .long (lN 0), .long (lN 0)]))) (H400 : mj_rd h 400 = some (.inr (17, [.int (nI 0), .ref 401, .ref 402, .ref 1000300, .long (lN 0), .long (lN 0), .ref 410, .null, .null, .null, .ref 411]))) : mj_fin 4 xs h := by
  unfold mj_fin
  refine l_ild (p' := 30) rfl rfl rfl rfl ?_
  refine l_alds (p' := 31) rfl rfl rfl rfl ?_
  refine l_lens (p' := 32) rfl rfl rfl ?_
  refine l_con (p' := 33) rfl rfl rfl ?_
  refine l_bz (p' := 34) (z := (nI 0)) rfl rfl rfl rfl rfl (by decide +kernel) ?_
  refine l_icmp (p' := 37) false rfl rfl (by decide +kernel) rfl ?_
  refine l_alds (p' := 38) rfl rfl rfl rfl ?_
  refine l_ild (p' := 40) rfl rfl rfl rfl ?_
  refine l_ialz (p' := 41) (m := 0) (z := (xs 0)) rfl rfl (by decide +kernel) rfl rfl rfl ?_
  refine l_bip (p' := 43) rfl rfl rfl ?_
  refine l_bz (p' := 44) (z := (nI 24)) rfl rfl rfl rfl rfl hk ?_
  refine l_sp (p' := 1524) (ls' := _) rfl rfl rfl rfl rfl ?_
  refine l_aldn (p' := 1525) rfl rfl rfl rfl ?_
  refine l_alds (p' := 1526) rfl rfl rfl rfl ?_
  refine l_ild (p' := 1528) rfl rfl rfl rfl ?_
  refine l_con (p' := 1529) rfl rfl rfl ?_
  refine l_bz (p' := 1530) (z := (nI 1)) rfl rfl rfl rfl rfl (by decide +kernel) ?_
  refine l_ialz (p' := 1531) (m := 1) (z := (xs 1)) rfl rfl (by decide +kernel) rfl rfl rfl ?_
  refine l_bz (p' := 1532) (z := c) rfl rfl rfl rfl rfl hc ?_
  refine l_aldn (p' := 1533) rfl rfl rfl rfl ?_
  refine l_call (p' := 1536) (kc := 99) (ls0 := [_, _, _, _]) rfl rfl rfl rfl rfl rfl rfl rfl rfl rfl ?_
  refine s_aldn (p' := 1) rfl rfl rfl ?_
  refine s_con (p' := 2) rfl rfl ?_
  refine s_aldn (p' := 3) rfl rfl rfl ?_
  refine s_ildn (p' := 4) rfl rfl rfl ?_
  refine c_call (p' := 7) (kc := 98) (ls0 := [_, _]) rfl rfl rfl rfl rfl (mj_rcv_is H0) rfl rfl rfl ?_
  refine s_ildn (p' := 1) rfl rfl rfl ?_
  refine c_call (p' := 4) (kc := 97) (ls0 := [_]) rfl rfl rfl rfl rfl rfl rfl rfl rfl ?_
  refine s_ildn (p' := 1) rfl rfl rfl ?_
  refine s_bip (p' := 3) rfl rfl ?_
  refine s_icmp (p' := 6) false rfl ((cg_lt (w := 97) (by decide +kernel)).trans (decide_eq_false (by omega))) rfl ?_
  refine s_ildn (p' := 7) rfl rfl rfl ?_
  refine s_bip (p' := 9) rfl rfl ?_
  refine s_icmp (p' := 16) true rfl ((cg_gt (w := 104) (by decide +kernel)).trans (decide_eq_true (by omega))) rfl ?_
  refine s_con (p' := 17) rfl rfl ?_
  refine c_iret rfl (by decide +kernel) ?_
  refine s_if (p' := 7) false rfl (by decide +kernel) rfl ?_
  refine s_thrz (q := 414) rfl HL rfl ?_
  refine K_c (hp := 11) rfl (mj_ocl_is (rd_nw rfl HL)) rfl ?_
  refine s_astn (p' := 12) (ls' := [_, _, _, _]) rfl rfl rfl rfl ?_
  refine s_con (p' := 13) rfl rfl ?_
  refine k_iret rfl rfl ?_
  refine l_ist (p' := 1538) (ls' := [_, _, _, _, _, _, _, _, _, _]) rfl rfl rfl rfl rfl ?_
  refine l_aldn (p' := 1539) rfl rfl rfl rfl ?_
  refine l_alds (p' := 1540) rfl rfl rfl rfl ?_
  refine l_ild (p' := 1542) rfl rfl rfl rfl ?_
  refine l_con (p' := 1543) rfl rfl rfl ?_
  refine l_bz (p' := 1544) (z := (nI 1)) rfl rfl rfl rfl rfl (by decide +kernel) ?_
  refine l_ialz (p' := 1545) (m := 1) (z := (xs 1)) rfl rfl (by decide +kernel) rfl rfl rfl ?_
  refine l_bz (p' := 1546) (z := c) rfl rfl rfl rfl rfl hc ?_
  refine l_call (p' := 1549) (kc := 99) (ls0 := [_, _]) rfl rfl rfl rfl rfl rfl (mj_rcv_is (rd_app H400)) rfl rfl rfl ?_
  refine s_aldn (p' := 1) rfl rfl rfl ?_
  refine s_ildn (p' := 2) rfl rfl rfl ?_
  refine c_call (p' := 5) (kc := 98) (ls0 := [_]) rfl rfl rfl rfl rfl rfl rfl rfl rfl ?_
  refine s_ildn (p' := 1) rfl rfl rfl ?_
  refine s_bip (p' := 3) rfl rfl ?_
  refine s_bip (p' := 5) rfl rfl ?_
  refine c_call (p' := 8) (kc := 97) (ls0 := [_, _, _]) rfl rfl rfl rfl rfl rfl rfl rfl rfl ?_
  refine s_ildn (p' := 1) rfl rfl rfl ?_
  refine s_ildn (p' := 2) rfl rfl rfl ?_
  refine s_icmp (p' := 5) false rfl ((ch_gt (w := 97) (by decide +kernel)).trans (decide_eq_false (by omega))) rfl ?_
  refine s_ildn (p' := 6) rfl rfl rfl ?_
  refine s_ildn (p' := 7) rfl rfl rfl ?_
  refine s_icmp (p' := 14) true rfl ((cg_gt (w := 104) (by decide +kernel)).trans (decide_eq_true (by omega))) rfl ?_
  refine s_con (p' := 15) rfl rfl ?_
  refine c_iret rfl (by decide +kernel) ?_
  refine c_iret rfl (by decide +kernel) ?_
  refine s_if (p' := 12) true rfl (by decide +kernel) rfl ?_
  refine s_con (p' := 13) rfl rfl ?_
  refine c_call (p' := 16) (kc := 98) (ls0 := [_, _]) rfl rfl rfl rfl rfl (mj_rcv_is (rd_app H400)) rfl rfl rfl ?_
  refine s_aldn (p' := 1) rfl rfl rfl ?_
  refine s_ildn (p' := 2) rfl rfl rfl ?_
  refine s_pfz (p' := 5) (fs' := [_, _, _, _, _, _, _, _, _, _, _]) rfl rfl (rd_app H400) rfl rfl rfl rfl ?_
  refine s_ildn (p' := 6) rfl rfl rfl ?_
  refine s_if (p' := 9) false rfl (by decide +kernel) rfl ?_
  refine s_con (p' := 10) rfl rfl ?_
  refine s_goto (p' := 14) rfl rfl ?_
  refine c_iret rfl (by decide +kernel) ?_
  refine s_if (p' := 19) false rfl (by decide +kernel) rfl ?_
  refine s_sp (p' := 20) (ls' := _) rfl rfl rfl ?_
  refine k_lret rfl ?_
  refine l_sp (p' := 1551) (ls' := [_, _, _, _, _, _, _, _, _, _]) rfl rfl rfl rfl rfl ?_
  refine l_aldn (p' := 1552) rfl rfl rfl rfl ?_
  refine l_call (p' := 1555) (kc := 99) (ls0 := [_]) rfl rfl rfl rfl rfl rfl (mj_rcv_is (rd_ss rfl (rd_app H400))) rfl rfl rfl ?_
  refine s_aldn (p' := 1) rfl rfl rfl ?_
  refine s_gf (p' := 4) rfl (rd_ss rfl (rd_app H400)) rfl rfl ?_
  refine k_iret rfl rfl ?_
  refine l_ild (p' := 1557) rfl rfl rfl rfl ?_
  refine l_icmp (p' := 1562) true rfl rfl (by decide +kernel) rfl ?_
  refine l_ild (p' := 1564) rfl rfl rfl rfl ?_
  refine l_if (p' := 1578) true rfl rfl (by decide +kernel) rfl ?_
  refine l_goto (p' := 2541) rfl rfl rfl ?_
  refine l_incz (p' := 2544) (w := (nI 4)) (ls' := [_, _, _, _, _, _, _, _, _, _]) rfl rfl rfl rfl (by decide +kernel) rfl rfl ?_
  refine l_goto (p' := 28) rfl rfl rfl ?_
  refine l_ild (p' := 30) rfl rfl rfl rfl ?_
  refine l_alds (p' := 31) rfl rfl rfl rfl ?_
  refine l_lens (p' := 32) rfl rfl rfl ?_
  refine l_con (p' := 33) rfl rfl rfl ?_
  refine l_bz (p' := 34) (z := (nI 0)) rfl rfl rfl rfl rfl (by decide +kernel) ?_
  refine l_icmp (p' := 2547) true rfl rfl (by decide +kernel) rfl ?_
  refine l_con (p' := 2548) rfl rfl rfl ?_
  refine l_end rfl rfl ?_
  exact ⟨Nat.le_trans (Nat.le_of_eq (len_s (len_a HL rfl))) (Nat.le_of_ble_eq_true rfl), Nat.le_trans (sz_s rfl (rd_app H400) rfl (sz_aa (k := 6) (m := 20006) rfl rfl HZ)) (Nat.le_of_ble_eq_true rfl)⟩
theorem p1_26_n {xs : Nat → Int32} {h : mj_H} (hk : xs 0 &&& nI 63 = nI 26) {p : Int32} (hx1 : xs 1 = p) {c : Int32} (hc : ((xs 2).toUInt32 % 65536).toInt32 = c) (hp : p.toInt < 0) (HL : h.length = 414) (HZ : mj_sz h ≤ 20000) (H0 : mj_rd h 0 = some (.inr (0, [.ref 1, .ref 38, .ref 299, .ref 336, .ref 373, .ref 375, .ref 378, .ref 381, .ref 387, .ref 393, .null, .null, .ref 397, .ref 398, .ref 399, .long (lN 0), .long (lN 0)]))) (H38 : mj_rd h 38 = some (.inr (6, [.ref 39, .ref 40, .int (nI 0)]))) (H400 : mj_rd h 400 = some (.inr (17, [.int (nI 0), .ref 401, .ref 402, .ref 1000300, .long (lN 0), .long (lN 0), .ref 410, .null, .null, .null, .ref 411]))) (H401 : mj_rd h 401 = some (.inr (18, [.ref 1000000, .int (nI 0), .int (nI 0)]))) : mj_fin 4 xs h := by
  unfold mj_fin
  refine l_ild (p' := 30) rfl rfl rfl rfl ?_
  refine l_alds (p' := 31) rfl rfl rfl rfl ?_
  refine l_lens (p' := 32) rfl rfl rfl ?_
  refine l_con (p' := 33) rfl rfl rfl ?_
  refine l_bz (p' := 34) (z := (nI 0)) rfl rfl rfl rfl rfl (by decide +kernel) ?_
  refine l_icmp (p' := 37) false rfl rfl (by decide +kernel) rfl ?_
  refine l_alds (p' := 38) rfl rfl rfl rfl ?_
  refine l_ild (p' := 40) rfl rfl rfl rfl ?_
  refine l_ialz (p' := 41) (m := 0) (z := (xs 0)) rfl rfl (by decide +kernel) rfl rfl rfl ?_
  refine l_bip (p' := 43) rfl rfl rfl ?_
  refine l_bz (p' := 44) (z := (nI 26)) rfl rfl rfl rfl rfl hk ?_
  refine l_sp (p' := 1595) (ls' := _) rfl rfl rfl rfl rfl ?_
  refine l_aldn (p' := 1596) rfl rfl rfl rfl ?_
  refine l_alds (p' := 1597) rfl rfl rfl rfl ?_
  refine l_ild (p' := 1599) rfl rfl rfl rfl ?_
  refine l_con (p' := 1600) rfl rfl rfl ?_
  refine l_bz (p' := 1601) (z := (nI 1)) rfl rfl rfl rfl rfl (by decide +kernel) ?_
  refine l_ialz (p' := 1602) (m := 1) (z := p) rfl rfl (by decide +kernel) rfl hx1 rfl ?_
  refine l_alds (p' := 1603) rfl rfl rfl rfl ?_
  refine l_ild (p' := 1605) rfl rfl rfl rfl ?_
  refine l_con (p' := 1606) rfl rfl rfl ?_
  refine l_bz (p' := 1607) (z := (nI 2)) rfl rfl rfl rfl rfl (by decide +kernel) ?_
  refine l_ialz (p' := 1608) (m := 2) (z := (xs 2)) rfl rfl (by decide +kernel) rfl rfl rfl ?_
  refine l_bz (p' := 1609) (z := c) rfl rfl rfl rfl rfl hc ?_
  refine l_alds (p' := 1610) rfl rfl rfl rfl ?_
  refine l_ild (p' := 1612) rfl rfl rfl rfl ?_
  refine l_con (p' := 1613) rfl rfl rfl ?_
  refine l_bz (p' := 1614) (z := (nI 3)) rfl rfl rfl rfl rfl (by decide +kernel) ?_
  refine l_ialz (p' := 1615) (m := 3) (z := (xs 3)) rfl rfl (by decide +kernel) rfl rfl rfl ?_
  refine l_aldn (p' := 1616) rfl rfl rfl rfl ?_
  refine l_call (p' := 1619) (kc := 99) (ls0 := [_, _, _, _, _, _]) rfl rfl rfl rfl rfl rfl rfl rfl rfl rfl ?_
  refine s_ald (p' := 2) rfl rfl rfl ?_
  refine s_con (p' := 3) rfl rfl ?_
  refine s_aldn (p' := 4) rfl rfl rfl ?_
  refine s_ildn (p' := 5) rfl rfl rfl ?_
  refine s_ildn (p' := 6) rfl rfl rfl ?_
  refine s_ildn (p' := 7) rfl rfl rfl ?_
  refine c_call (p' := 10) (kc := 98) (ls0 := [_, _, _, _]) rfl rfl rfl rfl rfl (mj_rcv_is H0) rfl rfl rfl ?_
  refine s_aldn (p' := 1) rfl rfl rfl ?_
  refine s_gf (p' := 4) rfl H0 rfl rfl ?_
  refine s_ildn (p' := 5) rfl rfl rfl ?_
  refine c_call (p' := 8) (kc := 97) (ls0 := [_, _]) rfl rfl rfl rfl rfl (mj_rcv_is H38) rfl rfl rfl ?_
  refine s_ildn (p' := 1) rfl rfl rfl ?_
  refine s_if (p' := 16) true rfl ((cg_lt (w := 0) (by decide +kernel)).trans (decide_eq_true (by omega))) rfl ?_
  refine s_con (p' := 17) rfl rfl ?_
  refine c_iret rfl (by decide +kernel) ?_
  refine s_if (p' := 11) false rfl (by decide +kernel) rfl ?_
  refine s_thrz (q := 414) rfl HL rfl ?_
  refine K_c (hp := 15) rfl (mj_ocl_is (rd_nw rfl HL)) rfl ?_
  refine s_ast (p' := 17) (ls' := [_, _, _, _, _, _]) rfl rfl rfl rfl ?_
  refine s_con (p' := 18) rfl rfl ?_
  refine k_iret rfl rfl ?_
  refine l_ist (p' := 1621) (ls' := [_, _, _, _, _, _, _, _, _, _]) rfl rfl rfl rfl rfl ?_
  refine l_aldn (p' := 1622) rfl rfl rfl rfl ?_
  refine l_alds (p' := 1623) rfl rfl rfl rfl ?_
  refine l_ild (p' := 1625) rfl rfl rfl rfl ?_
  refine l_con (p' := 1626) rfl rfl rfl ?_
  refine l_bz (p' := 1627) (z := (nI 1)) rfl rfl rfl rfl rfl (by decide +kernel) ?_
  refine l_ialz (p' := 1628) (m := 1) (z := p) rfl rfl (by decide +kernel) rfl hx1 rfl ?_
  refine l_alds (p' := 1629) rfl rfl rfl rfl ?_
  refine l_ild (p' := 1631) rfl rfl rfl rfl ?_
  refine l_con (p' := 1632) rfl rfl rfl ?_
  refine l_bz (p' := 1633) (z := (nI 2)) rfl rfl rfl rfl rfl (by decide +kernel) ?_
  refine l_ialz (p' := 1634) (m := 2) (z := (xs 2)) rfl rfl (by decide +kernel) rfl rfl rfl ?_
  refine l_bz (p' := 1635) (z := c) rfl rfl rfl rfl rfl hc ?_
  refine l_alds (p' := 1636) rfl rfl rfl rfl ?_
  refine l_ild (p' := 1638) rfl rfl rfl rfl ?_
  refine l_con (p' := 1639) rfl rfl rfl ?_
  refine l_bz (p' := 1640) (z := (nI 3)) rfl rfl rfl rfl rfl (by decide +kernel) ?_
  refine l_ialz (p' := 1641) (m := 3) (z := (xs 3)) rfl rfl (by decide +kernel) rfl rfl rfl ?_
  refine l_call (p' := 1644) (kc := 99) (ls0 := [_, _, _, _, _]) rfl rfl rfl rfl rfl rfl (mj_rcv_is (rd_app H400)) rfl rfl rfl ?_
  refine s_aldn (p' := 1) rfl rfl rfl ?_
  refine s_aldn (p' := 2) rfl rfl rfl ?_
  refine s_ildn (p' := 3) rfl rfl rfl ?_
  refine c_call (p' := 6) (kc := 98) (ls0 := [_, _]) rfl rfl rfl rfl rfl (mj_rcv_is (rd_app H400)) rfl rfl rfl ?_
  refine s_ildn (p' := 1) rfl rfl rfl ?_
  refine s_con (p' := 2) rfl rfl ?_
  refine s_aldn (p' := 3) rfl rfl rfl ?_
  refine s_gf (p' := 6) rfl (rd_app H400) rfl rfl ?_
  refine c_call (p' := 11) (kc := 97) (ls0 := [_]) rfl rfl rfl rfl rfl (mj_rcv_is (rd_app H401)) rfl rfl rfl ?_
  refine s_aldn (p' := 1) rfl rfl rfl ?_
  refine s_gf (p' := 4) rfl (rd_app H401) rfl rfl ?_
  refine c_iret rfl rfl ?_
  refine s_con (p' := 12) rfl rfl ?_
  refine s_bz (p' := 13) (z := (nI 4294967295)) rfl rfl rfl (by decide +kernel) ?_
  refine c_call (p' := 16) (kc := 97) (ls0 := [_, _, _]) rfl rfl rfl rfl rfl rfl rfl rfl rfl ?_
  refine s_ildn (p' := 1) rfl rfl rfl ?_
  refine s_ildn (p' := 2) rfl rfl rfl ?_
  refine s_icmp (p' := 14) true rfl ((ch_gt (w := 0) (by decide +kernel)).trans (decide_eq_true (by omega))) rfl ?_
  refine s_con (p' := 15) rfl rfl ?_
  refine c_iret rfl (by decide +kernel) ?_
  refine c_iret rfl (by decide +kernel) ?_
  refine s_if (p' := 9) false rfl (by decide +kernel) rfl ?_
  refine s_con (p' := 10) rfl rfl ?_
  refine s_goto (p' := 25) rfl rfl ?_
  refine c_call (p' := 28) (kc := 98) (ls0 := [_, _]) rfl rfl rfl rfl rfl (mj_rcv_is (rd_app H400)) rfl rfl rfl ?_
  refine s_aldn (p' := 1) rfl rfl rfl ?_
  refine s_ildn (p' := 2) rfl rfl rfl ?_
  refine s_pfz (p' := 5) (fs' := [_, _, _, _, _, _, _, _, _, _, _]) rfl rfl (rd_app H400) rfl rfl rfl rfl ?_
  refine s_ildn (p' := 6) rfl rfl rfl ?_
  refine s_if (p' := 9) false rfl (by decide +kernel) rfl ?_
  refine s_con (p' := 10) rfl rfl ?_
  refine s_goto (p' := 14) rfl rfl ?_
  refine c_iret rfl (by decide +kernel) ?_
  refine s_if (p' := 31) false rfl (by decide +kernel) rfl ?_
  refine s_con (p' := 32) rfl rfl ?_
  refine k_iret rfl rfl ?_
  refine l_ist (p' := 1646) (ls' := [_, _, _, _, _, _, _, _, _, _]) rfl rfl rfl rfl rfl ?_
  refine l_aldn (p' := 1647) rfl rfl rfl rfl ?_
  refine l_call (p' := 1650) (kc := 99) (ls0 := [_]) rfl rfl rfl rfl rfl rfl (mj_rcv_is (rd_ss rfl (rd_app H400))) rfl rfl rfl ?_
  refine s_aldn (p' := 1) rfl rfl rfl ?_
  refine s_gf (p' := 4) rfl (rd_ss rfl (rd_app H400)) rfl rfl ?_
  refine k_iret rfl rfl ?_
  refine l_ild (p' := 1652) rfl rfl rfl rfl ?_
  refine l_icmp (p' := 1657) true rfl rfl (by decide +kernel) rfl ?_
  refine l_ild (p' := 1659) rfl rfl rfl rfl ?_
  refine l_if (p' := 1674) true rfl rfl (by decide +kernel) rfl ?_
  refine l_goto (p' := 2541) rfl rfl rfl ?_
  refine l_incz (p' := 2544) (w := (nI 4)) (ls' := [_, _, _, _, _, _, _, _, _, _]) rfl rfl rfl rfl (by decide +kernel) rfl rfl ?_
  refine l_goto (p' := 28) rfl rfl rfl ?_
  refine l_ild (p' := 30) rfl rfl rfl rfl ?_
  refine l_alds (p' := 31) rfl rfl rfl rfl ?_
  refine l_lens (p' := 32) rfl rfl rfl ?_
  refine l_con (p' := 33) rfl rfl rfl ?_
  refine l_bz (p' := 34) (z := (nI 0)) rfl rfl rfl rfl rfl (by decide +kernel) ?_
  refine l_icmp (p' := 2547) true rfl rfl (by decide +kernel) rfl ?_
  refine l_con (p' := 2548) rfl rfl rfl ?_
  refine l_end rfl rfl ?_
  exact ⟨Nat.le_trans (Nat.le_of_eq (len_s (len_a HL rfl))) (Nat.le_of_ble_eq_true rfl), Nat.le_trans (sz_s rfl (rd_app H400) rfl (sz_aa (k := 6) (m := 20006) rfl rfl HZ)) (Nat.le_of_ble_eq_true rfl)⟩
theorem p1_26_p {xs : Nat → Int32} {h : mj_H} (hk : xs 0 &&& nI 63 = nI 26) {p : Int32} (hx1 : xs 1 = p) {c : Int32} (hc : ((xs 2).toUInt32 % 65536).toInt32 = c) (hp : 0 ≤ p.toInt) (HL : h.length = 414) (HZ : mj_sz h ≤ 20000) (H0 : mj_rd h 0 = some (.inr (0, [.ref 1, .ref 38, .ref 299, .ref 336, .ref 373, .ref 375, .ref 378, .ref 381, .ref 387, .ref 393, .null, .null, .ref 397, .ref 398, .ref 399, .long (lN 0), .long (lN 0)]))) (H38 : mj_rd h 38 = some (.inr (6, [.ref 39, .ref 40, .int (nI 0)]))) (H400 : mj_rd h 400 = some (.inr (17, [.int (nI 0), .ref 401, .ref 402, .ref 1000300, .long (lN 0), .long (lN 0), .ref 410, .null, .null, .null, .ref 411]))) (H401 : mj_rd h 401 = some (.inr (18, [.ref 1000000, .int (nI 0), .int (nI 0)]))) : mj_fin 4 xs h := by
  unfold mj_fin
  refine l_ild (p' := 30) rfl rfl rfl rfl ?_
  refine l_alds (p' := 31) rfl rfl rfl rfl ?_
  refine l_lens (p' := 32) rfl rfl rfl ?_
  refine l_con (p' := 33) rfl rfl rfl ?_
  refine l_bz (p' := 34) (z := (nI 0)) rfl rfl rfl rfl rfl (by decide +kernel) ?_
  refine l_icmp (p' := 37) false rfl rfl (by decide +kernel) rfl ?_
  refine l_alds (p' := 38) rfl rfl rfl rfl ?_
  refine l_ild (p' := 40) rfl rfl rfl rfl ?_
  refine l_ialz (p' := 41) (m := 0) (z := (xs 0)) rfl rfl (by decide +kernel) rfl rfl rfl ?_
  refine l_bip (p' := 43) rfl rfl rfl ?_
  refine l_bz (p' := 44) (z := (nI 26)) rfl rfl rfl rfl rfl hk ?_
  refine l_sp (p' := 1595) (ls' := _) rfl rfl rfl rfl rfl ?_
  refine l_aldn (p' := 1596) rfl rfl rfl rfl ?_
  refine l_alds (p' := 1597) rfl rfl rfl rfl ?_
  refine l_ild (p' := 1599) rfl rfl rfl rfl ?_
  refine l_con (p' := 1600) rfl rfl rfl ?_
  refine l_bz (p' := 1601) (z := (nI 1)) rfl rfl rfl rfl rfl (by decide +kernel) ?_
  refine l_ialz (p' := 1602) (m := 1) (z := p) rfl rfl (by decide +kernel) rfl hx1 rfl ?_
  refine l_alds (p' := 1603) rfl rfl rfl rfl ?_
  refine l_ild (p' := 1605) rfl rfl rfl rfl ?_
  refine l_con (p' := 1606) rfl rfl rfl ?_
  refine l_bz (p' := 1607) (z := (nI 2)) rfl rfl rfl rfl rfl (by decide +kernel) ?_
  refine l_ialz (p' := 1608) (m := 2) (z := (xs 2)) rfl rfl (by decide +kernel) rfl rfl rfl ?_
  refine l_bz (p' := 1609) (z := c) rfl rfl rfl rfl rfl hc ?_
  refine l_alds (p' := 1610) rfl rfl rfl rfl ?_
  refine l_ild (p' := 1612) rfl rfl rfl rfl ?_
  refine l_con (p' := 1613) rfl rfl rfl ?_
  refine l_bz (p' := 1614) (z := (nI 3)) rfl rfl rfl rfl rfl (by decide +kernel) ?_
  refine l_ialz (p' := 1615) (m := 3) (z := (xs 3)) rfl rfl (by decide +kernel) rfl rfl rfl ?_
  refine l_aldn (p' := 1616) rfl rfl rfl rfl ?_
  refine l_call (p' := 1619) (kc := 99) (ls0 := [_, _, _, _, _, _]) rfl rfl rfl rfl rfl rfl rfl rfl rfl rfl ?_
  refine s_ald (p' := 2) rfl rfl rfl ?_
  refine s_con (p' := 3) rfl rfl ?_
  refine s_aldn (p' := 4) rfl rfl rfl ?_
  refine s_ildn (p' := 5) rfl rfl rfl ?_
  refine s_ildn (p' := 6) rfl rfl rfl ?_
  refine s_ildn (p' := 7) rfl rfl rfl ?_
  refine c_call (p' := 10) (kc := 98) (ls0 := [_, _, _, _]) rfl rfl rfl rfl rfl (mj_rcv_is H0) rfl rfl rfl ?_
  refine s_aldn (p' := 1) rfl rfl rfl ?_
  refine s_gf (p' := 4) rfl H0 rfl rfl ?_
  refine s_ildn (p' := 5) rfl rfl rfl ?_
  refine c_call (p' := 8) (kc := 97) (ls0 := [_, _]) rfl rfl rfl rfl rfl (mj_rcv_is H38) rfl rfl rfl ?_
  refine s_ildn (p' := 1) rfl rfl rfl ?_
  refine s_if (p' := 4) false rfl ((cg_lt (w := 0) (by decide +kernel)).trans (decide_eq_false (by omega))) rfl ?_
  refine s_ildn (p' := 5) rfl rfl rfl ?_
  refine s_aldn (p' := 6) rfl rfl rfl ?_
  refine s_gf (p' := 9) rfl H38 rfl rfl ?_
  refine s_icmp (p' := 16) true rfl ((cg_ge (w := 0) (by decide +kernel)).trans (decide_eq_true (by omega))) rfl ?_
  refine s_con (p' := 17) rfl rfl ?_
  refine c_iret rfl (by decide +kernel) ?_
  refine s_if (p' := 11) false rfl (by decide +kernel) rfl ?_
  refine s_thrz (q := 414) rfl HL rfl ?_
  refine K_c (hp := 15) rfl (mj_ocl_is (rd_nw rfl HL)) rfl ?_
  refine s_ast (p' := 17) (ls' := [_, _, _, _, _, _]) rfl rfl rfl rfl ?_
  refine s_con (p' := 18) rfl rfl ?_
  refine k_iret rfl rfl ?_
  refine l_ist (p' := 1621) (ls' := [_, _, _, _, _, _, _, _, _, _]) rfl rfl rfl rfl rfl ?_
  refine l_aldn (p' := 1622) rfl rfl rfl rfl ?_
  refine l_alds (p' := 1623) rfl rfl rfl rfl ?_
  refine l_ild (p' := 1625) rfl rfl rfl rfl ?_
  refine l_con (p' := 1626) rfl rfl rfl ?_
  refine l_bz (p' := 1627) (z := (nI 1)) rfl rfl rfl rfl rfl (by decide +kernel) ?_
  refine l_ialz (p' := 1628) (m := 1) (z := p) rfl rfl (by decide +kernel) rfl hx1 rfl ?_
  refine l_alds (p' := 1629) rfl rfl rfl rfl ?_
  refine l_ild (p' := 1631) rfl rfl rfl rfl ?_
  refine l_con (p' := 1632) rfl rfl rfl ?_
  refine l_bz (p' := 1633) (z := (nI 2)) rfl rfl rfl rfl rfl (by decide +kernel) ?_
  refine l_ialz (p' := 1634) (m := 2) (z := (xs 2)) rfl rfl (by decide +kernel) rfl rfl rfl ?_
  refine l_bz (p' := 1635) (z := c) rfl rfl rfl rfl rfl hc ?_
  refine l_alds (p' := 1636) rfl rfl rfl rfl ?_
  refine l_ild (p' := 1638) rfl rfl rfl rfl ?_
  refine l_con (p' := 1639) rfl rfl rfl ?_
  refine l_bz (p' := 1640) (z := (nI 3)) rfl rfl rfl rfl rfl (by decide +kernel) ?_
  refine l_ialz (p' := 1641) (m := 3) (z := (xs 3)) rfl rfl (by decide +kernel) rfl rfl rfl ?_
  refine l_call (p' := 1644) (kc := 99) (ls0 := [_, _, _, _, _]) rfl rfl rfl rfl rfl rfl (mj_rcv_is (rd_app H400)) rfl rfl rfl ?_
  refine s_aldn (p' := 1) rfl rfl rfl ?_
  refine s_aldn (p' := 2) rfl rfl rfl ?_
  refine s_ildn (p' := 3) rfl rfl rfl ?_
  refine c_call (p' := 6) (kc := 98) (ls0 := [_, _]) rfl rfl rfl rfl rfl (mj_rcv_is (rd_app H400)) rfl rfl rfl ?_
  refine s_ildn (p' := 1) rfl rfl rfl ?_
  refine s_con (p' := 2) rfl rfl ?_
  refine s_aldn (p' := 3) rfl rfl rfl ?_
  refine s_gf (p' := 6) rfl (rd_app H400) rfl rfl ?_
  refine c_call (p' := 11) (kc := 97) (ls0 := [_]) rfl rfl rfl rfl rfl (mj_rcv_is (rd_app H401)) rfl rfl rfl ?_
  refine s_aldn (p' := 1) rfl rfl rfl ?_
  refine s_gf (p' := 4) rfl (rd_app H401) rfl rfl ?_
  refine c_iret rfl rfl ?_
  refine s_con (p' := 12) rfl rfl ?_
  refine s_bz (p' := 13) (z := (nI 4294967295)) rfl rfl rfl (by decide +kernel) ?_
  refine c_call (p' := 16) (kc := 97) (ls0 := [_, _, _]) rfl rfl rfl rfl rfl rfl rfl rfl rfl ?_
  refine s_ildn (p' := 1) rfl rfl rfl ?_
  refine s_ildn (p' := 2) rfl rfl rfl ?_
  refine s_icmp (p' := 5) false rfl ((ch_gt (w := 0) (by decide +kernel)).trans (decide_eq_false (by omega))) rfl ?_
  refine s_ildn (p' := 6) rfl rfl rfl ?_
  refine s_ildn (p' := 7) rfl rfl rfl ?_
  refine s_icmp (p' := 14) true rfl ((cg_gt (w := -1) (by decide +kernel)).trans (decide_eq_true (by omega))) rfl ?_
  refine s_con (p' := 15) rfl rfl ?_
  refine c_iret rfl (by decide +kernel) ?_
  refine c_iret rfl (by decide +kernel) ?_
  refine s_if (p' := 9) false rfl (by decide +kernel) rfl ?_
  refine s_con (p' := 10) rfl rfl ?_
  refine s_goto (p' := 25) rfl rfl ?_
  refine c_call (p' := 28) (kc := 98) (ls0 := [_, _]) rfl rfl rfl rfl rfl (mj_rcv_is (rd_app H400)) rfl rfl rfl ?_
  refine s_aldn (p' := 1) rfl rfl rfl ?_
  refine s_ildn (p' := 2) rfl rfl rfl ?_
  refine s_pfz (p' := 5) (fs' := [_, _, _, _, _, _, _, _, _, _, _]) rfl rfl (rd_app H400) rfl rfl rfl rfl ?_
  refine s_ildn (p' := 6) rfl rfl rfl ?_
  refine s_if (p' := 9) false rfl (by decide +kernel) rfl ?_
  refine s_con (p' := 10) rfl rfl ?_
  refine s_goto (p' := 14) rfl rfl ?_
  refine c_iret rfl (by decide +kernel) ?_
  refine s_if (p' := 31) false rfl (by decide +kernel) rfl ?_
  refine s_con (p' := 32) rfl rfl ?_
  refine k_iret rfl rfl ?_
  refine l_ist (p' := 1646) (ls' := [_, _, _, _, _, _, _, _, _, _]) rfl rfl rfl rfl rfl ?_
  refine l_aldn (p' := 1647) rfl rfl rfl rfl ?_
  refine l_call (p' := 1650) (kc := 99) (ls0 := [_]) rfl rfl rfl rfl rfl rfl (mj_rcv_is (rd_ss rfl (rd_app H400))) rfl rfl rfl ?_
  refine s_aldn (p' := 1) rfl rfl rfl ?_
  refine s_gf (p' := 4) rfl (rd_ss rfl (rd_app H400)) rfl rfl ?_
  refine k_iret rfl rfl ?_
  refine l_ild (p' := 1652) rfl rfl rfl rfl ?_
  refine l_icmp (p' := 1657) true rfl rfl (by decide +kernel) rfl ?_
  refine l_ild (p' := 1659) rfl rfl rfl rfl ?_
  refine l_if (p' := 1674) true rfl rfl (by decide +kernel) rfl ?_
  refine l_goto (p' := 2541) rfl rfl rfl ?_
  refine l_incz (p' := 2544) (w := (nI 4)) (ls' := [_, _, _, _, _, _, _, _, _, _]) rfl rfl rfl rfl (by decide +kernel) rfl rfl ?_
  refine l_goto (p' := 28) rfl rfl rfl ?_
  refine l_ild (p' := 30) rfl rfl rfl rfl ?_
  refine l_alds (p' := 31) rfl rfl rfl rfl ?_
  refine l_lens (p' := 32) rfl rfl rfl ?_
  refine l_con (p' := 33) rfl rfl rfl ?_
  refine l_bz (p' := 34) (z := (nI 0)) rfl rfl rfl rfl rfl (by decide +kernel) ?_
  refine l_icmp (p' := 2547) true rfl rfl (by decide +kernel) rfl ?_
  refine l_con (p' := 2548) rfl rfl rfl ?_
  refine l_end rfl rfl ?_
  exact ⟨Nat.le_trans (Nat.le_of_eq (len_s (len_a HL rfl))) (Nat.le_of_ble_eq_true rfl), Nat.le_trans (sz_s rfl (rd_app H400) rfl (sz_aa (k := 6) (m := 20006) rfl rfl HZ)) (Nat.le_of_ble_eq_true rfl)⟩
theorem p1_27_n {xs : Nat → Int32} {h : mj_H} (hk : xs 0 &&& nI 63 = nI 27) {p : Int32} (hx1 : xs 1 = p) {c : Int32} (hc : ((xs 2).toUInt32 % 65536).toInt32 = c) (hp : p.toInt < 0) (HL : h.length = 414) (HZ : mj_sz h ≤ 20000) (H0 : mj_rd h 0 = some (.inr (0, [.ref 1, .ref 38, .ref 299, .ref 336, .ref 373, .ref 375, .ref 378, .ref 381, .ref 387, .ref 393, .null, .null, .ref 397, .ref 398, .ref 399, .long (lN 0), .long (lN 0)]))) (H38 : mj_rd h 38 = some (.inr (6, [.ref 39, .ref 40, .int (nI 0)]))) (H400 : mj_rd h 400 = some (.inr (17, [.int (nI 0), .ref 401, .ref 402, .ref 1000300, .long (lN 0), .long (lN 0), .ref 410, .null, .null, .null, .ref 411]))) (H401 : mj_rd h 401 = some (.inr (18, [.ref 1000000, .int (nI 0), .int (nI 0)]))) : mj_fin 4 xs h := by
  unfold mj_fin
  refine l_ild (p' := 30) rfl rfl rfl rfl ?_
  refine l_alds (p' := 31) rfl rfl rfl rfl ?_
  refine l_lens (p' := 32) rfl rfl rfl ?_
  refine l_con (p' := 33) rfl rfl rfl ?_
  refine l_bz (p' := 34) (z := (nI 0)) rfl rfl rfl rfl rfl (by decide +kernel) ?_
  refine l_icmp (p' := 37) false rfl rfl (by decide +kernel) rfl ?_
  refine l_alds (p' := 38) rfl rfl rfl rfl ?_
  refine l_ild (p' := 40) rfl rfl rfl rfl ?_
  refine l_ialz (p' := 41) (m := 0) (z := (xs 0)) rfl rfl (by decide +kernel) rfl rfl rfl ?_
  refine l_bip (p' := 43) rfl rfl rfl ?_
  refine l_bz (p' := 44) (z := (nI 27)) rfl rfl rfl rfl rfl hk ?_
  refine l_sp (p' := 1677) (ls' := _) rfl rfl rfl rfl rfl ?_
  refine l_aldn (p' := 1678) rfl rfl rfl rfl ?_
  refine l_alds (p' := 1679) rfl rfl rfl rfl ?_
  refine l_ild (p' := 1681) rfl rfl rfl rfl ?_
  refine l_con (p' := 1682) rfl rfl rfl ?_
  refine l_bz (p' := 1683) (z := (nI 1)) rfl rfl rfl rfl rfl (by decide +kernel) ?_
  refine l_ialz (p' := 1684) (m := 1) (z := p) rfl rfl (by decide +kernel) rfl hx1 rfl ?_
  refine l_alds (p' := 1685) rfl rfl rfl rfl ?_
  refine l_ild (p' := 1687) rfl rfl rfl rfl ?_
  refine l_con (p' := 1688) rfl rfl rfl ?_
  refine l_bz (p' := 1689) (z := (nI 2)) rfl rfl rfl rfl rfl (by decide +kernel) ?_
  refine l_ialz (p' := 1690) (m := 2) (z := (xs 2)) rfl rfl (by decide +kernel) rfl rfl rfl ?_
  refine l_bz (p' := 1691) (z := c) rfl rfl rfl rfl rfl hc ?_
  refine l_aldn (p' := 1692) rfl rfl rfl rfl ?_
  refine l_call (p' := 1695) (kc := 99) (ls0 := [_, _, _, _, _]) rfl rfl rfl rfl rfl rfl rfl rfl rfl rfl ?_
  refine s_aldn (p' := 1) rfl rfl rfl ?_
  refine s_con (p' := 2) rfl rfl ?_
  refine s_aldn (p' := 3) rfl rfl rfl ?_
  refine s_ildn (p' := 4) rfl rfl rfl ?_
  refine s_ildn (p' := 5) rfl rfl rfl ?_
  refine c_call (p' := 8) (kc := 98) (ls0 := [_, _, _, _, _]) rfl rfl rfl rfl rfl (mj_rcv_is H0) rfl rfl rfl ?_
  refine s_aldn (p' := 1) rfl rfl rfl ?_
  refine s_gf (p' := 4) rfl H0 rfl rfl ?_
  refine s_ildn (p' := 5) rfl rfl rfl ?_
  refine c_call (p' := 8) (kc := 97) (ls0 := [_, _]) rfl rfl rfl rfl rfl (mj_rcv_is H38) rfl rfl rfl ?_
  refine s_ildn (p' := 1) rfl rfl rfl ?_
  refine s_if (p' := 16) true rfl ((cg_lt (w := 0) (by decide +kernel)).trans (decide_eq_true (by omega))) rfl ?_
  refine s_con (p' := 17) rfl rfl ?_
  refine c_iret rfl (by decide +kernel) ?_
  refine s_if (p' := 11) false rfl (by decide +kernel) rfl ?_
  refine s_thrz (q := 414) rfl HL rfl ?_
  refine K_c (hp := 13) rfl (mj_ocl_is (rd_nw rfl HL)) rfl ?_
  refine s_ast (p' := 15) (ls' := [_, _, _, _, _]) rfl rfl rfl rfl ?_
  refine s_con (p' := 16) rfl rfl ?_
  refine k_iret rfl rfl ?_
  refine l_ist (p' := 1697) (ls' := [_, _, _, _, _, _, _, _, _, _]) rfl rfl rfl rfl rfl ?_
  refine l_aldn (p' := 1698) rfl rfl rfl rfl ?_
  refine l_alds (p' := 1699) rfl rfl rfl rfl ?_
  refine l_ild (p' := 1701) rfl rfl rfl rfl ?_
  refine l_con (p' := 1702) rfl rfl rfl ?_
  refine l_bz (p' := 1703) (z := (nI 1)) rfl rfl rfl rfl rfl (by decide +kernel) ?_
  refine l_ialz (p' := 1704) (m := 1) (z := p) rfl rfl (by decide +kernel) rfl hx1 rfl ?_
  refine l_alds (p' := 1705) rfl rfl rfl rfl ?_
  refine l_ild (p' := 1707) rfl rfl rfl rfl ?_
  refine l_con (p' := 1708) rfl rfl rfl ?_
  refine l_bz (p' := 1709) (z := (nI 2)) rfl rfl rfl rfl rfl (by decide +kernel) ?_
  refine l_ialz (p' := 1710) (m := 2) (z := (xs 2)) rfl rfl (by decide +kernel) rfl rfl rfl ?_
  refine l_bz (p' := 1711) (z := c) rfl rfl rfl rfl rfl hc ?_
  refine l_call (p' := 1714) (kc := 99) (ls0 := [_, _, _]) rfl rfl rfl rfl rfl rfl (mj_rcv_is (rd_app H400)) rfl rfl rfl ?_
  refine s_aldn (p' := 1) rfl rfl rfl ?_
  refine s_ildn (p' := 2) rfl rfl rfl ?_
  refine s_ildn (p' := 3) rfl rfl rfl ?_
  refine s_con (p' := 4) rfl rfl ?_
  refine c_call (p' := 7) (kc := 98) (ls0 := [_, _, _, _, _, _, _, _, _, _, _]) rfl rfl rfl rfl rfl (mj_rcv_is (rd_app H400)) rfl rfl rfl ?_
  refine s_aldn (p' := 1) rfl rfl rfl ?_
  refine s_aldn (p' := 2) rfl rfl rfl ?_
  refine s_ildn (p' := 3) rfl rfl rfl ?_
  refine c_call (p' := 6) (kc := 97) (ls0 := [_, _]) rfl rfl rfl rfl rfl (mj_rcv_is (rd_app H400)) rfl rfl rfl ?_
  refine s_ildn (p' := 1) rfl rfl rfl ?_
  refine s_con (p' := 2) rfl rfl ?_
  refine s_aldn (p' := 3) rfl rfl rfl ?_
  refine s_gf (p' := 6) rfl (rd_app H400) rfl rfl ?_
  refine c_call (p' := 11) (kc := 96) (ls0 := [_]) rfl rfl rfl rfl rfl (mj_rcv_is (rd_app H401)) rfl rfl rfl ?_
  refine s_aldn (p' := 1) rfl rfl rfl ?_
  refine s_gf (p' := 4) rfl (rd_app H401) rfl rfl ?_
  refine c_iret rfl rfl ?_
  refine s_con (p' := 12) rfl rfl ?_
  refine s_bz (p' := 13) (z := (nI 4294967295)) rfl rfl rfl (by decide +kernel) ?_
  refine c_call (p' := 16) (kc := 96) (ls0 := [_, _, _]) rfl rfl rfl rfl rfl rfl rfl rfl rfl ?_
  refine s_ildn (p' := 1) rfl rfl rfl ?_
  refine s_ildn (p' := 2) rfl rfl rfl ?_
  refine s_icmp (p' := 14) true rfl ((ch_gt (w := 0) (by decide +kernel)).trans (decide_eq_true (by omega))) rfl ?_
  refine s_con (p' := 15) rfl rfl ?_
  refine c_iret rfl (by decide +kernel) ?_
  refine c_iret rfl (by decide +kernel) ?_
  refine s_if (p' := 9) false rfl (by decide +kernel) rfl ?_
  refine s_con (p' := 10) rfl rfl ?_
  refine s_goto (p' := 25) rfl rfl ?_
  refine c_call (p' := 28) (kc := 97) (ls0 := [_, _]) rfl rfl rfl rfl rfl (mj_rcv_is (rd_app H400)) rfl rfl rfl ?_
  refine s_aldn (p' := 1) rfl rfl rfl ?_
  refine s_ildn (p' := 2) rfl rfl rfl ?_
  refine s_pfz (p' := 5) (fs' := [_, _, _, _, _, _, _, _, _, _, _]) rfl rfl (rd_app H400) rfl rfl rfl rfl ?_
  refine s_ildn (p' := 6) rfl rfl rfl ?_
  refine s_if (p' := 9) false rfl (by decide +kernel) rfl ?_
  refine s_con (p' := 10) rfl rfl ?_
  refine s_goto (p' := 14) rfl rfl ?_
  refine c_iret rfl (by decide +kernel) ?_
  refine s_if (p' := 31) false rfl (by decide +kernel) rfl ?_
  refine s_con (p' := 32) rfl rfl ?_
  refine c_iret rfl rfl ?_
  refine k_iret rfl rfl ?_
  refine l_ist (p' := 1716) (ls' := [_, _, _, _, _, _, _, _, _, _]) rfl rfl rfl rfl rfl ?_
  refine l_aldn (p' := 1717) rfl rfl rfl rfl ?_
  refine l_call (p' := 1720) (kc := 99) (ls0 := [_]) rfl rfl rfl rfl rfl rfl (mj_rcv_is (rd_ss rfl (rd_app H400))) rfl rfl rfl ?_
  refine s_aldn (p' := 1) rfl rfl rfl ?_
  refine s_gf (p' := 4) rfl (rd_ss rfl (rd_app H400)) rfl rfl ?_
  refine k_iret rfl rfl ?_
  refine l_ild (p' := 1722) rfl rfl rfl rfl ?_
  refine l_icmp (p' := 1727) true rfl rfl (by decide +kernel) rfl ?_
  refine l_ild (p' := 1729) rfl rfl rfl rfl ?_
  refine l_if (p' := 1744) true rfl rfl (by decide +kernel) rfl ?_
  refine l_goto (p' := 2541) rfl rfl rfl ?_
  refine l_incz (p' := 2544) (w := (nI 4)) (ls' := [_, _, _, _, _, _, _, _, _, _]) rfl rfl rfl rfl (by decide +kernel) rfl rfl ?_
  refine l_goto (p' := 28) rfl rfl rfl ?_
  refine l_ild (p' := 30) rfl rfl rfl rfl ?_
  refine l_alds (p' := 31) rfl rfl rfl rfl ?_
  refine l_lens (p' := 32) rfl rfl rfl ?_
  refine l_con (p' := 33) rfl rfl rfl ?_
  refine l_bz (p' := 34) (z := (nI 0)) rfl rfl rfl rfl rfl (by decide +kernel) ?_
  refine l_icmp (p' := 2547) true rfl rfl (by decide +kernel) rfl ?_
  refine l_con (p' := 2548) rfl rfl rfl ?_
  refine l_end rfl rfl ?_
  exact ⟨Nat.le_trans (Nat.le_of_eq (len_s (len_a HL rfl))) (Nat.le_of_ble_eq_true rfl), Nat.le_trans (sz_s rfl (rd_app H400) rfl (sz_aa (k := 6) (m := 20006) rfl rfl HZ)) (Nat.le_of_ble_eq_true rfl)⟩
theorem p1_27_p {xs : Nat → Int32} {h : mj_H} (hk : xs 0 &&& nI 63 = nI 27) {p : Int32} (hx1 : xs 1 = p) {c : Int32} (hc : ((xs 2).toUInt32 % 65536).toInt32 = c) (hp : 0 ≤ p.toInt) (HL : h.length = 414) (HZ : mj_sz h ≤ 20000) (H0 : mj_rd h 0 = some (.inr (0, [.ref 1, .ref 38, .ref 299, .ref 336, .ref 373, .ref 375, .ref 378, .ref 381, .ref 387, .ref 393, .null, .null, .ref 397, .ref 398, .ref 399, .long (lN 0), .long (lN 0)]))) (H38 : mj_rd h 38 = some (.inr (6, [.ref 39, .ref 40, .int (nI 0)]))) (H400 : mj_rd h 400 = some (.inr (17, [.int (nI 0), .ref 401, .ref 402, .ref 1000300, .long (lN 0), .long (lN 0), .ref 410, .null, .null, .null, .ref 411]))) (H401 : mj_rd h 401 = some (.inr (18, [.ref 1000000, .int (nI 0), .int (nI 0)]))) : mj_fin 4 xs h := by
  unfold mj_fin
  refine l_ild (p' := 30) rfl rfl rfl rfl ?_
  refine l_alds (p' := 31) rfl rfl rfl rfl ?_
  refine l_lens (p' := 32) rfl rfl rfl ?_
  refine l_con (p' := 33) rfl rfl rfl ?_
  refine l_bz (p' := 34) (z := (nI 0)) rfl rfl rfl rfl rfl (by decide +kernel) ?_
  refine l_icmp (p' := 37) false rfl rfl (by decide +kernel) rfl ?_
  refine l_alds (p' := 38) rfl rfl rfl rfl ?_
  refine l_ild (p' := 40) rfl rfl rfl rfl ?_
  refine l_ialz (p' := 41) (m := 0) (z := (xs 0)) rfl rfl (by decide +kernel) rfl rfl rfl ?_
  refine l_bip (p' := 43) rfl rfl rfl ?_
  refine l_bz (p' := 44) (z := (nI 27)) rfl rfl rfl rfl rfl hk ?_
  refine l_sp (p' := 1677) (ls' := _) rfl rfl rfl rfl rfl ?_
  refine l_aldn (p' := 1678) rfl rfl rfl rfl ?_
  refine l_alds (p' := 1679) rfl rfl rfl rfl ?_
  refine l_ild (p' := 1681) rfl rfl rfl rfl ?_
  refine l_con (p' := 1682) rfl rfl rfl ?_
  refine l_bz (p' := 1683) (z := (nI 1)) rfl rfl rfl rfl rfl (by decide +kernel) ?_
  refine l_ialz (p' := 1684) (m := 1) (z := p) rfl rfl (by decide +kernel) rfl hx1 rfl ?_
  refine l_alds (p' := 1685) rfl rfl rfl rfl ?_
  refine l_ild (p' := 1687) rfl rfl rfl rfl ?_
  refine l_con (p' := 1688) rfl rfl rfl ?_
  refine l_bz (p' := 1689) (z := (nI 2)) rfl rfl rfl rfl rfl (by decide +kernel) ?_
  refine l_ialz (p' := 1690) (m := 2) (z := (xs 2)) rfl rfl (by decide +kernel) rfl rfl rfl ?_
  refine l_bz (p' := 1691) (z := c) rfl rfl rfl rfl rfl hc ?_
  refine l_aldn (p' := 1692) rfl rfl rfl rfl ?_
  refine l_call (p' := 1695) (kc := 99) (ls0 := [_, _, _, _, _]) rfl rfl rfl rfl rfl rfl rfl rfl rfl rfl ?_
  refine s_aldn (p' := 1) rfl rfl rfl ?_
  refine s_con (p' := 2) rfl rfl ?_
  refine s_aldn (p' := 3) rfl rfl rfl ?_
  refine s_ildn (p' := 4) rfl rfl rfl ?_
  refine s_ildn (p' := 5) rfl rfl rfl ?_
  refine c_call (p' := 8) (kc := 98) (ls0 := [_, _, _, _, _]) rfl rfl rfl rfl rfl (mj_rcv_is H0) rfl rfl rfl ?_
  refine s_aldn (p' := 1) rfl rfl rfl ?_
  refine s_gf (p' := 4) rfl H0 rfl rfl ?_
  refine s_ildn (p' := 5) rfl rfl rfl ?_
  refine c_call (p' := 8) (kc := 97) (ls0 := [_, _]) rfl rfl rfl rfl rfl (mj_rcv_is H38) rfl rfl rfl ?_
  refine s_ildn (p' := 1) rfl rfl rfl ?_
  refine s_if (p' := 4) false rfl ((cg_lt (w := 0) (by decide +kernel)).trans (decide_eq_false (by omega))) rfl ?_
  refine s_ildn (p' := 5) rfl rfl rfl ?_
  refine s_aldn (p' := 6) rfl rfl rfl ?_
  refine s_gf (p' := 9) rfl H38 rfl rfl ?_
  refine s_icmp (p' := 16) true rfl ((cg_ge (w := 0) (by decide +kernel)).trans (decide_eq_true (by omega))) rfl ?_
  refine s_con (p' := 17) rfl rfl ?_
  refine c_iret rfl (by decide +kernel) ?_
  refine s_if (p' := 11) false rfl (by decide +kernel) rfl ?_
  refine s_thrz (q := 414) rfl HL rfl ?_
  refine K_c (hp := 13) rfl (mj_ocl_is (rd_nw rfl HL)) rfl ?_
  refine s_ast (p' := 15) (ls' := [_, _, _, _, _]) rfl rfl rfl rfl ?_
  refine s_con (p' := 16) rfl rfl ?_
  refine k_iret rfl rfl ?_
  refine l_ist (p' := 1697) (ls' := [_, _, _, _, _, _, _, _, _, _]) rfl rfl rfl rfl rfl ?_
  refine l_aldn (p' := 1698) rfl rfl rfl rfl ?_
  refine l_alds (p' := 1699) rfl rfl rfl rfl ?_
  refine l_ild (p' := 1701) rfl rfl rfl rfl ?_
  refine l_con (p' := 1702) rfl rfl rfl ?_
  refine l_bz (p' := 1703) (z := (nI 1)) rfl rfl rfl rfl rfl (by decide +kernel) ?_
  refine l_ialz (p' := 1704) (m := 1) (z := p) rfl rfl (by decide +kernel) rfl hx1 rfl ?_
  refine l_alds (p' := 1705) rfl rfl rfl rfl ?_
  refine l_ild (p' := 1707) rfl rfl rfl rfl ?_
  refine l_con (p' := 1708) rfl rfl rfl ?_
  refine l_bz (p' := 1709) (z := (nI 2)) rfl rfl rfl rfl rfl (by decide +kernel) ?_
  refine l_ialz (p' := 1710) (m := 2) (z := (xs 2)) rfl rfl (by decide +kernel) rfl rfl rfl ?_
  refine l_bz (p' := 1711) (z := c) rfl rfl rfl rfl rfl hc ?_
  refine l_call (p' := 1714) (kc := 99) (ls0 := [_, _, _]) rfl rfl rfl rfl rfl rfl (mj_rcv_is (rd_app H400)) rfl rfl rfl ?_
  refine s_aldn (p' := 1) rfl rfl rfl ?_
  refine s_ildn (p' := 2) rfl rfl rfl ?_
  refine s_ildn (p' := 3) rfl rfl rfl ?_
  refine s_con (p' := 4) rfl rfl ?_
  refine c_call (p' := 7) (kc := 98) (ls0 := [_, _, _, _, _, _, _, _, _, _, _]) rfl rfl rfl rfl rfl (mj_rcv_is (rd_app H400)) rfl rfl rfl ?_
  refine s_aldn (p' := 1) rfl rfl rfl ?_
  refine s_aldn (p' := 2) rfl rfl rfl ?_
  refine s_ildn (p' := 3) rfl rfl rfl ?_
  refine c_call (p' := 6) (kc := 97) (ls0 := [_, _]) rfl rfl rfl rfl rfl (mj_rcv_is (rd_app H400)) rfl rfl rfl ?_
  refine s_ildn (p' := 1) rfl rfl rfl ?_
  refine s_con (p' := 2) rfl rfl ?_
  refine s_aldn (p' := 3) rfl rfl rfl ?_
  refine s_gf (p' := 6) rfl (rd_app H400) rfl rfl ?_
  refine c_call (p' := 11) (kc := 96) (ls0 := [_]) rfl rfl rfl rfl rfl (mj_rcv_is (rd_app H401)) rfl rfl rfl ?_
  refine s_aldn (p' := 1) rfl rfl rfl ?_
  refine s_gf (p' := 4) rfl (rd_app H401) rfl rfl ?_
  refine c_iret rfl rfl ?_
  refine s_con (p' := 12) rfl rfl ?_
  refine s_bz (p' := 13) (z := (nI 4294967295)) rfl rfl rfl (by decide +kernel) ?_
  refine c_call (p' := 16) (kc := 96) (ls0 := [_, _, _]) rfl rfl rfl rfl rfl rfl rfl rfl rfl ?_
  refine s_ildn (p' := 1) rfl rfl rfl ?_
  refine s_ildn (p' := 2) rfl rfl rfl ?_
  refine s_icmp (p' := 5) false rfl ((ch_gt (w := 0) (by decide +kernel)).trans (decide_eq_false (by omega))) rfl ?_
  refine s_ildn (p' := 6) rfl rfl rfl ?_
  refine s_ildn (p' := 7) rfl rfl rfl ?_
  refine s_icmp (p' := 14) true rfl ((cg_gt (w := -1) (by decide +kernel)).trans (decide_eq_true (by omega))) rfl ?_
  refine s_con (p' := 15) rfl rfl ?_
  refine c_iret rfl (by decide +kernel) ?_
  refine c_iret rfl (by decide +kernel) ?_
  refine s_if (p' := 9) false rfl (by decide +kernel) rfl ?_
  refine s_con (p' := 10) rfl rfl ?_
  refine s_goto (p' := 25) rfl rfl ?_
  refine c_call (p' := 28) (kc := 97) (ls0 := [_, _]) rfl rfl rfl rfl rfl (mj_rcv_is (rd_app H400)) rfl rfl rfl ?_
  refine s_aldn (p' := 1) rfl rfl rfl ?_
  refine s_ildn (p' := 2) rfl rfl rfl ?_
  refine s_pfz (p' := 5) (fs' := [_, _, _, _, _, _, _, _, _, _, _]) rfl rfl (rd_app H400) rfl rfl rfl rfl ?_
  refine s_ildn (p' := 6) rfl rfl rfl ?_
  refine s_if (p' := 9) false rfl (by decide +kernel) rfl ?_
  refine s_con (p' := 10) rfl rfl ?_
  refine s_goto (p' := 14) rfl rfl ?_
  refine c_iret rfl (by decide +kernel) ?_
  refine s_if (p' := 31) false rfl (by decide +kernel) rfl ?_
  refine s_con (p' := 32) rfl rfl ?_
  refine c_iret rfl rfl ?_
  refine k_iret rfl rfl ?_
  refine l_ist (p' := 1716) (ls' := [_, _, _, _, _, _, _, _, _, _]) rfl rfl rfl rfl rfl ?_
  refine l_aldn (p' := 1717) rfl rfl rfl rfl ?_
  refine l_call (p' := 1720) (kc := 99) (ls0 := [_]) rfl rfl rfl rfl rfl rfl (mj_rcv_is (rd_ss rfl (rd_app H400))) rfl rfl rfl ?_
  refine s_aldn (p' := 1) rfl rfl rfl ?_
  refine s_gf (p' := 4) rfl (rd_ss rfl (rd_app H400)) rfl rfl ?_
  refine k_iret rfl rfl ?_
  refine l_ild (p' := 1722) rfl rfl rfl rfl ?_
  refine l_icmp (p' := 1727) true rfl rfl (by decide +kernel) rfl ?_
  refine l_ild (p' := 1729) rfl rfl rfl rfl ?_
  refine l_if (p' := 1744) true rfl rfl (by decide +kernel) rfl ?_
  refine l_goto (p' := 2541) rfl rfl rfl ?_
  refine l_incz (p' := 2544) (w := (nI 4)) (ls' := [_, _, _, _, _, _, _, _, _, _]) rfl rfl rfl rfl (by decide +kernel) rfl rfl ?_
  refine l_goto (p' := 28) rfl rfl rfl ?_
  refine l_ild (p' := 30) rfl rfl rfl rfl ?_
  refine l_alds (p' := 31) rfl rfl rfl rfl ?_
  refine l_lens (p' := 32) rfl rfl rfl ?_
  refine l_con (p' := 33) rfl rfl rfl ?_
  refine l_bz (p' := 34) (z := (nI 0)) rfl rfl rfl rfl rfl (by decide +kernel) ?_
  refine l_icmp (p' := 2547) true rfl rfl (by decide +kernel) rfl ?_
  refine l_con (p' := 2548) rfl rfl rfl ?_
  refine l_end rfl rfl ?_
  exact ⟨Nat.le_trans (Nat.le_of_eq (len_s (len_a HL rfl))) (Nat.le_of_ble_eq_true rfl), Nat.le_trans (sz_s rfl (rd_app H400) rfl (sz_aa (k := 6) (m := 20006) rfl rfl HZ)) (Nat.le_of_ble_eq_true rfl)⟩
theorem p1_28_n {xs : Nat → Int32} {h : mj_H} (hk : xs 0 &&& nI 63 = nI 28) {p : Int32} (hx1 : xs 1 = p) {c : Int32} (hc : ((xs 2).toUInt32 % 65536).toInt32 = c) (hp : p.toInt < 0) (HL : h.length = 414) (HZ : mj_sz h ≤ 20000) (H0 : mj_rd h 0 = some (.inr (0, [.ref 1, .ref 38, .ref 299, .ref 336, .ref 373, .ref 375, .ref 378, .ref 381, .ref 387, .ref 393, .null, .null, .ref 397, .ref 398, .ref 399, .long (lN 0), .long (lN 0)]))) (H38 : mj_rd h 38 = some (.inr (6, [.ref 39, .ref 40, .int (nI 0)]))) (H400 : mj_rd h 400 = some (.inr (17, [.int (nI 0), .ref 401, .ref 402, .ref 1000300, .long (lN 0), .long (lN 0), .ref 410, .null, .null, .null, .ref 411]))) (H401 : mj_rd h 401 = some (.inr (18, [.ref 1000000, .int (nI 0), .int (nI 0)]))) : mj_fin 4 xs h := by
  unfold mj_fin
  refine l_ild (p' := 30) rfl rfl rfl rfl ?_
  refine l_alds (p' := 31) rfl rfl rfl rfl ?_
  refine l_lens (p' := 32) rfl rfl rfl ?_
  refine l_con (p' := 33) rfl rfl rfl ?_
  refine l_bz (p' := 34) (z := (nI 0)) rfl rfl rfl rfl rfl (by decide +kernel) ?_
  refine l_icmp (p' := 37) false rfl rfl (by decide +kernel) rfl ?_
  refine l_alds (p' := 38) rfl rfl rfl rfl ?_
  refine l_ild (p' := 40) rfl rfl rfl rfl ?_
  refine l_ialz (p' := 41) (m := 0) (z := (xs 0)) rfl rfl (by decide +kernel) rfl rfl rfl ?_
  refine l_bip (p' := 43) rfl rfl rfl ?_
  refine l_bz (p' := 44) (z := (nI 28)) rfl rfl rfl rfl rfl hk ?_
  refine l_sp (p' := 1747) (ls' := _) rfl rfl rfl rfl rfl ?_
  refine l_aldn (p' := 1748) rfl rfl rfl rfl ?_
  refine l_alds (p' := 1749) rfl rfl rfl rfl ?_
  refine l_ild (p' := 1751) rfl rfl rfl rfl ?_
  refine l_con (p' := 1752) rfl rfl rfl ?_
  refine l_bz (p' := 1753) (z := (nI 1)) rfl rfl rfl rfl rfl (by decide +kernel) ?_
  refine l_ialz (p' := 1754) (m := 1) (z := p) rfl rfl (by decide +kernel) rfl hx1 rfl ?_
  refine l_alds (p' := 1755) rfl rfl rfl rfl ?_
  refine l_ild (p' := 1757) rfl rfl rfl rfl ?_
  refine l_con (p' := 1758) rfl rfl rfl ?_
  refine l_bz (p' := 1759) (z := (nI 2)) rfl rfl rfl rfl rfl (by decide +kernel) ?_
  refine l_ialz (p' := 1760) (m := 2) (z := (xs 2)) rfl rfl (by decide +kernel) rfl rfl rfl ?_
  refine l_bz (p' := 1761) (z := c) rfl rfl rfl rfl rfl hc ?_
  refine l_aldn (p' := 1762) rfl rfl rfl rfl ?_
  refine l_call (p' := 1765) (kc := 99) (ls0 := [_, _, _, _, _]) rfl rfl rfl rfl rfl rfl rfl rfl rfl rfl ?_
  refine s_aldn (p' := 1) rfl rfl rfl ?_
  refine s_con (p' := 2) rfl rfl ?_
  refine s_aldn (p' := 3) rfl rfl rfl ?_
  refine s_ildn (p' := 4) rfl rfl rfl ?_
  refine s_ildn (p' := 5) rfl rfl rfl ?_
  refine c_call (p' := 8) (kc := 98) (ls0 := [_, _, _, _, _, _]) rfl rfl rfl rfl rfl (mj_rcv_is H0) rfl rfl rfl ?_
  refine s_aldn (p' := 1) rfl rfl rfl ?_
  refine s_gf (p' := 4) rfl H0 rfl rfl ?_
  refine s_ildn (p' := 5) rfl rfl rfl ?_
  refine c_call (p' := 8) (kc := 97) (ls0 := [_, _]) rfl rfl rfl rfl rfl (mj_rcv_is H38) rfl rfl rfl ?_
  refine s_ildn (p' := 1) rfl rfl rfl ?_
  refine s_if (p' := 16) true rfl ((cg_lt (w := 0) (by decide +kernel)).trans (decide_eq_true (by omega))) rfl ?_
  refine s_con (p' := 17) rfl rfl ?_
  refine c_iret rfl (by decide +kernel) ?_
  refine s_if (p' := 11) false rfl (by decide +kernel) rfl ?_
  refine s_thrz (q := 414) rfl HL rfl ?_
  refine K_c (hp := 13) rfl (mj_ocl_is (rd_nw rfl HL)) rfl ?_
  refine s_ast (p' := 15) (ls' := [_, _, _, _, _]) rfl rfl rfl rfl ?_
  refine s_con (p' := 16) rfl rfl ?_
  refine k_iret rfl rfl ?_
  refine l_ist (p' := 1767) (ls' := [_, _, _, _, _, _, _, _, _, _]) rfl rfl rfl rfl rfl ?_
  refine l_aldn (p' := 1768) rfl rfl rfl rfl ?_
  refine l_alds (p' := 1769) rfl rfl rfl rfl ?_
  refine l_ild (p' := 1771) rfl rfl rfl rfl ?_
  refine l_con (p' := 1772) rfl rfl rfl ?_
  refine l_bz (p' := 1773) (z := (nI 1)) rfl rfl rfl rfl rfl (by decide +kernel) ?_
  refine l_ialz (p' := 1774) (m := 1) (z := p) rfl rfl (by decide +kernel) rfl hx1 rfl ?_
  refine l_alds (p' := 1775) rfl rfl rfl rfl ?_
  refine l_ild (p' := 1777) rfl rfl rfl rfl ?_
  refine l_con (p' := 1778) rfl rfl rfl ?_
  refine l_bz (p' := 1779) (z := (nI 2)) rfl rfl rfl rfl rfl (by decide +kernel) ?_
  refine l_ialz (p' := 1780) (m := 2) (z := (xs 2)) rfl rfl (by decide +kernel) rfl rfl rfl ?_
  refine l_bz (p' := 1781) (z := c) rfl rfl rfl rfl rfl hc ?_
  refine l_call (p' := 1784) (kc := 99) (ls0 := [_, _, _]) rfl rfl rfl rfl rfl rfl (mj_rcv_is (rd_app H400)) rfl rfl rfl ?_
  refine s_aldn (p' := 1) rfl rfl rfl ?_
  refine s_ildn (p' := 2) rfl rfl rfl ?_
  refine s_ildn (p' := 3) rfl rfl rfl ?_
  refine s_con (p' := 4) rfl rfl ?_
  refine c_call (p' := 7) (kc := 98) (ls0 := [_, _, _, _, _, _, _, _, _, _, _]) rfl rfl rfl rfl rfl (mj_rcv_is (rd_app H400)) rfl rfl rfl ?_
  refine s_aldn (p' := 1) rfl rfl rfl ?_
  refine s_aldn (p' := 2) rfl rfl rfl ?_
  refine s_ildn (p' := 3) rfl rfl rfl ?_
  refine c_call (p' := 6) (kc := 97) (ls0 := [_, _]) rfl rfl rfl rfl rfl (mj_rcv_is (rd_app H400)) rfl rfl rfl ?_
  refine s_ildn (p' := 1) rfl rfl rfl ?_
  refine s_con (p' := 2) rfl rfl ?_
  refine s_aldn (p' := 3) rfl rfl rfl ?_
  refine s_gf (p' := 6) rfl (rd_app H400) rfl rfl ?_
  refine c_call (p' := 11) (kc := 96) (ls0 := [_]) rfl rfl rfl rfl rfl (mj_rcv_is (rd_app H401)) rfl rfl rfl ?_
  refine s_aldn (p' := 1) rfl rfl rfl ?_
  refine s_gf (p' := 4) rfl (rd_app H401) rfl rfl ?_
  refine c_iret rfl rfl ?_
  refine s_con (p' := 12) rfl rfl ?_
  refine s_bz (p' := 13) (z := (nI 4294967295)) rfl rfl rfl (by decide +kernel) ?_
  refine c_call (p' := 16) (kc := 96) (ls0 := [_, _, _]) rfl rfl rfl rfl rfl rfl rfl rfl rfl ?_
  refine s_ildn (p' := 1) rfl rfl rfl ?_
  refine s_ildn (p' := 2) rfl rfl rfl ?_
  refine s_icmp (p' := 14) true rfl ((ch_gt (w := 0) (by decide +kernel)).trans (decide_eq_true (by omega))) rfl ?_
  refine s_con (p' := 15) rfl rfl ?_
  refine c_iret rfl (by decide +kernel) ?_
  refine c_iret rfl (by decide +kernel) ?_
  refine s_if (p' := 9) false rfl (by decide +kernel) rfl ?_
  refine s_con (p' := 10) rfl rfl ?_
  refine s_goto (p' := 25) rfl rfl ?_
  refine c_call (p' := 28) (kc := 97) (ls0 := [_, _]) rfl rfl rfl rfl rfl (mj_rcv_is (rd_app H400)) rfl rfl rfl ?_
  refine s_aldn (p' := 1) rfl rfl rfl ?_
  refine s_ildn (p' := 2) rfl rfl rfl ?_
  refine s_pfz (p' := 5) (fs' := [_, _, _, _, _, _, _, _, _, _, _]) rfl rfl (rd_app H400) rfl rfl rfl rfl ?_
  refine s_ildn (p' := 6) rfl rfl rfl ?_
  refine s_if (p' := 9) false rfl (by decide +kernel) rfl ?_
  refine s_con (p' := 10) rfl rfl ?_
  refine s_goto (p' := 14) rfl rfl ?_
  refine c_iret rfl (by decide +kernel) ?_
  refine s_if (p' := 31) false rfl (by decide +kernel) rfl ?_
  refine s_con (p' := 32) rfl rfl ?_
  refine c_iret rfl rfl ?_
  refine k_iret rfl rfl ?_
  refine l_ist (p' := 1786) (ls' := [_, _, _, _, _, _, _, _, _, _]) rfl rfl rfl rfl rfl ?_
  refine l_aldn (p' := 1787) rfl rfl rfl rfl ?_
  refine l_call (p' := 1790) (kc := 99) (ls0 := [_]) rfl rfl rfl rfl rfl rfl (mj_rcv_is (rd_ss rfl (rd_app H400))) rfl rfl rfl ?_
  refine s_aldn (p' := 1) rfl rfl rfl ?_
  refine s_gf (p' := 4) rfl (rd_ss rfl (rd_app H400)) rfl rfl ?_
  refine k_iret rfl rfl ?_
  refine l_ild (p' := 1792) rfl rfl rfl rfl ?_
  refine l_icmp (p' := 1797) true rfl rfl (by decide +kernel) rfl ?_
  refine l_ild (p' := 1799) rfl rfl rfl rfl ?_
  refine l_if (p' := 1814) true rfl rfl (by decide +kernel) rfl ?_
  refine l_goto (p' := 2541) rfl rfl rfl ?_
  refine l_incz (p' := 2544) (w := (nI 4)) (ls' := [_, _, _, _, _, _, _, _, _, _]) rfl rfl rfl rfl (by decide +kernel) rfl rfl ?_
  refine l_goto (p' := 28) rfl rfl rfl ?_
  refine l_ild (p' := 30) rfl rfl rfl rfl ?_
  refine l_alds (p' := 31) rfl rfl rfl rfl ?_
  refine l_lens (p' := 32) rfl rfl rfl ?_
  refine l_con (p' := 33) rfl rfl rfl ?_
  refine l_bz (p' := 34) (z := (nI 0)) rfl rfl rfl rfl rfl (by decide +kernel) ?_
  refine l_icmp (p' := 2547) true rfl rfl (by decide +kernel) rfl ?_
  refine l_con (p' := 2548) rfl rfl rfl ?_
  refine l_end rfl rfl ?_
  exact ⟨Nat.le_trans (Nat.le_of_eq (len_s (len_a HL rfl))) (Nat.le_of_ble_eq_true rfl), Nat.le_trans (sz_s rfl (rd_app H400) rfl (sz_aa (k := 6) (m := 20006) rfl rfl HZ)) (Nat.le_of_ble_eq_true rfl)⟩
theorem p1_28_p {xs : Nat → Int32} {h : mj_H} (hk : xs 0 &&& nI 63 = nI 28) {p : Int32} (hx1 : xs 1 = p) {c : Int32} (hc : ((xs 2).toUInt32 % 65536).toInt32 = c) (hp : 0 ≤ p.toInt) (HL : h.length = 414) (HZ : mj_sz h ≤ 20000) (H0 : mj_rd h 0 = some (.inr (0, [.ref 1, .ref 38, .ref 299, .ref 336, .ref 373, .ref 375, .ref 378, .ref 381, .ref 387, .ref 393, .null, .null, .ref 397, .ref 398, .ref 399, .long (lN 0), .long (lN 0)]))) (H38 : mj_rd h 38 = some (.inr (6, [.ref 39, .ref 40, .int (nI 0)]))) (H400 : mj_rd h 400 = some (.inr (17, [.int (nI 0), .ref 401, .ref 402, .ref 1000300, .long (lN 0), .long (lN 0), .ref 410, .null, .null, .null, .ref 411]))) (H401 : mj_rd h 401 = some (.inr (18, [.ref 1000000, .int (nI 0), .int (nI 0)]))) : mj_fin 4 xs h := by
  unfold mj_fin
  refine l_ild (p' := 30) rfl rfl rfl rfl ?_
  refine l_alds (p' := 31) rfl rfl rfl rfl ?_
  refine l_lens (p' := 32) rfl rfl rfl ?_
  refine l_con (p' := 33) rfl rfl rfl ?_
  refine l_bz (p' := 34) (z := (nI 0)) rfl rfl rfl rfl rfl (by decide +kernel) ?_
  refine l_icmp (p' := 37) false rfl rfl (by decide +kernel) rfl ?_
  refine l_alds (p' := 38) rfl rfl rfl rfl ?_
  refine l_ild (p' := 40) rfl rfl rfl rfl ?_
  refine l_ialz (p' := 41) (m := 0) (z := (xs 0)) rfl rfl (by decide +kernel) rfl rfl rfl ?_
  refine l_bip (p' := 43) rfl rfl rfl ?_
  refine l_bz (p' := 44) (z := (nI 28)) rfl rfl rfl rfl rfl hk ?_
  refine l_sp (p' := 1747) (ls' := _) rfl rfl rfl rfl rfl ?_
  refine l_aldn (p' := 1748) rfl rfl rfl rfl ?_
  refine l_alds (p' := 1749) rfl rfl rfl rfl ?_
  refine l_ild (p' := 1751) rfl rfl rfl rfl ?_
  refine l_con (p' := 1752) rfl rfl rfl ?_
  refine l_bz (p' := 1753) (z := (nI 1)) rfl rfl rfl rfl rfl (by decide +kernel) ?_
  refine l_ialz (p' := 1754) (m := 1) (z := p) rfl rfl (by decide +kernel) rfl hx1 rfl ?_
  refine l_alds (p' := 1755) rfl rfl rfl rfl ?_
  refine l_ild (p' := 1757) rfl rfl rfl rfl ?_
  refine l_con (p' := 1758) rfl rfl rfl ?_
  refine l_bz (p' := 1759) (z := (nI 2)) rfl rfl rfl rfl rfl (by decide +kernel) ?_
  refine l_ialz (p' := 1760) (m := 2) (z := (xs 2)) rfl rfl (by decide +kernel) rfl rfl rfl ?_
  refine l_bz (p' := 1761) (z := c) rfl rfl rfl rfl rfl hc ?_
  refine l_aldn (p' := 1762) rfl rfl rfl rfl ?_
  refine l_call (p' := 1765) (kc := 99) (ls0 := [_, _, _, _, _]) rfl rfl rfl rfl rfl rfl rfl rfl rfl rfl ?_
  refine s_aldn (p' := 1) rfl rfl rfl ?_
  refine s_con (p' := 2) rfl rfl ?_
  refine s_aldn (p' := 3) rfl rfl rfl ?_
  refine s_ildn (p' := 4) rfl rfl rfl ?_
  refine s_ildn (p' := 5) rfl rfl rfl ?_
  refine c_call (p' := 8) (kc := 98) (ls0 := [_, _, _, _, _, _]) rfl rfl rfl rfl rfl (mj_rcv_is H0) rfl rfl rfl ?_
  refine s_aldn (p' := 1) rfl rfl rfl ?_
  refine s_gf (p' := 4) rfl H0 rfl rfl ?_
  refine s_ildn (p' := 5) rfl rfl rfl ?_
  refine c_call (p' := 8) (kc := 97) (ls0 := [_, _]) rfl rfl rfl rfl rfl (mj_rcv_is H38) rfl rfl rfl ?_
  refine s_ildn (p' := 1) rfl rfl rfl ?_
  refine s_if (p' := 4) false rfl ((cg_lt (w := 0) (by decide +kernel)).trans (decide_eq_false (by omega))) rfl ?_
  refine s_ildn (p' := 5) rfl rfl rfl ?_
  refine s_aldn (p' := 6) rfl rfl rfl ?_
  refine s_gf (p' := 9) rfl H38 rfl rfl ?_
  refine s_icmp (p' := 16) true rfl ((cg_ge (w := 0) (by decide +kernel)).trans (decide_eq_true (by omega))) rfl ?_
  refine s_con (p' := 17) rfl rfl ?_
  refine c_iret rfl (by decide +kernel) ?_
  refine s_if (p' := 11) false rfl (by decide +kernel) rfl ?_
  refine s_thrz (q := 414) rfl HL rfl ?_
  refine K_c (hp := 13) rfl (mj_ocl_is (rd_nw rfl HL)) rfl ?_
  refine s_ast (p' := 15) (ls' := [_, _, _, _, _]) rfl rfl rfl rfl ?_
  refine s_con (p' := 16) rfl rfl ?_
  refine k_iret rfl rfl ?_
  refine l_ist (p' := 1767) (ls' := [_, _, _, _, _, _, _, _, _, _]) rfl rfl rfl rfl rfl ?_
  refine l_aldn (p' := 1768) rfl rfl rfl rfl ?_
  refine l_alds (p' := 1769) rfl rfl rfl rfl ?_
  refine l_ild (p' := 1771) rfl rfl rfl rfl ?_
  refine l_con (p' := 1772) rfl rfl rfl ?_
  refine l_bz (p' := 1773) (z := (nI 1)) rfl rfl rfl rfl rfl (by decide +kernel) ?_
  refine l_ialz (p' := 1774) (m := 1) (z := p) rfl rfl (by decide +kernel) rfl hx1 rfl ?_
  refine l_alds (p' := 1775) rfl rfl rfl rfl ?_
  refine l_ild (p' := 1777) rfl rfl rfl rfl ?_
  refine l_con (p' := 1778) rfl rfl rfl ?_
  refine l_bz (p' := 1779) (z := (nI 2)) rfl rfl rfl rfl rfl (by decide +kernel) ?_
  refine l_ialz (p' := 1780) (m := 2) (z := (xs 2)) rfl rfl (by decide +kernel) rfl rfl rfl ?_
  refine l_bz (p' := 1781) (z := c) rfl rfl rfl rfl rfl hc ?_
  refine l_call (p' := 1784) (kc := 99) (ls0 := [_, _, _]) rfl rfl rfl rfl rfl rfl (mj_rcv_is (rd_app H400)) rfl rfl rfl ?_
  refine s_aldn (p' := 1) rfl rfl rfl ?_
  refine s_ildn (p' := 2) rfl rfl rfl ?_
  refine s_ildn (p' := 3) rfl rfl rfl ?_
  refine s_con (p' := 4) rfl rfl ?_
  refine c_call (p' := 7) (kc := 98) (ls0 := [_, _, _, _, _, _, _, _, _, _, _]) rfl rfl rfl rfl rfl (mj_rcv_is (rd_app H400)) rfl rfl rfl ?_
  refine s_aldn (p' := 1) rfl rfl rfl ?_
  refine s_aldn (p' := 2) rfl rfl rfl ?_
  refine s_ildn (p' := 3) rfl rfl rfl ?_
  refine c_call (p' := 6) (kc := 97) (ls0 := [_, _]) rfl rfl rfl rfl rfl (mj_rcv_is (rd_app H400)) rfl rfl rfl ?_
  refine s_ildn (p' := 1) rfl rfl rfl ?_
  refine s_con (p' := 2) rfl rfl ?_
  refine s_aldn (p' := 3) rfl rfl rfl ?_
  refine s_gf (p' := 6) rfl (rd_app H400) rfl rfl ?_
  refine c_call (p' := 11) (kc := 96) (ls0 := [_]) rfl rfl rfl rfl rfl (mj_rcv_is (rd_app H401)) rfl rfl rfl ?_
  refine s_aldn (p' := 1) rfl rfl rfl ?_
  refine s_gf (p' := 4) rfl (rd_app H401) rfl rfl ?_
  refine c_iret rfl rfl ?_
  refine s_con (p' := 12) rfl rfl ?_
  refine s_bz (p' := 13) (z := (nI 4294967295)) rfl rfl rfl (by decide +kernel) ?_
  refine c_call (p' := 16) (kc := 96) (ls0 := [_, _, _]) rfl rfl rfl rfl rfl rfl rfl rfl rfl ?_
  refine s_ildn (p' := 1) rfl rfl rfl ?_
  refine s_ildn (p' := 2) rfl rfl rfl ?_
  refine s_icmp (p' := 5) false rfl ((ch_gt (w := 0) (by decide +kernel)).trans (decide_eq_false (by omega))) rfl ?_
  refine s_ildn (p' := 6) rfl rfl rfl ?_
  refine s_ildn (p' := 7) rfl rfl rfl ?_
  refine s_icmp (p' := 14) true rfl ((cg_gt (w := -1) (by decide +kernel)).trans (decide_eq_true (by omega))) rfl ?_
  refine s_con (p' := 15) rfl rfl ?_
  refine c_iret rfl (by decide +kernel) ?_
  refine c_iret rfl (by decide +kernel) ?_
  refine s_if (p' := 9) false rfl (by decide +kernel) rfl ?_
  refine s_con (p' := 10) rfl rfl ?_
  refine s_goto (p' := 25) rfl rfl ?_
  refine c_call (p' := 28) (kc := 97) (ls0 := [_, _]) rfl rfl rfl rfl rfl (mj_rcv_is (rd_app H400)) rfl rfl rfl ?_
  refine s_aldn (p' := 1) rfl rfl rfl ?_
  refine s_ildn (p' := 2) rfl rfl rfl ?_
  refine s_pfz (p' := 5) (fs' := [_, _, _, _, _, _, _, _, _, _, _]) rfl rfl (rd_app H400) rfl rfl rfl rfl ?_
  refine s_ildn (p' := 6) rfl rfl rfl ?_
  refine s_if (p' := 9) false rfl (by decide +kernel) rfl ?_
  refine s_con (p' := 10) rfl rfl ?_
  refine s_goto (p' := 14) rfl rfl ?_
  refine c_iret rfl (by decide +kernel) ?_
  refine s_if (p' := 31) false rfl (by decide +kernel) rfl ?_
  refine s_con (p' := 32) rfl rfl ?_
  refine c_iret rfl rfl ?_
  refine k_iret rfl rfl ?_
  refine l_ist (p' := 1786) (ls' := [_, _, _, _, _, _, _, _, _, _]) rfl rfl rfl rfl rfl ?_
  refine l_aldn (p' := 1787) rfl rfl rfl rfl ?_
  refine l_call (p' := 1790) (kc := 99) (ls0 := [_]) rfl rfl rfl rfl rfl rfl (mj_rcv_is (rd_ss rfl (rd_app H400))) rfl rfl rfl ?_
  refine s_aldn (p' := 1) rfl rfl rfl ?_
  refine s_gf (p' := 4) rfl (rd_ss rfl (rd_app H400)) rfl rfl ?_
  refine k_iret rfl rfl ?_
  refine l_ild (p' := 1792) rfl rfl rfl rfl ?_
  refine l_icmp (p' := 1797) true rfl rfl (by decide +kernel) rfl ?_
  refine l_ild (p' := 1799) rfl rfl rfl rfl ?_
  refine l_if (p' := 1814) true rfl rfl (by decide +kernel) rfl ?_
  refine l_goto (p' := 2541) rfl rfl rfl ?_
  refine l_incz (p' := 2544) (w := (nI 4)) (ls' := [_, _, _, _, _, _, _, _, _, _]) rfl rfl rfl rfl (by decide +kernel) rfl rfl ?_
  refine l_goto (p' := 28) rfl rfl rfl ?_
  refine l_ild (p' := 30) rfl rfl rfl rfl ?_
  refine l_alds (p' := 31) rfl rfl rfl rfl ?_
  refine l_lens (p' := 32) rfl rfl rfl ?_
  refine l_con (p' := 33) rfl rfl rfl ?_
  refine l_bz (p' := 34) (z := (nI 0)) rfl rfl rfl rfl rfl (by decide +kernel) ?_
  refine l_icmp (p' := 2547) true rfl rfl (by decide +kernel) rfl ?_
  refine l_con (p' := 2548) rfl rfl rfl ?_
  refine l_end rfl rfl ?_
  exact ⟨Nat.le_trans (Nat.le_of_eq (len_s (len_a HL rfl))) (Nat.le_of_ble_eq_true rfl), Nat.le_trans (sz_s rfl (rd_app H400) rfl (sz_aa (k := 6) (m := 20006) rfl rfl HZ)) (Nat.le_of_ble_eq_true rfl)⟩
theorem p1_29_00 {xs : Nat → Int32} {h : mj_H} (hk : xs 0 &&& nI 63 = nI 29) (hx1 : xs 1 = nI 0) (hx2 : xs 2 = nI 0)  (HL : h.length = 414) (HZ : mj_sz h ≤ 20000) (H0 : mj_rd h 0 = some (.inr (0, [.ref 1, .ref 38, .ref 299, .ref 336, .ref 373, .ref 375, .ref 378, .ref 381, .ref 387, .ref 393, .null, .null, .ref 397, .ref 398, .ref 399, .long (lN 0), .long (lN 0)]))) (H393 : mj_rd h 393 = some (.inr (9, [.ref 394, .ref 395, .ref 396, .int (nI 0), .int (nI 0)]))) (H394 : mj_rd h 394 = some (.inl (0, (24, .inl (fun _ => 0))))) (H400 : mj_rd h 400 = some (.inr (17, [.int (nI 0), .ref 401, .ref 402, .ref 1000300, .long (lN 0), .long (lN 0), .ref 410, .null, .null, .null, .ref 411]))) (H410 : mj_rd h 410 = some (.inr (18, [.ref 1000000, .int (nI 0), .int (nI 0)]))) (H412 : mj_rd h 412 = some (.inl (4, (1, .inr (.inl (fun _ => 0)))))) : mj_fin 4 xs h := by
  unfold mj_fin
  refine l_ild (p' := 30) rfl rfl rfl rfl ?_
  refine l_alds (p' := 31) rfl rfl rfl rfl ?_
  refine l_lens (p' := 32) rfl rfl rfl ?_
  refine l_con (p' := 33) rfl rfl rfl ?_
  refine l_bz (p' := 34) (z := (nI 0)) rfl rfl rfl rfl rfl (by decide +kernel) ?_
  refine l_icmp (p' := 37) false rfl rfl (by decide +kernel) rfl ?_
  refine l_alds (p' := 38) rfl rfl rfl rfl ?_
  refine l_ild (p' := 40) rfl rfl rfl rfl ?_
  refine l_ialz (p' := 41) (m := 0) (z := (xs 0)) rfl rfl (by decide +kernel) rfl rfl rfl ?_
  refine l_bip (p' := 43) rfl rfl rfl ?_
  refine l_bz (p' := 44) (z := (nI 29)) rfl rfl rfl rfl rfl hk ?_
  refine l_sp (p' := 1817) (ls' := _) rfl rfl rfl rfl rfl ?_
  refine l_aldn (p' := 1818) rfl rfl rfl rfl ?_
  refine l_alds (p' := 1819) rfl rfl rfl rfl ?_
  refine l_ild (p' := 1821) rfl rfl rfl rfl ?_
  refine l_con (p' := 1822) rfl rfl rfl ?_
  refine l_bz (p' := 1823) (z := (nI 1)) rfl rfl rfl rfl rfl (by decide +kernel) ?_
  refine l_ialz (p' := 1824) (m := 1) (z := (nI 0)) rfl rfl (by decide +kernel) rfl hx1 rfl ?_
  refine l_alds (p' := 1825) rfl rfl rfl rfl ?_
  refine l_ild (p' := 1827) rfl rfl rfl rfl ?_
  refine l_con (p' := 1828) rfl rfl rfl ?_
  refine l_bz (p' := 1829) (z := (nI 2)) rfl rfl rfl rfl rfl (by decide +kernel) ?_
  refine l_ialz (p' := 1830) (m := 2) (z := (nI 0)) rfl rfl (by decide +kernel) rfl hx2 rfl ?_
  refine l_aldn (p' := 1831) rfl rfl rfl rfl ?_
  refine l_call (p' := 1834) (kc := 99) (ls0 := [_, _, _, _, _]) rfl rfl rfl rfl rfl rfl rfl rfl rfl rfl ?_
  refine s_aldn (p' := 1) rfl rfl rfl ?_
  refine s_con (p' := 2) rfl rfl ?_
  refine s_aldn (p' := 3) rfl rfl rfl ?_
  refine s_ildn (p' := 4) rfl rfl rfl ?_
  refine s_ildn (p' := 5) rfl rfl rfl ?_
  refine c_call (p' := 8) (kc := 98) (ls0 := [_, _, _]) rfl rfl rfl rfl rfl (mj_rcv_is H0) rfl rfl rfl ?_
  refine s_ildn (p' := 1) rfl rfl rfl ?_
  refine s_if (p' := 4) false rfl (by decide +kernel) rfl ?_
  refine s_ildn (p' := 5) rfl rfl rfl ?_
  refine s_con (p' := 6) rfl rfl ?_
  refine s_icmp (p' := 9) false rfl (by decide +kernel) rfl ?_
  refine s_ildn (p' := 10) rfl rfl rfl ?_
  refine s_if (p' := 13) false rfl (by decide +kernel) rfl ?_
  refine s_ildn (p' := 14) rfl rfl rfl ?_
  refine s_bip (p' := 16) rfl rfl ?_
  refine s_icmp (p' := 30) true rfl (by decide +kernel) rfl ?_
  refine s_ildn (p' := 31) rfl rfl rfl ?_
  refine s_con (p' := 32) rfl rfl ?_
  refine s_ildn (p' := 33) rfl rfl rfl ?_
  refine s_bz (p' := 34) (z := (nI 1)) rfl rfl rfl (by decide +kernel) ?_
  refine s_bz (p' := 35) (z := (nI 0)) rfl rfl rfl (by decide +kernel) ?_
  refine s_if (p' := 49) true rfl (by decide +kernel) rfl ?_
  refine s_aldn (p' := 50) rfl rfl rfl ?_
  refine s_gf (p' := 53) rfl H0 rfl rfl ?_
  refine c_call (p' := 56) (kc := 97) (ls0 := [_]) rfl rfl rfl rfl rfl (mj_rcv_is H393) rfl rfl rfl ?_
  refine s_aldn (p' := 1) rfl rfl rfl ?_
  refine s_gf (p' := 4) rfl H393 rfl rfl ?_
  refine s_bip (p' := 6) rfl rfl ?_
  refine s_icmp (p' := 13) true rfl (by decide +kernel) rfl ?_
  refine s_con (p' := 14) rfl rfl ?_
  refine c_iret rfl (by decide +kernel) ?_
  refine s_if (p' := 70) true rfl (by decide +kernel) rfl ?_
  refine s_aldn (p' := 71) rfl rfl rfl ?_
  refine s_gf (p' := 74) rfl H0 rfl rfl ?_
  refine s_bip (p' := 76) rfl rfl ?_
  refine s_ildn (p' := 77) rfl rfl rfl ?_
  refine s_bz (p' := 78) (z := (nI 0)) rfl rfl rfl (by decide +kernel) ?_
  refine s_ildn (p' := 79) rfl rfl rfl ?_
  refine s_bz (p' := 80) (z := (nI 0)) rfl rfl rfl (by decide +kernel) ?_
  refine c_call (p' := 83) (kc := 97) (ls0 := [_, _]) rfl rfl rfl rfl rfl (mj_rcv_is H393) rfl rfl rfl ?_
  refine s_aldn (p' := 1) rfl rfl rfl ?_
  refine s_gf (p' := 4) rfl H393 rfl rfl ?_
  refine s_if (p' := 7) false rfl (by decide +kernel) rfl ?_
  refine s_aldn (p' := 8) rfl rfl rfl ?_
  refine s_gf (p' := 11) rfl H393 rfl rfl ?_
  refine s_aldn (p' := 12) rfl rfl rfl ?_
  refine s_gf (p' := 15) rfl H393 rfl rfl ?_
  refine s_lenz (p' := 16) rfl (mj_rdA_is H394 (by decide)) rfl rfl ?_
  refine s_icmp (p' := 19) false rfl (by decide +kernel) rfl ?_
  refine s_aldn (p' := 20) rfl rfl rfl ?_
  refine s_gf (p' := 23) rfl H393 rfl rfl ?_
  refine s_aldn (p' := 24) rfl rfl rfl ?_
  refine s_gf (p' := 27) rfl H393 rfl rfl ?_
  refine s_ildn (p' := 28) rfl rfl rfl ?_
  refine s_iasz (p' := 29) (m := 0) rfl rfl H394 (by decide +kernel) rfl rfl rfl ?_
  refine s_aldn (p' := 30) rfl rfl rfl ?_
  refine s_dupr (p' := 31) rfl rfl ?_
  refine s_gf (p' := 34) rfl (rd_sn rfl H393) rfl rfl ?_
  refine s_con (p' := 35) rfl rfl ?_
  refine s_bz (p' := 36) (z := (nI 1)) rfl rfl rfl (by decide +kernel) ?_
  refine s_pfz (p' := 39) (fs' := [_, _, _, _, _]) rfl rfl (rd_sn rfl H393) rfl rfl rfl rfl ?_
  refine c_ret rfl ?_
  refine s_aldn (p' := 84) rfl rfl rfl ?_
  refine s_gf (p' := 87) rfl (rd_sn rfl (rd_sn rfl H0)) rfl rfl ?_
  refine c_call (p' := 90) (kc := 97) (ls0 := [_]) rfl rfl rfl rfl rfl (mj_rcv_is (rd_ss rfl (rd_sn rfl H393))) rfl rfl rfl ?_
  refine s_aldn (p' := 1) rfl rfl rfl ?_
  refine s_gf (p' := 4) rfl (rd_ss rfl (rd_sn rfl H393)) rfl rfl ?_
  refine c_iret rfl rfl ?_
  refine c_iret rfl rfl ?_
  refine s_bzL (p' := 9) (z := (lN 1)) rfl rfl rfl (by decide +kernel) ?_
  refine s_lasz (p' := 10) (m := 0) rfl rfl (rd_sn rfl (rd_sn rfl H412)) (by decide +kernel) rfl rfl rfl ?_
  refine s_goto (p' := 21) rfl rfl ?_
  refine s_con (p' := 22) rfl rfl ?_
  refine k_iret rfl rfl ?_
  refine l_ist (p' := 1836) (ls' := [_, _, _, _, _, _, _, _, _, _]) rfl rfl rfl rfl rfl ?_
  refine l_aldn (p' := 1837) rfl rfl rfl rfl ?_
  refine l_alds (p' := 1838) rfl rfl rfl rfl ?_
  refine l_ild (p' := 1840) rfl rfl rfl rfl ?_
  refine l_con (p' := 1841) rfl rfl rfl ?_
  refine l_bz (p' := 1842) (z := (nI 1)) rfl rfl rfl rfl rfl (by decide +kernel) ?_
  refine l_ialz (p' := 1843) (m := 1) (z := (nI 0)) rfl rfl (by decide +kernel) rfl hx1 rfl ?_
  refine l_alds (p' := 1844) rfl rfl rfl rfl ?_
  refine l_ild (p' := 1846) rfl rfl rfl rfl ?_
  refine l_con (p' := 1847) rfl rfl rfl ?_
  refine l_bz (p' := 1848) (z := (nI 2)) rfl rfl rfl rfl rfl (by decide +kernel) ?_
  refine l_ialz (p' := 1849) (m := 2) (z := (nI 0)) rfl rfl (by decide +kernel) rfl hx2 rfl ?_
  refine l_call (p' := 1852) (kc := 99) (ls0 := [_, _, _, _]) rfl rfl rfl rfl rfl rfl (mj_rcv_is (rd_sn rfl (rd_sn rfl (rd_sn rfl H400)))) rfl rfl rfl ?_
  refine s_ildn (p' := 1) rfl rfl rfl ?_
  refine s_con (p' := 2) rfl rfl ?_
  refine s_con (p' := 3) rfl rfl ?_
  refine c_call (p' := 6) (kc := 98) (ls0 := [_, _, _]) rfl rfl rfl rfl rfl rfl rfl rfl rfl ?_
  refine s_ildn (p' := 1) rfl rfl rfl ?_
  refine s_ildn (p' := 2) rfl rfl rfl ?_
  refine s_icmp (p' := 5) false rfl (by decide +kernel) rfl ?_
  refine s_ildn (p' := 6) rfl rfl rfl ?_
  refine s_ildn (p' := 7) rfl rfl rfl ?_
  refine s_icmp (p' := 10) false rfl (by decide +kernel) rfl ?_
  refine s_con (p' := 11) rfl rfl ?_
  refine s_goto (p' := 15) rfl rfl ?_
  refine c_iret rfl (by decide +kernel) ?_
  refine s_if (p' := 9) false rfl (by decide +kernel) rfl ?_
  refine s_ildn (p' := 10) rfl rfl rfl ?_
  refine s_con (p' := 11) rfl rfl ?_
  refine s_bip (p' := 13) rfl rfl ?_
  refine c_call (p' := 16) (kc := 98) (ls0 := [_, _, _]) rfl rfl rfl rfl rfl rfl rfl rfl rfl ?_
  refine s_ildn (p' := 1) rfl rfl rfl ?_
  refine s_ildn (p' := 2) rfl rfl rfl ?_
  refine s_icmp (p' := 5) false rfl (by decide +kernel) rfl ?_
  refine s_ildn (p' := 6) rfl rfl rfl ?_
  refine s_ildn (p' := 7) rfl rfl rfl ?_
  refine s_icmp (p' := 10) false rfl (by decide +kernel) rfl ?_
  refine s_con (p' := 11) rfl rfl ?_
  refine s_goto (p' := 15) rfl rfl ?_
  refine c_iret rfl (by decide +kernel) ?_
  refine s_if (p' := 19) false rfl (by decide +kernel) rfl ?_
  refine s_ildn (p' := 20) rfl rfl rfl ?_
  refine s_ildn (p' := 21) rfl rfl rfl ?_
  refine s_bz (p' := 22) (z := (nI 0)) rfl rfl rfl (by decide +kernel) ?_
  refine s_con (p' := 23) rfl rfl ?_
  refine s_bz (p' := 24) (z := (nI 0)) rfl rfl rfl (by decide +kernel) ?_
  refine s_if (p' := 27) false rfl (by decide +kernel) rfl ?_
  refine s_con (p' := 28) rfl rfl ?_
  refine s_goto (p' := 32) rfl rfl ?_
  refine s_istn (p' := 33) (ls' := [_, _, _, _]) rfl rfl rfl rfl ?_
  refine s_aldn (p' := 34) rfl rfl rfl ?_
  refine s_ildn (p' := 35) rfl rfl rfl ?_
  refine s_if (p' := 42) true rfl (by decide +kernel) rfl ?_
  refine s_aldn (p' := 43) rfl rfl rfl ?_
  refine s_gf (p' := 46) rfl (rd_sn rfl (rd_sn rfl (rd_sn rfl H400))) rfl rfl ?_
  refine c_call (p' := 51) (kc := 98) (ls0 := [_]) rfl rfl rfl rfl rfl (mj_rcv_is (rd_sn rfl (rd_sn rfl (rd_sn rfl H410)))) rfl rfl rfl ?_
  refine s_aldn (p' := 1) rfl rfl rfl ?_
  refine s_gf (p' := 4) rfl (rd_sn rfl (rd_sn rfl (rd_sn rfl H410))) rfl rfl ?_
  refine c_iret rfl rfl ?_
  refine s_bip (p' := 53) rfl rfl ?_
  refine s_icmp (p' := 60) true rfl (by decide +kernel) rfl ?_
  refine s_con (p' := 61) rfl rfl ?_
  refine c_call (p' := 64) (kc := 98) (ls0 := [_, _]) rfl rfl rfl rfl rfl (mj_rcv_is (rd_sn rfl (rd_sn rfl (rd_sn rfl H400)))) rfl rfl rfl ?_
  refine s_aldn (p' := 1) rfl rfl rfl ?_
  refine s_ildn (p' := 2) rfl rfl rfl ?_
  refine s_pfz (p' := 5) (fs' := [_, _, _, _, _, _, _, _, _, _, _]) rfl rfl (rd_sn rfl (rd_sn rfl (rd_sn rfl H400))) rfl rfl rfl rfl ?_
  refine s_ildn (p' := 6) rfl rfl rfl ?_
  refine s_if (p' := 13) true rfl (by decide +kernel) rfl ?_
  refine s_con (p' := 14) rfl rfl ?_
  refine c_iret rfl (by decide +kernel) ?_
  refine s_if (p' := 69) true rfl (by decide +kernel) rfl ?_
  refine s_aldn (p' := 70) rfl rfl rfl ?_
  refine s_gf (p' := 73) rfl (rd_ss rfl (rd_sn rfl (rd_sn rfl (rd_sn rfl H400)))) rfl rfl ?_
  refine s_bip (p' := 75) rfl rfl ?_
  refine s_ildn (p' := 76) rfl rfl rfl ?_
  refine s_bz (p' := 77) (z := (nI 0)) rfl rfl rfl (by decide +kernel) ?_
  refine s_ildn (p' := 78) rfl rfl rfl ?_
  refine s_bz (p' := 79) (z := (nI 0)) rfl rfl rfl (by decide +kernel) ?_
  refine c_call (p' := 82) (kc := 98) (ls0 := [_]) rfl rfl rfl rfl rfl rfl rfl rfl rfl ?_
  refine s_ildn (p' := 1) rfl rfl rfl ?_
  refine s_bip (p' := 3) rfl rfl ?_
  refine s_icmp (p' := 6) false rfl (by decide +kernel) rfl ?_
  refine s_ildn (p' := 7) rfl rfl rfl ?_
  refine s_sh (p' := 10) (ls' := _) (st' := .int (nI 127) :: _) (h' := _) rfl rfl rfl rfl ?_
  refine s_icmp (p' := 13) false rfl (by decide +kernel) rfl ?_
  refine s_sh (p' := 16) (ls' := _) (st' := .ref 1000001 :: _) (h' := _) rfl rfl rfl rfl ?_
  refine s_ildn (p' := 17) rfl rfl rfl ?_
  refine s_sip (p' := 20) rfl rfl ?_
  refine s_bz (p' := 21) (z := (nI 128)) rfl rfl rfl (by decide +kernel) ?_
  refine s_aalz (p' := 22) (m := 128) (q := (some 1000138)) (v := .ref 1000138) rfl (mj_rdA_cst (k_1 _) (by decide)) rfl (by decide +kernel) rfl rfl rfl rfl ?_
  refine c_aret rfl ?_
  refine c_call (p' := 87) (kc := 98) (ls0 := [_, _]) rfl rfl rfl rfl rfl (mj_rcv_is (rd_sn rfl (rd_sn rfl (rd_sn rfl (rd_sn rfl H410))))) rfl rfl rfl ?_
  refine s_aldn (p' := 1) rfl rfl rfl ?_
  refine s_dupr (p' := 2) rfl rfl ?_
  refine s_gf (p' := 5) rfl (rd_sn rfl (rd_sn rfl (rd_sn rfl (rd_sn rfl H410)))) rfl rfl ?_
  refine s_con (p' := 6) rfl rfl ?_
  refine s_bz (p' := 7) (z := (nI 1)) rfl rfl rfl (by decide +kernel) ?_
  refine s_pfz (p' := 10) (fs' := [_, _, _]) rfl rfl (rd_sn rfl (rd_sn rfl (rd_sn rfl (rd_sn rfl H410)))) rfl rfl rfl rfl ?_
  refine s_aldn (p' := 11) rfl rfl rfl ?_
  refine s_aldn (p' := 12) rfl rfl rfl ?_
  refine s_aldn (p' := 13) rfl rfl rfl ?_
  refine s_gf (p' := 16) rfl (rd_ss rfl (rd_sn rfl (rd_sn rfl (rd_sn rfl (rd_sn rfl H410))))) rfl rfl ?_
  refine s_aldn (p' := 17) rfl rfl rfl ?_
  refine s_gf (p' := 20) rfl (rd_ss rfl (rd_sn rfl (rd_sn rfl (rd_sn rfl (rd_sn rfl H410))))) rfl rfl ?_
  refine c_call (p' := 23) (kc := 97) (ls0 := [_, _, _, _]) rfl rfl rfl rfl rfl (mj_rcv_is (rd_ss rfl (rd_sn rfl (rd_sn rfl (rd_sn rfl (rd_sn rfl H410)))))) rfl rfl rfl ?_
  refine s_ildn (p' := 1) rfl rfl rfl ?_
  refine s_aldn (p' := 2) rfl rfl rfl ?_
  refine s_lenz (p' := 3) rfl (mj_rdA_cst (k_0 _) (by decide)) rfl rfl ?_
  refine s_icmp (p' := 6) false rfl (by decide +kernel) rfl ?_
  refine s_aldn (p' := 7) rfl rfl rfl ?_
  refine c_call (p' := 10) (kc := 96) (ls0 := [_]) rfl rfl rfl rfl rfl (mj_rcv_is (rd_ss rfl (rd_sn rfl (rd_sn rfl (rd_sn rfl (rd_sn rfl H410)))))) rfl rfl rfl ?_
  refine s_aldn (p' := 1) rfl rfl rfl ?_
  refine s_aldn (p' := 2) rfl rfl rfl ?_
  refine s_gf (p' := 5) rfl (rd_ss rfl (rd_sn rfl (rd_sn rfl (rd_sn rfl (rd_sn rfl H410))))) rfl rfl ?_
  refine s_con (p' := 6) rfl rfl ?_
  refine s_bz (p' := 7) (z := (nI 1)) rfl rfl rfl (by decide +kernel) ?_
  refine c_call (p' := 10) (kc := 95) (ls0 := [_, _, _, _]) rfl rfl rfl rfl rfl (mj_rcv_is (rd_ss rfl (rd_sn rfl (rd_sn rfl (rd_sn rfl (rd_sn rfl H410)))))) rfl rfl rfl ?_
  refine s_aldn (p' := 1) rfl rfl rfl ?_
  refine s_gf (p' := 4) rfl (rd_ss rfl (rd_sn rfl (rd_sn rfl (rd_sn rfl (rd_sn rfl H410))))) rfl rfl ?_
  refine s_lenz (p' := 5) rfl (mj_rdA_cst (k_0 _) (by decide)) rfl rfl ?_
  refine s_istn (p' := 6) (ls' := [_, _, _, _]) rfl rfl rfl rfl ?_
  refine s_ildn (p' := 7) rfl rfl rfl ?_
  refine s_if (p' := 10) false rfl (by decide +kernel) rfl ?_
  refine s_aldn (p' := 11) rfl rfl rfl ?_
  refine s_gf (p' := 14) rfl (rd_ss rfl (rd_sn rfl (rd_sn rfl (rd_sn rfl (rd_sn rfl H410))))) rfl rfl ?_
  refine s_sh (p' := 17) (ls' := _) (st' := .ref 1000000 :: _) (h' := _) rfl rfl rfl rfl ?_
  refine s_sp (p' := 45) (ls' := _) rfl rfl rfl ?_
  refine s_aldn (p' := 46) rfl rfl rfl ?_
  refine s_bip (p' := 48) rfl rfl ?_
  refine s_ildn (p' := 49) rfl rfl rfl ?_
  refine s_primV (p' := 52) (q := 4) rfl rfl rfl rfl rfl rfl (p_max (x := (nI 10)) (y := (nI 1)) (z := (nI 10)) (by decide +kernel)) rfl ?_
  refine s_anaz (p' := 55) (a := 414) (n := 10) rfl (len_s (len_s (len_s (len_s (len_s HL))))) rfl rfl ?_
  refine s_sp (p' := 56) (ls' := _) rfl rfl rfl ?_
  refine s_pfz (p' := 59) (fs' := [_, _, _]) rfl rfl (rd_app (rd_ss rfl (rd_sn rfl (rd_sn rfl (rd_sn rfl (rd_sn rfl H410)))))) rfl rfl rfl rfl ?_
  refine c_aret rfl ?_
  refine c_aret rfl ?_
  refine s_astn (p' := 11) (ls' := [_, _, _, _]) rfl rfl rfl rfl ?_
  refine s_aldn (p' := 12) rfl rfl rfl ?_
  refine s_ildn (p' := 13) rfl rfl rfl ?_
  refine s_aldn (p' := 14) rfl rfl rfl ?_
  refine s_aasz (p' := 15) (m := 0) rfl rfl (rd_sn rfl (rd_nw rfl (len_s (len_s (len_s (len_s (len_s HL))))))) rfl (by decide +kernel) rfl (k_138 _) rfl rfl ?_
  refine s_aldn (p' := 16) rfl rfl rfl ?_
  refine s_ildn (p' := 17) rfl rfl rfl ?_
  refine s_con (p' := 18) rfl rfl ?_
  refine s_bz (p' := 19) (z := (nI 1)) rfl rfl rfl (by decide +kernel) ?_
  refine s_pfz (p' := 22) (fs' := [_, _, _]) rfl rfl (rd_sn rfl (rd_ss rfl (rd_app (rd_ss rfl (rd_sn rfl (rd_sn rfl (rd_sn rfl (rd_sn rfl H410)))))))) rfl rfl rfl rfl ?_
  refine c_ret rfl ?_
  refine s_con (p' := 24) rfl rfl ?_
  refine c_iret rfl (by decide +kernel) ?_
  refine s_sp (p' := 88) (ls' := _) rfl rfl rfl ?_
  refine s_aldn (p' := 89) rfl rfl rfl ?_
  refine s_gf (p' := 92) rfl (rd_sn rfl (rd_sn rfl (rd_sn rfl (rd_app (rd_sn rfl (rd_ss rfl (rd_sn rfl (rd_sn rfl (rd_sn rfl H400))))))))) rfl rfl ?_
  refine c_call (p' := 97) (kc := 98) (ls0 := [_]) rfl rfl rfl rfl rfl (mj_rcv_is (rd_ss rfl (rd_sn rfl (rd_ss rfl (rd_app (rd_ss rfl (rd_sn rfl (rd_sn rfl (rd_sn rfl (rd_sn rfl H410)))))))))) rfl rfl rfl ?_
  refine s_aldn (p' := 1) rfl rfl rfl ?_
  refine s_gf (p' := 4) rfl (rd_ss rfl (rd_sn rfl (rd_ss rfl (rd_app (rd_ss rfl (rd_sn rfl (rd_sn rfl (rd_sn rfl (rd_sn rfl H410))))))))) rfl rfl ?_
  refine c_iret rfl rfl ?_
  refine k_iret rfl rfl ?_
  refine l_ist (p' := 1854) (ls' := [_, _, _, _, _, _, _, _, _, _]) rfl rfl rfl rfl rfl ?_
  refine l_aldn (p' := 1855) rfl rfl rfl rfl ?_
  refine l_call (p' := 1858) (kc := 99) (ls0 := [_]) rfl rfl rfl rfl rfl rfl (mj_rcv_is (rd_sn rfl (rd_sn rfl (rd_sn rfl (rd_app (rd_sn rfl (rd_ss rfl (rd_sn rfl (rd_sn rfl (rd_sn rfl H400)))))))))) rfl rfl rfl ?_
  refine s_aldn (p' := 1) rfl rfl rfl ?_
  refine s_gf (p' := 4) rfl (rd_sn rfl (rd_sn rfl (rd_sn rfl (rd_app (rd_sn rfl (rd_ss rfl (rd_sn rfl (rd_sn rfl (rd_sn rfl H400))))))))) rfl rfl ?_
  refine k_iret rfl rfl ?_
  refine l_ild (p' := 1860) rfl rfl rfl rfl ?_
  refine l_icmp (p' := 1865) true rfl rfl (by decide +kernel) rfl ?_
  refine l_ild (p' := 1867) rfl rfl rfl rfl ?_
  refine l_if (p' := 1870) false rfl rfl (by decide +kernel) rfl ?_
  refine l_aldn (p' := 1871) rfl rfl rfl rfl ?_
  refine l_con (p' := 1872) rfl rfl rfl ?_
  refine l_lalz (p' := 1873) (m := 0) (v := (lN 1)) rfl rfl (rd_sn rfl (rd_sn rfl (rd_sn rfl (rd_app (rd_sn rfl (rd_sn rfl (rd_ss rfl (rd_sn rfl (rd_sn rfl H412))))))))) (by decide +kernel) rfl (by decide +kernel) rfl ?_
  refine l_ild (p' := 1875) rfl rfl rfl rfl ?_
  refine l_bzL (p' := 1876) (z := (lN 1)) rfl rfl rfl rfl rfl (by decide +kernel) ?_
  refine l_bz (p' := 1877) (z := (nI 0)) rfl rfl rfl rfl rfl (by decide +kernel) ?_
  refine l_if (p' := 1882) true rfl rfl (by decide +kernel) rfl ?_
  refine l_goto (p' := 2541) rfl rfl rfl ?_
  refine l_incz (p' := 2544) (w := (nI 4)) (ls' := [_, _, _, _, _, _, _, _, _, _]) rfl rfl rfl rfl (by decide +kernel) rfl rfl ?_
  refine l_goto (p' := 28) rfl rfl rfl ?_
  refine l_ild (p' := 30) rfl rfl rfl rfl ?_
  refine l_alds (p' := 31) rfl rfl rfl rfl ?_
  refine l_lens (p' := 32) rfl rfl rfl ?_
  refine l_con (p' := 33) rfl rfl rfl ?_
  refine l_bz (p' := 34) (z := (nI 0)) rfl rfl rfl rfl rfl (by decide +kernel) ?_
  refine l_icmp (p' := 2547) true rfl rfl (by decide +kernel) rfl ?_
  refine l_con (p' := 2548) rfl rfl rfl ?_
  refine l_end rfl rfl ?_
  exact ⟨Nat.le_trans (Nat.le_of_eq (len_s (len_s (len_s (len_a (len_s (len_s (len_s (len_s (len_s HL))))) rfl))))) (Nat.le_of_ble_eq_true rfl), Nat.le_trans (sz_s rfl (rd_sn rfl (rd_ss rfl (rd_app (rd_ss rfl (rd_sn rfl (rd_sn rfl (rd_sn rfl (rd_sn rfl H410)))))))) rfl (sz_sA rfl (rd_sn rfl (rd_nw rfl (len_s (len_s (len_s (len_s (len_s HL))))))) (sz_s rfl (rd_app (rd_ss rfl (rd_sn rfl (rd_sn rfl (rd_sn rfl (rd_sn rfl H410)))))) rfl (sz_aa (k := 10) (m := 20010) rfl rfl (sz_s rfl (rd_sn rfl (rd_sn rfl (rd_sn rfl (rd_sn rfl H410)))) rfl (sz_s rfl (rd_sn rfl (rd_sn rfl (rd_sn rfl H400))) rfl (sz_sA rfl (rd_sn rfl (rd_sn rfl H412)) (sz_s rfl (rd_sn rfl H393) rfl (sz_sA rfl H394 HZ))))))))) (Nat.le_of_ble_eq_true rfl)⟩
theorem p1_29_01 {xs : Nat → Int32} {h : mj_H} (hk : xs 0 &&& nI 63 = nI 29) (hx1 : xs 1 = nI 0) (hx2 : xs 2 = nI 1)  (HL : h.length = 414) (HZ : mj_sz h ≤ 20000) (H0 : mj_rd h 0 = some (.inr (0, [.ref 1, .ref 38, .ref 299, .ref 336, .ref 373, .ref 375, .ref 378, .ref 381, .ref 387, .ref 393, .null, .null, .ref 397, .ref 398, .ref 399, .long (lN 0), .long (lN 0)]))) (H400 : mj_rd h 400 = some (.inr (17, [.int (nI 0), .ref 401, .ref 402, .ref 1000300, .long (lN 0), .long (lN 0), .ref 410, .null, .null, .null, .ref 411]))) : mj_fin 4 xs h := by
  unfold mj_fin
  refine l_ild (p' := 30) rfl rfl rfl rfl ?_
  refine l_alds (p' := 31) rfl rfl rfl rfl ?_
  refine l_lens (p' := 32) rfl rfl rfl ?_
  refine l_con (p' := 33) rfl rfl rfl ?_
  refine l_bz (p' := 34) (z := (nI 0)) rfl rfl rfl rfl rfl (by decide +kernel) ?_
  refine l_icmp (p' := 37) false rfl rfl (by decide +kernel) rfl ?_
  refine l_alds (p' := 38) rfl rfl rfl rfl ?_
  refine l_ild (p' := 40) rfl rfl rfl rfl ?_
  refine l_ialz (p' := 41) (m := 0) (z := (xs 0)) rfl rfl (by decide +kernel) rfl rfl rfl ?_
  refine l_bip (p' := 43) rfl rfl rfl ?_
  refine l_bz (p' := 44) (z := (nI 29)) rfl rfl rfl rfl rfl hk ?_
  refine l_sp (p' := 1817) (ls' := _) rfl rfl rfl rfl rfl ?_
  refine l_aldn (p' := 1818) rfl rfl rfl rfl ?_
  refine l_alds (p' := 1819) rfl rfl rfl rfl ?_
  refine l_ild (p' := 1821) rfl rfl rfl rfl ?_
  refine l_con (p' := 1822) rfl rfl rfl ?_
  refine l_bz (p' := 1823) (z := (nI 1)) rfl rfl rfl rfl rfl (by decide +kernel) ?_
  refine l_ialz (p' := 1824) (m := 1) (z := (nI 0)) rfl rfl (by decide +kernel) rfl hx1 rfl ?_
  refine l_alds (p' := 1825) rfl rfl rfl rfl ?_
  refine l_ild (p' := 1827) rfl rfl rfl rfl ?_
  refine l_con (p' := 1828) rfl rfl rfl ?_
  refine l_bz (p' := 1829) (z := (nI 2)) rfl rfl rfl rfl rfl (by decide +kernel) ?_
  refine l_ialz (p' := 1830) (m := 2) (z := (nI 1)) rfl rfl (by decide +kernel) rfl hx2 rfl ?_
  refine l_aldn (p' := 1831) rfl rfl rfl rfl ?_
  refine l_call (p' := 1834) (kc := 99) (ls0 := [_, _, _, _, _]) rfl rfl rfl rfl rfl rfl rfl rfl rfl rfl ?_
  refine s_aldn (p' := 1) rfl rfl rfl ?_
  refine s_con (p' := 2) rfl rfl ?_
  refine s_aldn (p' := 3) rfl rfl rfl ?_
  refine s_ildn (p' := 4) rfl rfl rfl ?_
  refine s_ildn (p' := 5) rfl rfl rfl ?_
  refine c_call (p' := 8) (kc := 98) (ls0 := [_, _, _]) rfl rfl rfl rfl rfl (mj_rcv_is H0) rfl rfl rfl ?_
  refine s_ildn (p' := 1) rfl rfl rfl ?_
  refine s_if (p' := 4) false rfl (by decide +kernel) rfl ?_
  refine s_ildn (p' := 5) rfl rfl rfl ?_
  refine s_con (p' := 6) rfl rfl ?_
  refine s_icmp (p' := 9) false rfl (by decide +kernel) rfl ?_
  refine s_ildn (p' := 10) rfl rfl rfl ?_
  refine s_if (p' := 13) false rfl (by decide +kernel) rfl ?_
  refine s_ildn (p' := 14) rfl rfl rfl ?_
  refine s_bip (p' := 16) rfl rfl ?_
  refine s_icmp (p' := 30) true rfl (by decide +kernel) rfl ?_
  refine s_ildn (p' := 31) rfl rfl rfl ?_
  refine s_con (p' := 32) rfl rfl ?_
  refine s_ildn (p' := 33) rfl rfl rfl ?_
  refine s_bz (p' := 34) (z := (nI 1)) rfl rfl rfl (by decide +kernel) ?_
  refine s_bz (p' := 35) (z := (nI 1)) rfl rfl rfl (by decide +kernel) ?_
  refine s_if (p' := 38) false rfl (by decide +kernel) rfl ?_
  refine s_thrz (q := 414) rfl HL rfl ?_
  refine K_c (hp := 13) rfl (mj_ocl_is (rd_nw rfl HL)) rfl ?_
  refine s_ast (p' := 15) (ls' := [_, _, _, _, _]) rfl rfl rfl rfl ?_
  refine s_con (p' := 16) rfl rfl ?_
  refine k_iret rfl rfl ?_
  refine l_ist (p' := 1836) (ls' := [_, _, _, _, _, _, _, _, _, _]) rfl rfl rfl rfl rfl ?_
  refine l_aldn (p' := 1837) rfl rfl rfl rfl ?_
  refine l_alds (p' := 1838) rfl rfl rfl rfl ?_
  refine l_ild (p' := 1840) rfl rfl rfl rfl ?_
  refine l_con (p' := 1841) rfl rfl rfl ?_
  refine l_bz (p' := 1842) (z := (nI 1)) rfl rfl rfl rfl rfl (by decide +kernel) ?_
  refine l_ialz (p' := 1843) (m := 1) (z := (nI 0)) rfl rfl (by decide +kernel) rfl hx1 rfl ?_
  refine l_alds (p' := 1844) rfl rfl rfl rfl ?_
  refine l_ild (p' := 1846) rfl rfl rfl rfl ?_
  refine l_con (p' := 1847) rfl rfl rfl ?_
  refine l_bz (p' := 1848) (z := (nI 2)) rfl rfl rfl rfl rfl (by decide +kernel) ?_
  refine l_ialz (p' := 1849) (m := 2) (z := (nI 1)) rfl rfl (by decide +kernel) rfl hx2 rfl ?_
  refine l_call (p' := 1852) (kc := 99) (ls0 := [_, _, _, _]) rfl rfl rfl rfl rfl rfl (mj_rcv_is (rd_app H400)) rfl rfl rfl ?_
  refine s_ildn (p' := 1) rfl rfl rfl ?_
  refine s_con (p' := 2) rfl rfl ?_
  refine s_con (p' := 3) rfl rfl ?_
  refine c_call (p' := 6) (kc := 98) (ls0 := [_, _, _]) rfl rfl rfl rfl rfl rfl rfl rfl rfl ?_
  refine s_ildn (p' := 1) rfl rfl rfl ?_
  refine s_ildn (p' := 2) rfl rfl rfl ?_
  refine s_icmp (p' := 5) false rfl (by decide +kernel) rfl ?_
  refine s_ildn (p' := 6) rfl rfl rfl ?_
  refine s_ildn (p' := 7) rfl rfl rfl ?_
  refine s_icmp (p' := 10) false rfl (by decide +kernel) rfl ?_
  refine s_con (p' := 11) rfl rfl ?_
  refine s_goto (p' := 15) rfl rfl ?_
  refine c_iret rfl (by decide +kernel) ?_
  refine s_if (p' := 9) false rfl (by decide +kernel) rfl ?_
  refine s_ildn (p' := 10) rfl rfl rfl ?_
  refine s_con (p' := 11) rfl rfl ?_
  refine s_bip (p' := 13) rfl rfl ?_
  refine c_call (p' := 16) (kc := 98) (ls0 := [_, _, _]) rfl rfl rfl rfl rfl rfl rfl rfl rfl ?_
  refine s_ildn (p' := 1) rfl rfl rfl ?_
  refine s_ildn (p' := 2) rfl rfl rfl ?_
  refine s_icmp (p' := 5) false rfl (by decide +kernel) rfl ?_
  refine s_ildn (p' := 6) rfl rfl rfl ?_
  refine s_ildn (p' := 7) rfl rfl rfl ?_
  refine s_icmp (p' := 10) false rfl (by decide +kernel) rfl ?_
  refine s_con (p' := 11) rfl rfl ?_
  refine s_goto (p' := 15) rfl rfl ?_
  refine c_iret rfl (by decide +kernel) ?_
  refine s_if (p' := 19) false rfl (by decide +kernel) rfl ?_
  refine s_ildn (p' := 20) rfl rfl rfl ?_
  refine s_ildn (p' := 21) rfl rfl rfl ?_
  refine s_bz (p' := 22) (z := (nI 1)) rfl rfl rfl (by decide +kernel) ?_
  refine s_con (p' := 23) rfl rfl ?_
  refine s_bz (p' := 24) (z := (nI 1)) rfl rfl rfl (by decide +kernel) ?_
  refine s_if (p' := 31) true rfl (by decide +kernel) rfl ?_
  refine s_con (p' := 32) rfl rfl ?_
  refine s_istn (p' := 33) (ls' := [_, _, _, _]) rfl rfl rfl rfl ?_
  refine s_aldn (p' := 34) rfl rfl rfl ?_
  refine s_ildn (p' := 35) rfl rfl rfl ?_
  refine s_if (p' := 38) false rfl (by decide +kernel) rfl ?_
  refine s_con (p' := 39) rfl rfl ?_
  refine s_goto (p' := 61) rfl rfl ?_
  refine c_call (p' := 64) (kc := 98) (ls0 := [_, _]) rfl rfl rfl rfl rfl (mj_rcv_is (rd_app H400)) rfl rfl rfl ?_
  refine s_aldn (p' := 1) rfl rfl rfl ?_
  refine s_ildn (p' := 2) rfl rfl rfl ?_
  refine s_pfz (p' := 5) (fs' := [_, _, _, _, _, _, _, _, _, _, _]) rfl rfl (rd_app H400) rfl rfl rfl rfl ?_
  refine s_ildn (p' := 6) rfl rfl rfl ?_
  refine s_if (p' := 9) false rfl (by decide +kernel) rfl ?_
  refine s_con (p' := 10) rfl rfl ?_
  refine s_goto (p' := 14) rfl rfl ?_
  refine c_iret rfl (by decide +kernel) ?_
  refine s_if (p' := 67) false rfl (by decide +kernel) rfl ?_
  refine s_con (p' := 68) rfl rfl ?_
  refine k_iret rfl rfl ?_
  refine l_ist (p' := 1854) (ls' := [_, _, _, _, _, _, _, _, _, _]) rfl rfl rfl rfl rfl ?_
  refine l_aldn (p' := 1855) rfl rfl rfl rfl ?_
  refine l_call (p' := 1858) (kc := 99) (ls0 := [_]) rfl rfl rfl rfl rfl rfl (mj_rcv_is (rd_ss rfl (rd_app H400))) rfl rfl rfl ?_
  refine s_aldn (p' := 1) rfl rfl rfl ?_
  refine s_gf (p' := 4) rfl (rd_ss rfl (rd_app H400)) rfl rfl ?_
  refine k_iret rfl rfl ?_
  refine l_ild (p' := 1860) rfl rfl rfl rfl ?_
  refine l_icmp (p' := 1865) true rfl rfl (by decide +kernel) rfl ?_
  refine l_ild (p' := 1867) rfl rfl rfl rfl ?_
  refine l_if (p' := 1882) true rfl rfl (by decide +kernel) rfl ?_
  refine l_goto (p' := 2541) rfl rfl rfl ?_
  refine l_incz (p' := 2544) (w := (nI 4)) (ls' := [_, _, _, _, _, _, _, _, _, _]) rfl rfl rfl rfl (by decide +kernel) rfl rfl ?_
  refine l_goto (p' := 28) rfl rfl rfl ?_
  refine l_ild (p' := 30) rfl rfl rfl rfl ?_
  refine l_alds (p' := 31) rfl rfl rfl rfl ?_
  refine l_lens (p' := 32) rfl rfl rfl ?_
  refine l_con (p' := 33) rfl rfl rfl ?_
  refine l_bz (p' := 34) (z := (nI 0)) rfl rfl rfl rfl rfl (by decide +kernel) ?_
  refine l_icmp (p' := 2547) true rfl rfl (by decide +kernel) rfl ?_
  refine l_con (p' := 2548) rfl rfl rfl ?_
  refine l_end rfl rfl ?_
  exact ⟨Nat.le_trans (Nat.le_of_eq (len_s (len_a HL rfl))) (Nat.le_of_ble_eq_true rfl), Nat.le_trans (sz_s rfl (rd_app H400) rfl (sz_aa (k := 6) (m := 20006) rfl rfl HZ)) (Nat.le_of_ble_eq_true rfl)⟩
theorem p1_29_02 {xs : Nat → Int32} {h : mj_H} (hk : xs 0 &&& nI 63 = nI 29) (hx1 : xs 1 = nI 0) (hx2 : xs 2 = nI 2)  (HL : h.length = 414) (HZ : mj_sz h ≤ 20000) (H0 : mj_rd h 0 = some (.inr (0, [.ref 1, .ref 38, .ref 299, .ref 336, .ref 373, .ref 375, .ref 378, .ref 381, .ref 387, .ref 393, .null, .null, .ref 397, .ref 398, .ref 399, .long (lN 0), .long (lN 0)]))) (H393 : mj_rd h 393 = some (.inr (9, [.ref 394, .ref 395, .ref 396, .int (nI 0), .int (nI 0)]))) (H394 : mj_rd h 394 = some (.inl (0, (24, .inl (fun _ => 0))))) (H400 : mj_rd h 400 = some (.inr (17, [.int (nI 0), .ref 401, .ref 402, .ref 1000300, .long (lN 0), .long (lN 0), .ref 410, .null, .null, .null, .ref 411]))) (H410 : mj_rd h 410 = some (.inr (18, [.ref 1000000, .int (nI 0), .int (nI 0)]))) (H412 : mj_rd h 412 = some (.inl (4, (1, .inr (.inl (fun _ => 0)))))) : mj_fin 4 xs h := by
  unfold mj_fin
  refine l_ild (p' := 30) rfl rfl rfl rfl ?_
  refine l_alds (p' := 31) rfl rfl rfl rfl ?_
  refine l_lens (p' := 32) rfl rfl rfl ?_
  refine l_con (p' := 33) rfl rfl rfl ?_
  refine l_bz (p' := 34) (z := (nI 0)) rfl rfl rfl rfl rfl (by decide +kernel) ?_
  refine l_icmp (p' := 37) false rfl rfl (by decide +kernel) rfl ?_
  refine l_alds (p' := 38) rfl rfl rfl rfl ?_
  refine l_ild (p' := 40) rfl rfl rfl rfl ?_
  refine l_ialz (p' := 41) (m := 0) (z := (xs 0)) rfl rfl (by decide +kernel) rfl rfl rfl ?_
  refine l_bip (p' := 43) rfl rfl rfl ?_
  refine l_bz (p' := 44) (z := (nI 29)) rfl rfl rfl rfl rfl hk ?_
  refine l_sp (p' := 1817) (ls' := _) rfl rfl rfl rfl rfl ?_
  refine l_aldn (p' := 1818) rfl rfl rfl rfl ?_
  refine l_alds (p' := 1819) rfl rfl rfl rfl ?_
  refine l_ild (p' := 1821) rfl rfl rfl rfl ?_
  refine l_con (p' := 1822) rfl rfl rfl ?_
  refine l_bz (p' := 1823) (z := (nI 1)) rfl rfl rfl rfl rfl (by decide +kernel) ?_
  refine l_ialz (p' := 1824) (m := 1) (z := (nI 0)) rfl rfl (by decide +kernel) rfl hx1 rfl ?_
  refine l_alds (p' := 1825) rfl rfl rfl rfl ?_
  refine l_ild (p' := 1827) rfl rfl rfl rfl ?_
  refine l_con (p' := 1828) rfl rfl rfl ?_
  refine l_bz (p' := 1829) (z := (nI 2)) rfl rfl rfl rfl rfl (by decide +kernel) ?_
  refine l_ialz (p' := 1830) (m := 2) (z := (nI 2)) rfl rfl (by decide +kernel) rfl hx2 rfl ?_
  refine l_aldn (p' := 1831) rfl rfl rfl rfl ?_
  refine l_call (p' := 1834) (kc := 99) (ls0 := [_, _, _, _, _]) rfl rfl rfl rfl rfl rfl rfl rfl rfl rfl ?_
  refine s_aldn (p' := 1) rfl rfl rfl ?_
  refine s_con (p' := 2) rfl rfl ?_
  refine s_aldn (p' := 3) rfl rfl rfl ?_
  refine s_ildn (p' := 4) rfl rfl rfl ?_
  refine s_ildn (p' := 5) rfl rfl rfl ?_
  refine c_call (p' := 8) (kc := 98) (ls0 := [_, _, _]) rfl rfl rfl rfl rfl (mj_rcv_is H0) rfl rfl rfl ?_
  refine s_ildn (p' := 1) rfl rfl rfl ?_
  refine s_if (p' := 4) false rfl (by decide +kernel) rfl ?_
  refine s_ildn (p' := 5) rfl rfl rfl ?_
  refine s_con (p' := 6) rfl rfl ?_
  refine s_icmp (p' := 9) false rfl (by decide +kernel) rfl ?_
  refine s_ildn (p' := 10) rfl rfl rfl ?_
  refine s_if (p' := 13) false rfl (by decide +kernel) rfl ?_
  refine s_ildn (p' := 14) rfl rfl rfl ?_
  refine s_bip (p' := 16) rfl rfl ?_
  refine s_icmp (p' := 30) true rfl (by decide +kernel) rfl ?_
  refine s_ildn (p' := 31) rfl rfl rfl ?_
  refine s_con (p' := 32) rfl rfl ?_
  refine s_ildn (p' := 33) rfl rfl rfl ?_
  refine s_bz (p' := 34) (z := (nI 1)) rfl rfl rfl (by decide +kernel) ?_
  refine s_bz (p' := 35) (z := (nI 0)) rfl rfl rfl (by decide +kernel) ?_
  refine s_if (p' := 49) true rfl (by decide +kernel) rfl ?_
  refine s_aldn (p' := 50) rfl rfl rfl ?_
  refine s_gf (p' := 53) rfl H0 rfl rfl ?_
  refine c_call (p' := 56) (kc := 97) (ls0 := [_]) rfl rfl rfl rfl rfl (mj_rcv_is H393) rfl rfl rfl ?_
  refine s_aldn (p' := 1) rfl rfl rfl ?_
  refine s_gf (p' := 4) rfl H393 rfl rfl ?_
  refine s_bip (p' := 6) rfl rfl ?_
  refine s_icmp (p' := 13) true rfl (by decide +kernel) rfl ?_
  refine s_con (p' := 14) rfl rfl ?_
  refine c_iret rfl (by decide +kernel) ?_
  refine s_if (p' := 70) true rfl (by decide +kernel) rfl ?_
  refine s_aldn (p' := 71) rfl rfl rfl ?_
  refine s_gf (p' := 74) rfl H0 rfl rfl ?_
  refine s_bip (p' := 76) rfl rfl ?_
  refine s_ildn (p' := 77) rfl rfl rfl ?_
  refine s_bz (p' := 78) (z := (nI 0)) rfl rfl rfl (by decide +kernel) ?_
  refine s_ildn (p' := 79) rfl rfl rfl ?_
  refine s_bz (p' := 80) (z := (nI 2)) rfl rfl rfl (by decide +kernel) ?_
  refine c_call (p' := 83) (kc := 97) (ls0 := [_, _]) rfl rfl rfl rfl rfl (mj_rcv_is H393) rfl rfl rfl ?_
  refine s_aldn (p' := 1) rfl rfl rfl ?_
  refine s_gf (p' := 4) rfl H393 rfl rfl ?_
  refine s_if (p' := 7) false rfl (by decide +kernel) rfl ?_
  refine s_aldn (p' := 8) rfl rfl rfl ?_
  refine s_gf (p' := 11) rfl H393 rfl rfl ?_
  refine s_aldn (p' := 12) rfl rfl rfl ?_
  refine s_gf (p' := 15) rfl H393 rfl rfl ?_
  refine s_lenz (p' := 16) rfl (mj_rdA_is H394 (by decide)) rfl rfl ?_
  refine s_icmp (p' := 19) false rfl (by decide +kernel) rfl ?_
  refine s_aldn (p' := 20) rfl rfl rfl ?_
  refine s_gf (p' := 23) rfl H393 rfl rfl ?_
  refine s_aldn (p' := 24) rfl rfl rfl ?_
  refine s_gf (p' := 27) rfl H393 rfl rfl ?_
  refine s_ildn (p' := 28) rfl rfl rfl ?_
  refine s_iasz (p' := 29) (m := 0) rfl rfl H394 (by decide +kernel) rfl rfl rfl ?_
  refine s_aldn (p' := 30) rfl rfl rfl ?_
  refine s_dupr (p' := 31) rfl rfl ?_
  refine s_gf (p' := 34) rfl (rd_sn rfl H393) rfl rfl ?_
  refine s_con (p' := 35) rfl rfl ?_
  refine s_bz (p' := 36) (z := (nI 1)) rfl rfl rfl (by decide +kernel) ?_
  refine s_pfz (p' := 39) (fs' := [_, _, _, _, _]) rfl rfl (rd_sn rfl H393) rfl rfl rfl rfl ?_
  refine c_ret rfl ?_
  refine s_aldn (p' := 84) rfl rfl rfl ?_
  refine s_gf (p' := 87) rfl (rd_sn rfl (rd_sn rfl H0)) rfl rfl ?_
  refine c_call (p' := 90) (kc := 97) (ls0 := [_]) rfl rfl rfl rfl rfl (mj_rcv_is (rd_ss rfl (rd_sn rfl H393))) rfl rfl rfl ?_
  refine s_aldn (p' := 1) rfl rfl rfl ?_
  refine s_gf (p' := 4) rfl (rd_ss rfl (rd_sn rfl H393)) rfl rfl ?_
  refine c_iret rfl rfl ?_
  refine c_iret rfl rfl ?_
  refine s_bzL (p' := 9) (z := (lN 1)) rfl rfl rfl (by decide +kernel) ?_
  refine s_lasz (p' := 10) (m := 0) rfl rfl (rd_sn rfl (rd_sn rfl H412)) (by decide +kernel) rfl rfl rfl ?_
  refine s_goto (p' := 21) rfl rfl ?_
  refine s_con (p' := 22) rfl rfl ?_
  refine k_iret rfl rfl ?_
  refine l_ist (p' := 1836) (ls' := [_, _, _, _, _, _, _, _, _, _]) rfl rfl rfl rfl rfl ?_
  refine l_aldn (p' := 1837) rfl rfl rfl rfl ?_
  refine l_alds (p' := 1838) rfl rfl rfl rfl ?_
  refine l_ild (p' := 1840) rfl rfl rfl rfl ?_
  refine l_con (p' := 1841) rfl rfl rfl ?_
  refine l_bz (p' := 1842) (z := (nI 1)) rfl rfl rfl rfl rfl (by decide +kernel) ?_
  refine l_ialz (p' := 1843) (m := 1) (z := (nI 0)) rfl rfl (by decide +kernel) rfl hx1 rfl ?_
  refine l_alds (p' := 1844) rfl rfl rfl rfl ?_
  refine l_ild (p' := 1846) rfl rfl rfl rfl ?_
  refine l_con (p' := 1847) rfl rfl rfl ?_
  refine l_bz (p' := 1848) (z := (nI 2)) rfl rfl rfl rfl rfl (by decide +kernel) ?_
  refine l_ialz (p' := 1849) (m := 2) (z := (nI 2)) rfl rfl (by decide +kernel) rfl hx2 rfl ?_
  refine l_call (p' := 1852) (kc := 99) (ls0 := [_, _, _, _]) rfl rfl rfl rfl rfl rfl (mj_rcv_is (rd_sn rfl (rd_sn rfl (rd_sn rfl H400)))) rfl rfl rfl ?_
  refine s_ildn (p' := 1) rfl rfl rfl ?_
  refine s_con (p' := 2) rfl rfl ?_
  refine s_con (p' := 3) rfl rfl ?_
  refine c_call (p' := 6) (kc := 98) (ls0 := [_, _, _]) rfl rfl rfl rfl rfl rfl rfl rfl rfl ?_
  refine s_ildn (p' := 1) rfl rfl rfl ?_
  refine s_ildn (p' := 2) rfl rfl rfl ?_
  refine s_icmp (p' := 5) false rfl (by decide +kernel) rfl ?_
  refine s_ildn (p' := 6) rfl rfl rfl ?_
  refine s_ildn (p' := 7) rfl rfl rfl ?_
  refine s_icmp (p' := 10) false rfl (by decide +kernel) rfl ?_
  refine s_con (p' := 11) rfl rfl ?_
  refine s_goto (p' := 15) rfl rfl ?_
  refine c_iret rfl (by decide +kernel) ?_
  refine s_if (p' := 9) false rfl (by decide +kernel) rfl ?_
  refine s_ildn (p' := 10) rfl rfl rfl ?_
  refine s_con (p' := 11) rfl rfl ?_
  refine s_bip (p' := 13) rfl rfl ?_
  refine c_call (p' := 16) (kc := 98) (ls0 := [_, _, _]) rfl rfl rfl rfl rfl rfl rfl rfl rfl ?_
  refine s_ildn (p' := 1) rfl rfl rfl ?_
  refine s_ildn (p' := 2) rfl rfl rfl ?_
  refine s_icmp (p' := 5) false rfl (by decide +kernel) rfl ?_
  refine s_ildn (p' := 6) rfl rfl rfl ?_
  refine s_ildn (p' := 7) rfl rfl rfl ?_
  refine s_icmp (p' := 10) false rfl (by decide +kernel) rfl ?_
  refine s_con (p' := 11) rfl rfl ?_
  refine s_goto (p' := 15) rfl rfl ?_
  refine c_iret rfl (by decide +kernel) ?_
  refine s_if (p' := 19) false rfl (by decide +kernel) rfl ?_
  refine s_ildn (p' := 20) rfl rfl rfl ?_
  refine s_ildn (p' := 21) rfl rfl rfl ?_
  refine s_bz (p' := 22) (z := (nI 2)) rfl rfl rfl (by decide +kernel) ?_
  refine s_con (p' := 23) rfl rfl ?_
  refine s_bz (p' := 24) (z := (nI 0)) rfl rfl rfl (by decide +kernel) ?_
  refine s_if (p' := 27) false rfl (by decide +kernel) rfl ?_
  refine s_con (p' := 28) rfl rfl ?_
  refine s_goto (p' := 32) rfl rfl ?_
  refine s_istn (p' := 33) (ls' := [_, _, _, _]) rfl rfl rfl rfl ?_
  refine s_aldn (p' := 34) rfl rfl rfl ?_
  refine s_ildn (p' := 35) rfl rfl rfl ?_
  refine s_if (p' := 42) true rfl (by decide +kernel) rfl ?_
  refine s_aldn (p' := 43) rfl rfl rfl ?_
  refine s_gf (p' := 46) rfl (rd_sn rfl (rd_sn rfl (rd_sn rfl H400))) rfl rfl ?_
  refine c_call (p' := 51) (kc := 98) (ls0 := [_]) rfl rfl rfl rfl rfl (mj_rcv_is (rd_sn rfl (rd_sn rfl (rd_sn rfl H410)))) rfl rfl rfl ?_
  refine s_aldn (p' := 1) rfl rfl rfl ?_
  refine s_gf (p' := 4) rfl (rd_sn rfl (rd_sn rfl (rd_sn rfl H410))) rfl rfl ?_
  refine c_iret rfl rfl ?_
  refine s_bip (p' := 53) rfl rfl ?_
  refine s_icmp (p' := 60) true rfl (by decide +kernel) rfl ?_
  refine s_con (p' := 61) rfl rfl ?_
  refine c_call (p' := 64) (kc := 98) (ls0 := [_, _]) rfl rfl rfl rfl rfl (mj_rcv_is (rd_sn rfl (rd_sn rfl (rd_sn rfl H400)))) rfl rfl rfl ?_
  refine s_aldn (p' := 1) rfl rfl rfl ?_
  refine s_ildn (p' := 2) rfl rfl rfl ?_
  refine s_pfz (p' := 5) (fs' := [_, _, _, _, _, _, _, _, _, _, _]) rfl rfl (rd_sn rfl (rd_sn rfl (rd_sn rfl H400))) rfl rfl rfl rfl ?_
  refine s_ildn (p' := 6) rfl rfl rfl ?_
  refine s_if (p' := 13) true rfl (by decide +kernel) rfl ?_
  refine s_con (p' := 14) rfl rfl ?_
  refine c_iret rfl (by decide +kernel) ?_
  refine s_if (p' := 69) true rfl (by decide +kernel) rfl ?_
  refine s_aldn (p' := 70) rfl rfl rfl ?_
  refine s_gf (p' := 73) rfl (rd_ss rfl (rd_sn rfl (rd_sn rfl (rd_sn rfl H400)))) rfl rfl ?_
  refine s_bip (p' := 75) rfl rfl ?_
  refine s_ildn (p' := 76) rfl rfl rfl ?_
  refine s_bz (p' := 77) (z := (nI 0)) rfl rfl rfl (by decide +kernel) ?_
  refine s_ildn (p' := 78) rfl rfl rfl ?_
  refine s_bz (p' := 79) (z := (nI 2)) rfl rfl rfl (by decide +kernel) ?_
  refine c_call (p' := 82) (kc := 98) (ls0 := [_]) rfl rfl rfl rfl rfl rfl rfl rfl rfl ?_
  refine s_ildn (p' := 1) rfl rfl rfl ?_
  refine s_bip (p' := 3) rfl rfl ?_
  refine s_icmp (p' := 6) false rfl (by decide +kernel) rfl ?_
  refine s_ildn (p' := 7) rfl rfl rfl ?_
  refine s_sh (p' := 10) (ls' := _) (st' := .int (nI 127) :: _) (h' := _) rfl rfl rfl rfl ?_
  refine s_icmp (p' := 13) false rfl (by decide +kernel) rfl ?_
  refine s_sh (p' := 16) (ls' := _) (st' := .ref 1000001 :: _) (h' := _) rfl rfl rfl rfl ?_
  refine s_ildn (p' := 17) rfl rfl rfl ?_
  refine s_sip (p' := 20) rfl rfl ?_
  refine s_bz (p' := 21) (z := (nI 130)) rfl rfl rfl (by decide +kernel) ?_
  refine s_aalz (p' := 22) (m := 130) (q := (some 1000140)) (v := .ref 1000140) rfl (mj_rdA_cst (k_1 _) (by decide)) rfl (by decide +kernel) rfl rfl rfl rfl ?_
  refine c_aret rfl ?_
  refine c_call (p' := 87) (kc := 98) (ls0 := [_, _]) rfl rfl rfl rfl rfl (mj_rcv_is (rd_sn rfl (rd_sn rfl (rd_sn rfl (rd_sn rfl H410))))) rfl rfl rfl ?_
  refine s_aldn (p' := 1) rfl rfl rfl ?_
  refine s_dupr (p' := 2) rfl rfl ?_
  refine s_gf (p' := 5) rfl (rd_sn rfl (rd_sn rfl (rd_sn rfl (rd_sn rfl H410)))) rfl rfl ?_
  refine s_con (p' := 6) rfl rfl ?_
  refine s_bz (p' := 7) (z := (nI 1)) rfl rfl rfl (by decide +kernel) ?_
  refine s_pfz (p' := 10) (fs' := [_, _, _]) rfl rfl (rd_sn rfl (rd_sn rfl (rd_sn rfl (rd_sn rfl H410)))) rfl rfl rfl rfl ?_
  refine s_aldn (p' := 11) rfl rfl rfl ?_
  refine s_aldn (p' := 12) rfl rfl rfl ?_
  refine s_aldn (p' := 13) rfl rfl rfl ?_
  refine s_gf (p' := 16) rfl (rd_ss rfl (rd_sn rfl (rd_sn rfl (rd_sn rfl (rd_sn rfl H410))))) rfl rfl ?_
  refine s_aldn (p' := 17) rfl rfl rfl ?_
  refine s_gf (p' := 20) rfl (rd_ss rfl (rd_sn rfl (rd_sn rfl (rd_sn rfl (rd_sn rfl H410))))) rfl rfl ?_
  refine c_call (p' := 23) (kc := 97) (ls0 := [_, _, _, _]) rfl rfl rfl rfl rfl (mj_rcv_is (rd_ss rfl (rd_sn rfl (rd_sn rfl (rd_sn rfl (rd_sn rfl H410)))))) rfl rfl rfl ?_
  refine s_ildn (p' := 1) rfl rfl rfl ?_
  refine s_aldn (p' := 2) rfl rfl rfl ?_
  refine s_lenz (p' := 3) rfl (mj_rdA_cst (k_0 _) (by decide)) rfl rfl ?_
  refine s_icmp (p' := 6) false rfl (by decide +kernel) rfl ?_
  refine s_aldn (p' := 7) rfl rfl rfl ?_
  refine c_call (p' := 10) (kc := 96) (ls0 := [_]) rfl rfl rfl rfl rfl (mj_rcv_is (rd_ss rfl (rd_sn rfl (rd_sn rfl (rd_sn rfl (rd_sn rfl H410)))))) rfl rfl rfl ?_
  refine s_aldn (p' := 1) rfl rfl rfl ?_
  refine s_aldn (p' := 2) rfl rfl rfl ?_
  refine s_gf (p' := 5) rfl (rd_ss rfl (rd_sn rfl (rd_sn rfl (rd_sn rfl (rd_sn rfl H410))))) rfl rfl ?_
  refine s_con (p' := 6) rfl rfl ?_
  refine s_bz (p' := 7) (z := (nI 1)) rfl rfl rfl (by decide +kernel) ?_
  refine c_call (p' := 10) (kc := 95) (ls0 := [_, _, _, _]) rfl rfl rfl rfl rfl (mj_rcv_is (rd_ss rfl (rd_sn rfl (rd_sn rfl (rd_sn rfl (rd_sn rfl H410)))))) rfl rfl rfl ?_
  refine s_aldn (p' := 1) rfl rfl rfl ?_
  refine s_gf (p' := 4) rfl (rd_ss rfl (rd_sn rfl (rd_sn rfl (rd_sn rfl (rd_sn rfl H410))))) rfl rfl ?_
  refine s_lenz (p' := 5) rfl (mj_rdA_cst (k_0 _) (by decide)) rfl rfl ?_
  refine s_istn (p' := 6) (ls' := [_, _, _, _]) rfl rfl rfl rfl ?_
  refine s_ildn (p' := 7) rfl rfl rfl ?_
  refine s_if (p' := 10) false rfl (by decide +kernel) rfl ?_
  refine s_aldn (p' := 11) rfl rfl rfl ?_
  refine s_gf (p' := 14) rfl (rd_ss rfl (rd_sn rfl (rd_sn rfl (rd_sn rfl (rd_sn rfl H410))))) rfl rfl ?_
  refine s_sh (p' := 17) (ls' := _) (st' := .ref 1000000 :: _) (h' := _) rfl rfl rfl rfl ?_
  refine s_sp (p' := 45) (ls' := _) rfl rfl rfl ?_
  refine s_aldn (p' := 46) rfl rfl rfl ?_
  refine s_bip (p' := 48) rfl rfl ?_
  refine s_ildn (p' := 49) rfl rfl rfl ?_
  refine s_primV (p' := 52) (q := 4) rfl rfl rfl rfl rfl rfl (p_max (x := (nI 10)) (y := (nI 1)) (z := (nI 10)) (by decide +kernel)) rfl ?_
  refine s_anaz (p' := 55) (a := 414) (n := 10) rfl (len_s (len_s (len_s (len_s (len_s HL))))) rfl rfl ?_
  refine s_sp (p' := 56) (ls' := _) rfl rfl rfl ?_
  refine s_pfz (p' := 59) (fs' := [_, _, _]) rfl rfl (rd_app (rd_ss rfl (rd_sn rfl (rd_sn rfl (rd_sn rfl (rd_sn rfl H410)))))) rfl rfl rfl rfl ?_
  refine c_aret rfl ?_
  refine c_aret rfl ?_
  refine s_astn (p' := 11) (ls' := [_, _, _, _]) rfl rfl rfl rfl ?_
  refine s_aldn (p' := 12) rfl rfl rfl ?_
  refine s_ildn (p' := 13) rfl rfl rfl ?_
  refine s_aldn (p' := 14) rfl rfl rfl ?_
  refine s_aasz (p' := 15) (m := 0) rfl rfl (rd_sn rfl (rd_nw rfl (len_s (len_s (len_s (len_s (len_s HL))))))) rfl (by decide +kernel) rfl (k_140 _) rfl rfl ?_
  refine s_aldn (p' := 16) rfl rfl rfl ?_
  refine s_ildn (p' := 17) rfl rfl rfl ?_
  refine s_con (p' := 18) rfl rfl ?_
  refine s_bz (p' := 19) (z := (nI 1)) rfl rfl rfl (by decide +kernel) ?_
  refine s_pfz (p' := 22) (fs' := [_, _, _]) rfl rfl (rd_sn rfl (rd_ss rfl (rd_app (rd_ss rfl (rd_sn rfl (rd_sn rfl (rd_sn rfl (rd_sn rfl H410)))))))) rfl rfl rfl rfl ?_
  refine c_ret rfl ?_
  refine s_con (p' := 24) rfl rfl ?_
  refine c_iret rfl (by decide +kernel) ?_
  refine s_sp (p' := 88) (ls' := _) rfl rfl rfl ?_
  refine s_aldn (p' := 89) rfl rfl rfl ?_
  refine s_gf (p' := 92) rfl (rd_sn rfl (rd_sn rfl (rd_sn rfl (rd_app (rd_sn rfl (rd_ss rfl (rd_sn rfl (rd_sn rfl (rd_sn rfl H400))))))))) rfl rfl ?_
  refine c_call (p' := 97) (kc := 98) (ls0 := [_]) rfl rfl rfl rfl rfl (mj_rcv_is (rd_ss rfl (rd_sn rfl (rd_ss rfl (rd_app (rd_ss rfl (rd_sn rfl (rd_sn rfl (rd_sn rfl (rd_sn rfl H410)))))))))) rfl rfl rfl ?_
  refine s_aldn (p' := 1) rfl rfl rfl ?_
  refine s_gf (p' := 4) rfl (rd_ss rfl (rd_sn rfl (rd_ss rfl (rd_app (rd_ss rfl (rd_sn rfl (rd_sn rfl (rd_sn rfl (rd_sn rfl H410))))))))) rfl rfl ?_
  refine c_iret rfl rfl ?_
  refine k_iret rfl rfl ?_
  refine l_ist (p' := 1854) (ls' := [_, _, _, _, _, _, _, _, _, _]) rfl rfl rfl rfl rfl ?_
  refine l_aldn (p' := 1855) rfl rfl rfl rfl ?_
  refine l_call (p' := 1858) (kc := 99) (ls0 := [_]) rfl rfl rfl rfl rfl rfl (mj_rcv_is (rd_sn rfl (rd_sn rfl (rd_sn rfl (rd_app (rd_sn rfl (rd_ss rfl (rd_sn rfl (rd_sn rfl (rd_sn rfl H400)))))))))) rfl rfl rfl ?_
  refine s_aldn (p' := 1) rfl rfl rfl ?_
  refine s_gf (p' := 4) rfl (rd_sn rfl (rd_sn rfl (rd_sn rfl (rd_app (rd_sn rfl (rd_ss rfl (rd_sn rfl (rd_sn rfl (rd_sn rfl H400))))))))) rfl rfl ?_
  refine k_iret rfl rfl ?_
  refine l_ild (p' := 1860) rfl rfl rfl rfl ?_
  refine l_icmp (p' := 1865) true rfl rfl (by decide +kernel) rfl ?_
  refine l_ild (p' := 1867) rfl rfl rfl rfl ?_
  refine l_if (p' := 1870) false rfl rfl (by decide +kernel) rfl ?_
  refine l_aldn (p' := 1871) rfl rfl rfl rfl ?_
  refine l_con (p' := 1872) rfl rfl rfl ?_
  refine l_lalz (p' := 1873) (m := 0) (v := (lN 1)) rfl rfl (rd_sn rfl (rd_sn rfl (rd_sn rfl (rd_app (rd_sn rfl (rd_sn rfl (rd_ss rfl (rd_sn rfl (rd_sn rfl H412))))))))) (by decide +kernel) rfl (by decide +kernel) rfl ?_
  refine l_ild (p' := 1875) rfl rfl rfl rfl ?_
  refine l_bzL (p' := 1876) (z := (lN 1)) rfl rfl rfl rfl rfl (by decide +kernel) ?_
  refine l_bz (p' := 1877) (z := (nI 0)) rfl rfl rfl rfl rfl (by decide +kernel) ?_
  refine l_if (p' := 1882) true rfl rfl (by decide +kernel) rfl ?_
  refine l_goto (p' := 2541) rfl rfl rfl ?_
  refine l_incz (p' := 2544) (w := (nI 4)) (ls' := [_, _, _, _, _, _, _, _, _, _]) rfl rfl rfl rfl (by decide +kernel) rfl rfl ?_
  refine l_goto (p' := 28) rfl rfl rfl ?_
  refine l_ild (p' := 30) rfl rfl rfl rfl ?_
  refine l_alds (p' := 31) rfl rfl rfl rfl ?_
  refine l_lens (p' := 32) rfl rfl rfl ?_
  refine l_con (p' := 33) rfl rfl rfl ?_
  refine l_bz (p' := 34) (z := (nI 0)) rfl rfl rfl rfl rfl (by decide +kernel) ?_
  refine l_icmp (p' := 2547) true rfl rfl (by decide +kernel) rfl ?_
  refine l_con (p' := 2548) rfl rfl rfl ?_
  refine l_end rfl rfl ?_
  exact ⟨Nat.le_trans (Nat.le_of_eq (len_s (len_s (len_s (len_a (len_s (len_s (len_s (len_s (len_s HL))))) rfl))))) (Nat.le_of_ble_eq_true rfl), Nat.le_trans (sz_s rfl (rd_sn rfl (rd_ss rfl (rd_app (rd_ss rfl (rd_sn rfl (rd_sn rfl (rd_sn rfl (rd_sn rfl H410)))))))) rfl (sz_sA rfl (rd_sn rfl (rd_nw rfl (len_s (len_s (len_s (len_s (len_s HL))))))) (sz_s rfl (rd_app (rd_ss rfl (rd_sn rfl (rd_sn rfl (rd_sn rfl (rd_sn rfl H410)))))) rfl (sz_aa (k := 10) (m := 20010) rfl rfl (sz_s rfl (rd_sn rfl (rd_sn rfl (rd_sn rfl (rd_sn rfl H410)))) rfl (sz_s rfl (rd_sn rfl (rd_sn rfl (rd_sn rfl H400))) rfl (sz_sA rfl (rd_sn rfl (rd_sn rfl H412)) (sz_s rfl (rd_sn rfl H393) rfl (sz_sA rfl H394 HZ))))))))) (Nat.le_of_ble_eq_true rfl)⟩
theorem p1_29_03 {xs : Nat → Int32} {h : mj_H} (hk : xs 0 &&& nI 63 = nI 29) (hx1 : xs 1 = nI 0) (hx2 : xs 2 = nI 3)  (HL : h.length = 414) (HZ : mj_sz h ≤ 20000) (H0 : mj_rd h 0 = some (.inr (0, [.ref 1, .ref 38, .ref 299, .ref 336, .ref 373, .ref 375, .ref 378, .ref 381, .ref 387, .ref 393, .null, .null, .ref 397, .ref 398, .ref 399, .long (lN 0), .long (lN 0)]))) (H400 : mj_rd h 400 = some (.inr (17, [.int (nI 0), .ref 401, .ref 402, .ref 1000300, .long (lN 0), .long (lN 0), .ref 410, .null, .null, .null, .ref 411]))) : mj_fin 4 xs h := by
  unfold mj_fin
  refine l_ild (p' := 30) rfl rfl rfl rfl ?_
  refine l_alds (p' := 31) rfl rfl rfl rfl ?_
  refine l_lens (p' := 32) rfl rfl rfl ?_
  refine l_con (p' := 33) rfl rfl rfl ?_
  refine l_bz (p' := 34) (z := (nI 0)) rfl rfl rfl rfl rfl (by decide +kernel) ?_
  refine l_icmp (p' := 37) false rfl rfl (by decide +kernel) rfl ?_
  refine l_alds (p' := 38) rfl rfl rfl rfl ?_
  refine l_ild (p' := 40) rfl rfl rfl rfl ?_
  refine l_ialz (p' := 41) (m := 0) (z := (xs 0)) rfl rfl (by decide +kernel) rfl rfl rfl ?_
  refine l_bip (p' := 43) rfl rfl rfl ?_
  refine l_bz (p' := 44) (z := (nI 29)) rfl rfl rfl rfl rfl hk ?_
  refine l_sp (p' := 1817) (ls' := _) rfl rfl rfl rfl rfl ?_
  refine l_aldn (p' := 1818) rfl rfl rfl rfl ?_
  refine l_alds (p' := 1819) rfl rfl rfl rfl ?_
  refine l_ild (p' := 1821) rfl rfl rfl rfl ?_
  refine l_con (p' := 1822) rfl rfl rfl ?_
  refine l_bz (p' := 1823) (z := (nI 1)) rfl rfl rfl rfl rfl (by decide +kernel) ?_
  refine l_ialz (p' := 1824) (m := 1) (z := (nI 0)) rfl rfl (by decide +kernel) rfl hx1 rfl ?_
  refine l_alds (p' := 1825) rfl rfl rfl rfl ?_
  refine l_ild (p' := 1827) rfl rfl rfl rfl ?_
  refine l_con (p' := 1828) rfl rfl rfl ?_
  refine l_bz (p' := 1829) (z := (nI 2)) rfl rfl rfl rfl rfl (by decide +kernel) ?_
  refine l_ialz (p' := 1830) (m := 2) (z := (nI 3)) rfl rfl (by decide +kernel) rfl hx2 rfl ?_
  refine l_aldn (p' := 1831) rfl rfl rfl rfl ?_
  refine l_call (p' := 1834) (kc := 99) (ls0 := [_, _, _, _, _]) rfl rfl rfl rfl rfl rfl rfl rfl rfl rfl ?_
  refine s_aldn (p' := 1) rfl rfl rfl ?_
  refine s_con (p' := 2) rfl rfl ?_
  refine s_aldn (p' := 3) rfl rfl rfl ?_
  refine s_ildn (p' := 4) rfl rfl rfl ?_
  refine s_ildn (p' := 5) rfl rfl rfl ?_
  refine c_call (p' := 8) (kc := 98) (ls0 := [_, _, _]) rfl rfl rfl rfl rfl (mj_rcv_is H0) rfl rfl rfl ?_
  refine s_ildn (p' := 1) rfl rfl rfl ?_
  refine s_if (p' := 4) false rfl (by decide +kernel) rfl ?_
  refine s_ildn (p' := 5) rfl rfl rfl ?_
  refine s_con (p' := 6) rfl rfl ?_
  refine s_icmp (p' := 9) false rfl (by decide +kernel) rfl ?_
  refine s_ildn (p' := 10) rfl rfl rfl ?_
  refine s_if (p' := 13) false rfl (by decide +kernel) rfl ?_
  refine s_ildn (p' := 14) rfl rfl rfl ?_
  refine s_bip (p' := 16) rfl rfl ?_
  refine s_icmp (p' := 30) true rfl (by decide +kernel) rfl ?_
  refine s_ildn (p' := 31) rfl rfl rfl ?_
  refine s_con (p' := 32) rfl rfl ?_
  refine s_ildn (p' := 33) rfl rfl rfl ?_
  refine s_bz (p' := 34) (z := (nI 1)) rfl rfl rfl (by decide +kernel) ?_
  refine s_bz (p' := 35) (z := (nI 1)) rfl rfl rfl (by decide +kernel) ?_
  refine s_if (p' := 38) false rfl (by decide +kernel) rfl ?_
  refine s_thrz (q := 414) rfl HL rfl ?_
  refine K_c (hp := 13) rfl (mj_ocl_is (rd_nw rfl HL)) rfl ?_
  refine s_ast (p' := 15) (ls' := [_, _, _, _, _]) rfl rfl rfl rfl ?_
  refine s_con (p' := 16) rfl rfl ?_
  refine k_iret rfl rfl ?_
  refine l_ist (p' := 1836) (ls' := [_, _, _, _, _, _, _, _, _, _]) rfl rfl rfl rfl rfl ?_
  refine l_aldn (p' := 1837) rfl rfl rfl rfl ?_
  refine l_alds (p' := 1838) rfl rfl rfl rfl ?_
  refine l_ild (p' := 1840) rfl rfl rfl rfl ?_
  refine l_con (p' := 1841) rfl rfl rfl ?_
  refine l_bz (p' := 1842) (z := (nI 1)) rfl rfl rfl rfl rfl (by decide +kernel) ?_
  refine l_ialz (p' := 1843) (m := 1) (z := (nI 0)) rfl rfl (by decide +kernel) rfl hx1 rfl ?_
  refine l_alds (p' := 1844) rfl rfl rfl rfl ?_
  refine l_ild (p' := 1846) rfl rfl rfl rfl ?_
  refine l_con (p' := 1847) rfl rfl rfl ?_
  refine l_bz (p' := 1848) (z := (nI 2)) rfl rfl rfl rfl rfl (by decide +kernel) ?_
  refine l_ialz (p' := 1849) (m := 2) (z := (nI 3)) rfl rfl (by decide +kernel) rfl hx2 rfl ?_
  refine l_call (p' := 1852) (kc := 99) (ls0 := [_, _, _, _]) rfl rfl rfl rfl rfl rfl (mj_rcv_is (rd_app H400)) rfl rfl rfl ?_
  refine s_ildn (p' := 1) rfl rfl rfl ?_
  refine s_con (p' := 2) rfl rfl ?_
  refine s_con (p' := 3) rfl rfl ?_
  refine c_call (p' := 6) (kc := 98) (ls0 := [_, _, _]) rfl rfl rfl rfl rfl rfl rfl rfl rfl ?_
  refine s_ildn (p' := 1) rfl rfl rfl ?_
  refine s_ildn (p' := 2) rfl rfl rfl ?_
  refine s_icmp (p' := 5) false rfl (by decide +kernel) rfl ?_
  refine s_ildn (p' := 6) rfl rfl rfl ?_
  refine s_ildn (p' := 7) rfl rfl rfl ?_
  refine s_icmp (p' := 10) false rfl (by decide +kernel) rfl ?_
  refine s_con (p' := 11) rfl rfl ?_
  refine s_goto (p' := 15) rfl rfl ?_
  refine c_iret rfl (by decide +kernel) ?_
  refine s_if (p' := 9) false rfl (by decide +kernel) rfl ?_
  refine s_ildn (p' := 10) rfl rfl rfl ?_
  refine s_con (p' := 11) rfl rfl ?_
  refine s_bip (p' := 13) rfl rfl ?_
  refine c_call (p' := 16) (kc := 98) (ls0 := [_, _, _]) rfl rfl rfl rfl rfl rfl rfl rfl rfl ?_
  refine s_ildn (p' := 1) rfl rfl rfl ?_
  refine s_ildn (p' := 2) rfl rfl rfl ?_
  refine s_icmp (p' := 5) false rfl (by decide +kernel) rfl ?_
  refine s_ildn (p' := 6) rfl rfl rfl ?_
  refine s_ildn (p' := 7) rfl rfl rfl ?_
  refine s_icmp (p' := 10) false rfl (by decide +kernel) rfl ?_
  refine s_con (p' := 11) rfl rfl ?_
  refine s_goto (p' := 15) rfl rfl ?_
  refine c_iret rfl (by decide +kernel) ?_
  refine s_if (p' := 19) false rfl (by decide +kernel) rfl ?_
  refine s_ildn (p' := 20) rfl rfl rfl ?_
  refine s_ildn (p' := 21) rfl rfl rfl ?_
  refine s_bz (p' := 22) (z := (nI 3)) rfl rfl rfl (by decide +kernel) ?_
  refine s_con (p' := 23) rfl rfl ?_
  refine s_bz (p' := 24) (z := (nI 1)) rfl rfl rfl (by decide +kernel) ?_
  refine s_if (p' := 31) true rfl (by decide +kernel) rfl ?_
  refine s_con (p' := 32) rfl rfl ?_
  refine s_istn (p' := 33) (ls' := [_, _, _, _]) rfl rfl rfl rfl ?_
  refine s_aldn (p' := 34) rfl rfl rfl ?_
  refine s_ildn (p' := 35) rfl rfl rfl ?_
  refine s_if (p' := 38) false rfl (by decide +kernel) rfl ?_
  refine s_con (p' := 39) rfl rfl ?_
  refine s_goto (p' := 61) rfl rfl ?_
  refine c_call (p' := 64) (kc := 98) (ls0 := [_, _]) rfl rfl rfl rfl rfl (mj_rcv_is (rd_app H400)) rfl rfl rfl ?_
  refine s_aldn (p' := 1) rfl rfl rfl ?_
  refine s_ildn (p' := 2) rfl rfl rfl ?_
  refine s_pfz (p' := 5) (fs' := [_, _, _, _, _, _, _, _, _, _, _]) rfl rfl (rd_app H400) rfl rfl rfl rfl ?_
  refine s_ildn (p' := 6) rfl rfl rfl ?_
  refine s_if (p' := 9) false rfl (by decide +kernel) rfl ?_
  refine s_con (p' := 10) rfl rfl ?_
  refine s_goto (p' := 14) rfl rfl ?_
  refine c_iret rfl (by decide +kernel) ?_
  refine s_if (p' := 67) false rfl (by decide +kernel) rfl ?_
  refine s_con (p' := 68) rfl rfl ?_
  refine k_iret rfl rfl ?_
  refine l_ist (p' := 1854) (ls' := [_, _, _, _, _, _, _, _, _, _]) rfl rfl rfl rfl rfl ?_
  refine l_aldn (p' := 1855) rfl rfl rfl rfl ?_
  refine l_call (p' := 1858) (kc := 99) (ls0 := [_]) rfl rfl rfl rfl rfl rfl (mj_rcv_is (rd_ss rfl (rd_app H400))) rfl rfl rfl ?_
  refine s_aldn (p' := 1) rfl rfl rfl ?_
  refine s_gf (p' := 4) rfl (rd_ss rfl (rd_app H400)) rfl rfl ?_
  refine k_iret rfl rfl ?_
  refine l_ild (p' := 1860) rfl rfl rfl rfl ?_
  refine l_icmp (p' := 1865) true rfl rfl (by decide +kernel) rfl ?_
  refine l_ild (p' := 1867) rfl rfl rfl rfl ?_
  refine l_if (p' := 1882) true rfl rfl (by decide +kernel) rfl ?_
  refine l_goto (p' := 2541) rfl rfl rfl ?_
  refine l_incz (p' := 2544) (w := (nI 4)) (ls' := [_, _, _, _, _, _, _, _, _, _]) rfl rfl rfl rfl (by decide +kernel) rfl rfl ?_
  refine l_goto (p' := 28) rfl rfl rfl ?_
  refine l_ild (p' := 30) rfl rfl rfl rfl ?_
  refine l_alds (p' := 31) rfl rfl rfl rfl ?_
  refine l_lens (p' := 32) rfl rfl rfl ?_
  refine l_con (p' := 33) rfl rfl rfl ?_
  refine l_bz (p' := 34) (z := (nI 0)) rfl rfl rfl rfl rfl (by decide +kernel) ?_
  refine l_icmp (p' := 2547) true rfl rfl (by decide +kernel) rfl ?_
  refine l_con (p' := 2548) rfl rfl rfl ?_
  refine l_end rfl rfl ?_
  exact ⟨Nat.le_trans (Nat.le_of_eq (len_s (len_a HL rfl))) (Nat.le_of_ble_eq_true rfl), Nat.le_trans (sz_s rfl (rd_app H400) rfl (sz_aa (k := 6) (m := 20006) rfl rfl HZ)) (Nat.le_of_ble_eq_true rfl)⟩
theorem p1_29_04 {xs : Nat → Int32} {h : mj_H} (hk : xs 0 &&& nI 63 = nI 29) (hx1 : xs 1 = nI 0) (hx2 : xs 2 = nI 4)  (HL : h.length = 414) (HZ : mj_sz h ≤ 20000) (H0 : mj_rd h 0 = some (.inr (0, [.ref 1, .ref 38, .ref 299, .ref 336, .ref 373, .ref 375, .ref 378, .ref 381, .ref 387, .ref 393, .null, .null, .ref 397, .ref 398, .ref 399, .long (lN 0), .long (lN 0)]))) (H393 : mj_rd h 393 = some (.inr (9, [.ref 394, .ref 395, .ref 396, .int (nI 0), .int (nI 0)]))) (H394 : mj_rd h 394 = some (.inl (0, (24, .inl (fun _ => 0))))) (H400 : mj_rd h 400 = some (.inr (17, [.int (nI 0), .ref 401, .ref 402, .ref 1000300, .long (lN 0), .long (lN 0), .ref 410, .null, .null, .null, .ref 411]))) (H410 : mj_rd h 410 = some (.inr (18, [.ref 1000000, .int (nI 0), .int (nI 0)]))) (H412 : mj_rd h 412 = some (.inl (4, (1, .inr (.inl (fun _ => 0)))))) : mj_fin 4 xs h := by
  unfold mj_fin
  refine l_ild (p' := 30) rfl rfl rfl rfl ?_
  refine l_alds (p' := 31) rfl rfl rfl rfl ?_
  refine l_lens (p' := 32) rfl rfl rfl ?_
  refine l_con (p' := 33) rfl rfl rfl ?_
  refine l_bz (p' := 34) (z := (nI 0)) rfl rfl rfl rfl rfl (by decide +kernel) ?_
  refine l_icmp (p' := 37) false rfl rfl (by decide +kernel) rfl ?_
  refine l_alds (p' := 38) rfl rfl rfl rfl ?_
  refine l_ild (p' := 40) rfl rfl rfl rfl ?_
  refine l_ialz (p' := 41) (m := 0) (z := (xs 0)) rfl rfl (by decide +kernel) rfl rfl rfl ?_
  refine l_bip (p' := 43) rfl rfl rfl ?_
  refine l_bz (p' := 44) (z := (nI 29)) rfl rfl rfl rfl rfl hk ?_
  refine l_sp (p' := 1817) (ls' := _) rfl rfl rfl rfl rfl ?_
  refine l_aldn (p' := 1818) rfl rfl rfl rfl ?_
  refine l_alds (p' := 1819) rfl rfl rfl rfl ?_
  refine l_ild (p' := 1821) rfl rfl rfl rfl ?_
  refine l_con (p' := 1822) rfl rfl rfl ?_
  refine l_bz (p' := 1823) (z := (nI 1)) rfl rfl rfl rfl rfl (by decide +kernel) ?_
  refine l_ialz (p' := 1824) (m := 1) (z := (nI 0)) rfl rfl (by decide +kernel) rfl hx1 rfl ?_
  refine l_alds (p' := 1825) rfl rfl rfl rfl ?_
  refine l_ild (p' := 1827) rfl rfl rfl rfl ?_
  refine l_con (p' := 1828) rfl rfl rfl ?_
  refine l_bz (p' := 1829) (z := (nI 2)) rfl rfl rfl rfl rfl (by decide +kernel) ?_
  refine l_ialz (p' := 1830) (m := 2) (z := (nI 4)) rfl rfl (by decide +kernel) rfl hx2 rfl ?_
  refine l_aldn (p' := 1831) rfl rfl rfl rfl ?_
  refine l_call (p' := 1834) (kc := 99) (ls0 := [_, _, _, _, _]) rfl rfl rfl rfl rfl rfl rfl rfl rfl rfl ?_
  refine s_aldn (p' := 1) rfl rfl rfl ?_
  refine s_con (p' := 2) rfl rfl ?_
  refine s_aldn (p' := 3) rfl rfl rfl ?_
  refine s_ildn (p' := 4) rfl rfl rfl ?_
  refine s_ildn (p' := 5) rfl rfl rfl ?_
  refine c_call (p' := 8) (kc := 98) (ls0 := [_, _, _]) rfl rfl rfl rfl rfl (mj_rcv_is H0) rfl rfl rfl ?_
  refine s_ildn (p' := 1) rfl rfl rfl ?_
  refine s_if (p' := 4) false rfl (by decide +kernel) rfl ?_
  refine s_ildn (p' := 5) rfl rfl rfl ?_
  refine s_con (p' := 6) rfl rfl ?_
  refine s_icmp (p' := 9) false rfl (by decide +kernel) rfl ?_
  refine s_ildn (p' := 10) rfl rfl rfl ?_
  refine s_if (p' := 13) false rfl (by decide +kernel) rfl ?_
  refine s_ildn (p' := 14) rfl rfl rfl ?_
  refine s_bip (p' := 16) rfl rfl ?_
  refine s_icmp (p' := 30) true rfl (by decide +kernel) rfl ?_
  refine s_ildn (p' := 31) rfl rfl rfl ?_
  refine s_con (p' := 32) rfl rfl ?_
  refine s_ildn (p' := 33) rfl rfl rfl ?_
  refine s_bz (p' := 34) (z := (nI 1)) rfl rfl rfl (by decide +kernel) ?_
  refine s_bz (p' := 35) (z := (nI 0)) rfl rfl rfl (by decide +kernel) ?_
  refine s_if (p' := 49) true rfl (by decide +kernel) rfl ?_
  refine s_aldn (p' := 50) rfl rfl rfl ?_
  refine s_gf (p' := 53) rfl H0 rfl rfl ?_
  refine c_call (p' := 56) (kc := 97) (ls0 := [_]) rfl rfl rfl rfl rfl (mj_rcv_is H393) rfl rfl rfl ?_
  refine s_aldn (p' := 1) rfl rfl rfl ?_
  refine s_gf (p' := 4) rfl H393 rfl rfl ?_
  refine s_bip (p' := 6) rfl rfl ?_
  refine s_icmp (p' := 13) true rfl (by decide +kernel) rfl ?_
  refine s_con (p' := 14) rfl rfl ?_
  refine c_iret rfl (by decide +kernel) ?_
  refine s_if (p' := 70) true rfl (by decide +kernel) rfl ?_
  refine s_aldn (p' := 71) rfl rfl rfl ?_
  refine s_gf (p' := 74) rfl H0 rfl rfl ?_
  refine s_bip (p' := 76) rfl rfl ?_
  refine s_ildn (p' := 77) rfl rfl rfl ?_
  refine s_bz (p' := 78) (z := (nI 0)) rfl rfl rfl (by decide +kernel) ?_
  refine s_ildn (p' := 79) rfl rfl rfl ?_
  refine s_bz (p' := 80) (z := (nI 4)) rfl rfl rfl (by decide +kernel) ?_
  refine c_call (p' := 83) (kc := 97) (ls0 := [_, _]) rfl rfl rfl rfl rfl (mj_rcv_is H393) rfl rfl rfl ?_
  refine s_aldn (p' := 1) rfl rfl rfl ?_
  refine s_gf (p' := 4) rfl H393 rfl rfl ?_
  refine s_if (p' := 7) false rfl (by decide +kernel) rfl ?_
  refine s_aldn (p' := 8) rfl rfl rfl ?_
  refine s_gf (p' := 11) rfl H393 rfl rfl ?_
  refine s_aldn (p' := 12) rfl rfl rfl ?_
  refine s_gf (p' := 15) rfl H393 rfl rfl ?_
  refine s_lenz (p' := 16) rfl (mj_rdA_is H394 (by decide)) rfl rfl ?_
  refine s_icmp (p' := 19) false rfl (by decide +kernel) rfl ?_
  refine s_aldn (p' := 20) rfl rfl rfl ?_
  refine s_gf (p' := 23) rfl H393 rfl rfl ?_
  refine s_aldn (p' := 24) rfl rfl rfl ?_
  refine s_gf (p' := 27) rfl H393 rfl rfl ?_
  refine s_ildn (p' := 28) rfl rfl rfl ?_
  refine s_iasz (p' := 29) (m := 0) rfl rfl H394 (by decide +kernel) rfl rfl rfl ?_
  refine s_aldn (p' := 30) rfl rfl rfl ?_
  refine s_dupr (p' := 31) rfl rfl ?_
  refine s_gf (p' := 34) rfl (rd_sn rfl H393) rfl rfl ?_
  refine s_con (p' := 35) rfl rfl ?_
  refine s_bz (p' := 36) (z := (nI 1)) rfl rfl rfl (by decide +kernel) ?_
  refine s_pfz (p' := 39) (fs' := [_, _, _, _, _]) rfl rfl (rd_sn rfl H393) rfl rfl rfl rfl ?_
  refine c_ret rfl ?_
  refine s_aldn (p' := 84) rfl rfl rfl ?_
  refine s_gf (p' := 87) rfl (rd_sn rfl (rd_sn rfl H0)) rfl rfl ?_
  refine c_call (p' := 90) (kc := 97) (ls0 := [_]) rfl rfl rfl rfl rfl (mj_rcv_is (rd_ss rfl (rd_sn rfl H393))) rfl rfl rfl ?_
  refine s_aldn (p' := 1) rfl rfl rfl ?_
  refine s_gf (p' := 4) rfl (rd_ss rfl (rd_sn rfl H393)) rfl rfl ?_
  refine c_iret rfl rfl ?_
  refine c_iret rfl rfl ?_
  refine s_bzL (p' := 9) (z := (lN 1)) rfl rfl rfl (by decide +kernel) ?_
  refine s_lasz (p' := 10) (m := 0) rfl rfl (rd_sn rfl (rd_sn rfl H412)) (by decide +kernel) rfl rfl rfl ?_
  refine s_goto (p' := 21) rfl rfl ?_
  refine s_con (p' := 22) rfl rfl ?_
  refine k_iret rfl rfl ?_
  refine l_ist (p' := 1836) (ls' := [_, _, _, _, _, _, _, _, _, _]) rfl rfl rfl rfl rfl ?_
  refine l_aldn (p' := 1837) rfl rfl rfl rfl ?_
  refine l_alds (p' := 1838) rfl rfl rfl rfl ?_
  refine l_ild (p' := 1840) rfl rfl rfl rfl ?_
  refine l_con (p' := 1841) rfl rfl rfl ?_
  refine l_bz (p' := 1842) (z := (nI 1)) rfl rfl rfl rfl rfl (by decide +kernel) ?_
  refine l_ialz (p' := 1843) (m := 1) (z := (nI 0)) rfl rfl (by decide +kernel) rfl hx1 rfl ?_
  refine l_alds (p' := 1844) rfl rfl rfl rfl ?_
  refine l_ild (p' := 1846) rfl rfl rfl rfl ?_
  refine l_con (p' := 1847) rfl rfl rfl ?_
  refine l_bz (p' := 1848) (z := (nI 2)) rfl rfl rfl rfl rfl (by decide +kernel) ?_
  refine l_ialz (p' := 1849) (m := 2) (z := (nI 4)) rfl rfl (by decide +kernel) rfl hx2 rfl ?_
  refine l_call (p' := 1852) (kc := 99) (ls0 := [_, _, _, _]) rfl rfl rfl rfl rfl rfl (mj_rcv_is (rd_sn rfl (rd_sn rfl (rd_sn rfl H400)))) rfl rfl rfl ?_
  refine s_ildn (p' := 1) rfl rfl rfl ?_
  refine s_con (p' := 2) rfl rfl ?_
  refine s_con (p' := 3) rfl rfl ?_
  refine c_call (p' := 6) (kc := 98) (ls0 := [_, _, _]) rfl rfl rfl rfl rfl rfl rfl rfl rfl ?_
  refine s_ildn (p' := 1) rfl rfl rfl ?_
  refine s_ildn (p' := 2) rfl rfl rfl ?_
  refine s_icmp (p' := 5) false rfl (by decide +kernel) rfl ?_
  refine s_ildn (p' := 6) rfl rfl rfl ?_
  refine s_ildn (p' := 7) rfl rfl rfl ?_
  refine s_icmp (p' := 10) false rfl (by decide +kernel) rfl ?_
  refine s_con (p' := 11) rfl rfl ?_
  refine s_goto (p' := 15) rfl rfl ?_
  refine c_iret rfl (by decide +kernel) ?_
  refine s_if (p' := 9) false rfl (by decide +kernel) rfl ?_
  refine s_ildn (p' := 10) rfl rfl rfl ?_
  refine s_con (p' := 11) rfl rfl ?_
  refine s_bip (p' := 13) rfl rfl ?_
  refine c_call (p' := 16) (kc := 98) (ls0 := [_, _, _]) rfl rfl rfl rfl rfl rfl rfl rfl rfl ?_
  refine s_ildn (p' := 1) rfl rfl rfl ?_
  refine s_ildn (p' := 2) rfl rfl rfl ?_
  refine s_icmp (p' := 5) false rfl (by decide +kernel) rfl ?_
  refine s_ildn (p' := 6) rfl rfl rfl ?_
  refine s_ildn (p' := 7) rfl rfl rfl ?_
  refine s_icmp (p' := 10) false rfl (by decide +kernel) rfl ?_
  refine s_con (p' := 11) rfl rfl ?_
  refine s_goto (p' := 15) rfl rfl ?_
  refine c_iret rfl (by decide +kernel) ?_
  refine s_if (p' := 19) false rfl (by decide +kernel) rfl ?_
  refine s_ildn (p' := 20) rfl rfl rfl ?_
  refine s_ildn (p' := 21) rfl rfl rfl ?_
  refine s_bz (p' := 22) (z := (nI 4)) rfl rfl rfl (by decide +kernel) ?_
  refine s_con (p' := 23) rfl rfl ?_
  refine s_bz (p' := 24) (z := (nI 0)) rfl rfl rfl (by decide +kernel) ?_
  refine s_if (p' := 27) false rfl (by decide +kernel) rfl ?_
  refine s_con (p' := 28) rfl rfl ?_
  refine s_goto (p' := 32) rfl rfl ?_
  refine s_istn (p' := 33) (ls' := [_, _, _, _]) rfl rfl rfl rfl ?_
  refine s_aldn (p' := 34) rfl rfl rfl ?_
  refine s_ildn (p' := 35) rfl rfl rfl ?_
  refine s_if (p' := 42) true rfl (by decide +kernel) rfl ?_
  refine s_aldn (p' := 43) rfl rfl rfl ?_
  refine s_gf (p' := 46) rfl (rd_sn rfl (rd_sn rfl (rd_sn rfl H400))) rfl rfl ?_
  refine c_call (p' := 51) (kc := 98) (ls0 := [_]) rfl rfl rfl rfl rfl (mj_rcv_is (rd_sn rfl (rd_sn rfl (rd_sn rfl H410)))) rfl rfl rfl ?_
  refine s_aldn (p' := 1) rfl rfl rfl ?_
  refine s_gf (p' := 4) rfl (rd_sn rfl (rd_sn rfl (rd_sn rfl H410))) rfl rfl ?_
  refine c_iret rfl rfl ?_
  refine s_bip (p' := 53) rfl rfl ?_
  refine s_icmp (p' := 60) true rfl (by decide +kernel) rfl ?_
  refine s_con (p' := 61) rfl rfl ?_
  refine c_call (p' := 64) (kc := 98) (ls0 := [_, _]) rfl rfl rfl rfl rfl (mj_rcv_is (rd_sn rfl (rd_sn rfl (rd_sn rfl H400)))) rfl rfl rfl ?_
  refine s_aldn (p' := 1) rfl rfl rfl ?_
  refine s_ildn (p' := 2) rfl rfl rfl ?_
  refine s_pfz (p' := 5) (fs' := [_, _, _, _, _, _, _, _, _, _, _]) rfl rfl (rd_sn rfl (rd_sn rfl (rd_sn rfl H400))) rfl rfl rfl rfl ?_
  refine s_ildn (p' := 6) rfl rfl rfl ?_
  refine s_if (p' := 13) true rfl (by decide +kernel) rfl ?_
  refine s_con (p' := 14) rfl rfl ?_
  refine c_iret rfl (by decide +kernel) ?_
  refine s_if (p' := 69) true rfl (by decide +kernel) rfl ?_
  refine s_aldn (p' := 70) rfl rfl rfl ?_
  refine s_gf (p' := 73) rfl (rd_ss rfl (rd_sn rfl (rd_sn rfl (rd_sn rfl H400)))) rfl rfl ?_
  refine s_bip (p' := 75) rfl rfl ?_
  refine s_ildn (p' := 76) rfl rfl rfl ?_
  refine s_bz (p' := 77) (z := (nI 0)) rfl rfl rfl (by decide +kernel) ?_
  refine s_ildn (p' := 78) rfl rfl rfl ?_
  refine s_bz (p' := 79) (z := (nI 4)) rfl rfl rfl (by decide +kernel) ?_
  refine c_call (p' := 82) (kc := 98) (ls0 := [_]) rfl rfl rfl rfl rfl rfl rfl rfl rfl ?_
  refine s_ildn (p' := 1) rfl rfl rfl ?_
  refine s_bip (p' := 3) rfl rfl ?_
  refine s_icmp (p' := 6) false rfl (by decide +kernel) rfl ?_
  refine s_ildn (p' := 7) rfl rfl rfl ?_
  refine s_sh (p' := 10) (ls' := _) (st' := .int (nI 127) :: _) (h' := _) rfl rfl rfl rfl ?_
  refine s_icmp (p' := 13) false rfl (by decide +kernel) rfl ?_
  refine s_sh (p' := 16) (ls' := _) (st' := .ref 1000001 :: _) (h' := _) rfl rfl rfl rfl ?_
  refine s_ildn (p' := 17) rfl rfl rfl ?_
  refine s_sip (p' := 20) rfl rfl ?_
  refine s_bz (p' := 21) (z := (nI 132)) rfl rfl rfl (by decide +kernel) ?_
  refine s_aalz (p' := 22) (m := 132) (q := (some 1000142)) (v := .ref 1000142) rfl (mj_rdA_cst (k_1 _) (by decide)) rfl (by decide +kernel) rfl rfl rfl rfl ?_
  refine c_aret rfl ?_
  refine c_call (p' := 87) (kc := 98) (ls0 := [_, _]) rfl rfl rfl rfl rfl (mj_rcv_is (rd_sn rfl (rd_sn rfl (rd_sn rfl (rd_sn rfl H410))))) rfl rfl rfl ?_
  refine s_aldn (p' := 1) rfl rfl rfl ?_
  refine s_dupr (p' := 2) rfl rfl ?_
  refine s_gf (p' := 5) rfl (rd_sn rfl (rd_sn rfl (rd_sn rfl (rd_sn rfl H410)))) rfl rfl ?_
  refine s_con (p' := 6) rfl rfl ?_
  refine s_bz (p' := 7) (z := (nI 1)) rfl rfl rfl (by decide +kernel) ?_
  refine s_pfz (p' := 10) (fs' := [_, _, _]) rfl rfl (rd_sn rfl (rd_sn rfl (rd_sn rfl (rd_sn rfl H410)))) rfl rfl rfl rfl ?_
  refine s_aldn (p' := 11) rfl rfl rfl ?_
  refine s_aldn (p' := 12) rfl rfl rfl ?_
  refine s_aldn (p' := 13) rfl rfl rfl ?_
  refine s_gf (p' := 16) rfl (rd_ss rfl (rd_sn rfl (rd_sn rfl (rd_sn rfl (rd_sn rfl H410))))) rfl rfl ?_
  refine s_aldn (p' := 17) rfl rfl rfl ?_
  refine s_gf (p' := 20) rfl (rd_ss rfl (rd_sn rfl (rd_sn rfl (rd_sn rfl (rd_sn rfl H410))))) rfl rfl ?_
  refine c_call (p' := 23) (kc := 97) (ls0 := [_, _, _, _]) rfl rfl rfl rfl rfl (mj_rcv_is (rd_ss rfl (rd_sn rfl (rd_sn rfl (rd_sn rfl (rd_sn rfl H410)))))) rfl rfl rfl ?_
  refine s_ildn (p' := 1) rfl rfl rfl ?_
  refine s_aldn (p' := 2) rfl rfl rfl ?_
  refine s_lenz (p' := 3) rfl (mj_rdA_cst (k_0 _) (by decide)) rfl rfl ?_
  refine s_icmp (p' := 6) false rfl (by decide +kernel) rfl ?_
  refine s_aldn (p' := 7) rfl rfl rfl ?_
  refine c_call (p' := 10) (kc := 96) (ls0 := [_]) rfl rfl rfl rfl rfl (mj_rcv_is (rd_ss rfl (rd_sn rfl (rd_sn rfl (rd_sn rfl (rd_sn rfl H410)))))) rfl rfl rfl ?_
  refine s_aldn (p' := 1) rfl rfl rfl ?_
  refine s_aldn (p' := 2) rfl rfl rfl ?_
  refine s_gf (p' := 5) rfl (rd_ss rfl (rd_sn rfl (rd_sn rfl (rd_sn rfl (rd_sn rfl H410))))) rfl rfl ?_
  refine s_con (p' := 6) rfl rfl ?_
  refine s_bz (p' := 7) (z := (nI 1)) rfl rfl rfl (by decide +kernel) ?_
  refine c_call (p' := 10) (kc := 95) (ls0 := [_, _, _, _]) rfl rfl rfl rfl rfl (mj_rcv_is (rd_ss rfl (rd_sn rfl (rd_sn rfl (rd_sn rfl (rd_sn rfl H410)))))) rfl rfl rfl ?_
  refine s_aldn (p' := 1) rfl rfl rfl ?_
  refine s_gf (p' := 4) rfl (rd_ss rfl (rd_sn rfl (rd_sn rfl (rd_sn rfl (rd_sn rfl H410))))) rfl rfl ?_
  refine s_lenz (p' := 5) rfl (mj_rdA_cst (k_0 _) (by decide)) rfl rfl ?_
  refine s_istn (p' := 6) (ls' := [_, _, _, _]) rfl rfl rfl rfl ?_
  refine s_ildn (p' := 7) rfl rfl rfl ?_
  refine s_if (p' := 10) false rfl (by decide +kernel) rfl ?_
  refine s_aldn (p' := 11) rfl rfl rfl ?_
  refine s_gf (p' := 14) rfl (rd_ss rfl (rd_sn rfl (rd_sn rfl (rd_sn rfl (rd_sn rfl H410))))) rfl rfl ?_
  refine s_sh (p' := 17) (ls' := _) (st' := .ref 1000000 :: _) (h' := _) rfl rfl rfl rfl ?_
  refine s_sp (p' := 45) (ls' := _) rfl rfl rfl ?_
  refine s_aldn (p' := 46) rfl rfl rfl ?_
  refine s_bip (p' := 48) rfl rfl ?_
  refine s_ildn (p' := 49) rfl rfl rfl ?_
  refine s_primV (p' := 52) (q := 4) rfl rfl rfl rfl rfl rfl (p_max (x := (nI 10)) (y := (nI 1)) (z := (nI 10)) (by decide +kernel)) rfl ?_
  refine s_anaz (p' := 55) (a := 414) (n := 10) rfl (len_s (len_s (len_s (len_s (len_s HL))))) rfl rfl ?_
  refine s_sp (p' := 56) (ls' := _) rfl rfl rfl ?_
  refine s_pfz (p' := 59) (fs' := [_, _, _]) rfl rfl (rd_app (rd_ss rfl (rd_sn rfl (rd_sn rfl (rd_sn rfl (rd_sn rfl H410)))))) rfl rfl rfl rfl ?_
  refine c_aret rfl ?_
  refine c_aret rfl ?_
  refine s_astn (p' := 11) (ls' := [_, _, _, _]) rfl rfl rfl rfl ?_
  refine s_aldn (p' := 12) rfl rfl rfl ?_
  refine s_ildn (p' := 13) rfl rfl rfl ?_
  refine s_aldn (p' := 14) rfl rfl rfl ?_
  refine s_aasz (p' := 15) (m := 0) rfl rfl (rd_sn rfl (rd_nw rfl (len_s (len_s (len_s (len_s (len_s HL))))))) rfl (by decide +kernel) rfl (k_142 _) rfl rfl ?_
  refine s_aldn (p' := 16) rfl rfl rfl ?_
  refine s_ildn (p' := 17) rfl rfl rfl ?_
  refine s_con (p' := 18) rfl rfl ?_
  refine s_bz (p' := 19) (z := (nI 1)) rfl rfl rfl (by decide +kernel) ?_
  refine s_pfz (p' := 22) (fs' := [_, _, _]) rfl rfl (rd_sn rfl (rd_ss rfl (rd_app (rd_ss rfl (rd_sn rfl (rd_sn rfl (rd_sn rfl (rd_sn rfl H410)))))))) rfl rfl rfl rfl ?_
  refine c_ret rfl ?_
  refine s_con (p' := 24) rfl rfl ?_
  refine c_iret rfl (by decide +kernel) ?_
  refine s_sp (p' := 88) (ls' := _) rfl rfl rfl ?_
  refine s_aldn (p' := 89) rfl rfl rfl ?_
  refine s_gf (p' := 92) rfl (rd_sn rfl (rd_sn rfl (rd_sn rfl (rd_app (rd_sn rfl (rd_ss rfl (rd_sn rfl (rd_sn rfl (rd_sn rfl H400))))))))) rfl rfl ?_
  refine c_call (p' := 97) (kc := 98) (ls0 := [_]) rfl rfl rfl rfl rfl (mj_rcv_is (rd_ss rfl (rd_sn rfl (rd_ss rfl (rd_app (rd_ss rfl (rd_sn rfl (rd_sn rfl (rd_sn rfl (rd_sn rfl H410)))))))))) rfl rfl rfl ?_
  refine s_aldn (p' := 1) rfl rfl rfl ?_
  refine s_gf (p' := 4) rfl (rd_ss rfl (rd_sn rfl (rd_ss rfl (rd_app (rd_ss rfl (rd_sn rfl (rd_sn rfl (rd_sn rfl (rd_sn rfl H410))))))))) rfl rfl ?_
  refine c_iret rfl rfl ?_
  refine k_iret rfl rfl ?_
  refine l_ist (p' := 1854) (ls' := [_, _, _, _, _, _, _, _, _, _]) rfl rfl rfl rfl rfl ?_
  refine l_aldn (p' := 1855) rfl rfl rfl rfl ?_
  refine l_call (p' := 1858) (kc := 99) (ls0 := [_]) rfl rfl rfl rfl rfl rfl (mj_rcv_is (rd_sn rfl (rd_sn rfl (rd_sn rfl (rd_app (rd_sn rfl (rd_ss rfl (rd_sn rfl (rd_sn rfl (rd_sn rfl H400)))))))))) rfl rfl rfl ?_
  refine s_aldn (p' := 1) rfl rfl rfl ?_
  refine s_gf (p' := 4) rfl (rd_sn rfl (rd_sn rfl (rd_sn rfl (rd_app (rd_sn rfl (rd_ss rfl (rd_sn rfl (rd_sn rfl (rd_sn rfl H400))))))))) rfl rfl ?_
  refine k_iret rfl rfl ?_
  refine l_ild (p' := 1860) rfl rfl rfl rfl ?_
  refine l_icmp (p' := 1865) true rfl rfl (by decide +kernel) rfl ?_
  refine l_ild (p' := 1867) rfl rfl rfl rfl ?_
  refine l_if (p' := 1870) false rfl rfl (by decide +kernel) rfl ?_
  refine l_aldn (p' := 1871) rfl rfl rfl rfl ?_
  refine l_con (p' := 1872) rfl rfl rfl ?_
  refine l_lalz (p' := 1873) (m := 0) (v := (lN 1)) rfl rfl (rd_sn rfl (rd_sn rfl (rd_sn rfl (rd_app (rd_sn rfl (rd_sn rfl (rd_ss rfl (rd_sn rfl (rd_sn rfl H412))))))))) (by decide +kernel) rfl (by decide +kernel) rfl ?_
  refine l_ild (p' := 1875) rfl rfl rfl rfl ?_
  refine l_bzL (p' := 1876) (z := (lN 1)) rfl rfl rfl rfl rfl (by decide +kernel) ?_
  refine l_bz (p' := 1877) (z := (nI 0)) rfl rfl rfl rfl rfl (by decide +kernel) ?_
  refine l_if (p' := 1882) true rfl rfl (by decide +kernel) rfl ?_
  refine l_goto (p' := 2541) rfl rfl rfl ?_
  refine l_incz (p' := 2544) (w := (nI 4)) (ls' := [_, _, _, _, _, _, _, _, _, _]) rfl rfl rfl rfl (by decide +kernel) rfl rfl ?_
  refine l_goto (p' := 28) rfl rfl rfl ?_
  refine l_ild (p' := 30) rfl rfl rfl rfl ?_
  refine l_alds (p' := 31) rfl rfl rfl rfl ?_
  refine l_lens (p' := 32) rfl rfl rfl ?_
  refine l_con (p' := 33) rfl rfl rfl ?_
  refine l_bz (p' := 34) (z := (nI 0)) rfl rfl rfl rfl rfl (by decide +kernel) ?_
  refine l_icmp (p' := 2547) true rfl rfl (by decide +kernel) rfl ?_
  refine l_con (p' := 2548) rfl rfl rfl ?_
  refine l_end rfl rfl ?_
  exact ⟨Nat.le_trans (Nat.le_of_eq (len_s (len_s (len_s (len_a (len_s (len_s (len_s (len_s (len_s HL))))) rfl))))) (Nat.le_of_ble_eq_true rfl), Nat.le_trans (sz_s rfl (rd_sn rfl (rd_ss rfl (rd_app (rd_ss rfl (rd_sn rfl (rd_sn rfl (rd_sn rfl (rd_sn rfl H410)))))))) rfl (sz_sA rfl (rd_sn rfl (rd_nw rfl (len_s (len_s (len_s (len_s (len_s HL))))))) (sz_s rfl (rd_app (rd_ss rfl (rd_sn rfl (rd_sn rfl (rd_sn rfl (rd_sn rfl H410)))))) rfl (sz_aa (k := 10) (m := 20010) rfl rfl (sz_s rfl (rd_sn rfl (rd_sn rfl (rd_sn rfl (rd_sn rfl H410)))) rfl (sz_s rfl (rd_sn rfl (rd_sn rfl (rd_sn rfl H400))) rfl (sz_sA rfl (rd_sn rfl (rd_sn rfl H412)) (sz_s rfl (rd_sn rfl H393) rfl (sz_sA rfl H394 HZ))))))))) (Nat.le_of_ble_eq_true rfl)⟩
theorem p1_29_05 {xs : Nat → Int32} {h : mj_H} (hk : xs 0 &&& nI 63 = nI 29) (hx1 : xs 1 = nI 0) (hx2 : xs 2 = nI 5)  (HL : h.length = 414) (HZ : mj_sz h ≤ 20000) (H0 : mj_rd h 0 = some (.inr (0, [.ref 1, .ref 38, .ref 299, .ref 336, .ref 373, .ref 375, .ref 378, .ref 381, .ref 387, .ref 393, .null, .null, .ref 397, .ref 398, .ref 399, .long (lN 0), .long (lN 0)]))) (H400 : mj_rd h 400 = some (.inr (17, [.int (nI 0), .ref 401, .ref 402, .ref 1000300, .long (lN 0), .long (lN 0), .ref 410, .null, .null, .null, .ref 411]))) : mj_fin 4 xs h := by
  unfold mj_fin
  refine l_ild (p' := 30) rfl rfl rfl rfl ?_
  refine l_alds (p' := 31) rfl rfl rfl rfl ?_
  refine l_lens (p' := 32) rfl rfl rfl ?_
  refine l_con (p' := 33) rfl rfl rfl ?_
  refine l_bz (p' := 34) (z := (nI 0)) rfl rfl rfl rfl rfl (by decide +kernel) ?_
  refine l_icmp (p' := 37) false rfl rfl (by decide +kernel) rfl ?_
  refine l_alds (p' := 38) rfl rfl rfl rfl ?_
  refine l_ild (p' := 40) rfl rfl rfl rfl ?_
  refine l_ialz (p' := 41) (m := 0) (z := (xs 0)) rfl rfl (by decide +kernel) rfl rfl rfl ?_
  refine l_bip (p' := 43) rfl rfl rfl ?_
  refine l_bz (p' := 44) (z := (nI 29)) rfl rfl rfl rfl rfl hk ?_
  refine l_sp (p' := 1817) (ls' := _) rfl rfl rfl rfl rfl ?_
  refine l_aldn (p' := 1818) rfl rfl rfl rfl ?_
  refine l_alds (p' := 1819) rfl rfl rfl rfl ?_
  refine l_ild (p' := 1821) rfl rfl rfl rfl ?_
  refine l_con (p' := 1822) rfl rfl rfl ?_
  refine l_bz (p' := 1823) (z := (nI 1)) rfl rfl rfl rfl rfl (by decide +kernel) ?_
  refine l_ialz (p' := 1824) (m := 1) (z := (nI 0)) rfl rfl (by decide +kernel) rfl hx1 rfl ?_
  refine l_alds (p' := 1825) rfl rfl rfl rfl ?_
  refine l_ild (p' := 1827) rfl rfl rfl rfl ?_
  refine l_con (p' := 1828) rfl rfl rfl ?_
  refine l_bz (p' := 1829) (z := (nI 2)) rfl rfl rfl rfl rfl (by decide +kernel) ?_
  refine l_ialz (p' := 1830) (m := 2) (z := (nI 5)) rfl rfl (by decide +kernel) rfl hx2 rfl ?_
  refine l_aldn (p' := 1831) rfl rfl rfl rfl ?_
  refine l_call (p' := 1834) (kc := 99) (ls0 := [_, _, _, _, _]) rfl rfl rfl rfl rfl rfl rfl rfl rfl rfl ?_
  refine s_aldn (p' := 1) rfl rfl rfl ?_
  refine s_con (p' := 2) rfl rfl ?_
  refine s_aldn (p' := 3) rfl rfl rfl ?_
  refine s_ildn (p' := 4) rfl rfl rfl ?_
  refine s_ildn (p' := 5) rfl rfl rfl ?_
  refine c_call (p' := 8) (kc := 98) (ls0 := [_, _, _]) rfl rfl rfl rfl rfl (mj_rcv_is H0) rfl rfl rfl ?_
  refine s_ildn (p' := 1) rfl rfl rfl ?_
  refine s_if (p' := 4) false rfl (by decide +kernel) rfl ?_
  refine s_ildn (p' := 5) rfl rfl rfl ?_
  refine s_con (p' := 6) rfl rfl ?_
  refine s_icmp (p' := 9) false rfl (by decide +kernel) rfl ?_
  refine s_ildn (p' := 10) rfl rfl rfl ?_
  refine s_if (p' := 13) false rfl (by decide +kernel) rfl ?_
  refine s_ildn (p' := 14) rfl rfl rfl ?_
  refine s_bip (p' := 16) rfl rfl ?_
  refine s_icmp (p' := 30) true rfl (by decide +kernel) rfl ?_
  refine s_ildn (p' := 31) rfl rfl rfl ?_
  refine s_con (p' := 32) rfl rfl ?_
  refine s_ildn (p' := 33) rfl rfl rfl ?_
  refine s_bz (p' := 34) (z := (nI 1)) rfl rfl rfl (by decide +kernel) ?_
  refine s_bz (p' := 35) (z := (nI 1)) rfl rfl rfl (by decide +kernel) ?_
  refine s_if (p' := 38) false rfl (by decide +kernel) rfl ?_
  refine s_thrz (q := 414) rfl HL rfl ?_
  refine K_c (hp := 13) rfl (mj_ocl_is (rd_nw rfl HL)) rfl ?_
  refine s_ast (p' := 15) (ls' := [_, _, _, _, _]) rfl rfl rfl rfl ?_
  refine s_con (p' := 16) rfl rfl ?_
  refine k_iret rfl rfl ?_
  refine l_ist (p' := 1836) (ls' := [_, _, _, _, _, _, _, _, _, _]) rfl rfl rfl rfl rfl ?_
  refine l_aldn (p' := 1837) rfl rfl rfl rfl ?_
  refine l_alds (p' := 1838) rfl rfl rfl rfl ?_
  refine l_ild (p' := 1840) rfl rfl rfl rfl ?_
  refine l_con (p' := 1841) rfl rfl rfl ?_
  refine l_bz (p' := 1842) (z := (nI 1)) rfl rfl rfl rfl rfl (by decide +kernel) ?_
  refine l_ialz (p' := 1843) (m := 1) (z := (nI 0)) rfl rfl (by decide +kernel) rfl hx1 rfl ?_
  refine l_alds (p' := 1844) rfl rfl rfl rfl ?_
  refine l_ild (p' := 1846) rfl rfl rfl rfl ?_
  refine l_con (p' := 1847) rfl rfl rfl ?_
  refine l_bz (p' := 1848) (z := (nI 2)) rfl rfl rfl rfl rfl (by decide +kernel) ?_
  refine l_ialz (p' := 1849) (m := 2) (z := (nI 5)) rfl rfl (by decide +kernel) rfl hx2 rfl ?_
  refine l_call (p' := 1852) (kc := 99) (ls0 := [_, _, _, _]) rfl rfl rfl rfl rfl rfl (mj_rcv_is (rd_app H400)) rfl rfl rfl ?_
  refine s_ildn (p' := 1) rfl rfl rfl ?_
  refine s_con (p' := 2) rfl rfl ?_
  refine s_con (p' := 3) rfl rfl ?_
  refine c_call (p' := 6) (kc := 98) (ls0 := [_, _, _]) rfl rfl rfl rfl rfl rfl rfl rfl rfl ?_
  refine s_ildn (p' := 1) rfl rfl rfl ?_
  refine s_ildn (p' := 2) rfl rfl rfl ?_
  refine s_icmp (p' := 5) false rfl (by decide +kernel) rfl ?_
  refine s_ildn (p' := 6) rfl rfl rfl ?_
  refine s_ildn (p' := 7) rfl rfl rfl ?_
  refine s_icmp (p' := 10) false rfl (by decide +kernel) rfl ?_
  refine s_con (p' := 11) rfl rfl ?_
  refine s_goto (p' := 15) rfl rfl ?_
  refine c_iret rfl (by decide +kernel) ?_
  refine s_if (p' := 9) false rfl (by decide +kernel) rfl ?_
  refine s_ildn (p' := 10) rfl rfl rfl ?_
  refine s_con (p' := 11) rfl rfl ?_
  refine s_bip (p' := 13) rfl rfl ?_
  refine c_call (p' := 16) (kc := 98) (ls0 := [_, _, _]) rfl rfl rfl rfl rfl rfl rfl rfl rfl ?_
  refine s_ildn (p' := 1) rfl rfl rfl ?_
  refine s_ildn (p' := 2) rfl rfl rfl ?_
  refine s_icmp (p' := 5) false rfl (by decide +kernel) rfl ?_
  refine s_ildn (p' := 6) rfl rfl rfl ?_
  refine s_ildn (p' := 7) rfl rfl rfl ?_
  refine s_icmp (p' := 10) false rfl (by decide +kernel) rfl ?_
  refine s_con (p' := 11) rfl rfl ?_
  refine s_goto (p' := 15) rfl rfl ?_
  refine c_iret rfl (by decide +kernel) ?_
  refine s_if (p' := 19) false rfl (by decide +kernel) rfl ?_
  refine s_ildn (p' := 20) rfl rfl rfl ?_
  refine s_ildn (p' := 21) rfl rfl rfl ?_
  refine s_bz (p' := 22) (z := (nI 5)) rfl rfl rfl (by decide +kernel) ?_
  refine s_con (p' := 23) rfl rfl ?_
  refine s_bz (p' := 24) (z := (nI 1)) rfl rfl rfl (by decide +kernel) ?_
  refine s_if (p' := 31) true rfl (by decide +kernel) rfl ?_
  refine s_con (p' := 32) rfl rfl ?_
  refine s_istn (p' := 33) (ls' := [_, _, _, _]) rfl rfl rfl rfl ?_
  refine s_aldn (p' := 34) rfl rfl rfl ?_
  refine s_ildn (p' := 35) rfl rfl rfl ?_
  refine s_if (p' := 38) false rfl (by decide +kernel) rfl ?_
  refine s_con (p' := 39) rfl rfl ?_
  refine s_goto (p' := 61) rfl rfl ?_
  refine c_call (p' := 64) (kc := 98) (ls0 := [_, _]) rfl rfl rfl rfl rfl (mj_rcv_is (rd_app H400)) rfl rfl rfl ?_
  refine s_aldn (p' := 1) rfl rfl rfl ?_
  refine s_ildn (p' := 2) rfl rfl rfl ?_
  refine s_pfz (p' := 5) (fs' := [_, _, _, _, _, _, _, _, _, _, _]) rfl rfl (rd_app H400) rfl rfl rfl rfl ?_
  refine s_ildn (p' := 6) rfl rfl rfl ?_
  refine s_if (p' := 9) false rfl (by decide +kernel) rfl ?_
  refine s_con (p' := 10) rfl rfl ?_
  refine s_goto (p' := 14) rfl rfl ?_
  refine c_iret rfl (by decide +kernel) ?_
  refine s_if (p' := 67) false rfl (by decide +kernel) rfl ?_
  refine s_con (p' := 68) rfl rfl ?_
  refine k_iret rfl rfl ?_
  refine l_ist (p' := 1854) (ls' := [_, _, _, _, _, _, _, _, _, _]) rfl rfl rfl rfl rfl ?_
  refine l_aldn (p' := 1855) rfl rfl rfl rfl ?_
  refine l_call (p' := 1858) (kc := 99) (ls0 := [_]) rfl rfl rfl rfl rfl rfl (mj_rcv_is (rd_ss rfl (rd_app H400))) rfl rfl rfl ?_
  refine s_aldn (p' := 1) rfl rfl rfl ?_
  refine s_gf (p' := 4) rfl (rd_ss rfl (rd_app H400)) rfl rfl ?_
  refine k_iret rfl rfl ?_
  refine l_ild (p' := 1860) rfl rfl rfl rfl ?_
  refine l_icmp (p' := 1865) true rfl rfl (by decide +kernel) rfl ?_
  refine l_ild (p' := 1867) rfl rfl rfl rfl ?_
  refine l_if (p' := 1882) true rfl rfl (by decide +kernel) rfl ?_
  refine l_goto (p' := 2541) rfl rfl rfl ?_
  refine l_incz (p' := 2544) (w := (nI 4)) (ls' := [_, _, _, _, _, _, _, _, _, _]) rfl rfl rfl rfl (by decide +kernel) rfl rfl ?_
  refine l_goto (p' := 28) rfl rfl rfl ?_
  refine l_ild (p' := 30) rfl rfl rfl rfl ?_
  refine l_alds (p' := 31) rfl rfl rfl rfl ?_
  refine l_lens (p' := 32) rfl rfl rfl ?_
  refine l_con (p' := 33) rfl rfl rfl ?_
  refine l_bz (p' := 34) (z := (nI 0)) rfl rfl rfl rfl rfl (by decide +kernel) ?_
  refine l_icmp (p' := 2547) true rfl rfl (by decide +kernel) rfl ?_
  refine l_con (p' := 2548) rfl rfl rfl ?_
  refine l_end rfl rfl ?_
  exact ⟨Nat.le_trans (Nat.le_of_eq (len_s (len_a HL rfl))) (Nat.le_of_ble_eq_true rfl), Nat.le_trans (sz_s rfl (rd_app H400) rfl (sz_aa (k := 6) (m := 20006) rfl rfl HZ)) (Nat.le_of_ble_eq_true rfl)⟩
theorem p1_29_06 {xs : Nat → Int32} {h : mj_H} (hk : xs 0 &&& nI 63 = nI 29) (hx1 : xs 1 = nI 0) (hx2 : xs 2 = nI 6)  (HL : h.length = 414) (HZ : mj_sz h ≤ 20000) (H0 : mj_rd h 0 = some (.inr (0, [.ref 1, .ref 38, .ref 299, .ref 336, .ref 373, .ref 375, .ref 378, .ref 381, .ref 387, .ref 393, .null, .null, .ref 397, .ref 398, .ref 399, .long (lN 0), .long (lN 0)]))) (H393 : mj_rd h 393 = some (.inr (9, [.ref 394, .ref 395, .ref 396, .int (nI 0), .int (nI 0)]))) (H394 : mj_rd h 394 = some (.inl (0, (24, .inl (fun _ => 0))))) (H400 : mj_rd h 400 = some (.inr (17, [.int (nI 0), .ref 401, .ref 402, .ref 1000300, .long (lN 0), .long (lN 0), .ref 410, .null, .null, .null, .ref 411]))) (H410 : mj_rd h 410 = some (.inr (18, [.ref 1000000, .int (nI 0), .int (nI 0)]))) (H412 : mj_rd h 412 = some (.inl (4, (1, .inr (.inl (fun _ => 0)))))) : mj_fin 4 xs h := by
  unfold mj_fin
  refine l_ild (p' := 30) rfl rfl rfl rfl ?_
  refine l_alds (p' := 31) rfl rfl rfl rfl ?_
  refine l_lens (p' := 32) rfl rfl rfl ?_
  refine l_con (p' := 33) rfl rfl rfl ?_
  refine l_bz (p' := 34) (z := (nI 0)) rfl rfl rfl rfl rfl (by decide +kernel) ?_
  refine l_icmp (p' := 37) false rfl rfl (by decide +kernel) rfl ?_
  refine l_alds (p' := 38) rfl rfl rfl rfl ?_
  refine l_ild (p' := 40) rfl rfl rfl rfl ?_
  refine l_ialz (p' := 41) (m := 0) (z := (xs 0)) rfl rfl (by decide +kernel) rfl rfl rfl ?_
  refine l_bip (p' := 43) rfl rfl rfl ?_
  refine l_bz (p' := 44) (z := (nI 29)) rfl rfl rfl rfl rfl hk ?_
  refine l_sp (p' := 1817) (ls' := _) rfl rfl rfl rfl rfl ?_
  refine l_aldn (p' := 1818) rfl rfl rfl rfl ?_
  refine l_alds (p' := 1819) rfl rfl rfl rfl ?_
  refine l_ild (p' := 1821) rfl rfl rfl rfl ?_
  refine l_con (p' := 1822) rfl rfl rfl ?_
  refine l_bz (p' := 1823) (z := (nI 1)) rfl rfl rfl rfl rfl (by decide +kernel) ?_
  refine l_ialz (p' := 1824) (m := 1) (z := (nI 0)) rfl rfl (by decide +kernel) rfl hx1 rfl ?_
  refine l_alds (p' := 1825) rfl rfl rfl rfl ?_
  refine l_ild (p' := 1827) rfl rfl rfl rfl ?_
  refine l_con (p' := 1828) rfl rfl rfl ?_
  refine l_bz (p' := 1829) (z := (nI 2)) rfl rfl rfl rfl rfl (by decide +kernel) ?_
  refine l_ialz (p' := 1830) (m := 2) (z := (nI 6)) rfl rfl (by decide +kernel) rfl hx2 rfl ?_
  refine l_aldn (p' := 1831) rfl rfl rfl rfl ?_
  refine l_call (p' := 1834) (kc := 99) (ls0 := [_, _, _, _, _]) rfl rfl rfl rfl rfl rfl rfl rfl rfl rfl ?_
  refine s_aldn (p' := 1) rfl rfl rfl ?_
  refine s_con (p' := 2) rfl rfl ?_
  refine s_aldn (p' := 3) rfl rfl rfl ?_
  refine s_ildn (p' := 4) rfl rfl rfl ?_
  refine s_ildn (p' := 5) rfl rfl rfl ?_
  refine c_call (p' := 8) (kc := 98) (ls0 := [_, _, _]) rfl rfl rfl rfl rfl (mj_rcv_is H0) rfl rfl rfl ?_
  refine s_ildn (p' := 1) rfl rfl rfl ?_
  refine s_if (p' := 4) false rfl (by decide +kernel) rfl ?_
  refine s_ildn (p' := 5) rfl rfl rfl ?_
  refine s_con (p' := 6) rfl rfl ?_
  refine s_icmp (p' := 9) false rfl (by decide +kernel) rfl ?_
  refine s_ildn (p' := 10) rfl rfl rfl ?_
  refine s_if (p' := 13) false rfl (by decide +kernel) rfl ?_
  refine s_ildn (p' := 14) rfl rfl rfl ?_
  refine s_bip (p' := 16) rfl rfl ?_
  refine s_icmp (p' := 30) true rfl (by decide +kernel) rfl ?_
  refine s_ildn (p' := 31) rfl rfl rfl ?_
  refine s_con (p' := 32) rfl rfl ?_
  refine s_ildn (p' := 33) rfl rfl rfl ?_
  refine s_bz (p' := 34) (z := (nI 1)) rfl rfl rfl (by decide +kernel) ?_
  refine s_bz (p' := 35) (z := (nI 0)) rfl rfl rfl (by decide +kernel) ?_
  refine s_if (p' := 49) true rfl (by decide +kernel) rfl ?_
  refine s_aldn (p' := 50) rfl rfl rfl ?_
  refine s_gf (p' := 53) rfl H0 rfl rfl ?_
  refine c_call (p' := 56) (kc := 97) (ls0 := [_]) rfl rfl rfl rfl rfl (mj_rcv_is H393) rfl rfl rfl ?_
  refine s_aldn (p' := 1) rfl rfl rfl ?_
  refine s_gf (p' := 4) rfl H393 rfl rfl ?_
  refine s_bip (p' := 6) rfl rfl ?_
  refine s_icmp (p' := 13) true rfl (by decide +kernel) rfl ?_
  refine s_con (p' := 14) rfl rfl ?_
  refine c_iret rfl (by decide +kernel) ?_
  refine s_if (p' := 70) true rfl (by decide +kernel) rfl ?_
  refine s_aldn (p' := 71) rfl rfl rfl ?_
  refine s_gf (p' := 74) rfl H0 rfl rfl ?_
  refine s_bip (p' := 76) rfl rfl ?_
  refine s_ildn (p' := 77) rfl rfl rfl ?_
  refine s_bz (p' := 78) (z := (nI 0)) rfl rfl rfl (by decide +kernel) ?_
  refine s_ildn (p' := 79) rfl rfl rfl ?_
  refine s_bz (p' := 80) (z := (nI 6)) rfl rfl rfl (by decide +kernel) ?_
  refine c_call (p' := 83) (kc := 97) (ls0 := [_, _]) rfl rfl rfl rfl rfl (mj_rcv_is H393) rfl rfl rfl ?_
  refine s_aldn (p' := 1) rfl rfl rfl ?_
  refine s_gf (p' := 4) rfl H393 rfl rfl ?_
  refine s_if (p' := 7) false rfl (by decide +kernel) rfl ?_
  refine s_aldn (p' := 8) rfl rfl rfl ?_
  refine s_gf (p' := 11) rfl H393 rfl rfl ?_
  refine s_aldn (p' := 12) rfl rfl rfl ?_
  refine s_gf (p' := 15) rfl H393 rfl rfl ?_
  refine s_lenz (p' := 16) rfl (mj_rdA_is H394 (by decide)) rfl rfl ?_
  refine s_icmp (p' := 19) false rfl (by decide +kernel) rfl ?_
  refine s_aldn (p' := 20) rfl rfl rfl ?_
  refine s_gf (p' := 23) rfl H393 rfl rfl ?_
  refine s_aldn (p' := 24) rfl rfl rfl ?_
  refine s_gf (p' := 27) rfl H393 rfl rfl ?_
  refine s_ildn (p' := 28) rfl rfl rfl ?_
  refine s_iasz (p' := 29) (m := 0) rfl rfl H394 (by decide +kernel) rfl rfl rfl ?_
  refine s_aldn (p' := 30) rfl rfl rfl ?_
  refine s_dupr (p' := 31) rfl rfl ?_
  refine s_gf (p' := 34) rfl (rd_sn rfl H393) rfl rfl ?_
  refine s_con (p' := 35) rfl rfl ?_
  refine s_bz (p' := 36) (z := (nI 1)) rfl rfl rfl (by decide +kernel) ?_
  refine s_pfz (p' := 39) (fs' := [_, _, _, _, _]) rfl rfl (rd_sn rfl H393) rfl rfl rfl rfl ?_
  refine c_ret rfl ?_
  refine s_aldn (p' := 84) rfl rfl rfl ?_
  refine s_gf (p' := 87) rfl (rd_sn rfl (rd_sn rfl H0)) rfl rfl ?_
  refine c_call (p' := 90) (kc := 97) (ls0 := [_]) rfl rfl rfl rfl rfl (mj_rcv_is (rd_ss rfl (rd_sn rfl H393))) rfl rfl rfl ?_
  refine s_aldn (p' := 1) rfl rfl rfl ?_
  refine s_gf (p' := 4) rfl (rd_ss rfl (rd_sn rfl H393)) rfl rfl ?_
  refine c_iret rfl rfl ?_
  refine c_iret rfl rfl ?_
  refine s_bzL (p' := 9) (z := (lN 1)) rfl rfl rfl (by decide +kernel) ?_
  refine s_lasz (p' := 10) (m := 0) rfl rfl (rd_sn rfl (rd_sn rfl H412)) (by decide +kernel) rfl rfl rfl ?_
  refine s_goto (p' := 21) rfl rfl ?_
  refine s_con (p' := 22) rfl rfl ?_
  refine k_iret rfl rfl ?_
  refine l_ist (p' := 1836) (ls' := [_, _, _, _, _, _, _, _, _, _]) rfl rfl rfl rfl rfl ?_
  refine l_aldn (p' := 1837) rfl rfl rfl rfl ?_
  refine l_alds (p' := 1838) rfl rfl rfl rfl ?_
  refine l_ild (p' := 1840) rfl rfl rfl rfl ?_
  refine l_con (p' := 1841) rfl rfl rfl ?_
  refine l_bz (p' := 1842) (z := (nI 1)) rfl rfl rfl rfl rfl (by decide +kernel) ?_
  refine l_ialz (p' := 1843) (m := 1) (z := (nI 0)) rfl rfl (by decide +kernel) rfl hx1 rfl ?_
  refine l_alds (p' := 1844) rfl rfl rfl rfl ?_
  refine l_ild (p' := 1846) rfl rfl rfl rfl ?_
  refine l_con (p' := 1847) rfl rfl rfl ?_
  refine l_bz (p' := 1848) (z := (nI 2)) rfl rfl rfl rfl rfl (by decide +kernel) ?_
  refine l_ialz (p' := 1849) (m := 2) (z := (nI 6)) rfl rfl (by decide +kernel) rfl hx2 rfl ?_
  refine l_call (p' := 1852) (kc := 99) (ls0 := [_, _, _, _]) rfl rfl rfl rfl rfl rfl (mj_rcv_is (rd_sn rfl (rd_sn rfl (rd_sn rfl H400)))) rfl rfl rfl ?_
  refine s_ildn (p' := 1) rfl rfl rfl ?_
  refine s_con (p' := 2) rfl rfl ?_
  refine s_con (p' := 3) rfl rfl ?_
  refine c_call (p' := 6) (kc := 98) (ls0 := [_, _, _]) rfl rfl rfl rfl rfl rfl rfl rfl rfl ?_
  refine s_ildn (p' := 1) rfl rfl rfl ?_
  refine s_ildn (p' := 2) rfl rfl rfl ?_
  refine s_icmp (p' := 5) false rfl (by decide +kernel) rfl ?_
  refine s_ildn (p' := 6) rfl rfl rfl ?_
  refine s_ildn (p' := 7) rfl rfl rfl ?_
  refine s_icmp (p' := 10) false rfl (by decide +kernel) rfl ?_
  refine s_con (p' := 11) rfl rfl ?_
  refine s_goto (p' := 15) rfl rfl ?_
  refine c_iret rfl (by decide +kernel) ?_
  refine s_if (p' := 9) false rfl (by decide +kernel) rfl ?_
  refine s_ildn (p' := 10) rfl rfl rfl ?_
  refine s_con (p' := 11) rfl rfl ?_
  refine s_bip (p' := 13) rfl rfl ?_
  refine c_call (p' := 16) (kc := 98) (ls0 := [_, _, _]) rfl rfl rfl rfl rfl rfl rfl rfl rfl ?_
  refine s_ildn (p' := 1) rfl rfl rfl ?_
  refine s_ildn (p' := 2) rfl rfl rfl ?_
  refine s_icmp (p' := 5) false rfl (by decide +kernel) rfl ?_
  refine s_ildn (p' := 6) rfl rfl rfl ?_
  refine s_ildn (p' := 7) rfl rfl rfl ?_
  refine s_icmp (p' := 10) false rfl (by decide +kernel) rfl ?_
  refine s_con (p' := 11) rfl rfl ?_
  refine s_goto (p' := 15) rfl rfl ?_
  refine c_iret rfl (by decide +kernel) ?_
  refine s_if (p' := 19) false rfl (by decide +kernel) rfl ?_
  refine s_ildn (p' := 20) rfl rfl rfl ?_
  refine s_ildn (p' := 21) rfl rfl rfl ?_
  refine s_bz (p' := 22) (z := (nI 6)) rfl rfl rfl (by decide +kernel) ?_
  refine s_con (p' := 23) rfl rfl ?_
  refine s_bz (p' := 24) (z := (nI 0)) rfl rfl rfl (by decide +kernel) ?_
  refine s_if (p' := 27) false rfl (by decide +kernel) rfl ?_
  refine s_con (p' := 28) rfl rfl ?_
  refine s_goto (p' := 32) rfl rfl ?_
  refine s_istn (p' := 33) (ls' := [_, _, _, _]) rfl rfl rfl rfl ?_
  refine s_aldn (p' := 34) rfl rfl rfl ?_
  refine s_ildn (p' := 35) rfl rfl rfl ?_
  refine s_if (p' := 42) true rfl (by decide +kernel) rfl ?_
  refine s_aldn (p' := 43) rfl rfl rfl ?_
  refine s_gf (p' := 46) rfl (rd_sn rfl (rd_sn rfl (rd_sn rfl H400))) rfl rfl ?_
  refine c_call (p' := 51) (kc := 98) (ls0 := [_]) rfl rfl rfl rfl rfl (mj_rcv_is (rd_sn rfl (rd_sn rfl (rd_sn rfl H410)))) rfl rfl rfl ?_
  refine s_aldn (p' := 1) rfl rfl rfl ?_
  refine s_gf (p' := 4) rfl (rd_sn rfl (rd_sn rfl (rd_sn rfl H410))) rfl rfl ?_
  refine c_iret rfl rfl ?_
  refine s_bip (p' := 53) rfl rfl ?_
  refine s_icmp (p' := 60) true rfl (by decide +kernel) rfl ?_
  refine s_con (p' := 61) rfl rfl ?_
  refine c_call (p' := 64) (kc := 98) (ls0 := [_, _]) rfl rfl rfl rfl rfl (mj_rcv_is (rd_sn rfl (rd_sn rfl (rd_sn rfl H400)))) rfl rfl rfl ?_
  refine s_aldn (p' := 1) rfl rfl rfl ?_
  refine s_ildn (p' := 2) rfl rfl rfl ?_
  refine s_pfz (p' := 5) (fs' := [_, _, _, _, _, _, _, _, _, _, _]) rfl rfl (rd_sn rfl (rd_sn rfl (rd_sn rfl H400))) rfl rfl rfl rfl ?_
  refine s_ildn (p' := 6) rfl rfl rfl ?_
  refine s_if (p' := 13) true rfl (by decide +kernel) rfl ?_
  refine s_con (p' := 14) rfl rfl ?_
  refine c_iret rfl (by decide +kernel) ?_
  refine s_if (p' := 69) true rfl (by decide +kernel) rfl ?_
  refine s_aldn (p' := 70) rfl rfl rfl ?_
  refine s_gf (p' := 73) rfl (rd_ss rfl (rd_sn rfl (rd_sn rfl (rd_sn rfl H400)))) rfl rfl ?_
  refine s_bip (p' := 75) rfl rfl ?_
  refine s_ildn (p' := 76) rfl rfl rfl ?_
  refine s_bz (p' := 77) (z := (nI 0)) rfl rfl rfl (by decide +kernel) ?_
  refine s_ildn (p' := 78) rfl rfl rfl ?_
  refine s_bz (p' := 79) (z := (nI 6)) rfl rfl rfl (by decide +kernel) ?_
  refine c_call (p' := 82) (kc := 98) (ls0 := [_]) rfl rfl rfl rfl rfl rfl rfl rfl rfl ?_
  refine s_ildn (p' := 1) rfl rfl rfl ?_
  refine s_bip (p' := 3) rfl rfl ?_
  refine s_icmp (p' := 6) false rfl (by decide +kernel) rfl ?_
  refine s_ildn (p' := 7) rfl rfl rfl ?_
  refine s_sh (p' := 10) (ls' := _) (st' := .int (nI 127) :: _) (h' := _) rfl rfl rfl rfl ?_
  refine s_icmp (p' := 13) false rfl (by decide +kernel) rfl ?_
  refine s_sh (p' := 16) (ls' := _) (st' := .ref 1000001 :: _) (h' := _) rfl rfl rfl rfl ?_
  refine s_ildn (p' := 17) rfl rfl rfl ?_
  refine s_sip (p' := 20) rfl rfl ?_
  refine s_bz (p' := 21) (z := (nI 134)) rfl rfl rfl (by decide +kernel) ?_
  refine s_aalz (p' := 22) (m := 134) (q := (some 1000144)) (v := .ref 1000144) rfl (mj_rdA_cst (k_1 _) (by decide)) rfl (by decide +kernel) rfl rfl rfl rfl ?_
  refine c_aret rfl ?_
  refine c_call (p' := 87) (kc := 98) (ls0 := [_, _]) rfl rfl rfl rfl rfl (mj_rcv_is (rd_sn rfl (rd_sn rfl (rd_sn rfl (rd_sn rfl H410))))) rfl rfl rfl ?_
  refine s_aldn (p' := 1) rfl rfl rfl ?_
  refine s_dupr (p' := 2) rfl rfl ?_
  refine s_gf (p' := 5) rfl (rd_sn rfl (rd_sn rfl (rd_sn rfl (rd_sn rfl H410)))) rfl rfl ?_
  refine s_con (p' := 6) rfl rfl ?_
  refine s_bz (p' := 7) (z := (nI 1)) rfl rfl rfl (by decide +kernel) ?_
  refine s_pfz (p' := 10) (fs' := [_, _, _]) rfl rfl (rd_sn rfl (rd_sn rfl (rd_sn rfl (rd_sn rfl H410)))) rfl rfl rfl rfl ?_
  refine s_aldn (p' := 11) rfl rfl rfl ?_
  refine s_aldn (p' := 12) rfl rfl rfl ?_
  refine s_aldn (p' := 13) rfl rfl rfl ?_
  refine s_gf (p' := 16) rfl (rd_ss rfl (rd_sn rfl (rd_sn rfl (rd_sn rfl (rd_sn rfl H410))))) rfl rfl ?_
  refine s_aldn (p' := 17) rfl rfl rfl ?_
  refine s_gf (p' := 20) rfl (rd_ss rfl (rd_sn rfl (rd_sn rfl (rd_sn rfl (rd_sn rfl H410))))) rfl rfl ?_
  refine c_call (p' := 23) (kc := 97) (ls0 := [_, _, _, _]) rfl rfl rfl rfl rfl (mj_rcv_is (rd_ss rfl (rd_sn rfl (rd_sn rfl (rd_sn rfl (rd_sn rfl H410)))))) rfl rfl rfl ?_
  refine s_ildn (p' := 1) rfl rfl rfl ?_
  refine s_aldn (p' := 2) rfl rfl rfl ?_
  refine s_lenz (p' := 3) rfl (mj_rdA_cst (k_0 _) (by decide)) rfl rfl ?_
  refine s_icmp (p' := 6) false rfl (by decide +kernel) rfl ?_
  refine s_aldn (p' := 7) rfl rfl rfl ?_
  refine c_call (p' := 10) (kc := 96) (ls0 := [_]) rfl rfl rfl rfl rfl (mj_rcv_is (rd_ss rfl (rd_sn rfl (rd_sn rfl (rd_sn rfl (rd_sn rfl H410)))))) rfl rfl rfl ?_
  refine s_aldn (p' := 1) rfl rfl rfl ?_
  refine s_aldn (p' := 2) rfl rfl rfl ?_
  refine s_gf (p' := 5) rfl (rd_ss rfl (rd_sn rfl (rd_sn rfl (rd_sn rfl (rd_sn rfl H410))))) rfl rfl ?_
  refine s_con (p' := 6) rfl rfl ?_
  refine s_bz (p' := 7) (z := (nI 1)) rfl rfl rfl (by decide +kernel) ?_
  refine c_call (p' := 10) (kc := 95) (ls0 := [_, _, _, _]) rfl rfl rfl rfl rfl (mj_rcv_is (rd_ss rfl (rd_sn rfl (rd_sn rfl (rd_sn rfl (rd_sn rfl H410)))))) rfl rfl rfl ?_
  refine s_aldn (p' := 1) rfl rfl rfl ?_
  refine s_gf (p' := 4) rfl (rd_ss rfl (rd_sn rfl (rd_sn rfl (rd_sn rfl (rd_sn rfl H410))))) rfl rfl ?_
  refine s_lenz (p' := 5) rfl (mj_rdA_cst (k_0 _) (by decide)) rfl rfl ?_
  refine s_istn (p' := 6) (ls' := [_, _, _, _]) rfl rfl rfl rfl ?_
  refine s_ildn (p' := 7) rfl rfl rfl ?_
  refine s_if (p' := 10) false rfl (by decide +kernel) rfl ?_
  refine s_aldn (p' := 11) rfl rfl rfl ?_
  refine s_gf (p' := 14) rfl (rd_ss rfl (rd_sn rfl (rd_sn rfl (rd_sn rfl (rd_sn rfl H410))))) rfl rfl ?_
  refine s_sh (p' := 17) (ls' := _) (st' := .ref 1000000 :: _) (h' := _) rfl rfl rfl rfl ?_
  refine s_sp (p' := 45) (ls' := _) rfl rfl rfl ?_
  refine s_aldn (p' := 46) rfl rfl rfl ?_
  refine s_bip (p' := 48) rfl rfl ?_
  refine s_ildn (p' := 49) rfl rfl rfl ?_
  refine s_primV (p' := 52) (q := 4) rfl rfl rfl rfl rfl rfl (p_max (x := (nI 10)) (y := (nI 1)) (z := (nI 10)) (by decide +kernel)) rfl ?_
  refine s_anaz (p' := 55) (a := 414) (n := 10) rfl (len_s (len_s (len_s (len_s (len_s HL))))) rfl rfl ?_
  refine s_sp (p' := 56) (ls' := _) rfl rfl rfl ?_
  refine s_pfz (p' := 59) (fs' := [_, _, _]) rfl rfl (rd_app (rd_ss rfl (rd_sn rfl (rd_sn rfl (rd_sn rfl (rd_sn rfl H410)))))) rfl rfl rfl rfl ?_
  refine c_aret rfl ?_
  refine c_aret rfl ?_
  refine s_astn (p' := 11) (ls' := [_, _, _, _]) rfl rfl rfl rfl ?_
  refine s_aldn (p' := 12) rfl rfl rfl ?_
  refine s_ildn (p' := 13) rfl rfl rfl ?_
  refine s_aldn (p' := 14) rfl rfl rfl ?_
  refine s_aasz (p' := 15) (m := 0) rfl rfl (rd_sn rfl (rd_nw rfl (len_s (len_s (len_s (len_s (len_s HL))))))) rfl (by decide +kernel) rfl (k_144 _) rfl rfl ?_
  refine s_aldn (p' := 16) rfl rfl rfl ?_
  refine s_ildn (p' := 17) rfl rfl rfl ?_
  refine s_con (p' := 18) rfl rfl ?_
  refine s_bz (p' := 19) (z := (nI 1)) rfl rfl rfl (by decide +kernel) ?_
  refine s_pfz (p' := 22) (fs' := [_, _, _]) rfl rfl (rd_sn rfl (rd_ss rfl (rd_app (rd_ss rfl (rd_sn rfl (rd_sn rfl (rd_sn rfl (rd_sn rfl H410)))))))) rfl rfl rfl rfl ?_
  refine c_ret rfl ?_
  refine s_con (p' := 24) rfl rfl ?_
  refine c_iret rfl (by decide +kernel) ?_
  refine s_sp (p' := 88) (ls' := _) rfl rfl rfl ?_
  refine s_aldn (p' := 89) rfl rfl rfl ?_
  refine s_gf (p' := 92) rfl (rd_sn rfl (rd_sn rfl (rd_sn rfl (rd_app (rd_sn rfl (rd_ss rfl (rd_sn rfl (rd_sn rfl (rd_sn rfl H400))))))))) rfl rfl ?_
  refine c_call (p' := 97) (kc := 98) (ls0 := [_]) rfl rfl rfl rfl rfl (mj_rcv_is (rd_ss rfl (rd_sn rfl (rd_ss rfl (rd_app (rd_ss rfl (rd_sn rfl (rd_sn rfl (rd_sn rfl (rd_sn rfl H410)))))))))) rfl rfl rfl ?_
  refine s_aldn (p' := 1) rfl rfl rfl ?_
  refine s_gf (p' := 4) rfl (rd_ss rfl (rd_sn rfl (rd_ss rfl (rd_app (rd_ss rfl (rd_sn rfl (rd_sn rfl (rd_sn rfl (rd_sn rfl H410))))))))) rfl rfl ?_
  refine c_iret rfl rfl ?_
  refine k_iret rfl rfl ?_
  refine l_ist (p' := 1854) (ls' := [_, _, _, _, _, _, _, _, _, _]) rfl rfl rfl rfl rfl ?_
  refine l_aldn (p' := 1855) rfl rfl rfl rfl ?_
  refine l_call (p' := 1858) (kc := 99) (ls0 := [_]) rfl rfl rfl rfl rfl rfl (mj_rcv_is (rd_sn rfl (rd_sn rfl (rd_sn rfl (rd_app (rd_sn rfl (rd_ss rfl (rd_sn rfl (rd_sn rfl (rd_sn rfl H400)))))))))) rfl rfl rfl ?_
  refine s_aldn (p' := 1) rfl rfl rfl ?_
  refine s_gf (p' := 4) rfl (rd_sn rfl (rd_sn rfl (rd_sn rfl (rd_app (rd_sn rfl (rd_ss rfl (rd_sn rfl (rd_sn rfl (rd_sn rfl H400))))))))) rfl rfl ?_
  refine k_iret rfl rfl ?_
  refine l_ild (p' := 1860) rfl rfl rfl rfl ?_
  refine l_icmp (p' := 1865) true rfl rfl (by decide +kernel) rfl ?_
  refine l_ild (p' := 1867) rfl rfl rfl rfl ?_
  refine l_if (p' := 1870) false rfl rfl (by decide +kernel) rfl ?_
  refine l_aldn (p' := 1871) rfl rfl rfl rfl ?_
  refine l_con (p' := 1872) rfl rfl rfl ?_
  refine l_lalz (p' := 1873) (m := 0) (v := (lN 1)) rfl rfl (rd_sn rfl (rd_sn rfl (rd_sn rfl (rd_app (rd_sn rfl (rd_sn rfl (rd_ss rfl (rd_sn rfl (rd_sn rfl H412))))))))) (by decide +kernel) rfl (by decide +kernel) rfl ?_
  refine l_ild (p' := 1875) rfl rfl rfl rfl ?_
  refine l_bzL (p' := 1876) (z := (lN 1)) rfl rfl rfl rfl rfl (by decide +kernel) ?_
  refine l_bz (p' := 1877) (z := (nI 0)) rfl rfl rfl rfl rfl (by decide +kernel) ?_
  refine l_if (p' := 1882) true rfl rfl (by decide +kernel) rfl ?_
  refine l_goto (p' := 2541) rfl rfl rfl ?_
  refine l_incz (p' := 2544) (w := (nI 4)) (ls' := [_, _, _, _, _, _, _, _, _, _]) rfl rfl rfl rfl (by decide +kernel) rfl rfl ?_
  refine l_goto (p' := 28) rfl rfl rfl ?_
  refine l_ild (p' := 30) rfl rfl rfl rfl ?_
  refine l_alds (p' := 31) rfl rfl rfl rfl ?_
  refine l_lens (p' := 32) rfl rfl rfl ?_
  refine l_con (p' := 33) rfl rfl rfl ?_
  refine l_bz (p' := 34) (z := (nI 0)) rfl rfl rfl rfl rfl (by decide +kernel) ?_
  refine l_icmp (p' := 2547) true rfl rfl (by decide +kernel) rfl ?_
  refine l_con (p' := 2548) rfl rfl rfl ?_
  refine l_end rfl rfl ?_
  exact ⟨Nat.le_trans (Nat.le_of_eq (len_s (len_s (len_s (len_a (len_s (len_s (len_s (len_s (len_s HL))))) rfl))))) (Nat.le_of_ble_eq_true rfl), Nat.le_trans (sz_s rfl (rd_sn rfl (rd_ss rfl (rd_app (rd_ss rfl (rd_sn rfl (rd_sn rfl (rd_sn rfl (rd_sn rfl H410)))))))) rfl (sz_sA rfl (rd_sn rfl (rd_nw rfl (len_s (len_s (len_s (len_s (len_s HL))))))) (sz_s rfl (rd_app (rd_ss rfl (rd_sn rfl (rd_sn rfl (rd_sn rfl (rd_sn rfl H410)))))) rfl (sz_aa (k := 10) (m := 20010) rfl rfl (sz_s rfl (rd_sn rfl (rd_sn rfl (rd_sn rfl (rd_sn rfl H410)))) rfl (sz_s rfl (rd_sn rfl (rd_sn rfl (rd_sn rfl H400))) rfl (sz_sA rfl (rd_sn rfl (rd_sn rfl H412)) (sz_s rfl (rd_sn rfl H393) rfl (sz_sA rfl H394 HZ))))))))) (Nat.le_of_ble_eq_true rfl)⟩
theorem p1_29_07 {xs : Nat → Int32} {h : mj_H} (hk : xs 0 &&& nI 63 = nI 29) (hx1 : xs 1 = nI 0) (hx2 : xs 2 = nI 7)  (HL : h.length = 414) (HZ : mj_sz h ≤ 20000) (H0 : mj_rd h 0 = some (.inr (0, [.ref 1, .ref 38, .ref 299, .ref 336, .ref 373, .ref 375, .ref 378, .ref 381, .ref 387, .ref 393, .null, .null, .ref 397, .ref 398, .ref 399, .long (lN 0), .long (lN 0)]))) (H400 : mj_rd h 400 = some (.inr (17, [.int (nI 0), .ref 401, .ref 402, .ref 1000300, .long (lN 0), .long (lN 0), .ref 410, .null, .null, .null, .ref 411]))) : mj_fin 4 xs h := by
  unfold mj_fin
  refine l_ild (p' := 30) rfl rfl rfl rfl ?_
  refine l_alds (p' := 31) rfl rfl rfl rfl ?_
  refine l_lens (p' := 32) rfl rfl rfl ?_
  refine l_con (p' := 33) rfl rfl rfl ?_
  refine l_bz (p' := 34) (z := (nI 0)) rfl rfl rfl rfl rfl (by decide +kernel) ?_
  refine l_icmp (p' := 37) false rfl rfl (by decide +kernel) rfl ?_
  refine l_alds (p' := 38) rfl rfl rfl rfl ?_
  refine l_ild (p' := 40) rfl rfl rfl rfl ?_
  refine l_ialz (p' := 41) (m := 0) (z := (xs 0)) rfl rfl (by decide +kernel) rfl rfl rfl ?_
  refine l_bip (p' := 43) rfl rfl rfl ?_
  refine l_bz (p' := 44) (z := (nI 29)) rfl rfl rfl rfl rfl hk ?_
  refine l_sp (p' := 1817) (ls' := _) rfl rfl rfl rfl rfl ?_
  refine l_aldn (p' := 1818) rfl rfl rfl rfl ?_
  refine l_alds (p' := 1819) rfl rfl rfl rfl ?_
  refine l_ild (p' := 1821) rfl rfl rfl rfl ?_
  refine l_con (p' := 1822) rfl rfl rfl ?_
  refine l_bz (p' := 1823) (z := (nI 1)) rfl rfl rfl rfl rfl (by decide +kernel) ?_
  refine l_ialz (p' := 1824) (m := 1) (z := (nI 0)) rfl rfl (by decide +kernel) rfl hx1 rfl ?_
  refine l_alds (p' := 1825) rfl rfl rfl rfl ?_
  refine l_ild (p' := 1827) rfl rfl rfl rfl ?_
  refine l_con (p' := 1828) rfl rfl rfl ?_
  refine l_bz (p' := 1829) (z := (nI 2)) rfl rfl rfl rfl rfl (by decide +kernel) ?_
  refine l_ialz (p' := 1830) (m := 2) (z := (nI 7)) rfl rfl (by decide +kernel) rfl hx2 rfl ?_
  refine l_aldn (p' := 1831) rfl rfl rfl rfl ?_
  refine l_call (p' := 1834) (kc := 99) (ls0 := [_, _, _, _, _]) rfl rfl rfl rfl rfl rfl rfl rfl rfl rfl ?_
  refine s_aldn (p' := 1) rfl rfl rfl ?_
  refine s_con (p' := 2) rfl rfl ?_
  refine s_aldn (p' := 3) rfl rfl rfl ?_
  refine s_ildn (p' := 4) rfl rfl rfl ?_
  refine s_ildn (p' := 5) rfl rfl rfl ?_
  refine c_call (p' := 8) (kc := 98) (ls0 := [_, _, _]) rfl rfl rfl rfl rfl (mj_rcv_is H0) rfl rfl rfl ?_
  refine s_ildn (p' := 1) rfl rfl rfl ?_
  refine s_if (p' := 4) false rfl (by decide +kernel) rfl ?_
  refine s_ildn (p' := 5) rfl rfl rfl ?_
  refine s_con (p' := 6) rfl rfl ?_
  refine s_icmp (p' := 9) false rfl (by decide +kernel) rfl ?_
  refine s_ildn (p' := 10) rfl rfl rfl ?_
  refine s_if (p' := 13) false rfl (by decide +kernel) rfl ?_
  refine s_ildn (p' := 14) rfl rfl rfl ?_
  refine s_bip (p' := 16) rfl rfl ?_
  refine s_icmp (p' := 30) true rfl (by decide +kernel) rfl ?_
  refine s_ildn (p' := 31) rfl rfl rfl ?_
  refine s_con (p' := 32) rfl rfl ?_
  refine s_ildn (p' := 33) rfl rfl rfl ?_
  refine s_bz (p' := 34) (z := (nI 1)) rfl rfl rfl (by decide +kernel) ?_
  refine s_bz (p' := 35) (z := (nI 1)) rfl rfl rfl (by decide +kernel) ?_
  refine s_if (p' := 38) false rfl (by decide +kernel) rfl ?_
  refine s_thrz (q := 414) rfl HL rfl ?_
  refine K_c (hp := 13) rfl (mj_ocl_is (rd_nw rfl HL)) rfl ?_
  refine s_ast (p' := 15) (ls' := [_, _, _, _, _]) rfl rfl rfl rfl ?_
  refine s_con (p' := 16) rfl rfl ?_
  refine k_iret rfl rfl ?_
  refine l_ist (p' := 1836) (ls' := [_, _, _, _, _, _, _, _, _, _]) rfl rfl rfl rfl rfl ?_
  refine l_aldn (p' := 1837) rfl rfl rfl rfl ?_
  refine l_alds (p' := 1838) rfl rfl rfl rfl ?_
  refine l_ild (p' := 1840) rfl rfl rfl rfl ?_
  refine l_con (p' := 1841) rfl rfl rfl ?_
  refine l_bz (p' := 1842) (z := (nI 1)) rfl rfl rfl rfl rfl (by decide +kernel) ?_
  refine l_ialz (p' := 1843) (m := 1) (z := (nI 0)) rfl rfl (by decide +kernel) rfl hx1 rfl ?_
  refine l_alds (p' := 1844) rfl rfl rfl rfl ?_
  refine l_ild (p' := 1846) rfl rfl rfl rfl ?_
  refine l_con (p' := 1847) rfl rfl rfl ?_
  refine l_bz (p' := 1848) (z := (nI 2)) rfl rfl rfl rfl rfl (by decide +kernel) ?_
  refine l_ialz (p' := 1849) (m := 2) (z := (nI 7)) rfl rfl (by decide +kernel) rfl hx2 rfl ?_
  refine l_call (p' := 1852) (kc := 99) (ls0 := [_, _, _, _]) rfl rfl rfl rfl rfl rfl (mj_rcv_is (rd_app H400)) rfl rfl rfl ?_
  refine s_ildn (p' := 1) rfl rfl rfl ?_
  refine s_con (p' := 2) rfl rfl ?_
  refine s_con (p' := 3) rfl rfl ?_
  refine c_call (p' := 6) (kc := 98) (ls0 := [_, _, _]) rfl rfl rfl rfl rfl rfl rfl rfl rfl ?_
  refine s_ildn (p' := 1) rfl rfl rfl ?_
  refine s_ildn (p' := 2) rfl rfl rfl ?_
  refine s_icmp (p' := 5) false rfl (by decide +kernel) rfl ?_
  refine s_ildn (p' := 6) rfl rfl rfl ?_
  refine s_ildn (p' := 7) rfl rfl rfl ?_
  refine s_icmp (p' := 10) false rfl (by decide +kernel) rfl ?_
  refine s_con (p' := 11) rfl rfl ?_
  refine s_goto (p' := 15) rfl rfl ?_
  refine c_iret rfl (by decide +kernel) ?_
  refine s_if (p' := 9) false rfl (by decide +kernel) rfl ?_
  refine s_ildn (p' := 10) rfl rfl rfl ?_
  refine s_con (p' := 11) rfl rfl ?_
  refine s_bip (p' := 13) rfl rfl ?_
  refine c_call (p' := 16) (kc := 98) (ls0 := [_, _, _]) rfl rfl rfl rfl rfl rfl rfl rfl rfl ?_
  refine s_ildn (p' := 1) rfl rfl rfl ?_
  refine s_ildn (p' := 2) rfl rfl rfl ?_
  refine s_icmp (p' := 5) false rfl (by decide +kernel) rfl ?_
  refine s_ildn (p' := 6) rfl rfl rfl ?_
  refine s_ildn (p' := 7) rfl rfl rfl ?_
  refine s_icmp (p' := 10) false rfl (by decide +kernel) rfl ?_
  refine s_con (p' := 11) rfl rfl ?_
  refine s_goto (p' := 15) rfl rfl ?_
  refine c_iret rfl (by decide +kernel) ?_
  refine s_if (p' := 19) false rfl (by decide +kernel) rfl ?_
  refine s_ildn (p' := 20) rfl rfl rfl ?_
  refine s_ildn (p' := 21) rfl rfl rfl ?_
  refine s_bz (p' := 22) (z := (nI 7)) rfl rfl rfl (by decide +kernel) ?_
  refine s_con (p' := 23) rfl rfl ?_
  refine s_bz (p' := 24) (z := (nI 1)) rfl rfl rfl (by decide +kernel) ?_
  refine s_if (p' := 31) true rfl (by decide +kernel) rfl ?_
  refine s_con (p' := 32) rfl rfl ?_
  refine s_istn (p' := 33) (ls' := [_, _, _, _]) rfl rfl rfl rfl ?_
  refine s_aldn (p' := 34) rfl rfl rfl ?_
  refine s_ildn (p' := 35) rfl rfl rfl ?_
  refine s_if (p' := 38) false rfl (by decide +kernel) rfl ?_
  refine s_con (p' := 39) rfl rfl ?_
  refine s_goto (p' := 61) rfl rfl ?_
  refine c_call (p' := 64) (kc := 98) (ls0 := [_, _]) rfl rfl rfl rfl rfl (mj_rcv_is (rd_app H400)) rfl rfl rfl ?_
  refine s_aldn (p' := 1) rfl rfl rfl ?_
  refine s_ildn (p' := 2) rfl rfl rfl ?_
  refine s_pfz (p' := 5) (fs' := [_, _, _, _, _, _, _, _, _, _, _]) rfl rfl (rd_app H400) rfl rfl rfl rfl ?_
  refine s_ildn (p' := 6) rfl rfl rfl ?_
  refine s_if (p' := 9) false rfl (by decide +kernel) rfl ?_
  refine s_con (p' := 10) rfl rfl ?_
  refine s_goto (p' := 14) rfl rfl ?_
  refine c_iret rfl (by decide +kernel) ?_
  refine s_if (p' := 67) false rfl (by decide +kernel) rfl ?_
  refine s_con (p' := 68) rfl rfl ?_
  refine k_iret rfl rfl ?_
  refine l_ist (p' := 1854) (ls' := [_, _, _, _, _, _, _, _, _, _]) rfl rfl rfl rfl rfl ?_
  refine l_aldn (p' := 1855) rfl rfl rfl rfl ?_
  refine l_call (p' := 1858) (kc := 99) (ls0 := [_]) rfl rfl rfl rfl rfl rfl (mj_rcv_is (rd_ss rfl (rd_app H400))) rfl rfl rfl ?_
  refine s_aldn (p' := 1) rfl rfl rfl ?_
  refine s_gf (p' := 4) rfl (rd_ss rfl (rd_app H400)) rfl rfl ?_
  refine k_iret rfl rfl ?_
  refine l_ild (p' := 1860) rfl rfl rfl rfl ?_
  refine l_icmp (p' := 1865) true rfl rfl (by decide +kernel) rfl ?_
  refine l_ild (p' := 1867) rfl rfl rfl rfl ?_
  refine l_if (p' := 1882) true rfl rfl (by decide +kernel) rfl ?_
  refine l_goto (p' := 2541) rfl rfl rfl ?_
  refine l_incz (p' := 2544) (w := (nI 4)) (ls' := [_, _, _, _, _, _, _, _, _, _]) rfl rfl rfl rfl (by decide +kernel) rfl rfl ?_
  refine l_goto (p' := 28) rfl rfl rfl ?_
  refine l_ild (p' := 30) rfl rfl rfl rfl ?_
  refine l_alds (p' := 31) rfl rfl rfl rfl ?_
  refine l_lens (p' := 32) rfl rfl rfl ?_
  refine l_con (p' := 33) rfl rfl rfl ?_
  refine l_bz (p' := 34) (z := (nI 0)) rfl rfl rfl rfl rfl (by decide +kernel) ?_
  refine l_icmp (p' := 2547) true rfl rfl (by decide +kernel) rfl ?_
  refine l_con (p' := 2548) rfl rfl rfl ?_
  refine l_end rfl rfl ?_
  exact ⟨Nat.le_trans (Nat.le_of_eq (len_s (len_a HL rfl))) (Nat.le_of_ble_eq_true rfl), Nat.le_trans (sz_s rfl (rd_app H400) rfl (sz_aa (k := 6) (m := 20006) rfl rfl HZ)) (Nat.le_of_ble_eq_true rfl)⟩
theorem p1_29_10 {xs : Nat → Int32} {h : mj_H} (hk : xs 0 &&& nI 63 = nI 29) (hx1 : xs 1 = nI 1) (hx2 : xs 2 = nI 0)  (HL : h.length = 414) (HZ : mj_sz h ≤ 20000) (H0 : mj_rd h 0 = some (.inr (0, [.ref 1, .ref 38, .ref 299, .ref 336, .ref 373, .ref 375, .ref 378, .ref 381, .ref 387, .ref 393, .null, .null, .ref 397, .ref 398, .ref 399, .long (lN 0), .long (lN 0)]))) (H393 : mj_rd h 393 = some (.inr (9, [.ref 394, .ref 395, .ref 396, .int (nI 0), .int (nI 0)]))) (H394 : mj_rd h 394 = some (.inl (0, (24, .inl (fun _ => 0))))) (H400 : mj_rd h 400 = some (.inr (17, [.int (nI 0), .ref 401, .ref 402, .ref 1000300, .long (lN 0), .long (lN 0), .ref 410, .null, .null, .null, .ref 411]))) (H410 : mj_rd h 410 = some (.inr (18, [.ref 1000000, .int (nI 0), .int (nI 0)]))) (H412 : mj_rd h 412 = some (.inl (4, (1, .inr (.inl (fun _ => 0)))))) : mj_fin 4 xs h := by
  unfold mj_fin
  refine l_ild (p' := 30) rfl rfl rfl rfl ?_
  refine l_alds (p' := 31) rfl rfl rfl rfl ?_
  refine l_lens (p' := 32) rfl rfl rfl ?_
  refine l_con (p' := 33) rfl rfl rfl ?_
  refine l_bz (p' := 34) (z := (nI 0)) rfl rfl rfl rfl rfl (by decide +kernel) ?_
  refine l_icmp (p' := 37) false rfl rfl (by decide +kernel) rfl ?_
  refine l_alds (p' := 38) rfl rfl rfl rfl ?_
  refine l_ild (p' := 40) rfl rfl rfl rfl ?_
  refine l_ialz (p' := 41) (m := 0) (z := (xs 0)) rfl rfl (by decide +kernel) rfl rfl rfl ?_
  refine l_bip (p' := 43) rfl rfl rfl ?_
  refine l_bz (p' := 44) (z := (nI 29)) rfl rfl rfl rfl rfl hk ?_
  refine l_sp (p' := 1817) (ls' := _) rfl rfl rfl rfl rfl ?_
  refine l_aldn (p' := 1818) rfl rfl rfl rfl ?_
  refine l_alds (p' := 1819) rfl rfl rfl rfl ?_
  refine l_ild (p' := 1821) rfl rfl rfl rfl ?_
  refine l_con (p' := 1822) rfl rfl rfl ?_
  refine l_bz (p' := 1823) (z := (nI 1)) rfl rfl rfl rfl rfl (by decide +kernel) ?_
  refine l_ialz (p' := 1824) (m := 1) (z := (nI 1)) rfl rfl (by decide +kernel) rfl hx1 rfl ?_
  refine l_alds (p' := 1825) rfl rfl rfl rfl ?_
  refine l_ild (p' := 1827) rfl rfl rfl rfl ?_
  refine l_con (p' := 1828) rfl rfl rfl ?_
  refine l_bz (p' := 1829) (z := (nI 2)) rfl rfl rfl rfl rfl (by decide +kernel) ?_
  refine l_ialz (p' := 1830) (m := 2) (z := (nI 0)) rfl rfl (by decide +kernel) rfl hx2 rfl ?_
  refine l_aldn (p' := 1831) rfl rfl rfl rfl ?_
  refine l_call (p' := 1834) (kc := 99) (ls0 := [_, _, _, _, _]) rfl rfl rfl rfl rfl rfl rfl rfl rfl rfl ?_
  refine s_aldn (p' := 1) rfl rfl rfl ?_
  refine s_con (p' := 2) rfl rfl ?_
  refine s_aldn (p' := 3) rfl rfl rfl ?_
  refine s_ildn (p' := 4) rfl rfl rfl ?_
  refine s_ildn (p' := 5) rfl rfl rfl ?_
  refine c_call (p' := 8) (kc := 98) (ls0 := [_, _, _]) rfl rfl rfl rfl rfl (mj_rcv_is H0) rfl rfl rfl ?_
  refine s_ildn (p' := 1) rfl rfl rfl ?_
  refine s_if (p' := 4) false rfl (by decide +kernel) rfl ?_
  refine s_ildn (p' := 5) rfl rfl rfl ?_
  refine s_con (p' := 6) rfl rfl ?_
  refine s_icmp (p' := 9) false rfl (by decide +kernel) rfl ?_
  refine s_ildn (p' := 10) rfl rfl rfl ?_
  refine s_if (p' := 13) false rfl (by decide +kernel) rfl ?_
  refine s_ildn (p' := 14) rfl rfl rfl ?_
  refine s_bip (p' := 16) rfl rfl ?_
  refine s_icmp (p' := 30) true rfl (by decide +kernel) rfl ?_
  refine s_ildn (p' := 31) rfl rfl rfl ?_
  refine s_con (p' := 32) rfl rfl ?_
  refine s_ildn (p' := 33) rfl rfl rfl ?_
  refine s_bz (p' := 34) (z := (nI 2)) rfl rfl rfl (by decide +kernel) ?_
  refine s_bz (p' := 35) (z := (nI 0)) rfl rfl rfl (by decide +kernel) ?_
  refine s_if (p' := 49) true rfl (by decide +kernel) rfl ?_
  refine s_aldn (p' := 50) rfl rfl rfl ?_
  refine s_gf (p' := 53) rfl H0 rfl rfl ?_
  refine c_call (p' := 56) (kc := 97) (ls0 := [_]) rfl rfl rfl rfl rfl (mj_rcv_is H393) rfl rfl rfl ?_
  refine s_aldn (p' := 1) rfl rfl rfl ?_
  refine s_gf (p' := 4) rfl H393 rfl rfl ?_
  refine s_bip (p' := 6) rfl rfl ?_
  refine s_icmp (p' := 13) true rfl (by decide +kernel) rfl ?_
  refine s_con (p' := 14) rfl rfl ?_
  refine c_iret rfl (by decide +kernel) ?_
  refine s_if (p' := 70) true rfl (by decide +kernel) rfl ?_
  refine s_aldn (p' := 71) rfl rfl rfl ?_
  refine s_gf (p' := 74) rfl H0 rfl rfl ?_
  refine s_bip (p' := 76) rfl rfl ?_
  refine s_ildn (p' := 77) rfl rfl rfl ?_
  refine s_bz (p' := 78) (z := (nI 8)) rfl rfl rfl (by decide +kernel) ?_
  refine s_ildn (p' := 79) rfl rfl rfl ?_
  refine s_bz (p' := 80) (z := (nI 8)) rfl rfl rfl (by decide +kernel) ?_
  refine c_call (p' := 83) (kc := 97) (ls0 := [_, _]) rfl rfl rfl rfl rfl (mj_rcv_is H393) rfl rfl rfl ?_
  refine s_aldn (p' := 1) rfl rfl rfl ?_
  refine s_gf (p' := 4) rfl H393 rfl rfl ?_
  refine s_if (p' := 7) false rfl (by decide +kernel) rfl ?_
  refine s_aldn (p' := 8) rfl rfl rfl ?_
  refine s_gf (p' := 11) rfl H393 rfl rfl ?_
  refine s_aldn (p' := 12) rfl rfl rfl ?_
  refine s_gf (p' := 15) rfl H393 rfl rfl ?_
  refine s_lenz (p' := 16) rfl (mj_rdA_is H394 (by decide)) rfl rfl ?_
  refine s_icmp (p' := 19) false rfl (by decide +kernel) rfl ?_
  refine s_aldn (p' := 20) rfl rfl rfl ?_
  refine s_gf (p' := 23) rfl H393 rfl rfl ?_
  refine s_aldn (p' := 24) rfl rfl rfl ?_
  refine s_gf (p' := 27) rfl H393 rfl rfl ?_
  refine s_ildn (p' := 28) rfl rfl rfl ?_
  refine s_iasz (p' := 29) (m := 0) rfl rfl H394 (by decide +kernel) rfl rfl rfl ?_
  refine s_aldn (p' := 30) rfl rfl rfl ?_
  refine s_dupr (p' := 31) rfl rfl ?_
  refine s_gf (p' := 34) rfl (rd_sn rfl H393) rfl rfl ?_
  refine s_con (p' := 35) rfl rfl ?_
  refine s_bz (p' := 36) (z := (nI 1)) rfl rfl rfl (by decide +kernel) ?_
  refine s_pfz (p' := 39) (fs' := [_, _, _, _, _]) rfl rfl (rd_sn rfl H393) rfl rfl rfl rfl ?_
  refine c_ret rfl ?_
  refine s_aldn (p' := 84) rfl rfl rfl ?_
  refine s_gf (p' := 87) rfl (rd_sn rfl (rd_sn rfl H0)) rfl rfl ?_
  refine c_call (p' := 90) (kc := 97) (ls0 := [_]) rfl rfl rfl rfl rfl (mj_rcv_is (rd_ss rfl (rd_sn rfl H393))) rfl rfl rfl ?_
  refine s_aldn (p' := 1) rfl rfl rfl ?_
  refine s_gf (p' := 4) rfl (rd_ss rfl (rd_sn rfl H393)) rfl rfl ?_
  refine c_iret rfl rfl ?_
  refine c_iret rfl rfl ?_
  refine s_bzL (p' := 9) (z := (lN 1)) rfl rfl rfl (by decide +kernel) ?_
  refine s_lasz (p' := 10) (m := 0) rfl rfl (rd_sn rfl (rd_sn rfl H412)) (by decide +kernel) rfl rfl rfl ?_
  refine s_goto (p' := 21) rfl rfl ?_
  refine s_con (p' := 22) rfl rfl ?_
  refine k_iret rfl rfl ?_
  refine l_ist (p' := 1836) (ls' := [_, _, _, _, _, _, _, _, _, _]) rfl rfl rfl rfl rfl ?_
  refine l_aldn (p' := 1837) rfl rfl rfl rfl ?_
  refine l_alds (p' := 1838) rfl rfl rfl rfl ?_
  refine l_ild (p' := 1840) rfl rfl rfl rfl ?_
  refine l_con (p' := 1841) rfl rfl rfl ?_
  refine l_bz (p' := 1842) (z := (nI 1)) rfl rfl rfl rfl rfl (by decide +kernel) ?_
  refine l_ialz (p' := 1843) (m := 1) (z := (nI 1)) rfl rfl (by decide +kernel) rfl hx1 rfl ?_
  refine l_alds (p' := 1844) rfl rfl rfl rfl ?_
  refine l_ild (p' := 1846) rfl rfl rfl rfl ?_
  refine l_con (p' := 1847) rfl rfl rfl ?_
  refine l_bz (p' := 1848) (z := (nI 2)) rfl rfl rfl rfl rfl (by decide +kernel) ?_
  refine l_ialz (p' := 1849) (m := 2) (z := (nI 0)) rfl rfl (by decide +kernel) rfl hx2 rfl ?_
  refine l_call (p' := 1852) (kc := 99) (ls0 := [_, _, _, _]) rfl rfl rfl rfl rfl rfl (mj_rcv_is (rd_sn rfl (rd_sn rfl (rd_sn rfl H400)))) rfl rfl rfl ?_
  refine s_ildn (p' := 1) rfl rfl rfl ?_
  refine s_con (p' := 2) rfl rfl ?_
  refine s_con (p' := 3) rfl rfl ?_
  refine c_call (p' := 6) (kc := 98) (ls0 := [_, _, _]) rfl rfl rfl rfl rfl rfl rfl rfl rfl ?_
  refine s_ildn (p' := 1) rfl rfl rfl ?_
  refine s_ildn (p' := 2) rfl rfl rfl ?_
  refine s_icmp (p' := 5) false rfl (by decide +kernel) rfl ?_
  refine s_ildn (p' := 6) rfl rfl rfl ?_
  refine s_ildn (p' := 7) rfl rfl rfl ?_
  refine s_icmp (p' := 10) false rfl (by decide +kernel) rfl ?_
  refine s_con (p' := 11) rfl rfl ?_
  refine s_goto (p' := 15) rfl rfl ?_
  refine c_iret rfl (by decide +kernel) ?_
  refine s_if (p' := 9) false rfl (by decide +kernel) rfl ?_
  refine s_ildn (p' := 10) rfl rfl rfl ?_
  refine s_con (p' := 11) rfl rfl ?_
  refine s_bip (p' := 13) rfl rfl ?_
  refine c_call (p' := 16) (kc := 98) (ls0 := [_, _, _]) rfl rfl rfl rfl rfl rfl rfl rfl rfl ?_
  refine s_ildn (p' := 1) rfl rfl rfl ?_
  refine s_ildn (p' := 2) rfl rfl rfl ?_
  refine s_icmp (p' := 5) false rfl (by decide +kernel) rfl ?_
  refine s_ildn (p' := 6) rfl rfl rfl ?_
  refine s_ildn (p' := 7) rfl rfl rfl ?_
  refine s_icmp (p' := 10) false rfl (by decide +kernel) rfl ?_
  refine s_con (p' := 11) rfl rfl ?_
  refine s_goto (p' := 15) rfl rfl ?_
  refine c_iret rfl (by decide +kernel) ?_
  refine s_if (p' := 19) false rfl (by decide +kernel) rfl ?_
  refine s_ildn (p' := 20) rfl rfl rfl ?_
  refine s_ildn (p' := 21) rfl rfl rfl ?_
  refine s_bz (p' := 22) (z := (nI 0)) rfl rfl rfl (by decide +kernel) ?_
  refine s_con (p' := 23) rfl rfl ?_
  refine s_bz (p' := 24) (z := (nI 0)) rfl rfl rfl (by decide +kernel) ?_
  refine s_if (p' := 27) false rfl (by decide +kernel) rfl ?_
  refine s_con (p' := 28) rfl rfl ?_
  refine s_goto (p' := 32) rfl rfl ?_
  refine s_istn (p' := 33) (ls' := [_, _, _, _]) rfl rfl rfl rfl ?_
  refine s_aldn (p' := 34) rfl rfl rfl ?_
  refine s_ildn (p' := 35) rfl rfl rfl ?_
  refine s_if (p' := 42) true rfl (by decide +kernel) rfl ?_
  refine s_aldn (p' := 43) rfl rfl rfl ?_
  refine s_gf (p' := 46) rfl (rd_sn rfl (rd_sn rfl (rd_sn rfl H400))) rfl rfl ?_
  refine c_call (p' := 51) (kc := 98) (ls0 := [_]) rfl rfl rfl rfl rfl (mj_rcv_is (rd_sn rfl (rd_sn rfl (rd_sn rfl H410)))) rfl rfl rfl ?_
  refine s_aldn (p' := 1) rfl rfl rfl ?_
  refine s_gf (p' := 4) rfl (rd_sn rfl (rd_sn rfl (rd_sn rfl H410))) rfl rfl ?_
  refine c_iret rfl rfl ?_
  refine s_bip (p' := 53) rfl rfl ?_
  refine s_icmp (p' := 60) true rfl (by decide +kernel) rfl ?_
  refine s_con (p' := 61) rfl rfl ?_
  refine c_call (p' := 64) (kc := 98) (ls0 := [_, _]) rfl rfl rfl rfl rfl (mj_rcv_is (rd_sn rfl (rd_sn rfl (rd_sn rfl H400)))) rfl rfl rfl ?_
  refine s_aldn (p' := 1) rfl rfl rfl ?_
  refine s_ildn (p' := 2) rfl rfl rfl ?_
  refine s_pfz (p' := 5) (fs' := [_, _, _, _, _, _, _, _, _, _, _]) rfl rfl (rd_sn rfl (rd_sn rfl (rd_sn rfl H400))) rfl rfl rfl rfl ?_
  refine s_ildn (p' := 6) rfl rfl rfl ?_
  refine s_if (p' := 13) true rfl (by decide +kernel) rfl ?_
  refine s_con (p' := 14) rfl rfl ?_
  refine c_iret rfl (by decide +kernel) ?_
  refine s_if (p' := 69) true rfl (by decide +kernel) rfl ?_
  refine s_aldn (p' := 70) rfl rfl rfl ?_
  refine s_gf (p' := 73) rfl (rd_ss rfl (rd_sn rfl (rd_sn rfl (rd_sn rfl H400)))) rfl rfl ?_
  refine s_bip (p' := 75) rfl rfl ?_
  refine s_ildn (p' := 76) rfl rfl rfl ?_
  refine s_bz (p' := 77) (z := (nI 8)) rfl rfl rfl (by decide +kernel) ?_
  refine s_ildn (p' := 78) rfl rfl rfl ?_
  refine s_bz (p' := 79) (z := (nI 8)) rfl rfl rfl (by decide +kernel) ?_
  refine c_call (p' := 82) (kc := 98) (ls0 := [_]) rfl rfl rfl rfl rfl rfl rfl rfl rfl ?_
  refine s_ildn (p' := 1) rfl rfl rfl ?_
  refine s_bip (p' := 3) rfl rfl ?_
  refine s_icmp (p' := 6) false rfl (by decide +kernel) rfl ?_
  refine s_ildn (p' := 7) rfl rfl rfl ?_
  refine s_sh (p' := 10) (ls' := _) (st' := .int (nI 127) :: _) (h' := _) rfl rfl rfl rfl ?_
  refine s_icmp (p' := 13) false rfl (by decide +kernel) rfl ?_
  refine s_sh (p' := 16) (ls' := _) (st' := .ref 1000001 :: _) (h' := _) rfl rfl rfl rfl ?_
  refine s_ildn (p' := 17) rfl rfl rfl ?_
  refine s_sip (p' := 20) rfl rfl ?_
  refine s_bz (p' := 21) (z := (nI 136)) rfl rfl rfl (by decide +kernel) ?_
  refine s_aalz (p' := 22) (m := 136) (q := (some 1000146)) (v := .ref 1000146) rfl (mj_rdA_cst (k_1 _) (by decide)) rfl (by decide +kernel) rfl rfl rfl rfl ?_
  refine c_aret rfl ?_
  refine c_call (p' := 87) (kc := 98) (ls0 := [_, _]) rfl rfl rfl rfl rfl (mj_rcv_is (rd_sn rfl (rd_sn rfl (rd_sn rfl (rd_sn rfl H410))))) rfl rfl rfl ?_
  refine s_aldn (p' := 1) rfl rfl rfl ?_
  refine s_dupr (p' := 2) rfl rfl ?_
  refine s_gf (p' := 5) rfl (rd_sn rfl (rd_sn rfl (rd_sn rfl (rd_sn rfl H410)))) rfl rfl ?_
  refine s_con (p' := 6) rfl rfl ?_
  refine s_bz (p' := 7) (z := (nI 1)) rfl rfl rfl (by decide +kernel) ?_
  refine s_pfz (p' := 10) (fs' := [_, _, _]) rfl rfl (rd_sn rfl (rd_sn rfl (rd_sn rfl (rd_sn rfl H410)))) rfl rfl rfl rfl ?_
  refine s_aldn (p' := 11) rfl rfl rfl ?_
  refine s_aldn (p' := 12) rfl rfl rfl ?_
  refine s_aldn (p' := 13) rfl rfl rfl ?_
  refine s_gf (p' := 16) rfl (rd_ss rfl (rd_sn rfl (rd_sn rfl (rd_sn rfl (rd_sn rfl H410))))) rfl rfl ?_
  refine s_aldn (p' := 17) rfl rfl rfl ?_
  refine s_gf (p' := 20) rfl (rd_ss rfl (rd_sn rfl (rd_sn rfl (rd_sn rfl (rd_sn rfl H410))))) rfl rfl ?_
  refine c_call (p' := 23) (kc := 97) (ls0 := [_, _, _, _]) rfl rfl rfl rfl rfl (mj_rcv_is (rd_ss rfl (rd_sn rfl (rd_sn rfl (rd_sn rfl (rd_sn rfl H410)))))) rfl rfl rfl ?_
  refine s_ildn (p' := 1) rfl rfl rfl ?_
  refine s_aldn (p' := 2) rfl rfl rfl ?_
  refine s_lenz (p' := 3) rfl (mj_rdA_cst (k_0 _) (by decide)) rfl rfl ?_
  refine s_icmp (p' := 6) false rfl (by decide +kernel) rfl ?_
  refine s_aldn (p' := 7) rfl rfl rfl ?_
  refine c_call (p' := 10) (kc := 96) (ls0 := [_]) rfl rfl rfl rfl rfl (mj_rcv_is (rd_ss rfl (rd_sn rfl (rd_sn rfl (rd_sn rfl (rd_sn rfl H410)))))) rfl rfl rfl ?_
  refine s_aldn (p' := 1) rfl rfl rfl ?_
  refine s_aldn (p' := 2) rfl rfl rfl ?_
  refine s_gf (p' := 5) rfl (rd_ss rfl (rd_sn rfl (rd_sn rfl (rd_sn rfl (rd_sn rfl H410))))) rfl rfl ?_
  refine s_con (p' := 6) rfl rfl ?_
  refine s_bz (p' := 7) (z := (nI 1)) rfl rfl rfl (by decide +kernel) ?_
  refine c_call (p' := 10) (kc := 95) (ls0 := [_, _, _, _]) rfl rfl rfl rfl rfl (mj_rcv_is (rd_ss rfl (rd_sn rfl (rd_sn rfl (rd_sn rfl (rd_sn rfl H410)))))) rfl rfl rfl ?_
  refine s_aldn (p' := 1) rfl rfl rfl ?_
  refine s_gf (p' := 4) rfl (rd_ss rfl (rd_sn rfl (rd_sn rfl (rd_sn rfl (rd_sn rfl H410))))) rfl rfl ?_
  refine s_lenz (p' := 5) rfl (mj_rdA_cst (k_0 _) (by decide)) rfl rfl ?_
  refine s_istn (p' := 6) (ls' := [_, _, _, _]) rfl rfl rfl rfl ?_
  refine s_ildn (p' := 7) rfl rfl rfl ?_
  refine s_if (p' := 10) false rfl (by decide +kernel) rfl ?_
  refine s_aldn (p' := 11) rfl rfl rfl ?_
  refine s_gf (p' := 14) rfl (rd_ss rfl (rd_sn rfl (rd_sn rfl (rd_sn rfl (rd_sn rfl H410))))) rfl rfl ?_
  refine s_sh (p' := 17) (ls' := _) (st' := .ref 1000000 :: _) (h' := _) rfl rfl rfl rfl ?_
  refine s_sp (p' := 45) (ls' := _) rfl rfl rfl ?_
  refine s_aldn (p' := 46) rfl rfl rfl ?_
  refine s_bip (p' := 48) rfl rfl ?_
  refine s_ildn (p' := 49) rfl rfl rfl ?_
  refine s_primV (p' := 52) (q := 4) rfl rfl rfl rfl rfl rfl (p_max (x := (nI 10)) (y := (nI 1)) (z := (nI 10)) (by decide +kernel)) rfl ?_
  refine s_anaz (p' := 55) (a := 414) (n := 10) rfl (len_s (len_s (len_s (len_s (len_s HL))))) rfl rfl ?_
  refine s_sp (p' := 56) (ls' := _) rfl rfl rfl ?_
  refine s_pfz (p' := 59) (fs' := [_, _, _]) rfl rfl (rd_app (rd_ss rfl (rd_sn rfl (rd_sn rfl (rd_sn rfl (rd_sn rfl H410)))))) rfl rfl rfl rfl ?_
  refine c_aret rfl ?_
  refine c_aret rfl ?_
  refine s_astn (p' := 11) (ls' := [_, _, _, _]) rfl rfl rfl rfl ?_
  refine s_aldn (p' := 12) rfl rfl rfl ?_
  refine s_ildn (p' := 13) rfl rfl rfl ?_
  refine s_aldn (p' := 14) rfl rfl rfl ?_
  refine s_aasz (p' := 15) (m := 0) rfl rfl (rd_sn rfl (rd_nw rfl (len_s (len_s (len_s (len_s (len_s HL))))))) rfl (by decide +kernel) rfl (k_146 _) rfl rfl ?_
  refine s_aldn (p' := 16) rfl rfl rfl ?_
  refine s_ildn (p' := 17) rfl rfl rfl ?_
  refine s_con (p' := 18) rfl rfl ?_
  refine s_bz (p' := 19) (z := (nI 1)) rfl rfl rfl (by decide +kernel) ?_
  refine s_pfz (p' := 22) (fs' := [_, _, _]) rfl rfl (rd_sn rfl (rd_ss rfl (rd_app (rd_ss rfl (rd_sn rfl (rd_sn rfl (rd_sn rfl (rd_sn rfl H410)))))))) rfl rfl rfl rfl ?_
  refine c_ret rfl ?_
  refine s_con (p' := 24) rfl rfl ?_
  refine c_iret rfl (by decide +kernel) ?_
  refine s_sp (p' := 88) (ls' := _) rfl rfl rfl ?_
  refine s_aldn (p' := 89) rfl rfl rfl ?_
  refine s_gf (p' := 92) rfl (rd_sn rfl (rd_sn rfl (rd_sn rfl (rd_app (rd_sn rfl (rd_ss rfl (rd_sn rfl (rd_sn rfl (rd_sn rfl H400))))))))) rfl rfl ?_
  refine c_call (p' := 97) (kc := 98) (ls0 := [_]) rfl rfl rfl rfl rfl (mj_rcv_is (rd_ss rfl (rd_sn rfl (rd_ss rfl (rd_app (rd_ss rfl (rd_sn rfl (rd_sn rfl (rd_sn rfl (rd_sn rfl H410)))))))))) rfl rfl rfl ?_
  refine s_aldn (p' := 1) rfl rfl rfl ?_
  refine s_gf (p' := 4) rfl (rd_ss rfl (rd_sn rfl (rd_ss rfl (rd_app (rd_ss rfl (rd_sn rfl (rd_sn rfl (rd_sn rfl (rd_sn rfl H410))))))))) rfl rfl ?_
  refine c_iret rfl rfl ?_
  refine k_iret rfl rfl ?_
  refine l_ist (p' := 1854) (ls' := [_, _, _, _, _, _, _, _, _, _]) rfl rfl rfl rfl rfl ?_
  refine l_aldn (p' := 1855) rfl rfl rfl rfl ?_
  refine l_call (p' := 1858) (kc := 99) (ls0 := [_]) rfl rfl rfl rfl rfl rfl (mj_rcv_is (rd_sn rfl (rd_sn rfl (rd_sn rfl (rd_app (rd_sn rfl (rd_ss rfl (rd_sn rfl (rd_sn rfl (rd_sn rfl H400)))))))))) rfl rfl rfl ?_
  refine s_aldn (p' := 1) rfl rfl rfl ?_
  refine s_gf (p' := 4) rfl (rd_sn rfl (rd_sn rfl (rd_sn rfl (rd_app (rd_sn rfl (rd_ss rfl (rd_sn rfl (rd_sn rfl (rd_sn rfl H400))))))))) rfl rfl ?_
  refine k_iret rfl rfl ?_
  refine l_ild (p' := 1860) rfl rfl rfl rfl ?_
  refine l_icmp (p' := 1865) true rfl rfl (by decide +kernel) rfl ?_
  refine l_ild (p' := 1867) rfl rfl rfl rfl ?_
  refine l_if (p' := 1870) false rfl rfl (by decide +kernel) rfl ?_
  refine l_aldn (p' := 1871) rfl rfl rfl rfl ?_
  refine l_con (p' := 1872) rfl rfl rfl ?_
  refine l_lalz (p' := 1873) (m := 0) (v := (lN 1)) rfl rfl (rd_sn rfl (rd_sn rfl (rd_sn rfl (rd_app (rd_sn rfl (rd_sn rfl (rd_ss rfl (rd_sn rfl (rd_sn rfl H412))))))))) (by decide +kernel) rfl (by decide +kernel) rfl ?_
  refine l_ild (p' := 1875) rfl rfl rfl rfl ?_
  refine l_bzL (p' := 1876) (z := (lN 1)) rfl rfl rfl rfl rfl (by decide +kernel) ?_
  refine l_bz (p' := 1877) (z := (nI 0)) rfl rfl rfl rfl rfl (by decide +kernel) ?_
  refine l_if (p' := 1882) true rfl rfl (by decide +kernel) rfl ?_
  refine l_goto (p' := 2541) rfl rfl rfl ?_
  refine l_incz (p' := 2544) (w := (nI 4)) (ls' := [_, _, _, _, _, _, _, _, _, _]) rfl rfl rfl rfl (by decide +kernel) rfl rfl ?_
  refine l_goto (p' := 28) rfl rfl rfl ?_
  refine l_ild (p' := 30) rfl rfl rfl rfl ?_
  refine l_alds (p' := 31) rfl rfl rfl rfl ?_
  refine l_lens (p' := 32) rfl rfl rfl ?_
  refine l_con (p' := 33) rfl rfl rfl ?_
  refine l_bz (p' := 34) (z := (nI 0)) rfl rfl rfl rfl rfl (by decide +kernel) ?_
  refine l_icmp (p' := 2547) true rfl rfl (by decide +kernel) rfl ?_
  refine l_con (p' := 2548) rfl rfl rfl ?_
  refine l_end rfl rfl ?_
  exact ⟨Nat.le_trans (Nat.le_of_eq (len_s (len_s (len_s (len_a (len_s (len_s (len_s (len_s (len_s HL))))) rfl))))) (Nat.le_of_ble_eq_true rfl), Nat.le_trans (sz_s rfl (rd_sn rfl (rd_ss rfl (rd_app (rd_ss rfl (rd_sn rfl (rd_sn rfl (rd_sn rfl (rd_sn rfl H410)))))))) rfl (sz_sA rfl (rd_sn rfl (rd_nw rfl (len_s (len_s (len_s (len_s (len_s HL))))))) (sz_s rfl (rd_app (rd_ss rfl (rd_sn rfl (rd_sn rfl (rd_sn rfl (rd_sn rfl H410)))))) rfl (sz_aa (k := 10) (m := 20010) rfl rfl (sz_s rfl (rd_sn rfl (rd_sn rfl (rd_sn rfl (rd_sn rfl H410)))) rfl (sz_s rfl (rd_sn rfl (rd_sn rfl (rd_sn rfl H400))) rfl (sz_sA rfl (rd_sn rfl (rd_sn rfl H412)) (sz_s rfl (rd_sn rfl H393) rfl (sz_sA rfl H394 HZ))))))))) (Nat.le_of_ble_eq_true rfl)⟩
theorem p1_29_11 {xs : Nat → Int32} {h : mj_H} (hk : xs 0 &&& nI 63 = nI 29) (hx1 : xs 1 = nI 1) (hx2 : xs 2 = nI 1)  (HL : h.length = 414) (HZ : mj_sz h ≤ 20000) (H0 : mj_rd h 0 = some (.inr (0, [.ref 1, .ref 38, .ref 299, .ref 336, .ref 373, .ref 375, .ref 378, .ref 381, .ref 387, .ref 393, .null, .null, .ref 397, .ref 398, .ref 399, .long (lN 0), .long (lN 0)]))) (H393 : mj_rd h 393 = some (.inr (9, [.ref 394, .ref 395, .ref 396, .int (nI 0), .int (nI 0)]))) (H394 : mj_rd h 394 = some (.inl (0, (24, .inl (fun _ => 0))))) (H400 : mj_rd h 400 = some (.inr (17, [.int (nI 0), .ref 401, .ref 402, .ref 1000300, .long (lN 0), .long (lN 0), .ref 410, .null, .null, .null, .ref 411]))) (H410 : mj_rd h 410 = some (.inr (18, [.ref 1000000, .int (nI 0), .int (nI 0)]))) (H412 : mj_rd h 412 = some (.inl (4, (1, .inr (.inl (fun _ => 0)))))) : mj_fin 4 xs h := by
  unfold mj_fin
  refine l_ild (p' := 30) rfl rfl rfl rfl ?_
  refine l_alds (p' := 31) rfl rfl rfl rfl ?_
  refine l_lens (p' := 32) rfl rfl rfl ?_
  refine l_con (p' := 33) rfl rfl rfl ?_
  refine l_bz (p' := 34) (z := (nI 0)) rfl rfl rfl rfl rfl (by decide +kernel) ?_
  refine l_icmp (p' := 37) false rfl rfl (by decide +kernel) rfl ?_
  refine l_alds (p' := 38) rfl rfl rfl rfl ?_
  refine l_ild (p' := 40) rfl rfl rfl rfl ?_
  refine l_ialz (p' := 41) (m := 0) (z := (xs 0)) rfl rfl (by decide +kernel) rfl rfl rfl ?_
  refine l_bip (p' := 43) rfl rfl rfl ?_
  refine l_bz (p' := 44) (z := (nI 29)) rfl rfl rfl rfl rfl hk ?_
  refine l_sp (p' := 1817) (ls' := _) rfl rfl rfl rfl rfl ?_
  refine l_aldn (p' := 1818) rfl rfl rfl rfl ?_
  refine l_alds (p' := 1819) rfl rfl rfl rfl ?_
  refine l_ild (p' := 1821) rfl rfl rfl rfl ?_
  refine l_con (p' := 1822) rfl rfl rfl ?_
  refine l_bz (p' := 1823) (z := (nI 1)) rfl rfl rfl rfl rfl (by decide +kernel) ?_
  refine l_ialz (p' := 1824) (m := 1) (z := (nI 1)) rfl rfl (by decide +kernel) rfl hx1 rfl ?_
  refine l_alds (p' := 1825) rfl rfl rfl rfl ?_
  refine l_ild (p' := 1827) rfl rfl rfl rfl ?_
  refine l_con (p' := 1828) rfl rfl rfl ?_
  refine l_bz (p' := 1829) (z := (nI 2)) rfl rfl rfl rfl rfl (by decide +kernel) ?_
  refine l_ialz (p' := 1830) (m := 2) (z := (nI 1)) rfl rfl (by decide +kernel) rfl hx2 rfl ?_
  refine l_aldn (p' := 1831) rfl rfl rfl rfl ?_
  refine l_call (p' := 1834) (kc := 99) (ls0 := [_, _, _, _, _]) rfl rfl rfl rfl rfl rfl rfl rfl rfl rfl ?_
  refine s_aldn (p' := 1) rfl rfl rfl ?_
  refine s_con (p' := 2) rfl rfl ?_
  refine s_aldn (p' := 3) rfl rfl rfl ?_
  refine s_ildn (p' := 4) rfl rfl rfl ?_
  refine s_ildn (p' := 5) rfl rfl rfl ?_
  refine c_call (p' := 8) (kc := 98) (ls0 := [_, _, _]) rfl rfl rfl rfl rfl (mj_rcv_is H0) rfl rfl rfl ?_
  refine s_ildn (p' := 1) rfl rfl rfl ?_
  refine s_if (p' := 4) false rfl (by decide +kernel) rfl ?_
  refine s_ildn (p' := 5) rfl rfl rfl ?_
  refine s_con (p' := 6) rfl rfl ?_
  refine s_icmp (p' := 9) false rfl (by decide +kernel) rfl ?_
  refine s_ildn (p' := 10) rfl rfl rfl ?_
  refine s_if (p' := 13) false rfl (by decide +kernel) rfl ?_
  refine s_ildn (p' := 14) rfl rfl rfl ?_
  refine s_bip (p' := 16) rfl rfl ?_
  refine s_icmp (p' := 30) true rfl (by decide +kernel) rfl ?_
  refine s_ildn (p' := 31) rfl rfl rfl ?_
  refine s_con (p' := 32) rfl rfl ?_
  refine s_ildn (p' := 33) rfl rfl rfl ?_
  refine s_bz (p' := 34) (z := (nI 2)) rfl rfl rfl (by decide +kernel) ?_
  refine s_bz (p' := 35) (z := (nI 0)) rfl rfl rfl (by decide +kernel) ?_
  refine s_if (p' := 49) true rfl (by decide +kernel) rfl ?_
  refine s_aldn (p' := 50) rfl rfl rfl ?_
  refine s_gf (p' := 53) rfl H0 rfl rfl ?_
  refine c_call (p' := 56) (kc := 97) (ls0 := [_]) rfl rfl rfl rfl rfl (mj_rcv_is H393) rfl rfl rfl ?_
  refine s_aldn (p' := 1) rfl rfl rfl ?_
  refine s_gf (p' := 4) rfl H393 rfl rfl ?_
  refine s_bip (p' := 6) rfl rfl ?_
  refine s_icmp (p' := 13) true rfl (by decide +kernel) rfl ?_
  refine s_con (p' := 14) rfl rfl ?_
  refine c_iret rfl (by decide +kernel) ?_
  refine s_if (p' := 70) true rfl (by decide +kernel) rfl ?_
  refine s_aldn (p' := 71) rfl rfl rfl ?_
  refine s_gf (p' := 74) rfl H0 rfl rfl ?_
  refine s_bip (p' := 76) rfl rfl ?_
  refine s_ildn (p' := 77) rfl rfl rfl ?_
  refine s_bz (p' := 78) (z := (nI 8)) rfl rfl rfl (by decide +kernel) ?_
  refine s_ildn (p' := 79) rfl rfl rfl ?_
  refine s_bz (p' := 80) (z := (nI 9)) rfl rfl rfl (by decide +kernel) ?_
  refine c_call (p' := 83) (kc := 97) (ls0 := [_, _]) rfl rfl rfl rfl rfl (mj_rcv_is H393) rfl rfl rfl ?_
  refine s_aldn (p' := 1) rfl rfl rfl ?_
  refine s_gf (p' := 4) rfl H393 rfl rfl ?_
  refine s_if (p' := 7) false rfl (by decide +kernel) rfl ?_
  refine s_aldn (p' := 8) rfl rfl rfl ?_
  refine s_gf (p' := 11) rfl H393 rfl rfl ?_
  refine s_aldn (p' := 12) rfl rfl rfl ?_
  refine s_gf (p' := 15) rfl H393 rfl rfl ?_
  refine s_lenz (p' := 16) rfl (mj_rdA_is H394 (by decide)) rfl rfl ?_
  refine s_icmp (p' := 19) false rfl (by decide +kernel) rfl ?_
  refine s_aldn (p' := 20) rfl rfl rfl ?_
  refine s_gf (p' := 23) rfl H393 rfl rfl ?_
  refine s_aldn (p' := 24) rfl rfl rfl ?_
  refine s_gf (p' := 27) rfl H393 rfl rfl ?_
  refine s_ildn (p' := 28) rfl rfl rfl ?_
  refine s_iasz (p' := 29) (m := 0) rfl rfl H394 (by decide +kernel) rfl rfl rfl ?_
  refine s_aldn (p' := 30) rfl rfl rfl ?_
  refine s_dupr (p' := 31) rfl rfl ?_
  refine s_gf (p' := 34) rfl (rd_sn rfl H393) rfl rfl ?_
  refine s_con (p' := 35) rfl rfl ?_
  refine s_bz (p' := 36) (z := (nI 1)) rfl rfl rfl (by decide +kernel) ?_
  refine s_pfz (p' := 39) (fs' := [_, _, _, _, _]) rfl rfl (rd_sn rfl H393) rfl rfl rfl rfl ?_
  refine c_ret rfl ?_
  refine s_aldn (p' := 84) rfl rfl rfl ?_
  refine s_gf (p' := 87) rfl (rd_sn rfl (rd_sn rfl H0)) rfl rfl ?_
  refine c_call (p' := 90) (kc := 97) (ls0 := [_]) rfl rfl rfl rfl rfl (mj_rcv_is (rd_ss rfl (rd_sn rfl H393))) rfl rfl rfl ?_
  refine s_aldn (p' := 1) rfl rfl rfl ?_
  refine s_gf (p' := 4) rfl (rd_ss rfl (rd_sn rfl H393)) rfl rfl ?_
  refine c_iret rfl rfl ?_
  refine c_iret rfl rfl ?_
  refine s_bzL (p' := 9) (z := (lN 1)) rfl rfl rfl (by decide +kernel) ?_
  refine s_lasz (p' := 10) (m := 0) rfl rfl (rd_sn rfl (rd_sn rfl H412)) (by decide +kernel) rfl rfl rfl ?_
  refine s_goto (p' := 21) rfl rfl ?_
  refine s_con (p' := 22) rfl rfl ?_
  refine k_iret rfl rfl ?_
  refine l_ist (p' := 1836) (ls' := [_, _, _, _, _, _, _, _, _, _]) rfl rfl rfl rfl rfl ?_
  refine l_aldn (p' := 1837) rfl rfl rfl rfl ?_
  refine l_alds (p' := 1838) rfl rfl rfl rfl ?_
  refine l_ild (p' := 1840) rfl rfl rfl rfl ?_
  refine l_con (p' := 1841) rfl rfl rfl ?_
  refine l_bz (p' := 1842) (z := (nI 1)) rfl rfl rfl rfl rfl (by decide +kernel) ?_
  refine l_ialz (p' := 1843) (m := 1) (z := (nI 1)) rfl rfl (by decide +kernel) rfl hx1 rfl ?_
  refine l_alds (p' := 1844) rfl rfl rfl rfl ?_
  refine l_ild (p' := 1846) rfl rfl rfl rfl ?_
  refine l_con (p' := 1847) rfl rfl rfl ?_
  refine l_bz (p' := 1848) (z := (nI 2)) rfl rfl rfl rfl rfl (by decide +kernel) ?_
  refine l_ialz (p' := 1849) (m := 2) (z := (nI 1)) rfl rfl (by decide +kernel) rfl hx2 rfl ?_
  refine l_call (p' := 1852) (kc := 99) (ls0 := [_, _, _, _]) rfl rfl rfl rfl rfl rfl (mj_rcv_is (rd_sn rfl (rd_sn rfl (rd_sn rfl H400)))) rfl rfl rfl ?_
  refine s_ildn (p' := 1) rfl rfl rfl ?_
  refine s_con (p' := 2) rfl rfl ?_
  refine s_con (p' := 3) rfl rfl ?_
  refine c_call (p' := 6) (kc := 98) (ls0 := [_, _, _]) rfl rfl rfl rfl rfl rfl rfl rfl rfl ?_
  refine s_ildn (p' := 1) rfl rfl rfl ?_
  refine s_ildn (p' := 2) rfl rfl rfl ?_
  refine s_icmp (p' := 5) false rfl (by decide +kernel) rfl ?_
  refine s_ildn (p' := 6) rfl rfl rfl ?_
  refine s_ildn (p' := 7) rfl rfl rfl ?_
  refine s_icmp (p' := 10) false rfl (by decide +kernel) rfl ?_
  refine s_con (p' := 11) rfl rfl ?_
  refine s_goto (p' := 15) rfl rfl ?_
  refine c_iret rfl (by decide +kernel) ?_
  refine s_if (p' := 9) false rfl (by decide +kernel) rfl ?_
  refine s_ildn (p' := 10) rfl rfl rfl ?_
  refine s_con (p' := 11) rfl rfl ?_
  refine s_bip (p' := 13) rfl rfl ?_
  refine c_call (p' := 16) (kc := 98) (ls0 := [_, _, _]) rfl rfl rfl rfl rfl rfl rfl rfl rfl ?_
  refine s_ildn (p' := 1) rfl rfl rfl ?_
  refine s_ildn (p' := 2) rfl rfl rfl ?_
  refine s_icmp (p' := 5) false rfl (by decide +kernel) rfl ?_
  refine s_ildn (p' := 6) rfl rfl rfl ?_
  refine s_ildn (p' := 7) rfl rfl rfl ?_
  refine s_icmp (p' := 10) false rfl (by decide +kernel) rfl ?_
  refine s_con (p' := 11) rfl rfl ?_
  refine s_goto (p' := 15) rfl rfl ?_
  refine c_iret rfl (by decide +kernel) ?_
  refine s_if (p' := 19) false rfl (by decide +kernel) rfl ?_
  refine s_ildn (p' := 20) rfl rfl rfl ?_
  refine s_ildn (p' := 21) rfl rfl rfl ?_
  refine s_bz (p' := 22) (z := (nI 0)) rfl rfl rfl (by decide +kernel) ?_
  refine s_con (p' := 23) rfl rfl ?_
  refine s_bz (p' := 24) (z := (nI 0)) rfl rfl rfl (by decide +kernel) ?_
  refine s_if (p' := 27) false rfl (by decide +kernel) rfl ?_
  refine s_con (p' := 28) rfl rfl ?_
  refine s_goto (p' := 32) rfl rfl ?_
  refine s_istn (p' := 33) (ls' := [_, _, _, _]) rfl rfl rfl rfl ?_
  refine s_aldn (p' := 34) rfl rfl rfl ?_
  refine s_ildn (p' := 35) rfl rfl rfl ?_
  refine s_if (p' := 42) true rfl (by decide +kernel) rfl ?_
  refine s_aldn (p' := 43) rfl rfl rfl ?_
  refine s_gf (p' := 46) rfl (rd_sn rfl (rd_sn rfl (rd_sn rfl H400))) rfl rfl ?_
  refine c_call (p' := 51) (kc := 98) (ls0 := [_]) rfl rfl rfl rfl rfl (mj_rcv_is (rd_sn rfl (rd_sn rfl (rd_sn rfl H410)))) rfl rfl rfl ?_
  refine s_aldn (p' := 1) rfl rfl rfl ?_
  refine s_gf (p' := 4) rfl (rd_sn rfl (rd_sn rfl (rd_sn rfl H410))) rfl rfl ?_
  refine c_iret rfl rfl ?_
  refine s_bip (p' := 53) rfl rfl ?_
  refine s_icmp (p' := 60) true rfl (by decide +kernel) rfl ?_
  refine s_con (p' := 61) rfl rfl ?_
  refine c_call (p' := 64) (kc := 98) (ls0 := [_, _]) rfl rfl rfl rfl rfl (mj_rcv_is (rd_sn rfl (rd_sn rfl (rd_sn rfl H400)))) rfl rfl rfl ?_
  refine s_aldn (p' := 1) rfl rfl rfl ?_
  refine s_ildn (p' := 2) rfl rfl rfl ?_
  refine s_pfz (p' := 5) (fs' := [_, _, _, _, _, _, _, _, _, _, _]) rfl rfl (rd_sn rfl (rd_sn rfl (rd_sn rfl H400))) rfl rfl rfl rfl ?_
  refine s_ildn (p' := 6) rfl rfl rfl ?_
  refine s_if (p' := 13) true rfl (by decide +kernel) rfl ?_
  refine s_con (p' := 14) rfl rfl ?_
  refine c_iret rfl (by decide +kernel) ?_
  refine s_if (p' := 69) true rfl (by decide +kernel) rfl ?_
  refine s_aldn (p' := 70) rfl rfl rfl ?_
  refine s_gf (p' := 73) rfl (rd_ss rfl (rd_sn rfl (rd_sn rfl (rd_sn rfl H400)))) rfl rfl ?_
  refine s_bip (p' := 75) rfl rfl ?_
  refine s_ildn (p' := 76) rfl rfl rfl ?_
  refine s_bz (p' := 77) (z := (nI 8)) rfl rfl rfl (by decide +kernel) ?_
  refine s_ildn (p' := 78) rfl rfl rfl ?_
  refine s_bz (p' := 79) (z := (nI 9)) rfl rfl rfl (by decide +kernel) ?_
  refine c_call (p' := 82) (kc := 98) (ls0 := [_]) rfl rfl rfl rfl rfl rfl rfl rfl rfl ?_
  refine s_ildn (p' := 1) rfl rfl rfl ?_
  refine s_bip (p' := 3) rfl rfl ?_
  refine s_icmp (p' := 6) false rfl (by decide +kernel) rfl ?_
  refine s_ildn (p' := 7) rfl rfl rfl ?_
  refine s_sh (p' := 10) (ls' := _) (st' := .int (nI 127) :: _) (h' := _) rfl rfl rfl rfl ?_
  refine s_icmp (p' := 13) false rfl (by decide +kernel) rfl ?_
  refine s_sh (p' := 16) (ls' := _) (st' := .ref 1000001 :: _) (h' := _) rfl rfl rfl rfl ?_
  refine s_ildn (p' := 17) rfl rfl rfl ?_
  refine s_sip (p' := 20) rfl rfl ?_
  refine s_bz (p' := 21) (z := (nI 137)) rfl rfl rfl (by decide +kernel) ?_
  refine s_aalz (p' := 22) (m := 137) (q := (some 1000147)) (v := .ref 1000147) rfl (mj_rdA_cst (k_1 _) (by decide)) rfl (by decide +kernel) rfl rfl rfl rfl ?_
  refine c_aret rfl ?_
  refine c_call (p' := 87) (kc := 98) (ls0 := [_, _]) rfl rfl rfl rfl rfl (mj_rcv_is (rd_sn rfl (rd_sn rfl (rd_sn rfl (rd_sn rfl H410))))) rfl rfl rfl ?_
  refine s_aldn (p' := 1) rfl rfl rfl ?_
  refine s_dupr (p' := 2) rfl rfl ?_
  refine s_gf (p' := 5) rfl (rd_sn rfl (rd_sn rfl (rd_sn rfl (rd_sn rfl H410)))) rfl rfl ?_
  refine s_con (p' := 6) rfl rfl ?_
  refine s_bz (p' := 7) (z := (nI 1)) rfl rfl rfl (by decide +kernel) ?_
  refine s_pfz (p' := 10) (fs' := [_, _, _]) rfl rfl (rd_sn rfl (rd_sn rfl (rd_sn rfl (rd_sn rfl H410)))) rfl rfl rfl rfl ?_
  refine s_aldn (p' := 11) rfl rfl rfl ?_
  refine s_aldn (p' := 12) rfl rfl rfl ?_
  refine s_aldn (p' := 13) rfl rfl rfl ?_
  refine s_gf (p' := 16) rfl (rd_ss rfl (rd_sn rfl (rd_sn rfl (rd_sn rfl (rd_sn rfl H410))))) rfl rfl ?_
  refine s_aldn (p' := 17) rfl rfl rfl ?_
  refine s_gf (p' := 20) rfl (rd_ss rfl (rd_sn rfl (rd_sn rfl (rd_sn rfl (rd_sn rfl H410))))) rfl rfl ?_
  refine c_call (p' := 23) (kc := 97) (ls0 := [_, _, _, _]) rfl rfl rfl rfl rfl (mj_rcv_is (rd_ss rfl (rd_sn rfl (rd_sn rfl (rd_sn rfl (rd_sn rfl H410)))))) rfl rfl rfl ?_
  refine s_ildn (p' := 1) rfl rfl rfl ?_
  refine s_aldn (p' := 2) rfl rfl rfl ?_
  refine s_lenz (p' := 3) rfl (mj_rdA_cst (k_0 _) (by decide)) rfl rfl ?_
  refine s_icmp (p' := 6) false rfl (by decide +kernel) rfl ?_
  refine s_aldn (p' := 7) rfl rfl rfl ?_
  refine c_call (p' := 10) (kc := 96) (ls0 := [_]) rfl rfl rfl rfl rfl (mj_rcv_is (rd_ss rfl (rd_sn rfl (rd_sn rfl (rd_sn rfl (rd_sn rfl H410)))))) rfl rfl rfl ?_
  refine s_aldn (p' := 1) rfl rfl rfl ?_
  refine s_aldn (p' := 2) rfl rfl rfl ?_
  refine s_gf (p' := 5) rfl (rd_ss rfl (rd_sn rfl (rd_sn rfl (rd_sn rfl (rd_sn rfl H410))))) rfl rfl ?_
  refine s_con (p' := 6) rfl rfl ?_
  refine s_bz (p' := 7) (z := (nI 1)) rfl rfl rfl (by decide +kernel) ?_
  refine c_call (p' := 10) (kc := 95) (ls0 := [_, _, _, _]) rfl rfl rfl rfl rfl (mj_rcv_is (rd_ss rfl (rd_sn rfl (rd_sn rfl (rd_sn rfl (rd_sn rfl H410)))))) rfl rfl rfl ?_
  refine s_aldn (p' := 1) rfl rfl rfl ?_
  refine s_gf (p' := 4) rfl (rd_ss rfl (rd_sn rfl (rd_sn rfl (rd_sn rfl (rd_sn rfl H410))))) rfl rfl ?_
  refine s_lenz (p' := 5) rfl (mj_rdA_cst (k_0 _) (by decide)) rfl rfl ?_
  refine s_istn (p' := 6) (ls' := [_, _, _, _]) rfl rfl rfl rfl ?_
  refine s_ildn (p' := 7) rfl rfl rfl ?_
  refine s_if (p' := 10) false rfl (by decide +kernel) rfl ?_
  refine s_aldn (p' := 11) rfl rfl rfl ?_
  refine s_gf (p' := 14) rfl (rd_ss rfl (rd_sn rfl (rd_sn rfl (rd_sn rfl (rd_sn rfl H410))))) rfl rfl ?_
  refine s_sh (p' := 17) (ls' := _) (st' := .ref 1000000 :: _) (h' := _) rfl rfl rfl rfl ?_
  refine s_sp (p' := 45) (ls' := _) rfl rfl rfl ?_
  refine s_aldn (p' := 46) rfl rfl rfl ?_
  refine s_bip (p' := 48) rfl rfl ?_
  refine s_ildn (p' := 49) rfl rfl rfl ?_
  refine s_primV (p' := 52) (q := 4) rfl rfl rfl rfl rfl rfl (p_max (x := (nI 10)) (y := (nI 1)) (z := (nI 10)) (by decide +kernel)) rfl ?_
  refine s_anaz (p' := 55) (a := 414) (n := 10) rfl (len_s (len_s (len_s (len_s (len_s HL))))) rfl rfl ?_
  refine s_sp (p' := 56) (ls' := _) rfl rfl rfl ?_
  refine s_pfz (p' := 59) (fs' := [_, _, _]) rfl rfl (rd_app (rd_ss rfl (rd_sn rfl (rd_sn rfl (rd_sn rfl (rd_sn rfl H410)))))) rfl rfl rfl rfl ?_
  refine c_aret rfl ?_
  refine c_aret rfl ?_
  refine s_astn (p' := 11) (ls' := [_, _, _, _]) rfl rfl rfl rfl ?_
  refine s_aldn (p' := 12) rfl rfl rfl ?_
  refine s_ildn (p' := 13) rfl rfl rfl ?_
  refine s_aldn (p' := 14) rfl rfl rfl ?_
  refine s_aasz (p' := 15) (m := 0) rfl rfl (rd_sn rfl (rd_nw rfl (len_s (len_s (len_s (len_s (len_s HL))))))) rfl (by decide +kernel) rfl (k_147 _) rfl rfl ?_
  refine s_aldn (p' := 16) rfl rfl rfl ?_
  refine s_ildn (p' := 17) rfl rfl rfl ?_
  refine s_con (p' := 18) rfl rfl ?_
  refine s_bz (p' := 19) (z := (nI 1)) rfl rfl rfl (by decide +kernel) ?_
  refine s_pfz (p' := 22) (fs' := [_, _, _]) rfl rfl (rd_sn rfl (rd_ss rfl (rd_app (rd_ss rfl (rd_sn rfl (rd_sn rfl (rd_sn rfl (rd_sn rfl H410)))))))) rfl rfl rfl rfl ?_
  refine c_ret rfl ?_
  refine s_con (p' := 24) rfl rfl ?_
  refine c_iret rfl (by decide +kernel) ?_
  refine s_sp (p' := 88) (ls' := _) rfl rfl rfl ?_
  refine s_aldn (p' := 89) rfl rfl rfl ?_
  refine s_gf (p' := 92) rfl (rd_sn rfl (rd_sn rfl (rd_sn rfl (rd_app (rd_sn rfl (rd_ss rfl (rd_sn rfl (rd_sn rfl (rd_sn rfl H400))))))))) rfl rfl ?_
  refine c_call (p' := 97) (kc := 98) (ls0 := [_]) rfl rfl rfl rfl rfl (mj_rcv_is (rd_ss rfl (rd_sn rfl (rd_ss rfl (rd_app (rd_ss rfl (rd_sn rfl (rd_sn rfl (rd_sn rfl (rd_sn rfl H410)))))))))) rfl rfl rfl ?_
  refine s_aldn (p' := 1) rfl rfl rfl ?_
  refine s_gf (p' := 4) rfl (rd_ss rfl (rd_sn rfl (rd_ss rfl (rd_app (rd_ss rfl (rd_sn rfl (rd_sn rfl (rd_sn rfl (rd_sn rfl H410))))))))) rfl rfl ?_
  refine c_iret rfl rfl ?_
  refine k_iret rfl rfl ?_
  refine l_ist (p' := 1854) (ls' := [_, _, _, _, _, _, _, _, _, _]) rfl rfl rfl rfl rfl ?_
  refine l_aldn (p' := 1855) rfl rfl rfl rfl ?_
  refine l_call (p' := 1858) (kc := 99) (ls0 := [_]) rfl rfl rfl rfl rfl rfl (mj_rcv_is (rd_sn rfl (rd_sn rfl (rd_sn rfl (rd_app (rd_sn rfl (rd_ss rfl (rd_sn rfl (rd_sn rfl (rd_sn rfl H400)))))))))) rfl rfl rfl ?_
  refine s_aldn (p' := 1) rfl rfl rfl ?_
  refine s_gf (p' := 4) rfl (rd_sn rfl (rd_sn rfl (rd_sn rfl (rd_app (rd_sn rfl (rd_ss rfl (rd_sn rfl (rd_sn rfl (rd_sn rfl H400))))))))) rfl rfl ?_
  refine k_iret rfl rfl ?_
  refine l_ild (p' := 1860) rfl rfl rfl rfl ?_
  refine l_icmp (p' := 1865) true rfl rfl (by decide +kernel) rfl ?_
  refine l_ild (p' := 1867) rfl rfl rfl rfl ?_
  refine l_if (p' := 1870) false rfl rfl (by decide +kernel) rfl ?_
  refine l_aldn (p' := 1871) rfl rfl rfl rfl ?_
  refine l_con (p' := 1872) rfl rfl rfl ?_
  refine l_lalz (p' := 1873) (m := 0) (v := (lN 1)) rfl rfl (rd_sn rfl (rd_sn rfl (rd_sn rfl (rd_app (rd_sn rfl (rd_sn rfl (rd_ss rfl (rd_sn rfl (rd_sn rfl H412))))))))) (by decide +kernel) rfl (by decide +kernel) rfl ?_
  refine l_ild (p' := 1875) rfl rfl rfl rfl ?_
  refine l_bzL (p' := 1876) (z := (lN 1)) rfl rfl rfl rfl rfl (by decide +kernel) ?_
  refine l_bz (p' := 1877) (z := (nI 0)) rfl rfl rfl rfl rfl (by decide +kernel) ?_
  refine l_if (p' := 1882) true rfl rfl (by decide +kernel) rfl ?_
  refine l_goto (p' := 2541) rfl rfl rfl ?_
  refine l_incz (p' := 2544) (w := (nI 4)) (ls' := [_, _, _, _, _, _, _, _, _, _]) rfl rfl rfl rfl (by decide +kernel) rfl rfl ?_
  refine l_goto (p' := 28) rfl rfl rfl ?_
  refine l_ild (p' := 30) rfl rfl rfl rfl ?_
  refine l_alds (p' := 31) rfl rfl rfl rfl ?_
  refine l_lens (p' := 32) rfl rfl rfl ?_
  refine l_con (p' := 33) rfl rfl rfl ?_
  refine l_bz (p' := 34) (z := (nI 0)) rfl rfl rfl rfl rfl (by decide +kernel) ?_
  refine l_icmp (p' := 2547) true rfl rfl (by decide +kernel) rfl ?_
  refine l_con (p' := 2548) rfl rfl rfl ?_
  refine l_end rfl rfl ?_
  exact ⟨Nat.le_trans (Nat.le_of_eq (len_s (len_s (len_s (len_a (len_s (len_s (len_s (len_s (len_s HL))))) rfl))))) (Nat.le_of_ble_eq_true rfl), Nat.le_trans (sz_s rfl (rd_sn rfl (rd_ss rfl (rd_app (rd_ss rfl (rd_sn rfl (rd_sn rfl (rd_sn rfl (rd_sn rfl H410)))))))) rfl (sz_sA rfl (rd_sn rfl (rd_nw rfl (len_s (len_s (len_s (len_s (len_s HL))))))) (sz_s rfl (rd_app (rd_ss rfl (rd_sn rfl (rd_sn rfl (rd_sn rfl (rd_sn rfl H410)))))) rfl (sz_aa (k := 10) (m := 20010) rfl rfl (sz_s rfl (rd_sn rfl (rd_sn rfl (rd_sn rfl (rd_sn rfl H410)))) rfl (sz_s rfl (rd_sn rfl (rd_sn rfl (rd_sn rfl H400))) rfl (sz_sA rfl (rd_sn rfl (rd_sn rfl H412)) (sz_s rfl (rd_sn rfl H393) rfl (sz_sA rfl H394 HZ))))))))) (Nat.le_of_ble_eq_true rfl)⟩
theorem p1_29_12 {xs : Nat → Int32} {h : mj_H} (hk : xs 0 &&& nI 63 = nI 29) (hx1 : xs 1 = nI 1) (hx2 : xs 2 = nI 2)  (HL : h.length = 414) (HZ : mj_sz h ≤ 20000) (H0 : mj_rd h 0 = some (.inr (0, [.ref 1, .ref 38, .ref 299, .ref 336, .ref 373, .ref 375, .ref 378, .ref 381, .ref 387, .ref 393, .null, .null, .ref 397, .ref 398, .ref 399, .long (lN 0), .long (lN 0)]))) (H400 : mj_rd h 400 = some (.inr (17, [.int (nI 0), .ref 401, .ref 402, .ref 1000300, .long (lN 0), .long (lN 0), .ref 410, .null, .null, .null, .ref 411]))) : mj_fin 4 xs h := by
  unfold mj_fin
  refine l_ild (p' := 30) rfl rfl rfl rfl ?_
  refine l_alds (p' := 31) rfl rfl rfl rfl ?_
  refine l_lens (p' := 32) rfl rfl rfl ?_
  refine l_con (p' := 33) rfl rfl rfl ?_
  refine l_bz (p' := 34) (z := (nI 0)) rfl rfl rfl rfl rfl (by decide +kernel) ?_
  refine l_icmp (p' := 37) false rfl rfl (by decide +kernel) rfl ?_
  refine l_alds (p' := 38) rfl rfl rfl rfl ?_
  refine l_ild (p' := 40) rfl rfl rfl rfl ?_
  refine l_ialz (p' := 41) (m := 0) (z := (xs 0)) rfl rfl (by decide +kernel) rfl rfl rfl ?_
  refine l_bip (p' := 43) rfl rfl rfl ?_
  refine l_bz (p' := 44) (z := (nI 29)) rfl rfl rfl rfl rfl hk ?_
  refine l_sp (p' := 1817) (ls' := _) rfl rfl rfl rfl rfl ?_
  refine l_aldn (p' := 1818) rfl rfl rfl rfl ?_
  refine l_alds (p' := 1819) rfl rfl rfl rfl ?_
  refine l_ild (p' := 1821) rfl rfl rfl rfl ?_
  refine l_con (p' := 1822) rfl rfl rfl ?_
  refine l_bz (p' := 1823) (z := (nI 1)) rfl rfl rfl rfl rfl (by decide +kernel) ?_
  refine l_ialz (p' := 1824) (m := 1) (z := (nI 1)) rfl rfl (by decide +kernel) rfl hx1 rfl ?_
  refine l_alds (p' := 1825) rfl rfl rfl rfl ?_
  refine l_ild (p' := 1827) rfl rfl rfl rfl ?_
  refine l_con (p' := 1828) rfl rfl rfl ?_
  refine l_bz (p' := 1829) (z := (nI 2)) rfl rfl rfl rfl rfl (by decide +kernel) ?_
  refine l_ialz (p' := 1830) (m := 2) (z := (nI 2)) rfl rfl (by decide +kernel) rfl hx2 rfl ?_
  refine l_aldn (p' := 1831) rfl rfl rfl rfl ?_
  refine l_call (p' := 1834) (kc := 99) (ls0 := [_, _, _, _, _]) rfl rfl rfl rfl rfl rfl rfl rfl rfl rfl ?_
  refine s_aldn (p' := 1) rfl rfl rfl ?_
  refine s_con (p' := 2) rfl rfl ?_
  refine s_aldn (p' := 3) rfl rfl rfl ?_
  refine s_ildn (p' := 4) rfl rfl rfl ?_
  refine s_ildn (p' := 5) rfl rfl rfl ?_
  refine c_call (p' := 8) (kc := 98) (ls0 := [_, _, _]) rfl rfl rfl rfl rfl (mj_rcv_is H0) rfl rfl rfl ?_
  refine s_ildn (p' := 1) rfl rfl rfl ?_
  refine s_if (p' := 4) false rfl (by decide +kernel) rfl ?_
  refine s_ildn (p' := 5) rfl rfl rfl ?_
  refine s_con (p' := 6) rfl rfl ?_
  refine s_icmp (p' := 9) false rfl (by decide +kernel) rfl ?_
  refine s_ildn (p' := 10) rfl rfl rfl ?_
  refine s_if (p' := 13) false rfl (by decide +kernel) rfl ?_
  refine s_ildn (p' := 14) rfl rfl rfl ?_
  refine s_bip (p' := 16) rfl rfl ?_
  refine s_icmp (p' := 30) true rfl (by decide +kernel) rfl ?_
  refine s_ildn (p' := 31) rfl rfl rfl ?_
  refine s_con (p' := 32) rfl rfl ?_
  refine s_ildn (p' := 33) rfl rfl rfl ?_
  refine s_bz (p' := 34) (z := (nI 2)) rfl rfl rfl (by decide +kernel) ?_
  refine s_bz (p' := 35) (z := (nI 2)) rfl rfl rfl (by decide +kernel) ?_
  refine s_if (p' := 38) false rfl (by decide +kernel) rfl ?_
  refine s_thrz (q := 414) rfl HL rfl ?_
  refine K_c (hp := 13) rfl (mj_ocl_is (rd_nw rfl HL)) rfl ?_
  refine s_ast (p' := 15) (ls' := [_, _, _, _, _]) rfl rfl rfl rfl ?_
  refine s_con (p' := 16) rfl rfl ?_
  refine k_iret rfl rfl ?_
  refine l_ist (p' := 1836) (ls' := [_, _, _, _, _, _, _, _, _, _]) rfl rfl rfl rfl rfl ?_
  refine l_aldn (p' := 1837) rfl rfl rfl rfl ?_
  refine l_alds (p' := 1838) rfl rfl rfl rfl ?_
  refine l_ild (p' := 1840) rfl rfl rfl rfl ?_
  refine l_con (p' := 1841) rfl rfl rfl ?_
  refine l_bz (p' := 1842) (z := (nI 1)) rfl rfl rfl rfl rfl (by decide +kernel) ?_
  refine l_ialz (p' := 1843) (m := 1) (z := (nI 1)) rfl rfl (by decide +kernel) rfl hx1 rfl ?_
  refine l_alds (p' := 1844) rfl rfl rfl rfl ?_
  refine l_ild (p' := 1846) rfl rfl rfl rfl ?_
  refine l_con (p' := 1847) rfl rfl rfl ?_
  refine l_bz (p' := 1848) (z := (nI 2)) rfl rfl rfl rfl rfl (by decide +kernel) ?_
  refine l_ialz (p' := 1849) (m := 2) (z := (nI 2)) rfl rfl (by decide +kernel) rfl hx2 rfl ?_
  refine l_call (p' := 1852) (kc := 99) (ls0 := [_, _, _, _]) rfl rfl rfl rfl rfl rfl (mj_rcv_is (rd_app H400)) rfl rfl rfl ?_
  refine s_ildn (p' := 1) rfl rfl rfl ?_
  refine s_con (p' := 2) rfl rfl ?_
  refine s_con (p' := 3) rfl rfl ?_
  refine c_call (p' := 6) (kc := 98) (ls0 := [_, _, _]) rfl rfl rfl rfl rfl rfl rfl rfl rfl ?_
  refine s_ildn (p' := 1) rfl rfl rfl ?_
  refine s_ildn (p' := 2) rfl rfl rfl ?_
  refine s_icmp (p' := 5) false rfl (by decide +kernel) rfl ?_
  refine s_ildn (p' := 6) rfl rfl rfl ?_
  refine s_ildn (p' := 7) rfl rfl rfl ?_
  refine s_icmp (p' := 10) false rfl (by decide +kernel) rfl ?_
  refine s_con (p' := 11) rfl rfl ?_
  refine s_goto (p' := 15) rfl rfl ?_
  refine c_iret rfl (by decide +kernel) ?_
  refine s_if (p' := 9) false rfl (by decide +kernel) rfl ?_
  refine s_ildn (p' := 10) rfl rfl rfl ?_
  refine s_con (p' := 11) rfl rfl ?_
  refine s_bip (p' := 13) rfl rfl ?_
  refine c_call (p' := 16) (kc := 98) (ls0 := [_, _, _]) rfl rfl rfl rfl rfl rfl rfl rfl rfl ?_
  refine s_ildn (p' := 1) rfl rfl rfl ?_
  refine s_ildn (p' := 2) rfl rfl rfl ?_
  refine s_icmp (p' := 5) false rfl (by decide +kernel) rfl ?_
  refine s_ildn (p' := 6) rfl rfl rfl ?_
  refine s_ildn (p' := 7) rfl rfl rfl ?_
  refine s_icmp (p' := 10) false rfl (by decide +kernel) rfl ?_
  refine s_con (p' := 11) rfl rfl ?_
  refine s_goto (p' := 15) rfl rfl ?_
  refine c_iret rfl (by decide +kernel) ?_
  refine s_if (p' := 19) false rfl (by decide +kernel) rfl ?_
  refine s_ildn (p' := 20) rfl rfl rfl ?_
  refine s_ildn (p' := 21) rfl rfl rfl ?_
  refine s_bz (p' := 22) (z := (nI 1)) rfl rfl rfl (by decide +kernel) ?_
  refine s_con (p' := 23) rfl rfl ?_
  refine s_bz (p' := 24) (z := (nI 1)) rfl rfl rfl (by decide +kernel) ?_
  refine s_if (p' := 31) true rfl (by decide +kernel) rfl ?_
  refine s_con (p' := 32) rfl rfl ?_
  refine s_istn (p' := 33) (ls' := [_, _, _, _]) rfl rfl rfl rfl ?_
  refine s_aldn (p' := 34) rfl rfl rfl ?_
  refine s_ildn (p' := 35) rfl rfl rfl ?_
  refine s_if (p' := 38) false rfl (by decide +kernel) rfl ?_
  refine s_con (p' := 39) rfl rfl ?_
  refine s_goto (p' := 61) rfl rfl ?_
  refine c_call (p' := 64) (kc := 98) (ls0 := [_, _]) rfl rfl rfl rfl rfl (mj_rcv_is (rd_app H400)) rfl rfl rfl ?_
  refine s_aldn (p' := 1) rfl rfl rfl ?_
  refine s_ildn (p' := 2) rfl rfl rfl ?_
  refine s_pfz (p' := 5) (fs' := [_, _, _, _, _, _, _, _, _, _, _]) rfl rfl (rd_app H400) rfl rfl rfl rfl ?_
  refine s_ildn (p' := 6) rfl rfl rfl ?_
  refine s_if (p' := 9) false rfl (by decide +kernel) rfl ?_
  refine s_con (p' := 10) rfl rfl ?_
  refine s_goto (p' := 14) rfl rfl ?_
  refine c_iret rfl (by decide +kernel) ?_
  refine s_if (p' := 67) false rfl (by decide +kernel) rfl ?_
  refine s_con (p' := 68) rfl rfl ?_
  refine k_iret rfl rfl ?_
  refine l_ist (p' := 1854) (ls' := [_, _, _, _, _, _, _, _, _, _]) rfl rfl rfl rfl rfl ?_
  refine l_aldn (p' := 1855) rfl rfl rfl rfl ?_
  refine l_call (p' := 1858) (kc := 99) (ls0 := [_]) rfl rfl rfl rfl rfl rfl (mj_rcv_is (rd_ss rfl (rd_app H400))) rfl rfl rfl ?_
  refine s_aldn (p' := 1) rfl rfl rfl ?_
  refine s_gf (p' := 4) rfl (rd_ss rfl (rd_app H400)) rfl rfl ?_
  refine k_iret rfl rfl ?_
  refine l_ild (p' := 1860) rfl rfl rfl rfl ?_
  refine l_icmp (p' := 1865) true rfl rfl (by decide +kernel) rfl ?_
  refine l_ild (p' := 1867) rfl rfl rfl rfl ?_
  refine l_if (p' := 1882) true rfl rfl (by decide +kernel) rfl ?_
  refine l_goto (p' := 2541) rfl rfl rfl ?_
  refine l_incz (p' := 2544) (w := (nI 4)) (ls' := [_, _, _, _, _, _, _, _, _, _]) rfl rfl rfl rfl (by decide +kernel) rfl rfl ?_
  refine l_goto (p' := 28) rfl rfl rfl ?_
  refine l_ild (p' := 30) rfl rfl rfl rfl ?_
  refine l_alds (p' := 31) rfl rfl rfl rfl ?_
  refine l_lens (p' := 32) rfl rfl rfl ?_
  refine l_con (p' := 33) rfl rfl rfl ?_
  refine l_bz (p' := 34) (z := (nI 0)) rfl rfl rfl rfl rfl (by decide +kernel) ?_
  refine l_icmp (p' := 2547) true rfl rfl (by decide +kernel) rfl ?_
  refine l_con (p' := 2548) rfl rfl rfl ?_
  refine l_end rfl rfl ?_
  exact ⟨Nat.le_trans (Nat.le_of_eq (len_s (len_a HL rfl))) (Nat.le_of_ble_eq_true rfl), Nat.le_trans (sz_s rfl (rd_app H400) rfl (sz_aa (k := 6) (m := 20006) rfl rfl HZ)) (Nat.le_of_ble_eq_true rfl)⟩
