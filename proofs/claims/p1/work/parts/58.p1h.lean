/-! One call on fresh objects: pebbles, least gates, no call. -/
theorem p1_44_s {xs : Nat → Int32} {h : mj_H} {p q : Nat} (hp1 : 1 ≤ p) (hp : p ≤ 10) (hq1 : 1 ≤ q) (hq : q ≤ 10) (hk : xs 0 &&& nI 63 = nI 44) (hx1 : xs 1 = nI p) (hx2 : xs 2 = nI q) {d : Nat} (hd : d < 1024) (hR : pbR p q = some d) (HL : h.length = 414) (HZ : mj_sz h ≤ 20000) (H0 : mj_rd h 0 = some (.inr (0, [.ref 1, .ref 38, .ref 299, .ref 336, .ref 373, .ref 375, .ref 378, .ref 381, .ref 387, .ref 393, .null, .null, .ref 397, .ref 398, .ref 399, .long (lN 0), .long (lN 0)]))) (H400 : mj_rd h 400 = some (.inr (17, [.int (nI 0), .ref 401, .ref 402, .ref 1000300, .long (lN 0), .long (lN 0), .ref 410, .null, .null, .null, .ref 411]))) (H412 : mj_rd h 412 = some (.inl (4, (1, .inr (.inl (fun _ => 0)))))) : mj_fin 4 xs h := by
  unfold mj_fin
  refine l_ild (p' := 30) rfl rfl rfl rfl ?_
  refine l_alds (p' := 31) rfl rfl rfl rfl ?_
  refine l_lens (p' := 32) rfl rfl rfl ?_
  refine l_con (p' := 33) rfl rfl rfl ?_
  refine l_bz (p' := 34) (z := (nI 0)) rfl rfl rfl rfl rfl (by decide +kernel) ?_
  refine l_icmp (p' := 37) false rfl rfl (by decide +kernel) rfl ?_
  refine l_alds (p' := 38) rfl rfl rfl rfl ?_
  refine l_ild (p' := 40) rfl rfl rfl rfl ?_
  refine l_ialz (p' := 41) (m := 0) (z := (xs 0)) rfl rfl (by decide +kernel) rfl rfl rfl ?_
  refine l_bip (p' := 43) rfl rfl rfl ?_
  refine l_bz (p' := 44) (z := (nI 44)) rfl rfl rfl rfl rfl hk ?_
  refine l_sp (p' := 2312) (ls' := _) rfl rfl rfl rfl rfl ?_
  refine l_aldn (p' := 2313) rfl rfl rfl rfl ?_
  refine l_alds (p' := 2314) rfl rfl rfl rfl ?_
  refine l_ild (p' := 2316) rfl rfl rfl rfl ?_
  refine l_con (p' := 2317) rfl rfl rfl ?_
  refine l_bz (p' := 2318) (z := (nI 1)) rfl rfl rfl rfl rfl (by decide +kernel) ?_
  refine l_ialz (p' := 2319) (m := 1) (z := (nI p)) rfl rfl (by decide +kernel) rfl hx1 rfl ?_
  refine l_alds (p' := 2320) rfl rfl rfl rfl ?_
  refine l_ild (p' := 2322) rfl rfl rfl rfl ?_
  refine l_con (p' := 2323) rfl rfl rfl ?_
  refine l_bz (p' := 2324) (z := (nI 2)) rfl rfl rfl rfl rfl (by decide +kernel) ?_
  refine l_ialz (p' := 2325) (m := 2) (z := (nI q)) rfl rfl (by decide +kernel) rfl hx2 rfl ?_
  refine l_aldn (p' := 2326) rfl rfl rfl rfl ?_
  refine l_call (p' := 2329) (kc := 99) (ls0 := [_, _, _, _, _]) rfl rfl rfl rfl rfl rfl rfl rfl rfl rfl ?_
  refine s_aldn (p' := 1) rfl rfl rfl ?_
  refine s_con (p' := 2) rfl rfl ?_
  refine s_aldn (p' := 3) rfl rfl rfl ?_
  refine s_ildn (p' := 4) rfl rfl rfl ?_
  refine s_ildn (p' := 5) rfl rfl rfl ?_
  refine c_call (p' := 8) (kc := 98) (ls0 := [_, _, _, _]) rfl rfl rfl rfl rfl (mj_rcv_is H0) rfl rfl rfl ?_
  refine s_ildn (p' := 1) rfl rfl rfl ?_
  refine s_con (p' := 2) rfl rfl ?_
  refine s_icmp (p' := 5) false rfl ((cg_lt (w := 1) (by decide +kernel)).trans (decide_eq_false (by rw [mI_ti (by omega)]; omega))) rfl ?_
  refine s_ildn (p' := 6) rfl rfl rfl ?_
  refine s_bip (p' := 8) rfl rfl ?_
  refine s_icmp (p' := 11) false rfl ((cg_gt (w := 10) (by decide +kernel)).trans (decide_eq_false (by rw [mI_ti (by omega)]; omega))) rfl ?_
  refine s_ildn (p' := 12) rfl rfl rfl ?_
  refine s_con (p' := 13) rfl rfl ?_
  refine s_icmp (p' := 16) false rfl ((cg_lt (w := 1) (by decide +kernel)).trans (decide_eq_false (by rw [mI_ti (by omega)]; omega))) rfl ?_
  refine s_ildn (p' := 17) rfl rfl rfl ?_
  refine s_bip (p' := 19) rfl rfl ?_
  refine s_icmp (p' := 33) true rfl ((cg_le (w := 10) (by decide +kernel)).trans (decide_eq_true (by rw [mI_ti (by omega)]; omega))) rfl ?_
  refine s_aldn (p' := 34) rfl rfl rfl ?_
  refine s_ildn (p' := 35) rfl rfl rfl ?_
  refine s_ildn (p' := 36) rfl rfl rfl ?_
  refine c_call (p' := 39) (kc := 97) (ls0 := [_, _, _]) rfl rfl rfl rfl rfl (mj_rcv_is H0) rfl rfl rfl ?_
  refine s_aldn (p' := 1) rfl rfl rfl ?_
  refine s_gf (p' := 4) rfl H0 rfl rfl ?_
  refine s_nonnull (p' := 7) (x := none) false rfl rfl rfl ?_
  refine s_aldn (p' := 8) rfl rfl rfl ?_
  refine s_newz (p' := 11) (a := 414) rfl HL rfl rfl ?_
  refine s_dupr (p' := 12) rfl rfl ?_
  refine c_call (p' := 15) (kc := 96) (ls0 := [_]) rfl rfl rfl rfl rfl (mj_rcv_is (rd_nw rfl HL)) rfl rfl rfl ?_
  refine s_aldn (p' := 1) rfl rfl rfl ?_
  refine s_primN (p' := 4) (q := 3) rfl rfl rfl rfl rfl rfl rfl rfl ?_
  refine s_aldn (p' := 5) rfl rfl rfl ?_
  refine s_sip (p' := 8) rfl rfl ?_
  refine s_naz (p' := 10) (a := 415) (n := 1024) rfl (len_a HL rfl) rfl rfl ?_
  refine s_pfz (p' := 13) (fs' := [_, _, _]) rfl rfl (rd_app (rd_nw rfl HL)) rfl rfl rfl rfl ?_
  refine s_aldn (p' := 14) rfl rfl rfl ?_
  refine s_sip (p' := 17) rfl rfl ?_
  refine s_naz (p' := 19) (a := 416) (n := 1024) rfl (len_s (len_a (len_a HL rfl) rfl)) rfl rfl ?_
  refine s_pfz (p' := 22) (fs' := [_, _, _]) rfl rfl (rd_app (rd_ss rfl (rd_app (rd_nw rfl HL)))) rfl rfl rfl rfl ?_
  refine c_ret rfl ?_
  refine s_pfz (p' := 18) (fs' := [_, _, _, _, _, _, _, _, _, _, _, _, _, _, _, _, _]) rfl rfl (rd_sn rfl (rd_app (rd_sn rfl (rd_app (rd_app H0))))) rfl rfl rfl rfl ?_
  refine s_aldn (p' := 19) rfl rfl rfl ?_
  refine s_gf (p' := 22) rfl (rd_ss rfl (rd_sn rfl (rd_app (rd_sn rfl (rd_app (rd_app H0)))))) rfl rfl ?_
  refine s_ildn (p' := 23) rfl rfl rfl ?_
  refine s_ildn (p' := 24) rfl rfl rfl ?_
  refine s_callEV (p' := 27) (ls0 := [_, _, _, _, _, _, _]) rfl rfl rfl rfl rfl (mj_rcv_is (rd_sn rfl (rd_ss rfl (rd_app (rd_ss rfl (rd_app (rd_nw rfl HL))))))) rfl (x_few (P := 414) (M := 415) (W := 416) (by decide) (by decide) (by decide) (rd_sn rfl (rd_ss rfl (rd_app (rd_ss rfl (rd_app (rd_nw rfl HL)))))) (rd_sn rfl (rd_sn rfl (rd_app (rd_sn rfl (rd_nw rfl (len_a HL rfl)))))) (rd_sn rfl (rd_sn rfl (rd_nw rfl (len_s (len_a (len_a HL rfl) rfl))))) (by decide) (by decide) (by decide) hp1 hp) rfl rfl ?_
  rintro v1 g1 ⟨rfl, hb1, s1, hs1⟩
  rw [show pbE (pbR p q) = nI d from by rw [hR]; rfl]
  refine c_iret rfl rfl ?_
  refine s_istn (p' := 40) (ls' := [_, _, _, _]) rfl rfl rfl rfl ?_
  refine s_ildn (p' := 41) rfl rfl rfl ?_
  refine s_if (p' := 55) true rfl ((cg_ge (w := 0) (by decide +kernel)).trans (decide_eq_true (by rw [mI_ti (by omega)]; omega))) rfl ?_
  refine s_ildn (p' := 56) rfl rfl rfl ?_
  refine c_iret rfl rfl ?_
  refine s_bzL (p' := 9) (z := (Int32.toInt64 (nI d))) rfl rfl rfl rfl ?_
  refine s_lasz (p' := 10) (m := 0) rfl rfl ((hb1.2.2 412 (by decide) (by decide) (by decide)).trans (rd_sn rfl (rd_sn rfl (rd_app (rd_sn rfl (rd_app (rd_app H412))))))) (by decide +kernel) rfl rfl rfl ?_
  refine s_goto (p' := 21) rfl rfl ?_
  refine s_con (p' := 22) rfl rfl ?_
  refine k_iret rfl rfl ?_
  refine l_ist (p' := 2331) (ls' := [_, _, _, _, _, _, _, _, _, _]) rfl rfl rfl rfl rfl ?_
  refine l_aldn (p' := 2332) rfl rfl rfl rfl ?_
  refine l_alds (p' := 2333) rfl rfl rfl rfl ?_
  refine l_ild (p' := 2335) rfl rfl rfl rfl ?_
  refine l_con (p' := 2336) rfl rfl rfl ?_
  refine l_bz (p' := 2337) (z := (nI 1)) rfl rfl rfl rfl rfl (by decide +kernel) ?_
  refine l_ialz (p' := 2338) (m := 1) (z := (nI p)) rfl rfl (by decide +kernel) rfl hx1 rfl ?_
  refine l_alds (p' := 2339) rfl rfl rfl rfl ?_
  refine l_ild (p' := 2341) rfl rfl rfl rfl ?_
  refine l_con (p' := 2342) rfl rfl rfl ?_
  refine l_bz (p' := 2343) (z := (nI 2)) rfl rfl rfl rfl rfl (by decide +kernel) ?_
  refine l_ialz (p' := 2344) (m := 2) (z := (nI q)) rfl rfl (by decide +kernel) rfl hx2 rfl ?_
  refine l_call (p' := 2347) (kc := 99) (ls0 := [_, _, _, _]) rfl rfl rfl rfl rfl rfl (mj_rcv_is (rd_sn rfl ((hb1.2.2 400 (by decide) (by decide) (by decide)).trans (rd_sn rfl (rd_sn rfl (rd_app (rd_sn rfl (rd_app (rd_app H400))))))))) rfl rfl rfl ?_
  refine s_aldn (p' := 1) rfl rfl rfl ?_
  refine s_ildn (p' := 2) rfl rfl rfl ?_
  refine s_con (p' := 3) rfl rfl ?_
  refine s_bip (p' := 5) rfl rfl ?_
  refine c_call (p' := 8) (kc := 98) (ls0 := [_, _, _]) rfl rfl rfl rfl rfl rfl rfl rfl rfl ?_
  refine s_ildn (p' := 1) rfl rfl rfl ?_
  refine s_ildn (p' := 2) rfl rfl rfl ?_
  refine s_icmp (p' := 5) false rfl ((ch_gt (w := 1) (by decide +kernel)).trans (decide_eq_false (by rw [mI_ti (by omega)]; omega))) rfl ?_
  refine s_ildn (p' := 6) rfl rfl rfl ?_
  refine s_ildn (p' := 7) rfl rfl rfl ?_
  refine s_icmp (p' := 10) false rfl ((cg_gt (w := 10) (by decide +kernel)).trans (decide_eq_false (by rw [mI_ti (by omega)]; omega))) rfl ?_
  refine s_con (p' := 11) rfl rfl ?_
  refine s_goto (p' := 15) rfl rfl ?_
  refine c_iret rfl (by decide +kernel) ?_
  refine s_if (p' := 11) false rfl (by decide +kernel) rfl ?_
  refine s_ildn (p' := 12) rfl rfl rfl ?_
  refine s_con (p' := 13) rfl rfl ?_
  refine s_bip (p' := 15) rfl rfl ?_
  refine c_call (p' := 18) (kc := 98) (ls0 := [_, _, _]) rfl rfl rfl rfl rfl rfl rfl rfl rfl ?_
  refine s_ildn (p' := 1) rfl rfl rfl ?_
  refine s_ildn (p' := 2) rfl rfl rfl ?_
  refine s_icmp (p' := 5) false rfl ((ch_gt (w := 1) (by decide +kernel)).trans (decide_eq_false (by rw [mI_ti (by omega)]; omega))) rfl ?_
  refine s_ildn (p' := 6) rfl rfl rfl ?_
  refine s_ildn (p' := 7) rfl rfl rfl ?_
  refine s_icmp (p' := 10) false rfl ((cg_gt (w := 10) (by decide +kernel)).trans (decide_eq_false (by rw [mI_ti (by omega)]; omega))) rfl ?_
  refine s_con (p' := 11) rfl rfl ?_
  refine s_goto (p' := 15) rfl rfl ?_
  refine c_iret rfl (by decide +kernel) ?_
  refine s_if (p' := 21) false rfl (by decide +kernel) rfl ?_
  refine s_con (p' := 22) rfl rfl ?_
  refine s_goto (p' := 26) rfl rfl ?_
  refine c_call (p' := 29) (kc := 98) (ls0 := [_, _]) rfl rfl rfl rfl rfl (mj_rcv_is (rd_sn rfl ((hb1.2.2 400 (by decide) (by decide) (by decide)).trans (rd_sn rfl (rd_sn rfl (rd_app (rd_sn rfl (rd_app (rd_app H400))))))))) rfl rfl rfl ?_
  refine s_aldn (p' := 1) rfl rfl rfl ?_
  refine s_ildn (p' := 2) rfl rfl rfl ?_
  refine s_pfz (p' := 5) (fs' := [_, _, _, _, _, _, _, _, _, _, _]) rfl rfl (rd_sn rfl ((hb1.2.2 400 (by decide) (by decide) (by decide)).trans (rd_sn rfl (rd_sn rfl (rd_app (rd_sn rfl (rd_app (rd_app H400)))))))) rfl rfl rfl rfl ?_
  refine s_ildn (p' := 6) rfl rfl rfl ?_
  refine s_if (p' := 13) true rfl (by decide +kernel) rfl ?_
  refine s_con (p' := 14) rfl rfl ?_
  refine c_iret rfl (by decide +kernel) ?_
  refine s_if (p' := 34) true rfl (by decide +kernel) rfl ?_
  refine s_ildn (p' := 35) rfl rfl rfl ?_
  refine s_ildn (p' := 36) rfl rfl rfl ?_
  refine s_callEV (p' := 39) (ls0 := [_, _, _, _, _, _, _, _, _, _]) rfl rfl rfl rfl rfl rfl rfl (y_mov (n := 417) (len_s (len_s (hb1.1.trans (len_s (len_s (len_a (len_s (len_a (len_a HL rfl) rfl)) rfl)))))) (by decide) hp1 hp) rfl rfl ?_
  rintro v2 g2 ⟨rfl, hl2, hz2, he2⟩
  have h2p2 := pb_2 hp
  rw [show pbE (pbR p q) = nI d from by rw [hR]; rfl]
  refine s_istn (p' := 40) (ls' := [_, _, _, _]) rfl rfl rfl rfl ?_
  refine s_aldn (p' := 41) rfl rfl rfl ?_
  refine s_ildn (p' := 42) rfl rfl rfl ?_
  refine s_con (p' := 43) rfl rfl ?_
  refine s_icmp (p' := 50) true rfl ((cg_ne (w := -1) (by decide +kernel)).trans (decide_eq_true (by rw [mI_ti (by omega)]; omega))) rfl ?_
  refine s_con (p' := 51) rfl rfl ?_
  refine c_call (p' := 54) (kc := 98) (ls0 := [_, _]) rfl rfl rfl rfl rfl (mj_rcv_is (he2 _ _ (rd_ss rfl (rd_sn rfl ((hb1.2.2 400 (by decide) (by decide) (by decide)).trans (rd_sn rfl (rd_sn rfl (rd_app (rd_sn rfl (rd_app (rd_app H400))))))))))) rfl rfl rfl ?_
  refine s_aldn (p' := 1) rfl rfl rfl ?_
  refine s_ildn (p' := 2) rfl rfl rfl ?_
  refine s_pfz (p' := 5) (fs' := [_, _, _, _, _, _, _, _, _, _, _]) rfl rfl (he2 _ _ (rd_ss rfl (rd_sn rfl ((hb1.2.2 400 (by decide) (by decide) (by decide)).trans (rd_sn rfl (rd_sn rfl (rd_app (rd_sn rfl (rd_app (rd_app H400)))))))))) rfl rfl rfl rfl ?_
  refine s_ildn (p' := 6) rfl rfl rfl ?_
  refine s_if (p' := 13) true rfl (by decide +kernel) rfl ?_
  refine s_con (p' := 14) rfl rfl ?_
  refine c_iret rfl (by decide +kernel) ?_
  refine s_if (p' := 61) true rfl (by decide +kernel) rfl ?_
  refine s_ildn (p' := 62) rfl rfl rfl ?_
  refine k_iret rfl rfl ?_
  refine l_ist (p' := 2349) (ls' := [_, _, _, _, _, _, _, _, _, _]) rfl rfl rfl rfl rfl ?_
  refine l_aldn (p' := 2350) rfl rfl rfl rfl ?_
  refine l_call (p' := 2353) (kc := 99) (ls0 := [_]) rfl rfl rfl rfl rfl rfl (mj_rcv_is (rd_ss rfl (he2 _ _ (rd_ss rfl (rd_sn rfl ((hb1.2.2 400 (by decide) (by decide) (by decide)).trans (rd_sn rfl (rd_sn rfl (rd_app (rd_sn rfl (rd_app (rd_app H400)))))))))))) rfl rfl rfl ?_
  refine s_aldn (p' := 1) rfl rfl rfl ?_
  refine s_gf (p' := 4) rfl (rd_ss rfl (he2 _ _ (rd_ss rfl (rd_sn rfl ((hb1.2.2 400 (by decide) (by decide) (by decide)).trans (rd_sn rfl (rd_sn rfl (rd_app (rd_sn rfl (rd_app (rd_app H400))))))))))) rfl rfl ?_
  refine k_iret rfl rfl ?_
  refine l_ild (p' := 2355) rfl rfl rfl rfl ?_
  refine l_icmp (p' := 2360) true rfl rfl (by decide +kernel) rfl ?_
  refine l_ild (p' := 2362) rfl rfl rfl rfl ?_
  refine l_if (p' := 2365) false rfl rfl (by decide +kernel) rfl ?_
  refine l_aldn (p' := 2366) rfl rfl rfl rfl ?_
  refine l_con (p' := 2367) rfl rfl rfl ?_
  refine l_lalz (p' := 2368) (m := 0) (v := (Int32.toInt64 (nI d))) rfl rfl (rd_sn rfl (he2 _ _ (rd_sn rfl (rd_ss rfl ((hb1.2.2 412 (by decide) (by decide) (by decide)).trans (rd_sn rfl (rd_sn rfl (rd_app (rd_sn rfl (rd_app (rd_app H412))))))))))) (by decide +kernel) rfl rfl rfl ?_
  refine l_ild (p' := 2370) rfl rfl rfl rfl ?_
  refine l_bzL (p' := 2371) (z := (Int32.toInt64 (nI d))) rfl rfl rfl rfl rfl rfl ?_
  refine l_bz (p' := 2372) (z := nI 0) rfl rfl rfl rfl rfl (lcmp_self _) ?_
  refine l_if (p' := 2377) true rfl rfl (by decide +kernel) rfl ?_
  refine l_goto (p' := 2541) rfl rfl rfl ?_
  refine l_incz (p' := 2544) (w := (nI 4)) (ls' := [_, _, _, _, _, _, _, _, _, _]) rfl rfl rfl rfl (by decide +kernel) rfl rfl ?_
  refine l_goto (p' := 28) rfl rfl rfl ?_
  refine l_ild (p' := 30) rfl rfl rfl rfl ?_
  refine l_alds (p' := 31) rfl rfl rfl rfl ?_
  refine l_lens (p' := 32) rfl rfl rfl ?_
  refine l_con (p' := 33) rfl rfl rfl ?_
  refine l_bz (p' := 34) (z := (nI 0)) rfl rfl rfl rfl rfl (by decide +kernel) ?_
  refine l_icmp (p' := 2547) true rfl rfl (by decide +kernel) rfl ?_
  refine l_con (p' := 2548) rfl rfl rfl ?_
  refine l_end rfl rfl ?_
  exact ⟨Nat.le_trans (Nat.le_of_eq (len_s (len_b hl2 (len_s (len_s (hb1.1.trans (len_s (len_s (len_a (len_s (len_a (len_a HL rfl) rfl)) rfl)))))) rfl))) (Nat.le_of_ble_eq_true rfl), Nat.le_trans (sz_s rfl (he2 _ _ (rd_ss rfl (rd_sn rfl ((hb1.2.2 400 (by decide) (by decide) (by decide)).trans (rd_sn rfl (rd_sn rfl (rd_app (rd_sn rfl (rd_app (rd_app H400)))))))))) rfl (sz_b (K := 2048) (Nat.le_of_eq hz2) (by omega) (sz_s rfl (rd_sn rfl ((hb1.2.2 400 (by decide) (by decide) (by decide)).trans (rd_sn rfl (rd_sn rfl (rd_app (rd_sn rfl (rd_app (rd_app H400)))))))) rfl (sz_sA rfl ((hb1.2.2 412 (by decide) (by decide) (by decide)).trans (rd_sn rfl (rd_sn rfl (rd_app (rd_sn rfl (rd_app (rd_app H412))))))) (Nat.le_trans (Nat.le_of_eq hb1.2.1) (sz_s rfl (rd_sn rfl (rd_app (rd_sn rfl (rd_app (rd_app H0))))) rfl (sz_s rfl (rd_app (rd_ss rfl (rd_app (rd_nw rfl HL)))) rfl (sz_aa (k := 1024) (m := 22051) rfl rfl (sz_s rfl (rd_app (rd_nw rfl HL)) rfl (sz_aa (k := 1024) (m := 21027) rfl rfl (sz_aa (k := 3) (m := 20003) rfl rfl HZ))))))))) rfl)) (Nat.le_of_ble_eq_true rfl)⟩
theorem p1_44_z {xs : Nat → Int32} {h : mj_H} {p q : Nat} (hp1 : 1 ≤ p) (hp : p ≤ 10) (hq1 : 1 ≤ q) (hq : q ≤ 10) (hk : xs 0 &&& nI 63 = nI 44) (hx1 : xs 1 = nI p) (hx2 : xs 2 = nI q) (hR : pbR p q = none) (HL : h.length = 414) (HZ : mj_sz h ≤ 20000) (H0 : mj_rd h 0 = some (.inr (0, [.ref 1, .ref 38, .ref 299, .ref 336, .ref 373, .ref 375, .ref 378, .ref 381, .ref 387, .ref 393, .null, .null, .ref 397, .ref 398, .ref 399, .long (lN 0), .long (lN 0)]))) (H400 : mj_rd h 400 = some (.inr (17, [.int (nI 0), .ref 401, .ref 402, .ref 1000300, .long (lN 0), .long (lN 0), .ref 410, .null, .null, .null, .ref 411]))) : mj_fin 4 xs h := by
  unfold mj_fin
  refine l_ild (p' := 30) rfl rfl rfl rfl ?_
  refine l_alds (p' := 31) rfl rfl rfl rfl ?_
  refine l_lens (p' := 32) rfl rfl rfl ?_
  refine l_con (p' := 33) rfl rfl rfl ?_
  refine l_bz (p' := 34) (z := (nI 0)) rfl rfl rfl rfl rfl (by decide +kernel) ?_
  refine l_icmp (p' := 37) false rfl rfl (by decide +kernel) rfl ?_
  refine l_alds (p' := 38) rfl rfl rfl rfl ?_
  refine l_ild (p' := 40) rfl rfl rfl rfl ?_
  refine l_ialz (p' := 41) (m := 0) (z := (xs 0)) rfl rfl (by decide +kernel) rfl rfl rfl ?_
  refine l_bip (p' := 43) rfl rfl rfl ?_
  refine l_bz (p' := 44) (z := (nI 44)) rfl rfl rfl rfl rfl hk ?_
  refine l_sp (p' := 2312) (ls' := _) rfl rfl rfl rfl rfl ?_
  refine l_aldn (p' := 2313) rfl rfl rfl rfl ?_
  refine l_alds (p' := 2314) rfl rfl rfl rfl ?_
  refine l_ild (p' := 2316) rfl rfl rfl rfl ?_
  refine l_con (p' := 2317) rfl rfl rfl ?_
  refine l_bz (p' := 2318) (z := (nI 1)) rfl rfl rfl rfl rfl (by decide +kernel) ?_
  refine l_ialz (p' := 2319) (m := 1) (z := (nI p)) rfl rfl (by decide +kernel) rfl hx1 rfl ?_
  refine l_alds (p' := 2320) rfl rfl rfl rfl ?_
  refine l_ild (p' := 2322) rfl rfl rfl rfl ?_
  refine l_con (p' := 2323) rfl rfl rfl ?_
  refine l_bz (p' := 2324) (z := (nI 2)) rfl rfl rfl rfl rfl (by decide +kernel) ?_
  refine l_ialz (p' := 2325) (m := 2) (z := (nI q)) rfl rfl (by decide +kernel) rfl hx2 rfl ?_
  refine l_aldn (p' := 2326) rfl rfl rfl rfl ?_
  refine l_call (p' := 2329) (kc := 99) (ls0 := [_, _, _, _, _]) rfl rfl rfl rfl rfl rfl rfl rfl rfl rfl ?_
  refine s_aldn (p' := 1) rfl rfl rfl ?_
  refine s_con (p' := 2) rfl rfl ?_
  refine s_aldn (p' := 3) rfl rfl rfl ?_
  refine s_ildn (p' := 4) rfl rfl rfl ?_
  refine s_ildn (p' := 5) rfl rfl rfl ?_
  refine c_call (p' := 8) (kc := 98) (ls0 := [_, _, _, _]) rfl rfl rfl rfl rfl (mj_rcv_is H0) rfl rfl rfl ?_
  refine s_ildn (p' := 1) rfl rfl rfl ?_
  refine s_con (p' := 2) rfl rfl ?_
  refine s_icmp (p' := 5) false rfl ((cg_lt (w := 1) (by decide +kernel)).trans (decide_eq_false (by rw [mI_ti (by omega)]; omega))) rfl ?_
  refine s_ildn (p' := 6) rfl rfl rfl ?_
  refine s_bip (p' := 8) rfl rfl ?_
  refine s_icmp (p' := 11) false rfl ((cg_gt (w := 10) (by decide +kernel)).trans (decide_eq_false (by rw [mI_ti (by omega)]; omega))) rfl ?_
  refine s_ildn (p' := 12) rfl rfl rfl ?_
  refine s_con (p' := 13) rfl rfl ?_
  refine s_icmp (p' := 16) false rfl ((cg_lt (w := 1) (by decide +kernel)).trans (decide_eq_false (by rw [mI_ti (by omega)]; omega))) rfl ?_
  refine s_ildn (p' := 17) rfl rfl rfl ?_
  refine s_bip (p' := 19) rfl rfl ?_
  refine s_icmp (p' := 33) true rfl ((cg_le (w := 10) (by decide +kernel)).trans (decide_eq_true (by rw [mI_ti (by omega)]; omega))) rfl ?_
  refine s_aldn (p' := 34) rfl rfl rfl ?_
  refine s_ildn (p' := 35) rfl rfl rfl ?_
  refine s_ildn (p' := 36) rfl rfl rfl ?_
  refine c_call (p' := 39) (kc := 97) (ls0 := [_, _, _]) rfl rfl rfl rfl rfl (mj_rcv_is H0) rfl rfl rfl ?_
  refine s_aldn (p' := 1) rfl rfl rfl ?_
  refine s_gf (p' := 4) rfl H0 rfl rfl ?_
  refine s_nonnull (p' := 7) (x := none) false rfl rfl rfl ?_
  refine s_aldn (p' := 8) rfl rfl rfl ?_
  refine s_newz (p' := 11) (a := 414) rfl HL rfl rfl ?_
  refine s_dupr (p' := 12) rfl rfl ?_
  refine c_call (p' := 15) (kc := 96) (ls0 := [_]) rfl rfl rfl rfl rfl (mj_rcv_is (rd_nw rfl HL)) rfl rfl rfl ?_
  refine s_aldn (p' := 1) rfl rfl rfl ?_
  refine s_primN (p' := 4) (q := 3) rfl rfl rfl rfl rfl rfl rfl rfl ?_
  refine s_aldn (p' := 5) rfl rfl rfl ?_
  refine s_sip (p' := 8) rfl rfl ?_
  refine s_naz (p' := 10) (a := 415) (n := 1024) rfl (len_a HL rfl) rfl rfl ?_
  refine s_pfz (p' := 13) (fs' := [_, _, _]) rfl rfl (rd_app (rd_nw rfl HL)) rfl rfl rfl rfl ?_
  refine s_aldn (p' := 14) rfl rfl rfl ?_
  refine s_sip (p' := 17) rfl rfl ?_
  refine s_naz (p' := 19) (a := 416) (n := 1024) rfl (len_s (len_a (len_a HL rfl) rfl)) rfl rfl ?_
  refine s_pfz (p' := 22) (fs' := [_, _, _]) rfl rfl (rd_app (rd_ss rfl (rd_app (rd_nw rfl HL)))) rfl rfl rfl rfl ?_
  refine c_ret rfl ?_
  refine s_pfz (p' := 18) (fs' := [_, _, _, _, _, _, _, _, _, _, _, _, _, _, _, _, _]) rfl rfl (rd_sn rfl (rd_app (rd_sn rfl (rd_app (rd_app H0))))) rfl rfl rfl rfl ?_
  refine s_aldn (p' := 19) rfl rfl rfl ?_
  refine s_gf (p' := 22) rfl (rd_ss rfl (rd_sn rfl (rd_app (rd_sn rfl (rd_app (rd_app H0)))))) rfl rfl ?_
  refine s_ildn (p' := 23) rfl rfl rfl ?_
  refine s_ildn (p' := 24) rfl rfl rfl ?_
  refine s_callEV (p' := 27) (ls0 := [_, _, _, _, _, _, _]) rfl rfl rfl rfl rfl (mj_rcv_is (rd_sn rfl (rd_ss rfl (rd_app (rd_ss rfl (rd_app (rd_nw rfl HL))))))) rfl (x_few (P := 414) (M := 415) (W := 416) (by decide) (by decide) (by decide) (rd_sn rfl (rd_ss rfl (rd_app (rd_ss rfl (rd_app (rd_nw rfl HL)))))) (rd_sn rfl (rd_sn rfl (rd_app (rd_sn rfl (rd_nw rfl (len_a HL rfl)))))) (rd_sn rfl (rd_sn rfl (rd_nw rfl (len_s (len_a (len_a HL rfl) rfl))))) (by decide) (by decide) (by decide) hp1 hp) rfl rfl ?_
  rintro v3 g3 ⟨rfl, hb3, s3, hs3⟩
  rw [show pbE (pbR p q) = nI 4294967295 from by rw [hR]; rfl]
  refine c_iret rfl rfl ?_
  refine s_istn (p' := 40) (ls' := [_, _, _, _]) rfl rfl rfl rfl ?_
  refine s_ildn (p' := 41) rfl rfl rfl ?_
  refine s_if (p' := 44) false rfl (by decide +kernel) rfl ?_
  refine s_thrz (q := 417) rfl (hb3.1.trans (len_s (len_s (len_a (len_s (len_a (len_a HL rfl) rfl)) rfl)))) rfl ?_
  refine K_c (hp := 17) rfl (mj_ocl_is (rd_nw rfl (hb3.1.trans (len_s (len_s (len_a (len_s (len_a (len_a HL rfl) rfl)) rfl)))))) rfl ?_
  refine s_ast (p' := 19) (ls' := [_, _, _, _, _]) rfl rfl rfl rfl ?_
  refine s_con (p' := 20) rfl rfl ?_
  refine k_iret rfl rfl ?_
  refine l_ist (p' := 2331) (ls' := [_, _, _, _, _, _, _, _, _, _]) rfl rfl rfl rfl rfl ?_
  refine l_aldn (p' := 2332) rfl rfl rfl rfl ?_
  refine l_alds (p' := 2333) rfl rfl rfl rfl ?_
  refine l_ild (p' := 2335) rfl rfl rfl rfl ?_
  refine l_con (p' := 2336) rfl rfl rfl ?_
  refine l_bz (p' := 2337) (z := (nI 1)) rfl rfl rfl rfl rfl (by decide +kernel) ?_
  refine l_ialz (p' := 2338) (m := 1) (z := (nI p)) rfl rfl (by decide +kernel) rfl hx1 rfl ?_
  refine l_alds (p' := 2339) rfl rfl rfl rfl ?_
  refine l_ild (p' := 2341) rfl rfl rfl rfl ?_
  refine l_con (p' := 2342) rfl rfl rfl ?_
  refine l_bz (p' := 2343) (z := (nI 2)) rfl rfl rfl rfl rfl (by decide +kernel) ?_
  refine l_ialz (p' := 2344) (m := 2) (z := (nI q)) rfl rfl (by decide +kernel) rfl hx2 rfl ?_
  refine l_call (p' := 2347) (kc := 99) (ls0 := [_, _, _, _]) rfl rfl rfl rfl rfl rfl (mj_rcv_is (rd_app ((hb3.2.2 400 (by decide) (by decide) (by decide)).trans (rd_sn rfl (rd_sn rfl (rd_app (rd_sn rfl (rd_app (rd_app H400))))))))) rfl rfl rfl ?_
  refine s_aldn (p' := 1) rfl rfl rfl ?_
  refine s_ildn (p' := 2) rfl rfl rfl ?_
  refine s_con (p' := 3) rfl rfl ?_
  refine s_bip (p' := 5) rfl rfl ?_
  refine c_call (p' := 8) (kc := 98) (ls0 := [_, _, _]) rfl rfl rfl rfl rfl rfl rfl rfl rfl ?_
  refine s_ildn (p' := 1) rfl rfl rfl ?_
  refine s_ildn (p' := 2) rfl rfl rfl ?_
  refine s_icmp (p' := 5) false rfl ((ch_gt (w := 1) (by decide +kernel)).trans (decide_eq_false (by rw [mI_ti (by omega)]; omega))) rfl ?_
  refine s_ildn (p' := 6) rfl rfl rfl ?_
  refine s_ildn (p' := 7) rfl rfl rfl ?_
  refine s_icmp (p' := 10) false rfl ((cg_gt (w := 10) (by decide +kernel)).trans (decide_eq_false (by rw [mI_ti (by omega)]; omega))) rfl ?_
  refine s_con (p' := 11) rfl rfl ?_
  refine s_goto (p' := 15) rfl rfl ?_
  refine c_iret rfl (by decide +kernel) ?_
  refine s_if (p' := 11) false rfl (by decide +kernel) rfl ?_
  refine s_ildn (p' := 12) rfl rfl rfl ?_
  refine s_con (p' := 13) rfl rfl ?_
  refine s_bip (p' := 15) rfl rfl ?_
  refine c_call (p' := 18) (kc := 98) (ls0 := [_, _, _]) rfl rfl rfl rfl rfl rfl rfl rfl rfl ?_
  refine s_ildn (p' := 1) rfl rfl rfl ?_
  refine s_ildn (p' := 2) rfl rfl rfl ?_
  refine s_icmp (p' := 5) false rfl ((ch_gt (w := 1) (by decide +kernel)).trans (decide_eq_false (by rw [mI_ti (by omega)]; omega))) rfl ?_
  refine s_ildn (p' := 6) rfl rfl rfl ?_
  refine s_ildn (p' := 7) rfl rfl rfl ?_
  refine s_icmp (p' := 10) false rfl ((cg_gt (w := 10) (by decide +kernel)).trans (decide_eq_false (by rw [mI_ti (by omega)]; omega))) rfl ?_
  refine s_con (p' := 11) rfl rfl ?_
  refine s_goto (p' := 15) rfl rfl ?_
  refine c_iret rfl (by decide +kernel) ?_
  refine s_if (p' := 21) false rfl (by decide +kernel) rfl ?_
  refine s_con (p' := 22) rfl rfl ?_
  refine s_goto (p' := 26) rfl rfl ?_
  refine c_call (p' := 29) (kc := 98) (ls0 := [_, _]) rfl rfl rfl rfl rfl (mj_rcv_is (rd_app ((hb3.2.2 400 (by decide) (by decide) (by decide)).trans (rd_sn rfl (rd_sn rfl (rd_app (rd_sn rfl (rd_app (rd_app H400))))))))) rfl rfl rfl ?_
  refine s_aldn (p' := 1) rfl rfl rfl ?_
  refine s_ildn (p' := 2) rfl rfl rfl ?_
  refine s_pfz (p' := 5) (fs' := [_, _, _, _, _, _, _, _, _, _, _]) rfl rfl (rd_app ((hb3.2.2 400 (by decide) (by decide) (by decide)).trans (rd_sn rfl (rd_sn rfl (rd_app (rd_sn rfl (rd_app (rd_app H400)))))))) rfl rfl rfl rfl ?_
  refine s_ildn (p' := 6) rfl rfl rfl ?_
  refine s_if (p' := 13) true rfl (by decide +kernel) rfl ?_
  refine s_con (p' := 14) rfl rfl ?_
  refine c_iret rfl (by decide +kernel) ?_
  refine s_if (p' := 34) true rfl (by decide +kernel) rfl ?_
  refine s_ildn (p' := 35) rfl rfl rfl ?_
  refine s_ildn (p' := 36) rfl rfl rfl ?_
  refine s_callEV (p' := 39) (ls0 := [_, _, _, _, _, _, _, _, _, _]) rfl rfl rfl rfl rfl rfl rfl (y_mov (n := 418) (len_s (len_a (hb3.1.trans (len_s (len_s (len_a (len_s (len_a (len_a HL rfl) rfl)) rfl)))) rfl)) (by decide) hp1 hp) rfl rfl ?_
  rintro v4 g4 ⟨rfl, hl4, hz4, he4⟩
  have h2p4 := pb_2 hp
  rw [show pbE (pbR p q) = nI 4294967295 from by rw [hR]; rfl]
  refine s_istn (p' := 40) (ls' := [_, _, _, _]) rfl rfl rfl rfl ?_
  refine s_aldn (p' := 41) rfl rfl rfl ?_
  refine s_ildn (p' := 42) rfl rfl rfl ?_
  refine s_con (p' := 43) rfl rfl ?_
  refine s_icmp (p' := 46) false rfl (by decide +kernel) rfl ?_
  refine s_con (p' := 47) rfl rfl ?_
  refine s_goto (p' := 51) rfl rfl ?_
  refine c_call (p' := 54) (kc := 98) (ls0 := [_, _]) rfl rfl rfl rfl rfl (mj_rcv_is (he4 _ _ (rd_ss rfl (rd_app ((hb3.2.2 400 (by decide) (by decide) (by decide)).trans (rd_sn rfl (rd_sn rfl (rd_app (rd_sn rfl (rd_app (rd_app H400))))))))))) rfl rfl rfl ?_
  refine s_aldn (p' := 1) rfl rfl rfl ?_
  refine s_ildn (p' := 2) rfl rfl rfl ?_
  refine s_pfz (p' := 5) (fs' := [_, _, _, _, _, _, _, _, _, _, _]) rfl rfl (he4 _ _ (rd_ss rfl (rd_app ((hb3.2.2 400 (by decide) (by decide) (by decide)).trans (rd_sn rfl (rd_sn rfl (rd_app (rd_sn rfl (rd_app (rd_app H400)))))))))) rfl rfl rfl rfl ?_
  refine s_ildn (p' := 6) rfl rfl rfl ?_
  refine s_if (p' := 9) false rfl (by decide +kernel) rfl ?_
  refine s_con (p' := 10) rfl rfl ?_
  refine s_goto (p' := 14) rfl rfl ?_
  refine c_iret rfl (by decide +kernel) ?_
  refine s_if (p' := 57) false rfl (by decide +kernel) rfl ?_
  refine s_con (p' := 58) rfl rfl ?_
  refine s_goto (p' := 62) rfl rfl ?_
  refine k_iret rfl rfl ?_
  refine l_ist (p' := 2349) (ls' := [_, _, _, _, _, _, _, _, _, _]) rfl rfl rfl rfl rfl ?_
  refine l_aldn (p' := 2350) rfl rfl rfl rfl ?_
  refine l_call (p' := 2353) (kc := 99) (ls0 := [_]) rfl rfl rfl rfl rfl rfl (mj_rcv_is (rd_ss rfl (he4 _ _ (rd_ss rfl (rd_app ((hb3.2.2 400 (by decide) (by decide) (by decide)).trans (rd_sn rfl (rd_sn rfl (rd_app (rd_sn rfl (rd_app (rd_app H400)))))))))))) rfl rfl rfl ?_
  refine s_aldn (p' := 1) rfl rfl rfl ?_
  refine s_gf (p' := 4) rfl (rd_ss rfl (he4 _ _ (rd_ss rfl (rd_app ((hb3.2.2 400 (by decide) (by decide) (by decide)).trans (rd_sn rfl (rd_sn rfl (rd_app (rd_sn rfl (rd_app (rd_app H400))))))))))) rfl rfl ?_
  refine k_iret rfl rfl ?_
  refine l_ild (p' := 2355) rfl rfl rfl rfl ?_
  refine l_icmp (p' := 2360) true rfl rfl (by decide +kernel) rfl ?_
  refine l_ild (p' := 2362) rfl rfl rfl rfl ?_
  refine l_if (p' := 2377) true rfl rfl (by decide +kernel) rfl ?_
  refine l_goto (p' := 2541) rfl rfl rfl ?_
  refine l_incz (p' := 2544) (w := (nI 4)) (ls' := [_, _, _, _, _, _, _, _, _, _]) rfl rfl rfl rfl (by decide +kernel) rfl rfl ?_
  refine l_goto (p' := 28) rfl rfl rfl ?_
  refine l_ild (p' := 30) rfl rfl rfl rfl ?_
  refine l_alds (p' := 31) rfl rfl rfl rfl ?_
  refine l_lens (p' := 32) rfl rfl rfl ?_
  refine l_con (p' := 33) rfl rfl rfl ?_
  refine l_bz (p' := 34) (z := (nI 0)) rfl rfl rfl rfl rfl (by decide +kernel) ?_
  refine l_icmp (p' := 2547) true rfl rfl (by decide +kernel) rfl ?_
  refine l_con (p' := 2548) rfl rfl rfl ?_
  refine l_end rfl rfl ?_
  exact ⟨Nat.le_trans (Nat.le_of_eq (len_s (len_b hl4 (len_s (len_a (hb3.1.trans (len_s (len_s (len_a (len_s (len_a (len_a HL rfl) rfl)) rfl)))) rfl)) rfl))) (Nat.le_of_ble_eq_true rfl), Nat.le_trans (sz_s rfl (he4 _ _ (rd_ss rfl (rd_app ((hb3.2.2 400 (by decide) (by decide) (by decide)).trans (rd_sn rfl (rd_sn rfl (rd_app (rd_sn rfl (rd_app (rd_app H400)))))))))) rfl (sz_b (K := 2048) (Nat.le_of_eq hz4) (by omega) (sz_s rfl (rd_app ((hb3.2.2 400 (by decide) (by decide) (by decide)).trans (rd_sn rfl (rd_sn rfl (rd_app (rd_sn rfl (rd_app (rd_app H400)))))))) rfl (sz_aa (k := 6) (m := 22057) rfl rfl (Nat.le_trans (Nat.le_of_eq hb3.2.1) (sz_s rfl (rd_sn rfl (rd_app (rd_sn rfl (rd_app (rd_app H0))))) rfl (sz_s rfl (rd_app (rd_ss rfl (rd_app (rd_nw rfl HL)))) rfl (sz_aa (k := 1024) (m := 22051) rfl rfl (sz_s rfl (rd_app (rd_nw rfl HL)) rfl (sz_aa (k := 1024) (m := 21027) rfl rfl (sz_aa (k := 3) (m := 20003) rfl rfl HZ))))))))) rfl)) (Nat.le_of_ble_eq_true rfl)⟩
theorem p1_45_1 {xs : Nat → Int32} {h : mj_H}  (hk : xs 0 &&& nI 63 = nI 45) (hx1 : xs 1 = nI 1) {d : Nat} (hd : d < 1024) (hR : pbR 1 1 = some d) (HL : h.length = 414) (HZ : mj_sz h ≤ 20000) (H0 : mj_rd h 0 = some (.inr (0, [.ref 1, .ref 38, .ref 299, .ref 336, .ref 373, .ref 375, .ref 378, .ref 381, .ref 387, .ref 393, .null, .null, .ref 397, .ref 398, .ref 399, .long (lN 0), .long (lN 0)]))) (H400 : mj_rd h 400 = some (.inr (17, [.int (nI 0), .ref 401, .ref 402, .ref 1000300, .long (lN 0), .long (lN 0), .ref 410, .null, .null, .null, .ref 411]))) (H412 : mj_rd h 412 = some (.inl (4, (1, .inr (.inl (fun _ => 0)))))) : mj_fin 4 xs h := by
  unfold mj_fin
  refine l_ild (p' := 30) rfl rfl rfl rfl ?_
  refine l_alds (p' := 31) rfl rfl rfl rfl ?_
  refine l_lens (p' := 32) rfl rfl rfl ?_
  refine l_con (p' := 33) rfl rfl rfl ?_
  refine l_bz (p' := 34) (z := (nI 0)) rfl rfl rfl rfl rfl (by decide +kernel) ?_
  refine l_icmp (p' := 37) false rfl rfl (by decide +kernel) rfl ?_
  refine l_alds (p' := 38) rfl rfl rfl rfl ?_
  refine l_ild (p' := 40) rfl rfl rfl rfl ?_
  refine l_ialz (p' := 41) (m := 0) (z := (xs 0)) rfl rfl (by decide +kernel) rfl rfl rfl ?_
  refine l_bip (p' := 43) rfl rfl rfl ?_
  refine l_bz (p' := 44) (z := (nI 45)) rfl rfl rfl rfl rfl hk ?_
  refine l_sp (p' := 2380) (ls' := _) rfl rfl rfl rfl rfl ?_
  refine l_aldn (p' := 2381) rfl rfl rfl rfl ?_
  refine l_alds (p' := 2382) rfl rfl rfl rfl ?_
  refine l_ild (p' := 2384) rfl rfl rfl rfl ?_
  refine l_con (p' := 2385) rfl rfl rfl ?_
  refine l_bz (p' := 2386) (z := (nI 1)) rfl rfl rfl rfl rfl (by decide +kernel) ?_
  refine l_ialz (p' := 2387) (m := 1) (z := (nI 1)) rfl rfl (by decide +kernel) rfl hx1 rfl ?_
  refine l_aldn (p' := 2388) rfl rfl rfl rfl ?_
  refine l_call (p' := 2391) (kc := 99) (ls0 := [_, _, _, _]) rfl rfl rfl rfl rfl rfl rfl rfl rfl rfl ?_
  refine s_aldn (p' := 1) rfl rfl rfl ?_
  refine s_con (p' := 2) rfl rfl ?_
  refine s_aldn (p' := 3) rfl rfl rfl ?_
  refine s_ildn (p' := 4) rfl rfl rfl ?_
  refine c_call (p' := 7) (kc := 98) (ls0 := [_, _, _]) rfl rfl rfl rfl rfl (mj_rcv_is H0) rfl rfl rfl ?_
  refine s_ildn (p' := 1) rfl rfl rfl ?_
  refine s_con (p' := 2) rfl rfl ?_
  refine s_icmp (p' := 5) false rfl (by decide +kernel) rfl ?_
  refine s_ildn (p' := 6) rfl rfl rfl ?_
  refine s_bip (p' := 8) rfl rfl ?_
  refine s_icmp (p' := 22) true rfl (by decide +kernel) rfl ?_
  refine s_con (p' := 23) rfl rfl ?_
  refine s_istn (p' := 24) (ls' := [_, _, _]) rfl rfl rfl rfl ?_
  refine s_ildn (p' := 25) rfl rfl rfl ?_
  refine s_ildn (p' := 26) rfl rfl rfl ?_
  refine s_icmp (p' := 44) true rfl (by decide +kernel) rfl ?_
  refine s_ildn (p' := 45) rfl rfl rfl ?_
  refine c_iret rfl rfl ?_
  refine s_bzL (p' := 8) (z := (lN 1)) rfl rfl rfl (by decide +kernel) ?_
  refine s_lasz (p' := 9) (m := 0) rfl rfl H412 (by decide +kernel) rfl rfl rfl ?_
  refine s_goto (p' := 15) rfl rfl ?_
  refine s_con (p' := 16) rfl rfl ?_
  refine k_iret rfl rfl ?_
  refine l_ist (p' := 2393) (ls' := [_, _, _, _, _, _, _, _, _, _]) rfl rfl rfl rfl rfl ?_
  refine l_aldn (p' := 2394) rfl rfl rfl rfl ?_
  refine l_alds (p' := 2395) rfl rfl rfl rfl ?_
  refine l_ild (p' := 2397) rfl rfl rfl rfl ?_
  refine l_con (p' := 2398) rfl rfl rfl ?_
  refine l_bz (p' := 2399) (z := (nI 1)) rfl rfl rfl rfl rfl (by decide +kernel) ?_
  refine l_ialz (p' := 2400) (m := 1) (z := (nI 1)) rfl rfl (by decide +kernel) rfl hx1 rfl ?_
  refine l_call (p' := 2403) (kc := 99) (ls0 := [_, _, _]) rfl rfl rfl rfl rfl rfl (mj_rcv_is (rd_sn rfl H400)) rfl rfl rfl ?_
  refine s_aldn (p' := 1) rfl rfl rfl ?_
  refine s_ildn (p' := 2) rfl rfl rfl ?_
  refine s_con (p' := 3) rfl rfl ?_
  refine s_bip (p' := 5) rfl rfl ?_
  refine c_call (p' := 8) (kc := 98) (ls0 := [_, _, _]) rfl rfl rfl rfl rfl rfl rfl rfl rfl ?_
  refine s_ildn (p' := 1) rfl rfl rfl ?_
  refine s_ildn (p' := 2) rfl rfl rfl ?_
  refine s_icmp (p' := 5) false rfl (by decide +kernel) rfl ?_
  refine s_ildn (p' := 6) rfl rfl rfl ?_
  refine s_ildn (p' := 7) rfl rfl rfl ?_
  refine s_icmp (p' := 10) false rfl (by decide +kernel) rfl ?_
  refine s_con (p' := 11) rfl rfl ?_
  refine s_goto (p' := 15) rfl rfl ?_
  refine c_iret rfl (by decide +kernel) ?_
  refine s_if (p' := 11) false rfl (by decide +kernel) rfl ?_
  refine s_con (p' := 12) rfl rfl ?_
  refine s_goto (p' := 16) rfl rfl ?_
  refine c_call (p' := 19) (kc := 98) (ls0 := [_, _]) rfl rfl rfl rfl rfl (mj_rcv_is (rd_sn rfl H400)) rfl rfl rfl ?_
  refine s_aldn (p' := 1) rfl rfl rfl ?_
  refine s_ildn (p' := 2) rfl rfl rfl ?_
  refine s_pfz (p' := 5) (fs' := [_, _, _, _, _, _, _, _, _, _, _]) rfl rfl (rd_sn rfl H400) rfl rfl rfl rfl ?_
  refine s_ildn (p' := 6) rfl rfl rfl ?_
  refine s_if (p' := 13) true rfl (by decide +kernel) rfl ?_
  refine s_con (p' := 14) rfl rfl ?_
  refine c_iret rfl (by decide +kernel) ?_
  refine s_if (p' := 24) true rfl (by decide +kernel) rfl ?_
  refine s_con (p' := 25) rfl rfl ?_
  refine s_istn (p' := 26) (ls' := [_, _, _]) rfl rfl rfl rfl ?_
  refine s_ildn (p' := 27) rfl rfl rfl ?_
  refine s_ildn (p' := 28) rfl rfl rfl ?_
  refine s_callEV (p' := 31) (ls0 := [_, _, _, _, _, _, _, _, _, _]) rfl rfl rfl rfl rfl rfl rfl (y_mov (n := 414) (len_s (len_s HL)) (by decide) (show 1 ≤ 1 by decide) (show 1 ≤ 10 by decide)) rfl rfl ?_
  rintro v5 g5 ⟨rfl, hl5, hz5, he5⟩
  have h2p5 := pb_2 (show 1 ≤ 10 by decide)
  rw [show pbE (pbR 1 1) = nI d from by rw [hR]; rfl]
  refine s_con (p' := 32) rfl rfl ?_
  refine s_icmp (p' := 41) true rfl ((cg_ne (w := -1) (by decide +kernel)).trans (decide_eq_true (by rw [mI_ti (by omega)]; omega))) rfl ?_
  refine s_ildn (p' := 42) rfl rfl rfl ?_
  refine k_iret rfl rfl ?_
  refine l_ist (p' := 2405) (ls' := [_, _, _, _, _, _, _, _, _, _]) rfl rfl rfl rfl rfl ?_
  refine l_aldn (p' := 2406) rfl rfl rfl rfl ?_
  refine l_call (p' := 2409) (kc := 99) (ls0 := [_]) rfl rfl rfl rfl rfl rfl (mj_rcv_is (he5 _ _ (rd_ss rfl (rd_sn rfl H400)))) rfl rfl rfl ?_
  refine s_aldn (p' := 1) rfl rfl rfl ?_
  refine s_gf (p' := 4) rfl (he5 _ _ (rd_ss rfl (rd_sn rfl H400))) rfl rfl ?_
  refine k_iret rfl rfl ?_
  refine l_ild (p' := 2411) rfl rfl rfl rfl ?_
  refine l_icmp (p' := 2416) true rfl rfl (by decide +kernel) rfl ?_
  refine l_ild (p' := 2418) rfl rfl rfl rfl ?_
  refine l_if (p' := 2421) false rfl rfl (by decide +kernel) rfl ?_
  refine l_aldn (p' := 2422) rfl rfl rfl rfl ?_
  refine l_con (p' := 2423) rfl rfl rfl ?_
  refine l_lalz (p' := 2424) (m := 0) (v := (lN 1)) rfl rfl (he5 _ _ (rd_sn rfl (rd_ss rfl H412))) (by decide +kernel) rfl (by decide +kernel) rfl ?_
  refine l_ild (p' := 2426) rfl rfl rfl rfl ?_
  refine l_bzL (p' := 2427) (z := (lN 1)) rfl rfl rfl rfl rfl (by decide +kernel) ?_
  refine l_bz (p' := 2428) (z := (nI 0)) rfl rfl rfl rfl rfl (by decide +kernel) ?_
  refine l_if (p' := 2433) true rfl rfl (by decide +kernel) rfl ?_
  refine l_goto (p' := 2541) rfl rfl rfl ?_
  refine l_incz (p' := 2544) (w := (nI 4)) (ls' := [_, _, _, _, _, _, _, _, _, _]) rfl rfl rfl rfl (by decide +kernel) rfl rfl ?_
  refine l_goto (p' := 28) rfl rfl rfl ?_
  refine l_ild (p' := 30) rfl rfl rfl rfl ?_
  refine l_alds (p' := 31) rfl rfl rfl rfl ?_
  refine l_lens (p' := 32) rfl rfl rfl ?_
  refine l_con (p' := 33) rfl rfl rfl ?_
  refine l_bz (p' := 34) (z := (nI 0)) rfl rfl rfl rfl rfl (by decide +kernel) ?_
  refine l_icmp (p' := 2547) true rfl rfl (by decide +kernel) rfl ?_
  refine l_con (p' := 2548) rfl rfl rfl ?_
  refine l_end rfl rfl ?_
  exact ⟨Nat.le_trans (Nat.le_of_eq (len_b hl5 (len_s (len_s HL)) rfl)) (Nat.le_of_ble_eq_true rfl), Nat.le_trans (sz_b (K := 2048) (Nat.le_of_eq hz5) (by omega) (sz_s rfl (rd_sn rfl H400) rfl (sz_sA rfl H412 HZ)) rfl) (Nat.le_of_ble_eq_true rfl)⟩
theorem p1_45_s {xs : Nat → Int32} {h : mj_H} {p : Nat} (hp1 : 1 ≤ p) (hp : p ≤ 10) (hp2 : 2 ≤ p) (hk : xs 0 &&& nI 63 = nI 45) (hx1 : xs 1 = nI p) {d : Nat} (hd : d < 1024) (hR : pbR p 1 = some d) (HL : h.length = 414) (HZ : mj_sz h ≤ 20000) (H0 : mj_rd h 0 = some (.inr (0, [.ref 1, .ref 38, .ref 299, .ref 336, .ref 373, .ref 375, .ref 378, .ref 381, .ref 387, .ref 393, .null, .null, .ref 397, .ref 398, .ref 399, .long (lN 0), .long (lN 0)]))) (H400 : mj_rd h 400 = some (.inr (17, [.int (nI 0), .ref 401, .ref 402, .ref 1000300, .long (lN 0), .long (lN 0), .ref 410, .null, .null, .null, .ref 411]))) (H412 : mj_rd h 412 = some (.inl (4, (1, .inr (.inl (fun _ => 0)))))) : mj_fin 4 xs h := by
  unfold mj_fin
  refine l_ild (p' := 30) rfl rfl rfl rfl ?_
  refine l_alds (p' := 31) rfl rfl rfl rfl ?_
  refine l_lens (p' := 32) rfl rfl rfl ?_
  refine l_con (p' := 33) rfl rfl rfl ?_
  refine l_bz (p' := 34) (z := (nI 0)) rfl rfl rfl rfl rfl (by decide +kernel) ?_
  refine l_icmp (p' := 37) false rfl rfl (by decide +kernel) rfl ?_
  refine l_alds (p' := 38) rfl rfl rfl rfl ?_
  refine l_ild (p' := 40) rfl rfl rfl rfl ?_
  refine l_ialz (p' := 41) (m := 0) (z := (xs 0)) rfl rfl (by decide +kernel) rfl rfl rfl ?_
  refine l_bip (p' := 43) rfl rfl rfl ?_
  refine l_bz (p' := 44) (z := (nI 45)) rfl rfl rfl rfl rfl hk ?_
  refine l_sp (p' := 2380) (ls' := _) rfl rfl rfl rfl rfl ?_
  refine l_aldn (p' := 2381) rfl rfl rfl rfl ?_
  refine l_alds (p' := 2382) rfl rfl rfl rfl ?_
  refine l_ild (p' := 2384) rfl rfl rfl rfl ?_
  refine l_con (p' := 2385) rfl rfl rfl ?_
  refine l_bz (p' := 2386) (z := (nI 1)) rfl rfl rfl rfl rfl (by decide +kernel) ?_
  refine l_ialz (p' := 2387) (m := 1) (z := (nI p)) rfl rfl (by decide +kernel) rfl hx1 rfl ?_
  refine l_aldn (p' := 2388) rfl rfl rfl rfl ?_
  refine l_call (p' := 2391) (kc := 99) (ls0 := [_, _, _, _]) rfl rfl rfl rfl rfl rfl rfl rfl rfl rfl ?_
  refine s_aldn (p' := 1) rfl rfl rfl ?_
  refine s_con (p' := 2) rfl rfl ?_
  refine s_aldn (p' := 3) rfl rfl rfl ?_
  refine s_ildn (p' := 4) rfl rfl rfl ?_
  refine c_call (p' := 7) (kc := 98) (ls0 := [_, _, _]) rfl rfl rfl rfl rfl (mj_rcv_is H0) rfl rfl rfl ?_
  refine s_ildn (p' := 1) rfl rfl rfl ?_
  refine s_con (p' := 2) rfl rfl ?_
  refine s_icmp (p' := 5) false rfl ((cg_lt (w := 1) (by decide +kernel)).trans (decide_eq_false (by rw [mI_ti (by omega)]; omega))) rfl ?_
  refine s_ildn (p' := 6) rfl rfl rfl ?_
  refine s_bip (p' := 8) rfl rfl ?_
  refine s_icmp (p' := 22) true rfl ((cg_le (w := 10) (by decide +kernel)).trans (decide_eq_true (by rw [mI_ti (by omega)]; omega))) rfl ?_
  refine s_con (p' := 23) rfl rfl ?_
  refine s_istn (p' := 24) (ls' := [_, _, _]) rfl rfl rfl rfl ?_
  refine s_ildn (p' := 25) rfl rfl rfl ?_
  refine s_ildn (p' := 26) rfl rfl rfl ?_
  refine s_icmp (p' := 29) false rfl ((ch_ge (w := 1) (by decide +kernel)).trans (decide_eq_false (by rw [mI_ti (by omega)]; omega))) rfl ?_
  refine s_aldn (p' := 30) rfl rfl rfl ?_
  refine s_ildn (p' := 31) rfl rfl rfl ?_
  refine s_ildn (p' := 32) rfl rfl rfl ?_
  refine c_call (p' := 35) (kc := 97) (ls0 := [_, _, _]) rfl rfl rfl rfl rfl (mj_rcv_is H0) rfl rfl rfl ?_
  refine s_aldn (p' := 1) rfl rfl rfl ?_
  refine s_gf (p' := 4) rfl H0 rfl rfl ?_
  refine s_nonnull (p' := 7) (x := none) false rfl rfl rfl ?_
  refine s_aldn (p' := 8) rfl rfl rfl ?_
  refine s_newz (p' := 11) (a := 414) rfl HL rfl rfl ?_
  refine s_dupr (p' := 12) rfl rfl ?_
  refine c_call (p' := 15) (kc := 96) (ls0 := [_]) rfl rfl rfl rfl rfl (mj_rcv_is (rd_nw rfl HL)) rfl rfl rfl ?_
  refine s_aldn (p' := 1) rfl rfl rfl ?_
  refine s_primN (p' := 4) (q := 3) rfl rfl rfl rfl rfl rfl rfl rfl ?_
  refine s_aldn (p' := 5) rfl rfl rfl ?_
  refine s_sip (p' := 8) rfl rfl ?_
  refine s_naz (p' := 10) (a := 415) (n := 1024) rfl (len_a HL rfl) rfl rfl ?_
  refine s_pfz (p' := 13) (fs' := [_, _, _]) rfl rfl (rd_app (rd_nw rfl HL)) rfl rfl rfl rfl ?_
  refine s_aldn (p' := 14) rfl rfl rfl ?_
  refine s_sip (p' := 17) rfl rfl ?_
  refine s_naz (p' := 19) (a := 416) (n := 1024) rfl (len_s (len_a (len_a HL rfl) rfl)) rfl rfl ?_
  refine s_pfz (p' := 22) (fs' := [_, _, _]) rfl rfl (rd_app (rd_ss rfl (rd_app (rd_nw rfl HL)))) rfl rfl rfl rfl ?_
  refine c_ret rfl ?_
  refine s_pfz (p' := 18) (fs' := [_, _, _, _, _, _, _, _, _, _, _, _, _, _, _, _, _]) rfl rfl (rd_sn rfl (rd_app (rd_sn rfl (rd_app (rd_app H0))))) rfl rfl rfl rfl ?_
  refine s_aldn (p' := 19) rfl rfl rfl ?_
  refine s_gf (p' := 22) rfl (rd_ss rfl (rd_sn rfl (rd_app (rd_sn rfl (rd_app (rd_app H0)))))) rfl rfl ?_
  refine s_ildn (p' := 23) rfl rfl rfl ?_
  refine s_ildn (p' := 24) rfl rfl rfl ?_
  refine s_callEV (p' := 27) (ls0 := [_, _, _, _, _, _, _]) rfl rfl rfl rfl rfl (mj_rcv_is (rd_sn rfl (rd_ss rfl (rd_app (rd_ss rfl (rd_app (rd_nw rfl HL))))))) rfl (x_few (P := 414) (M := 415) (W := 416) (by decide) (by decide) (by decide) (rd_sn rfl (rd_ss rfl (rd_app (rd_ss rfl (rd_app (rd_nw rfl HL)))))) (rd_sn rfl (rd_sn rfl (rd_app (rd_sn rfl (rd_nw rfl (len_a HL rfl)))))) (rd_sn rfl (rd_sn rfl (rd_nw rfl (len_s (len_a (len_a HL rfl) rfl))))) (by decide) (by decide) (by decide) hp1 hp) rfl rfl ?_
  rintro v6 g6 ⟨rfl, hb6, s6, hs6⟩
  rw [show pbE (pbR p 1) = nI d from by rw [hR]; rfl]
  refine c_iret rfl rfl ?_
  refine s_if (p' := 44) true rfl ((cg_ge (w := 0) (by decide +kernel)).trans (decide_eq_true (by rw [mI_ti (by omega)]; omega))) rfl ?_
  refine s_ildn (p' := 45) rfl rfl rfl ?_
  refine c_iret rfl rfl ?_
  refine s_bzL (p' := 8) (z := (lN 1)) rfl rfl rfl (by decide +kernel) ?_
  refine s_lasz (p' := 9) (m := 0) rfl rfl ((hb6.2.2 412 (by decide) (by decide) (by decide)).trans (rd_sn rfl (rd_sn rfl (rd_app (rd_sn rfl (rd_app (rd_app H412))))))) (by decide +kernel) rfl rfl rfl ?_
  refine s_goto (p' := 15) rfl rfl ?_
  refine s_con (p' := 16) rfl rfl ?_
  refine k_iret rfl rfl ?_
  refine l_ist (p' := 2393) (ls' := [_, _, _, _, _, _, _, _, _, _]) rfl rfl rfl rfl rfl ?_
  refine l_aldn (p' := 2394) rfl rfl rfl rfl ?_
  refine l_alds (p' := 2395) rfl rfl rfl rfl ?_
  refine l_ild (p' := 2397) rfl rfl rfl rfl ?_
  refine l_con (p' := 2398) rfl rfl rfl ?_
  refine l_bz (p' := 2399) (z := (nI 1)) rfl rfl rfl rfl rfl (by decide +kernel) ?_
  refine l_ialz (p' := 2400) (m := 1) (z := (nI p)) rfl rfl (by decide +kernel) rfl hx1 rfl ?_
  refine l_call (p' := 2403) (kc := 99) (ls0 := [_, _, _]) rfl rfl rfl rfl rfl rfl (mj_rcv_is (rd_sn rfl ((hb6.2.2 400 (by decide) (by decide) (by decide)).trans (rd_sn rfl (rd_sn rfl (rd_app (rd_sn rfl (rd_app (rd_app H400))))))))) rfl rfl rfl ?_
  refine s_aldn (p' := 1) rfl rfl rfl ?_
  refine s_ildn (p' := 2) rfl rfl rfl ?_
  refine s_con (p' := 3) rfl rfl ?_
  refine s_bip (p' := 5) rfl rfl ?_
  refine c_call (p' := 8) (kc := 98) (ls0 := [_, _, _]) rfl rfl rfl rfl rfl rfl rfl rfl rfl ?_
  refine s_ildn (p' := 1) rfl rfl rfl ?_
  refine s_ildn (p' := 2) rfl rfl rfl ?_
  refine s_icmp (p' := 5) false rfl ((ch_gt (w := 1) (by decide +kernel)).trans (decide_eq_false (by rw [mI_ti (by omega)]; omega))) rfl ?_
  refine s_ildn (p' := 6) rfl rfl rfl ?_
  refine s_ildn (p' := 7) rfl rfl rfl ?_
  refine s_icmp (p' := 10) false rfl ((cg_gt (w := 10) (by decide +kernel)).trans (decide_eq_false (by rw [mI_ti (by omega)]; omega))) rfl ?_
  refine s_con (p' := 11) rfl rfl ?_
  refine s_goto (p' := 15) rfl rfl ?_
  refine c_iret rfl (by decide +kernel) ?_
  refine s_if (p' := 11) false rfl (by decide +kernel) rfl ?_
  refine s_con (p' := 12) rfl rfl ?_
  refine s_goto (p' := 16) rfl rfl ?_
  refine c_call (p' := 19) (kc := 98) (ls0 := [_, _]) rfl rfl rfl rfl rfl (mj_rcv_is (rd_sn rfl ((hb6.2.2 400 (by decide) (by decide) (by decide)).trans (rd_sn rfl (rd_sn rfl (rd_app (rd_sn rfl (rd_app (rd_app H400))))))))) rfl rfl rfl ?_
  refine s_aldn (p' := 1) rfl rfl rfl ?_
  refine s_ildn (p' := 2) rfl rfl rfl ?_
  refine s_pfz (p' := 5) (fs' := [_, _, _, _, _, _, _, _, _, _, _]) rfl rfl (rd_sn rfl ((hb6.2.2 400 (by decide) (by decide) (by decide)).trans (rd_sn rfl (rd_sn rfl (rd_app (rd_sn rfl (rd_app (rd_app H400)))))))) rfl rfl rfl rfl ?_
  refine s_ildn (p' := 6) rfl rfl rfl ?_
  refine s_if (p' := 13) true rfl (by decide +kernel) rfl ?_
  refine s_con (p' := 14) rfl rfl ?_
  refine c_iret rfl (by decide +kernel) ?_
  refine s_if (p' := 24) true rfl (by decide +kernel) rfl ?_
  refine s_con (p' := 25) rfl rfl ?_
  refine s_istn (p' := 26) (ls' := [_, _, _]) rfl rfl rfl rfl ?_
  refine s_ildn (p' := 27) rfl rfl rfl ?_
  refine s_ildn (p' := 28) rfl rfl rfl ?_
  refine s_callEV (p' := 31) (ls0 := [_, _, _, _, _, _, _, _, _, _]) rfl rfl rfl rfl rfl rfl rfl (y_mov (n := 417) (len_s (len_s (hb6.1.trans (len_s (len_s (len_a (len_s (len_a (len_a HL rfl) rfl)) rfl)))))) (by decide) hp1 hp) rfl rfl ?_
  rintro v7 g7 ⟨rfl, hl7, hz7, he7⟩
  have h2p7 := pb_2 hp
  rw [show pbE (pbR p 1) = nI d from by rw [hR]; rfl]
  refine s_con (p' := 32) rfl rfl ?_
  refine s_icmp (p' := 41) true rfl ((cg_ne (w := -1) (by decide +kernel)).trans (decide_eq_true (by rw [mI_ti (by omega)]; omega))) rfl ?_
  refine s_ildn (p' := 42) rfl rfl rfl ?_
  refine k_iret rfl rfl ?_
  refine l_ist (p' := 2405) (ls' := [_, _, _, _, _, _, _, _, _, _]) rfl rfl rfl rfl rfl ?_
  refine l_aldn (p' := 2406) rfl rfl rfl rfl ?_
  refine l_call (p' := 2409) (kc := 99) (ls0 := [_]) rfl rfl rfl rfl rfl rfl (mj_rcv_is (he7 _ _ (rd_ss rfl (rd_sn rfl ((hb6.2.2 400 (by decide) (by decide) (by decide)).trans (rd_sn rfl (rd_sn rfl (rd_app (rd_sn rfl (rd_app (rd_app H400))))))))))) rfl rfl rfl ?_
  refine s_aldn (p' := 1) rfl rfl rfl ?_
  refine s_gf (p' := 4) rfl (he7 _ _ (rd_ss rfl (rd_sn rfl ((hb6.2.2 400 (by decide) (by decide) (by decide)).trans (rd_sn rfl (rd_sn rfl (rd_app (rd_sn rfl (rd_app (rd_app H400)))))))))) rfl rfl ?_
  refine k_iret rfl rfl ?_
  refine l_ild (p' := 2411) rfl rfl rfl rfl ?_
  refine l_icmp (p' := 2416) true rfl rfl (by decide +kernel) rfl ?_
  refine l_ild (p' := 2418) rfl rfl rfl rfl ?_
  refine l_if (p' := 2421) false rfl rfl (by decide +kernel) rfl ?_
  refine l_aldn (p' := 2422) rfl rfl rfl rfl ?_
  refine l_con (p' := 2423) rfl rfl rfl ?_
  refine l_lalz (p' := 2424) (m := 0) (v := (lN 1)) rfl rfl (he7 _ _ (rd_sn rfl (rd_ss rfl ((hb6.2.2 412 (by decide) (by decide) (by decide)).trans (rd_sn rfl (rd_sn rfl (rd_app (rd_sn rfl (rd_app (rd_app H412)))))))))) (by decide +kernel) rfl (by decide +kernel) rfl ?_
  refine l_ild (p' := 2426) rfl rfl rfl rfl ?_
  refine l_bzL (p' := 2427) (z := (lN 1)) rfl rfl rfl rfl rfl (by decide +kernel) ?_
  refine l_bz (p' := 2428) (z := (nI 0)) rfl rfl rfl rfl rfl (by decide +kernel) ?_
  refine l_if (p' := 2433) true rfl rfl (by decide +kernel) rfl ?_
  refine l_goto (p' := 2541) rfl rfl rfl ?_
  refine l_incz (p' := 2544) (w := (nI 4)) (ls' := [_, _, _, _, _, _, _, _, _, _]) rfl rfl rfl rfl (by decide +kernel) rfl rfl ?_
  refine l_goto (p' := 28) rfl rfl rfl ?_
  refine l_ild (p' := 30) rfl rfl rfl rfl ?_
  refine l_alds (p' := 31) rfl rfl rfl rfl ?_
  refine l_lens (p' := 32) rfl rfl rfl ?_
  refine l_con (p' := 33) rfl rfl rfl ?_
  refine l_bz (p' := 34) (z := (nI 0)) rfl rfl rfl rfl rfl (by decide +kernel) ?_
  refine l_icmp (p' := 2547) true rfl rfl (by decide +kernel) rfl ?_
  refine l_con (p' := 2548) rfl rfl rfl ?_
  refine l_end rfl rfl ?_
  exact ⟨Nat.le_trans (Nat.le_of_eq (len_b hl7 (len_s (len_s (hb6.1.trans (len_s (len_s (len_a (len_s (len_a (len_a HL rfl) rfl)) rfl)))))) rfl)) (Nat.le_of_ble_eq_true rfl), Nat.le_trans (sz_b (K := 2048) (Nat.le_of_eq hz7) (by omega) (sz_s rfl (rd_sn rfl ((hb6.2.2 400 (by decide) (by decide) (by decide)).trans (rd_sn rfl (rd_sn rfl (rd_app (rd_sn rfl (rd_app (rd_app H400)))))))) rfl (sz_sA rfl ((hb6.2.2 412 (by decide) (by decide) (by decide)).trans (rd_sn rfl (rd_sn rfl (rd_app (rd_sn rfl (rd_app (rd_app H412))))))) (Nat.le_trans (Nat.le_of_eq hb6.2.1) (sz_s rfl (rd_sn rfl (rd_app (rd_sn rfl (rd_app (rd_app H0))))) rfl (sz_s rfl (rd_app (rd_ss rfl (rd_app (rd_nw rfl HL)))) rfl (sz_aa (k := 1024) (m := 22051) rfl rfl (sz_s rfl (rd_app (rd_nw rfl HL)) rfl (sz_aa (k := 1024) (m := 21027) rfl rfl (sz_aa (k := 3) (m := 20003) rfl rfl HZ))))))))) rfl) (Nat.le_of_ble_eq_true rfl)⟩
theorem p1_45_z {xs : Nat → Int32} {h : mj_H} {p : Nat} (hp1 : 1 ≤ p) (hp : p ≤ 10) (hp2 : 2 ≤ p) (hk : xs 0 &&& nI 63 = nI 45) (hx1 : xs 1 = nI p) (hR : pbR p 1 = none) (HL : h.length = 414) (HZ : mj_sz h ≤ 20000) (H0 : mj_rd h 0 = some (.inr (0, [.ref 1, .ref 38, .ref 299, .ref 336, .ref 373, .ref 375, .ref 378, .ref 381, .ref 387, .ref 393, .null, .null, .ref 397, .ref 398, .ref 399, .long (lN 0), .long (lN 0)]))) (H400 : mj_rd h 400 = some (.inr (17, [.int (nI 0), .ref 401, .ref 402, .ref 1000300, .long (lN 0), .long (lN 0), .ref 410, .null, .null, .null, .ref 411]))) (H412 : mj_rd h 412 = some (.inl (4, (1, .inr (.inl (fun _ => 0)))))) : mj_fin 4 xs h := by
  unfold mj_fin
  refine l_ild (p' := 30) rfl rfl rfl rfl ?_
  refine l_alds (p' := 31) rfl rfl rfl rfl ?_
  refine l_lens (p' := 32) rfl rfl rfl ?_
  refine l_con (p' := 33) rfl rfl rfl ?_
  refine l_bz (p' := 34) (z := (nI 0)) rfl rfl rfl rfl rfl (by decide +kernel) ?_
  refine l_icmp (p' := 37) false rfl rfl (by decide +kernel) rfl ?_
  refine l_alds (p' := 38) rfl rfl rfl rfl ?_
  refine l_ild (p' := 40) rfl rfl rfl rfl ?_
  refine l_ialz (p' := 41) (m := 0) (z := (xs 0)) rfl rfl (by decide +kernel) rfl rfl rfl ?_
  refine l_bip (p' := 43) rfl rfl rfl ?_
  refine l_bz (p' := 44) (z := (nI 45)) rfl rfl rfl rfl rfl hk ?_
  refine l_sp (p' := 2380) (ls' := _) rfl rfl rfl rfl rfl ?_
  refine l_aldn (p' := 2381) rfl rfl rfl rfl ?_
  refine l_alds (p' := 2382) rfl rfl rfl rfl ?_
  refine l_ild (p' := 2384) rfl rfl rfl rfl ?_
  refine l_con (p' := 2385) rfl rfl rfl ?_
  refine l_bz (p' := 2386) (z := (nI 1)) rfl rfl rfl rfl rfl (by decide +kernel) ?_
  refine l_ialz (p' := 2387) (m := 1) (z := (nI p)) rfl rfl (by decide +kernel) rfl hx1 rfl ?_
  refine l_aldn (p' := 2388) rfl rfl rfl rfl ?_
  refine l_call (p' := 2391) (kc := 99) (ls0 := [_, _, _, _]) rfl rfl rfl rfl rfl rfl rfl rfl rfl rfl ?_
  refine s_aldn (p' := 1) rfl rfl rfl ?_
  refine s_con (p' := 2) rfl rfl ?_
  refine s_aldn (p' := 3) rfl rfl rfl ?_
  refine s_ildn (p' := 4) rfl rfl rfl ?_
  refine c_call (p' := 7) (kc := 98) (ls0 := [_, _, _]) rfl rfl rfl rfl rfl (mj_rcv_is H0) rfl rfl rfl ?_
  refine s_ildn (p' := 1) rfl rfl rfl ?_
  refine s_con (p' := 2) rfl rfl ?_
  refine s_icmp (p' := 5) false rfl ((cg_lt (w := 1) (by decide +kernel)).trans (decide_eq_false (by rw [mI_ti (by omega)]; omega))) rfl ?_
  refine s_ildn (p' := 6) rfl rfl rfl ?_
  refine s_bip (p' := 8) rfl rfl ?_
  refine s_icmp (p' := 22) true rfl ((cg_le (w := 10) (by decide +kernel)).trans (decide_eq_true (by rw [mI_ti (by omega)]; omega))) rfl ?_
  refine s_con (p' := 23) rfl rfl ?_
  refine s_istn (p' := 24) (ls' := [_, _, _]) rfl rfl rfl rfl ?_
  refine s_ildn (p' := 25) rfl rfl rfl ?_
  refine s_ildn (p' := 26) rfl rfl rfl ?_
  refine s_icmp (p' := 29) false rfl ((ch_ge (w := 1) (by decide +kernel)).trans (decide_eq_false (by rw [mI_ti (by omega)]; omega))) rfl ?_
  refine s_aldn (p' := 30) rfl rfl rfl ?_
  refine s_ildn (p' := 31) rfl rfl rfl ?_
  refine s_ildn (p' := 32) rfl rfl rfl ?_
  refine c_call (p' := 35) (kc := 97) (ls0 := [_, _, _]) rfl rfl rfl rfl rfl (mj_rcv_is H0) rfl rfl rfl ?_
  refine s_aldn (p' := 1) rfl rfl rfl ?_
  refine s_gf (p' := 4) rfl H0 rfl rfl ?_
  refine s_nonnull (p' := 7) (x := none) false rfl rfl rfl ?_
  refine s_aldn (p' := 8) rfl rfl rfl ?_
  refine s_newz (p' := 11) (a := 414) rfl HL rfl rfl ?_
  refine s_dupr (p' := 12) rfl rfl ?_
  refine c_call (p' := 15) (kc := 96) (ls0 := [_]) rfl rfl rfl rfl rfl (mj_rcv_is (rd_nw rfl HL)) rfl rfl rfl ?_
  refine s_aldn (p' := 1) rfl rfl rfl ?_
  refine s_primN (p' := 4) (q := 3) rfl rfl rfl rfl rfl rfl rfl rfl ?_
  refine s_aldn (p' := 5) rfl rfl rfl ?_
  refine s_sip (p' := 8) rfl rfl ?_
  refine s_naz (p' := 10) (a := 415) (n := 1024) rfl (len_a HL rfl) rfl rfl ?_
  refine s_pfz (p' := 13) (fs' := [_, _, _]) rfl rfl (rd_app (rd_nw rfl HL)) rfl rfl rfl rfl ?_
  refine s_aldn (p' := 14) rfl rfl rfl ?_
  refine s_sip (p' := 17) rfl rfl ?_
  refine s_naz (p' := 19) (a := 416) (n := 1024) rfl (len_s (len_a (len_a HL rfl) rfl)) rfl rfl ?_
  refine s_pfz (p' := 22) (fs' := [_, _, _]) rfl rfl (rd_app (rd_ss rfl (rd_app (rd_nw rfl HL)))) rfl rfl rfl rfl ?_
  refine c_ret rfl ?_
  refine s_pfz (p' := 18) (fs' := [_, _, _, _, _, _, _, _, _, _, _, _, _, _, _, _, _]) rfl rfl (rd_sn rfl (rd_app (rd_sn rfl (rd_app (rd_app H0))))) rfl rfl rfl rfl ?_
  refine s_aldn (p' := 19) rfl rfl rfl ?_
  refine s_gf (p' := 22) rfl (rd_ss rfl (rd_sn rfl (rd_app (rd_sn rfl (rd_app (rd_app H0)))))) rfl rfl ?_
  refine s_ildn (p' := 23) rfl rfl rfl ?_
  refine s_ildn (p' := 24) rfl rfl rfl ?_
  refine s_callEV (p' := 27) (ls0 := [_, _, _, _, _, _, _]) rfl rfl rfl rfl rfl (mj_rcv_is (rd_sn rfl (rd_ss rfl (rd_app (rd_ss rfl (rd_app (rd_nw rfl HL))))))) rfl (x_few (P := 414) (M := 415) (W := 416) (by decide) (by decide) (by decide) (rd_sn rfl (rd_ss rfl (rd_app (rd_ss rfl (rd_app (rd_nw rfl HL)))))) (rd_sn rfl (rd_sn rfl (rd_app (rd_sn rfl (rd_nw rfl (len_a HL rfl)))))) (rd_sn rfl (rd_sn rfl (rd_nw rfl (len_s (len_a (len_a HL rfl) rfl))))) (by decide) (by decide) (by decide) hp1 hp) rfl rfl ?_
  rintro v8 g8 ⟨rfl, hb8, s8, hs8⟩
  rw [show pbE (pbR p 1) = nI 4294967295 from by rw [hR]; rfl]
  refine c_iret rfl rfl ?_
  refine s_if (p' := 38) false rfl (by decide +kernel) rfl ?_
  refine s_incz (p' := 41) (w := (nI 2)) (ls' := [_, _, _]) rfl rfl rfl (by decide +kernel) rfl rfl ?_
  refine s_goto (p' := 24) rfl rfl ?_
  refine mj_Wp.mono (k := 5) ?_ (by decide)
  refine x_fpL (x := 0) (P := 414) (M := 415) (W := 416) (by decide) (by decide) (by decide) (by decide) (by decide) (by decide) (by decide) (by decide) (by decide) hp1 hp (p - 2) 2 _ (by omega) ((hb8.2.2 0 (by decide) (by decide) (by decide)).trans (rd_ss rfl (rd_sn rfl (rd_app (rd_sn rfl (rd_app (rd_app H0))))))) (pbX_of hs8) (fun gx hbx hbxx => ?_)
  refine s_ildn (p' := 45) rfl rfl rfl ?_
  refine c_iret rfl rfl ?_
  refine s_bzL (p' := 8) (z := (Int32.toInt64 (nI (pbC p (p - 2) 2)))) rfl rfl rfl rfl ?_
  refine s_lasz (p' := 9) (m := 0) rfl rfl ((hbx.2.2 412 (by decide) (by decide) (by decide)).trans ((hb8.2.2 412 (by decide) (by decide) (by decide)).trans (rd_sn rfl (rd_sn rfl (rd_app (rd_sn rfl (rd_app (rd_app H412)))))))) (by decide +kernel) rfl rfl rfl ?_
  refine s_goto (p' := 15) rfl rfl ?_
  refine s_con (p' := 16) rfl rfl ?_
  refine k_iret rfl rfl ?_
  refine l_ist (p' := 2393) (ls' := [_, _, _, _, _, _, _, _, _, _]) rfl rfl rfl rfl rfl ?_
  refine l_aldn (p' := 2394) rfl rfl rfl rfl ?_
  refine l_alds (p' := 2395) rfl rfl rfl rfl ?_
  refine l_ild (p' := 2397) rfl rfl rfl rfl ?_
  refine l_con (p' := 2398) rfl rfl rfl ?_
  refine l_bz (p' := 2399) (z := (nI 1)) rfl rfl rfl rfl rfl (by decide +kernel) ?_
  refine l_ialz (p' := 2400) (m := 1) (z := (nI p)) rfl rfl (by decide +kernel) rfl hx1 rfl ?_
  refine l_call (p' := 2403) (kc := 99) (ls0 := [_, _, _]) rfl rfl rfl rfl rfl rfl (mj_rcv_is (rd_sn rfl ((hbx.2.2 400 (by decide) (by decide) (by decide)).trans ((hb8.2.2 400 (by decide) (by decide) (by decide)).trans (rd_sn rfl (rd_sn rfl (rd_app (rd_sn rfl (rd_app (rd_app H400)))))))))) rfl rfl rfl ?_
  refine s_aldn (p' := 1) rfl rfl rfl ?_
  refine s_ildn (p' := 2) rfl rfl rfl ?_
  refine s_con (p' := 3) rfl rfl ?_
  refine s_bip (p' := 5) rfl rfl ?_
  refine c_call (p' := 8) (kc := 98) (ls0 := [_, _, _]) rfl rfl rfl rfl rfl rfl rfl rfl rfl ?_
  refine s_ildn (p' := 1) rfl rfl rfl ?_
  refine s_ildn (p' := 2) rfl rfl rfl ?_
  refine s_icmp (p' := 5) false rfl ((ch_gt (w := 1) (by decide +kernel)).trans (decide_eq_false (by rw [mI_ti (by omega)]; omega))) rfl ?_
  refine s_ildn (p' := 6) rfl rfl rfl ?_
  refine s_ildn (p' := 7) rfl rfl rfl ?_
  refine s_icmp (p' := 10) false rfl ((cg_gt (w := 10) (by decide +kernel)).trans (decide_eq_false (by rw [mI_ti (by omega)]; omega))) rfl ?_
  refine s_con (p' := 11) rfl rfl ?_
  refine s_goto (p' := 15) rfl rfl ?_
  refine c_iret rfl (by decide +kernel) ?_
  refine s_if (p' := 11) false rfl (by decide +kernel) rfl ?_
  refine s_con (p' := 12) rfl rfl ?_
  refine s_goto (p' := 16) rfl rfl ?_
  refine c_call (p' := 19) (kc := 98) (ls0 := [_, _]) rfl rfl rfl rfl rfl (mj_rcv_is (rd_sn rfl ((hbx.2.2 400 (by decide) (by decide) (by decide)).trans ((hb8.2.2 400 (by decide) (by decide) (by decide)).trans (rd_sn rfl (rd_sn rfl (rd_app (rd_sn rfl (rd_app (rd_app H400)))))))))) rfl rfl rfl ?_
  refine s_aldn (p' := 1) rfl rfl rfl ?_
  refine s_ildn (p' := 2) rfl rfl rfl ?_
  refine s_pfz (p' := 5) (fs' := [_, _, _, _, _, _, _, _, _, _, _]) rfl rfl (rd_sn rfl ((hbx.2.2 400 (by decide) (by decide) (by decide)).trans ((hb8.2.2 400 (by decide) (by decide) (by decide)).trans (rd_sn rfl (rd_sn rfl (rd_app (rd_sn rfl (rd_app (rd_app H400))))))))) rfl rfl rfl rfl ?_
  refine s_ildn (p' := 6) rfl rfl rfl ?_
  refine s_if (p' := 13) true rfl (by decide +kernel) rfl ?_
  refine s_con (p' := 14) rfl rfl ?_
  refine c_iret rfl (by decide +kernel) ?_
  refine s_if (p' := 24) true rfl (by decide +kernel) rfl ?_
  refine s_con (p' := 25) rfl rfl ?_
  refine s_istn (p' := 26) (ls' := [_, _, _]) rfl rfl rfl rfl ?_
  refine s_ildn (p' := 27) rfl rfl rfl ?_
  refine s_ildn (p' := 28) rfl rfl rfl ?_
  refine s_callEV (p' := 31) (ls0 := [_, _, _, _, _, _, _, _, _, _]) rfl rfl rfl rfl rfl rfl rfl (y_mov (n := 417) (len_s (len_s (hbx.1.trans (hb8.1.trans (len_s (len_s (len_a (len_s (len_a (len_a HL rfl) rfl)) rfl))))))) (by decide) hp1 hp) rfl rfl ?_
  rintro v9 g9 ⟨rfl, hl9, hz9, he9⟩
  have h2p9 := pb_2 hp
  rw [show pbE (pbR p 1) = nI 4294967295 from by rw [hR]; rfl]
  refine s_con (p' := 32) rfl rfl ?_
  refine s_icmp (p' := 35) false rfl (by decide +kernel) rfl ?_
  refine s_incz (p' := 38) (w := (nI 2)) (ls' := [_, _, _]) rfl rfl rfl (by decide +kernel) rfl rfl ?_
  refine s_goto (p' := 26) rfl rfl ?_
  refine mj_Wp.mono (k := 5) ?_ (by decide)
  refine y_fpL (x := 400) hp1 hp (p - 2) 2 _ (by omega) (by omega) (by rw [(len_b hl9 (len_s (len_s (hbx.1.trans (hb8.1.trans (len_s (len_s (len_a (len_s (len_a (len_a HL rfl) rfl)) rfl))))))) rfl)]; have hcb : mj_CB = 1000000 := rfl; omega) (fun gy ey1 ey2 ey3 => ?_)
  refine s_ildn (p' := 42) rfl rfl rfl ?_
  refine k_iret rfl rfl ?_
  refine l_ist (p' := 2405) (ls' := [_, _, _, _, _, _, _, _, _, _]) rfl rfl rfl rfl rfl ?_
  refine l_aldn (p' := 2406) rfl rfl rfl rfl ?_
  refine l_call (p' := 2409) (kc := 99) (ls0 := [_]) rfl rfl rfl rfl rfl rfl (mj_rcv_is (ey1 _ _ (he9 _ _ (rd_ss rfl (rd_sn rfl ((hbx.2.2 400 (by decide) (by decide) (by decide)).trans ((hb8.2.2 400 (by decide) (by decide) (by decide)).trans (rd_sn rfl (rd_sn rfl (rd_app (rd_sn rfl (rd_app (rd_app H400))))))))))))) rfl rfl rfl ?_
  refine s_aldn (p' := 1) rfl rfl rfl ?_
  refine s_gf (p' := 4) rfl (ey1 _ _ (he9 _ _ (rd_ss rfl (rd_sn rfl ((hbx.2.2 400 (by decide) (by decide) (by decide)).trans ((hb8.2.2 400 (by decide) (by decide) (by decide)).trans (rd_sn rfl (rd_sn rfl (rd_app (rd_sn rfl (rd_app (rd_app H400)))))))))))) rfl rfl ?_
  refine k_iret rfl rfl ?_
  refine l_ild (p' := 2411) rfl rfl rfl rfl ?_
  refine l_icmp (p' := 2416) true rfl rfl (by decide +kernel) rfl ?_
  refine l_ild (p' := 2418) rfl rfl rfl rfl ?_
  refine l_if (p' := 2421) false rfl rfl (by decide +kernel) rfl ?_
  refine l_aldn (p' := 2422) rfl rfl rfl rfl ?_
  refine l_con (p' := 2423) rfl rfl rfl ?_
  refine l_lalz (p' := 2424) (m := 0) (v := (Int32.toInt64 (nI (pbC p (p - 2) 2)))) rfl rfl (ey1 _ _ (he9 _ _ (rd_sn rfl (rd_ss rfl ((hbx.2.2 412 (by decide) (by decide) (by decide)).trans ((hb8.2.2 412 (by decide) (by decide) (by decide)).trans (rd_sn rfl (rd_sn rfl (rd_app (rd_sn rfl (rd_app (rd_app H412)))))))))))) (by decide +kernel) rfl rfl rfl ?_
  refine l_ild (p' := 2426) rfl rfl rfl rfl ?_
  refine l_bzL (p' := 2427) (z := (Int32.toInt64 (nI (pbC p (p - 2) 2)))) rfl rfl rfl rfl rfl rfl ?_
  refine l_bz (p' := 2428) (z := nI 0) rfl rfl rfl rfl rfl (lcmp_self _) ?_
  refine l_if (p' := 2433) true rfl rfl (by decide +kernel) rfl ?_
  refine l_goto (p' := 2541) rfl rfl rfl ?_
  refine l_incz (p' := 2544) (w := (nI 4)) (ls' := [_, _, _, _, _, _, _, _, _, _]) rfl rfl rfl rfl (by decide +kernel) rfl rfl ?_
  refine l_goto (p' := 28) rfl rfl rfl ?_
  refine l_ild (p' := 30) rfl rfl rfl rfl ?_
  refine l_alds (p' := 31) rfl rfl rfl rfl ?_
  refine l_lens (p' := 32) rfl rfl rfl ?_
  refine l_con (p' := 33) rfl rfl rfl ?_
  refine l_bz (p' := 34) (z := (nI 0)) rfl rfl rfl rfl rfl (by decide +kernel) ?_
  refine l_icmp (p' := 2547) true rfl rfl (by decide +kernel) rfl ?_
  refine l_con (p' := 2548) rfl rfl rfl ?_
  refine l_end rfl rfl ?_
  exact ⟨Nat.le_trans (lenb_b (K := 20) (by rw [Nat.add_assoc] at ey2; exact ey2) (by omega) (Nat.le_of_eq (len_b hl9 (len_s (len_s (hbx.1.trans (hb8.1.trans (len_s (len_s (len_a (len_s (len_a (len_a HL rfl) rfl)) rfl))))))) rfl)) rfl) (Nat.le_of_ble_eq_true rfl), Nat.le_trans (sz_b (K := 22528) (by rw [Nat.add_assoc] at ey3; exact ey3) (by omega) (sz_b (K := 2048) (Nat.le_of_eq hz9) (by omega) (sz_s rfl (rd_sn rfl ((hbx.2.2 400 (by decide) (by decide) (by decide)).trans ((hb8.2.2 400 (by decide) (by decide) (by decide)).trans (rd_sn rfl (rd_sn rfl (rd_app (rd_sn rfl (rd_app (rd_app H400))))))))) rfl (sz_sA rfl ((hbx.2.2 412 (by decide) (by decide) (by decide)).trans ((hb8.2.2 412 (by decide) (by decide) (by decide)).trans (rd_sn rfl (rd_sn rfl (rd_app (rd_sn rfl (rd_app (rd_app H412)))))))) (Nat.le_trans (Nat.le_of_eq hbx.2.1) (Nat.le_trans (Nat.le_of_eq hb8.2.1) (sz_s rfl (rd_sn rfl (rd_app (rd_sn rfl (rd_app (rd_app H0))))) rfl (sz_s rfl (rd_app (rd_ss rfl (rd_app (rd_nw rfl HL)))) rfl (sz_aa (k := 1024) (m := 22051) rfl rfl (sz_s rfl (rd_app (rd_nw rfl HL)) rfl (sz_aa (k := 1024) (m := 21027) rfl rfl (sz_aa (k := 3) (m := 20003) rfl rfl HZ)))))))))) rfl) rfl) (Nat.le_of_ble_eq_true rfl)⟩
theorem p1_38 {xs : Nat → Int32} {h : mj_H}  (hk : xs 0 &&& nI 63 = nI 38)   (HL : h.length = 414) (HZ : mj_sz h ≤ 20000) (H0 : mj_rd h 0 = some (.inr (0, [.ref 1, .ref 38, .ref 299, .ref 336, .ref 373, .ref 375, .ref 378, .ref 381, .ref 387, .ref 393, .null, .null, .ref 397, .ref 398, .ref 399, .long (lN 0), .long (lN 0)]))) (H393 : mj_rd h 393 = some (.inr (9, [.ref 394, .ref 395, .ref 396, .int (nI 0), .int (nI 0)]))) (H400 : mj_rd h 400 = some (.inr (17, [.int (nI 0), .ref 401, .ref 402, .ref 1000300, .long (lN 0), .long (lN 0), .ref 410, .null, .null, .null, .ref 411]))) (H410 : mj_rd h 410 = some (.inr (18, [.ref 1000000, .int (nI 0), .int (nI 0)]))) : mj_fin 4 xs h := by
  unfold mj_fin
  refine l_ild (p' := 30) rfl rfl rfl rfl ?_
  refine l_alds (p' := 31) rfl rfl rfl rfl ?_
  refine l_lens (p' := 32) rfl rfl rfl ?_
  refine l_con (p' := 33) rfl rfl rfl ?_
  refine l_bz (p' := 34) (z := (nI 0)) rfl rfl rfl rfl rfl (by decide +kernel) ?_
  refine l_icmp (p' := 37) false rfl rfl (by decide +kernel) rfl ?_
  refine l_alds (p' := 38) rfl rfl rfl rfl ?_
  refine l_ild (p' := 40) rfl rfl rfl rfl ?_
  refine l_ialz (p' := 41) (m := 0) (z := (xs 0)) rfl rfl (by decide +kernel) rfl rfl rfl ?_
  refine l_bip (p' := 43) rfl rfl rfl ?_
  refine l_bz (p' := 44) (z := (nI 38)) rfl rfl rfl rfl rfl hk ?_
  refine l_sp (p' := 2149) (ls' := _) rfl rfl rfl rfl rfl ?_
  refine l_aldn (p' := 2150) rfl rfl rfl rfl ?_
  refine l_call (p' := 2153) (kc := 99) (ls0 := [_]) rfl rfl rfl rfl rfl rfl (mj_rcv_is H0) rfl rfl rfl ?_
  refine s_aldn (p' := 1) rfl rfl rfl ?_
  refine s_gf (p' := 4) rfl H0 rfl rfl ?_
  refine s_nonnull (p' := 7) (x := none) false rfl rfl rfl ?_
  refine s_aldn (p' := 8) rfl rfl rfl ?_
  refine s_newz (p' := 11) (a := 414) rfl HL rfl rfl ?_
  refine s_dupr (p' := 12) rfl rfl ?_
  refine c_call (p' := 15) (kc := 98) (ls0 := [_]) rfl rfl rfl rfl rfl (mj_rcv_is (rd_nw rfl HL)) rfl rfl rfl ?_
  refine s_aldn (p' := 1) rfl rfl rfl ?_
  refine s_primN (p' := 4) (q := 3) rfl rfl rfl rfl rfl rfl rfl rfl ?_
  refine s_aldn (p' := 5) rfl rfl rfl ?_
  refine s_sip (p' := 8) rfl rfl ?_
  refine s_naz (p' := 10) (a := 415) (n := 8192) rfl (len_a HL rfl) rfl rfl ?_
  refine s_pfz (p' := 13) (fs' := [_]) rfl rfl (rd_app (rd_nw rfl HL)) rfl rfl rfl rfl ?_
  refine c_ret rfl ?_
  refine s_pfz (p' := 18) (fs' := [_, _, _, _, _, _, _, _, _, _, _, _, _, _, _, _, _]) rfl rfl (rd_sn rfl (rd_app (rd_app H0))) rfl rfl rfl rfl ?_
  refine s_aldn (p' := 19) rfl rfl rfl ?_
  refine s_gf (p' := 22) rfl (rd_ss rfl (rd_sn rfl (rd_app (rd_app H0)))) rfl rfl ?_
  refine s_aldn (p' := 23) rfl rfl rfl ?_
  refine s_gf (p' := 26) rfl (rd_ss rfl (rd_sn rfl (rd_app (rd_app H0)))) rfl rfl ?_
  refine c_call (p' := 29) (kc := 98) (ls0 := [_, _, _]) rfl rfl rfl rfl rfl (mj_rcv_is (rd_sn rfl (rd_sn rfl (rd_app (rd_app H393))))) rfl rfl rfl ?_
  refine s_con (p' := 1) rfl rfl ?_
  refine s_istn (p' := 2) (ls' := [_, _, _]) rfl rfl rfl rfl ?_
  refine s_con (p' := 3) rfl rfl ?_
  refine s_istn (p' := 4) (ls' := [_, _, _]) rfl rfl rfl rfl ?_
  refine s_ildn (p' := 5) rfl rfl rfl ?_
  refine s_bip (p' := 7) rfl rfl ?_
  refine s_icmp (p' := 10) false rfl (by decide +kernel) rfl ?_
  refine s_ildn (p' := 11) rfl rfl rfl ?_
  refine s_aldn (p' := 12) rfl rfl rfl ?_
  refine s_ildn (p' := 13) rfl rfl rfl ?_
  refine c_call (p' := 16) (kc := 97) (ls0 := [_, _, _, _]) rfl rfl rfl rfl rfl (mj_rcv_is (rd_sn rfl (rd_sn rfl (rd_app (rd_app H393))))) rfl rfl rfl ?_
  refine s_ildn (p' := 1) rfl rfl rfl ?_
  refine s_istn (p' := 2) (ls' := [_, _, _, _]) rfl rfl rfl rfl ?_
  refine s_con (p' := 3) rfl rfl ?_
  refine s_istn (p' := 4) (ls' := [_, _, _, _]) rfl rfl rfl rfl ?_
  refine s_ildn (p' := 5) rfl rfl rfl ?_
  refine s_aldn (p' := 6) rfl rfl rfl ?_
  refine s_gf (p' := 9) rfl (rd_sn rfl (rd_sn rfl (rd_app (rd_app H393)))) rfl rfl ?_
  refine s_icmp (p' := 38) true rfl (by decide +kernel) rfl ?_
  refine s_ildn (p' := 39) rfl rfl rfl ?_
  refine c_iret rfl rfl ?_
  refine s_con (p' := 17) rfl rfl ?_
  refine s_ildn (p' := 18) rfl rfl rfl ?_
  refine s_bz (p' := 19) (z := (nI 0)) rfl rfl rfl (by decide +kernel) ?_
  refine s_bz (p' := 20) (z := (nI 0)) rfl rfl rfl (by decide +kernel) ?_
  refine s_bz (p' := 21) (z := (nI 0)) rfl rfl rfl (by decide +kernel) ?_
  refine s_istn (p' := 22) (ls' := [_, _, _]) rfl rfl rfl rfl ?_
  refine s_incz (p' := 25) (w := (nI 1)) (ls' := [_, _, _]) rfl rfl rfl (by decide +kernel) rfl rfl ?_
  refine s_goto (p' := 4) rfl rfl ?_
  refine s_ildn (p' := 5) rfl rfl rfl ?_
  refine s_bip (p' := 7) rfl rfl ?_
  refine s_icmp (p' := 10) false rfl (by decide +kernel) rfl ?_
  refine s_ildn (p' := 11) rfl rfl rfl ?_
  refine s_aldn (p' := 12) rfl rfl rfl ?_
  refine s_ildn (p' := 13) rfl rfl rfl ?_
  refine c_call (p' := 16) (kc := 97) (ls0 := [_, _, _, _]) rfl rfl rfl rfl rfl (mj_rcv_is (rd_sn rfl (rd_sn rfl (rd_app (rd_app H393))))) rfl rfl rfl ?_
  refine s_ildn (p' := 1) rfl rfl rfl ?_
  refine s_istn (p' := 2) (ls' := [_, _, _, _]) rfl rfl rfl rfl ?_
  refine s_con (p' := 3) rfl rfl ?_
  refine s_istn (p' := 4) (ls' := [_, _, _, _]) rfl rfl rfl rfl ?_
  refine s_ildn (p' := 5) rfl rfl rfl ?_
  refine s_aldn (p' := 6) rfl rfl rfl ?_
  refine s_gf (p' := 9) rfl (rd_sn rfl (rd_sn rfl (rd_app (rd_app H393)))) rfl rfl ?_
  refine s_icmp (p' := 38) true rfl (by decide +kernel) rfl ?_
  refine s_ildn (p' := 39) rfl rfl rfl ?_
  refine c_iret rfl rfl ?_
  refine s_con (p' := 17) rfl rfl ?_
  refine s_ildn (p' := 18) rfl rfl rfl ?_
  refine s_bz (p' := 19) (z := (nI 3)) rfl rfl rfl (by decide +kernel) ?_
  refine s_bz (p' := 20) (z := (nI 8)) rfl rfl rfl (by decide +kernel) ?_
  refine s_bz (p' := 21) (z := (nI 8)) rfl rfl rfl (by decide +kernel) ?_
  refine s_istn (p' := 22) (ls' := [_, _, _]) rfl rfl rfl rfl ?_
  refine s_incz (p' := 25) (w := (nI 2)) (ls' := [_, _, _]) rfl rfl rfl (by decide +kernel) rfl rfl ?_
  refine s_goto (p' := 4) rfl rfl ?_
  refine s_ildn (p' := 5) rfl rfl rfl ?_
  refine s_bip (p' := 7) rfl rfl ?_
  refine s_icmp (p' := 10) false rfl (by decide +kernel) rfl ?_
  refine s_ildn (p' := 11) rfl rfl rfl ?_
  refine s_aldn (p' := 12) rfl rfl rfl ?_
  refine s_ildn (p' := 13) rfl rfl rfl ?_
  refine c_call (p' := 16) (kc := 97) (ls0 := [_, _, _, _]) rfl rfl rfl rfl rfl (mj_rcv_is (rd_sn rfl (rd_sn rfl (rd_app (rd_app H393))))) rfl rfl rfl ?_
  refine s_ildn (p' := 1) rfl rfl rfl ?_
  refine s_istn (p' := 2) (ls' := [_, _, _, _]) rfl rfl rfl rfl ?_
  refine s_con (p' := 3) rfl rfl ?_
  refine s_istn (p' := 4) (ls' := [_, _, _, _]) rfl rfl rfl rfl ?_
  refine s_ildn (p' := 5) rfl rfl rfl ?_
  refine s_aldn (p' := 6) rfl rfl rfl ?_
  refine s_gf (p' := 9) rfl (rd_sn rfl (rd_sn rfl (rd_app (rd_app H393)))) rfl rfl ?_
  refine s_icmp (p' := 38) true rfl (by decide +kernel) rfl ?_
  refine s_ildn (p' := 39) rfl rfl rfl ?_
  refine c_iret rfl rfl ?_
  refine s_con (p' := 17) rfl rfl ?_
  refine s_ildn (p' := 18) rfl rfl rfl ?_
  refine s_bz (p' := 19) (z := (nI 6)) rfl rfl rfl (by decide +kernel) ?_
  refine s_bz (p' := 20) (z := (nI 128)) rfl rfl rfl (by decide +kernel) ?_
  refine s_bz (p' := 21) (z := (nI 136)) rfl rfl rfl (by decide +kernel) ?_
  refine s_istn (p' := 22) (ls' := [_, _, _]) rfl rfl rfl rfl ?_
  refine s_incz (p' := 25) (w := (nI 3)) (ls' := [_, _, _]) rfl rfl rfl (by decide +kernel) rfl rfl ?_
  refine s_goto (p' := 4) rfl rfl ?_
  refine s_ildn (p' := 5) rfl rfl rfl ?_
  refine s_bip (p' := 7) rfl rfl ?_
  refine s_icmp (p' := 10) false rfl (by decide +kernel) rfl ?_
  refine s_ildn (p' := 11) rfl rfl rfl ?_
  refine s_aldn (p' := 12) rfl rfl rfl ?_
  refine s_ildn (p' := 13) rfl rfl rfl ?_
  refine c_call (p' := 16) (kc := 97) (ls0 := [_, _, _, _]) rfl rfl rfl rfl rfl (mj_rcv_is (rd_sn rfl (rd_sn rfl (rd_app (rd_app H393))))) rfl rfl rfl ?_
  refine s_ildn (p' := 1) rfl rfl rfl ?_
  refine s_istn (p' := 2) (ls' := [_, _, _, _]) rfl rfl rfl rfl ?_
  refine s_con (p' := 3) rfl rfl ?_
  refine s_istn (p' := 4) (ls' := [_, _, _, _]) rfl rfl rfl rfl ?_
  refine s_ildn (p' := 5) rfl rfl rfl ?_
  refine s_aldn (p' := 6) rfl rfl rfl ?_
  refine s_gf (p' := 9) rfl (rd_sn rfl (rd_sn rfl (rd_app (rd_app H393)))) rfl rfl ?_
  refine s_icmp (p' := 38) true rfl (by decide +kernel) rfl ?_
  refine s_ildn (p' := 39) rfl rfl rfl ?_
  refine c_iret rfl rfl ?_
  refine s_con (p' := 17) rfl rfl ?_
  refine s_ildn (p' := 18) rfl rfl rfl ?_
  refine s_bz (p' := 19) (z := (nI 9)) rfl rfl rfl (by decide +kernel) ?_
  refine s_bz (p' := 20) (z := (nI 1536)) rfl rfl rfl (by decide +kernel) ?_
  refine s_bz (p' := 21) (z := (nI 1672)) rfl rfl rfl (by decide +kernel) ?_
  refine s_istn (p' := 22) (ls' := [_, _, _]) rfl rfl rfl rfl ?_
  refine s_incz (p' := 25) (w := (nI 4)) (ls' := [_, _, _]) rfl rfl rfl (by decide +kernel) rfl rfl ?_
  refine s_goto (p' := 4) rfl rfl ?_
  refine s_ildn (p' := 5) rfl rfl rfl ?_
  refine s_bip (p' := 7) rfl rfl ?_
  refine s_icmp (p' := 10) false rfl (by decide +kernel) rfl ?_
  refine s_ildn (p' := 11) rfl rfl rfl ?_
  refine s_aldn (p' := 12) rfl rfl rfl ?_
  refine s_ildn (p' := 13) rfl rfl rfl ?_
  refine c_call (p' := 16) (kc := 97) (ls0 := [_, _, _, _]) rfl rfl rfl rfl rfl (mj_rcv_is (rd_sn rfl (rd_sn rfl (rd_app (rd_app H393))))) rfl rfl rfl ?_
  refine s_ildn (p' := 1) rfl rfl rfl ?_
  refine s_istn (p' := 2) (ls' := [_, _, _, _]) rfl rfl rfl rfl ?_
  refine s_con (p' := 3) rfl rfl ?_
  refine s_istn (p' := 4) (ls' := [_, _, _, _]) rfl rfl rfl rfl ?_
  refine s_ildn (p' := 5) rfl rfl rfl ?_
  refine s_aldn (p' := 6) rfl rfl rfl ?_
  refine s_gf (p' := 9) rfl (rd_sn rfl (rd_sn rfl (rd_app (rd_app H393)))) rfl rfl ?_
  refine s_icmp (p' := 38) true rfl (by decide +kernel) rfl ?_
  refine s_ildn (p' := 39) rfl rfl rfl ?_
  refine c_iret rfl rfl ?_
  refine s_con (p' := 17) rfl rfl ?_
  refine s_ildn (p' := 18) rfl rfl rfl ?_
  refine s_bz (p' := 19) (z := (nI 12)) rfl rfl rfl (by decide +kernel) ?_
  refine s_bz (p' := 20) (z := (nI 16384)) rfl rfl rfl (by decide +kernel) ?_
  refine s_bz (p' := 21) (z := (nI 18056)) rfl rfl rfl (by decide +kernel) ?_
  refine s_istn (p' := 22) (ls' := [_, _, _]) rfl rfl rfl rfl ?_
  refine s_incz (p' := 25) (w := (nI 5)) (ls' := [_, _, _]) rfl rfl rfl (by decide +kernel) rfl rfl ?_
  refine s_goto (p' := 4) rfl rfl ?_
  refine s_ildn (p' := 5) rfl rfl rfl ?_
  refine s_bip (p' := 7) rfl rfl ?_
  refine s_icmp (p' := 10) false rfl (by decide +kernel) rfl ?_
  refine s_ildn (p' := 11) rfl rfl rfl ?_
  refine s_aldn (p' := 12) rfl rfl rfl ?_
  refine s_ildn (p' := 13) rfl rfl rfl ?_
  refine c_call (p' := 16) (kc := 97) (ls0 := [_, _, _, _]) rfl rfl rfl rfl rfl (mj_rcv_is (rd_sn rfl (rd_sn rfl (rd_app (rd_app H393))))) rfl rfl rfl ?_
  refine s_ildn (p' := 1) rfl rfl rfl ?_
  refine s_istn (p' := 2) (ls' := [_, _, _, _]) rfl rfl rfl rfl ?_
  refine s_con (p' := 3) rfl rfl ?_
  refine s_istn (p' := 4) (ls' := [_, _, _, _]) rfl rfl rfl rfl ?_
  refine s_ildn (p' := 5) rfl rfl rfl ?_
  refine s_aldn (p' := 6) rfl rfl rfl ?_
  refine s_gf (p' := 9) rfl (rd_sn rfl (rd_sn rfl (rd_app (rd_app H393)))) rfl rfl ?_
  refine s_icmp (p' := 38) true rfl (by decide +kernel) rfl ?_
  refine s_ildn (p' := 39) rfl rfl rfl ?_
  refine c_iret rfl rfl ?_
  refine s_con (p' := 17) rfl rfl ?_
  refine s_ildn (p' := 18) rfl rfl rfl ?_
  refine s_bz (p' := 19) (z := (nI 15)) rfl rfl rfl (by decide +kernel) ?_
  refine s_bz (p' := 20) (z := (nI 163840)) rfl rfl rfl (by decide +kernel) ?_
  refine s_bz (p' := 21) (z := (nI 181896)) rfl rfl rfl (by decide +kernel) ?_
  refine s_istn (p' := 22) (ls' := [_, _, _]) rfl rfl rfl rfl ?_
  refine s_incz (p' := 25) (w := (nI 6)) (ls' := [_, _, _]) rfl rfl rfl (by decide +kernel) rfl rfl ?_
  refine s_goto (p' := 4) rfl rfl ?_
  refine s_ildn (p' := 5) rfl rfl rfl ?_
  refine s_bip (p' := 7) rfl rfl ?_
  refine s_icmp (p' := 10) false rfl (by decide +kernel) rfl ?_
  refine s_ildn (p' := 11) rfl rfl rfl ?_
  refine s_aldn (p' := 12) rfl rfl rfl ?_
  refine s_ildn (p' := 13) rfl rfl rfl ?_
  refine c_call (p' := 16) (kc := 97) (ls0 := [_, _, _, _]) rfl rfl rfl rfl rfl (mj_rcv_is (rd_sn rfl (rd_sn rfl (rd_app (rd_app H393))))) rfl rfl rfl ?_
  refine s_ildn (p' := 1) rfl rfl rfl ?_
  refine s_istn (p' := 2) (ls' := [_, _, _, _]) rfl rfl rfl rfl ?_
  refine s_con (p' := 3) rfl rfl ?_
  refine s_istn (p' := 4) (ls' := [_, _, _, _]) rfl rfl rfl rfl ?_
  refine s_ildn (p' := 5) rfl rfl rfl ?_
  refine s_aldn (p' := 6) rfl rfl rfl ?_
  refine s_gf (p' := 9) rfl (rd_sn rfl (rd_sn rfl (rd_app (rd_app H393)))) rfl rfl ?_
  refine s_icmp (p' := 38) true rfl (by decide +kernel) rfl ?_
  refine s_ildn (p' := 39) rfl rfl rfl ?_
  refine c_iret rfl rfl ?_
  refine s_con (p' := 17) rfl rfl ?_
  refine s_ildn (p' := 18) rfl rfl rfl ?_
  refine s_bz (p' := 19) (z := (nI 18)) rfl rfl rfl (by decide +kernel) ?_
  refine s_bz (p' := 20) (z := (nI 1572864)) rfl rfl rfl (by decide +kernel) ?_
  refine s_bz (p' := 21) (z := (nI 1754760)) rfl rfl rfl (by decide +kernel) ?_
  refine s_istn (p' := 22) (ls' := [_, _, _]) rfl rfl rfl rfl ?_
  refine s_incz (p' := 25) (w := (nI 7)) (ls' := [_, _, _]) rfl rfl rfl (by decide +kernel) rfl rfl ?_
  refine s_goto (p' := 4) rfl rfl ?_
  refine s_ildn (p' := 5) rfl rfl rfl ?_
  refine s_bip (p' := 7) rfl rfl ?_
  refine s_icmp (p' := 10) false rfl (by decide +kernel) rfl ?_
  refine s_ildn (p' := 11) rfl rfl rfl ?_
  refine s_aldn (p' := 12) rfl rfl rfl ?_
  refine s_ildn (p' := 13) rfl rfl rfl ?_
  refine c_call (p' := 16) (kc := 97) (ls0 := [_, _, _, _]) rfl rfl rfl rfl rfl (mj_rcv_is (rd_sn rfl (rd_sn rfl (rd_app (rd_app H393))))) rfl rfl rfl ?_
  refine s_ildn (p' := 1) rfl rfl rfl ?_
  refine s_istn (p' := 2) (ls' := [_, _, _, _]) rfl rfl rfl rfl ?_
  refine s_con (p' := 3) rfl rfl ?_
  refine s_istn (p' := 4) (ls' := [_, _, _, _]) rfl rfl rfl rfl ?_
  refine s_ildn (p' := 5) rfl rfl rfl ?_
  refine s_aldn (p' := 6) rfl rfl rfl ?_
  refine s_gf (p' := 9) rfl (rd_sn rfl (rd_sn rfl (rd_app (rd_app H393)))) rfl rfl ?_
  refine s_icmp (p' := 38) true rfl (by decide +kernel) rfl ?_
  refine s_ildn (p' := 39) rfl rfl rfl ?_
  refine c_iret rfl rfl ?_
  refine s_con (p' := 17) rfl rfl ?_
  refine s_ildn (p' := 18) rfl rfl rfl ?_
  refine s_bz (p' := 19) (z := (nI 21)) rfl rfl rfl (by decide +kernel) ?_
  refine s_bz (p' := 20) (z := (nI 14680064)) rfl rfl rfl (by decide +kernel) ?_
  refine s_bz (p' := 21) (z := (nI 16434824)) rfl rfl rfl (by decide +kernel) ?_
  refine s_istn (p' := 22) (ls' := [_, _, _]) rfl rfl rfl rfl ?_
  refine s_incz (p' := 25) (w := (nI 8)) (ls' := [_, _, _]) rfl rfl rfl (by decide +kernel) rfl rfl ?_
  refine s_goto (p' := 4) rfl rfl ?_
  refine s_ildn (p' := 5) rfl rfl rfl ?_
  refine s_bip (p' := 7) rfl rfl ?_
  refine s_icmp (p' := 28) true rfl (by decide +kernel) rfl ?_
  refine s_ildn (p' := 29) rfl rfl rfl ?_
  refine c_iret rfl rfl ?_
  refine c_call (p' := 32) (kc := 98) (ls0 := [_, _, _, _]) rfl rfl rfl rfl rfl (mj_rcv_is (rd_sn rfl (rd_ss rfl (rd_app (rd_nw rfl HL))))) rfl rfl rfl ?_
  refine s_aldn (p' := 1) rfl rfl rfl ?_
  refine s_sh (p' := 3) (ls' := _) (st' := .int (nI 16434824) :: _) (h' := _) rfl rfl rfl rfl ?_
  refine c_call (p' := 6) (kc := 97) (ls0 := [_, _]) rfl rfl rfl rfl rfl (mj_rcv_is (rd_sn rfl (rd_ss rfl (rd_app (rd_nw rfl HL))))) rfl rfl rfl ?_
  refine s_aldn (p' := 1) rfl rfl rfl ?_
  refine s_aldn (p' := 2) rfl rfl rfl ?_
  refine s_ildn (p' := 3) rfl rfl rfl ?_
  refine c_call (p' := 6) (kc := 96) (ls0 := [_, _, _, _]) rfl rfl rfl rfl rfl (mj_rcv_is (rd_sn rfl (rd_ss rfl (rd_app (rd_nw rfl HL))))) rfl rfl rfl ?_
  refine s_ildn (p' := 1) rfl rfl rfl ?_
  refine s_sh (p' := 3) (ls' := _) (st' := .int (nI 2654435761) :: _) (h' := _) rfl rfl rfl rfl ?_
  refine s_bz (p' := 4) (z := (nI 3429993480)) rfl rfl rfl (by decide +kernel) ?_
  refine s_bip (p' := 6) rfl rfl ?_
  refine s_bz (p' := 7) (z := (nI 6542)) rfl rfl rfl (by decide +kernel) ?_
  refine s_istn (p' := 8) (ls' := [_, _, _, _]) rfl rfl rfl rfl ?_
  refine s_con (p' := 9) rfl rfl ?_
  refine s_istn (p' := 10) (ls' := [_, _, _, _]) rfl rfl rfl rfl ?_
  refine s_ildn (p' := 11) rfl rfl rfl ?_
  refine s_sip (p' := 14) rfl rfl ?_
  refine s_icmp (p' := 17) false rfl (by decide +kernel) rfl ?_
  refine s_aldn (p' := 18) rfl rfl rfl ?_
  refine s_ildn (p' := 19) rfl rfl rfl ?_
  refine c_call (p' := 22) (kc := 95) (ls0 := [_, _]) rfl rfl rfl rfl rfl (mj_rcv_is (rd_sn rfl (rd_ss rfl (rd_app (rd_nw rfl HL))))) rfl rfl rfl ?_
  refine s_ildn (p' := 1) rfl rfl rfl ?_
  refine s_if (p' := 4) false rfl (by decide +kernel) rfl ?_
  refine s_ildn (p' := 5) rfl rfl rfl ?_
  refine s_aldn (p' := 6) rfl rfl rfl ?_
  refine s_gf (p' := 9) rfl (rd_sn rfl (rd_ss rfl (rd_app (rd_nw rfl HL)))) rfl rfl ?_
  refine s_lenz (p' := 10) rfl (mj_rdA_is (rd_sn rfl (rd_sn rfl (rd_nw rfl (len_a HL rfl)))) (by decide)) rfl rfl ?_
  refine s_icmp (p' := 13) false rfl (by decide +kernel) rfl ?_
  refine s_aldn (p' := 14) rfl rfl rfl ?_
  refine s_gf (p' := 17) rfl (rd_sn rfl (rd_ss rfl (rd_app (rd_nw rfl HL)))) rfl rfl ?_
  refine s_ildn (p' := 18) rfl rfl rfl ?_
  refine s_ialz (p' := 19) (m := 6542) (v := (nI 0)) rfl (rd_sn rfl (rd_sn rfl (rd_nw rfl (len_a HL rfl)))) (by decide +kernel) rfl (by decide +kernel) rfl ?_
  refine s_goto (p' := 23) rfl rfl ?_
  refine c_iret rfl rfl ?_
  refine s_if (p' := 51) true rfl (by decide +kernel) rfl ?_
  refine s_ildn (p' := 52) rfl rfl rfl ?_
  refine c_iret rfl rfl ?_
  refine c_call (p' := 9) (kc := 96) (ls0 := [_, _]) rfl rfl rfl rfl rfl (mj_rcv_is (rd_sn rfl (rd_ss rfl (rd_app (rd_nw rfl HL))))) rfl rfl rfl ?_
  refine s_ildn (p' := 1) rfl rfl rfl ?_
  refine s_if (p' := 4) false rfl (by decide +kernel) rfl ?_
  refine s_ildn (p' := 5) rfl rfl rfl ?_
  refine s_aldn (p' := 6) rfl rfl rfl ?_
  refine s_gf (p' := 9) rfl (rd_sn rfl (rd_ss rfl (rd_app (rd_nw rfl HL)))) rfl rfl ?_
  refine s_lenz (p' := 10) rfl (mj_rdA_is (rd_sn rfl (rd_sn rfl (rd_nw rfl (len_a HL rfl)))) (by decide)) rfl rfl ?_
  refine s_icmp (p' := 13) false rfl (by decide +kernel) rfl ?_
  refine s_aldn (p' := 14) rfl rfl rfl ?_
  refine s_gf (p' := 17) rfl (rd_sn rfl (rd_ss rfl (rd_app (rd_nw rfl HL)))) rfl rfl ?_
  refine s_ildn (p' := 18) rfl rfl rfl ?_
  refine s_ialz (p' := 19) (m := 6542) (v := (nI 0)) rfl (rd_sn rfl (rd_sn rfl (rd_nw rfl (len_a HL rfl)))) (by decide +kernel) rfl (by decide +kernel) rfl ?_
  refine s_goto (p' := 23) rfl rfl ?_
  refine c_iret rfl rfl ?_
  refine c_iret rfl rfl ?_
  refine s_if (p' := 9) false rfl (by decide +kernel) rfl ?_
  refine s_aldn (p' := 10) rfl rfl rfl ?_
  refine s_callN (p' := 13) (kc := 4) (ls0 := [_, _, _]) rfl rfl rfl rfl rfl (mj_rcv_is (rd_sn rfl (rd_ss rfl (rd_app (rd_nw rfl HL))))) rfl (x_gfill (S := 414) (T := 415) (by decide) (by decide) (rd_sn rfl (rd_ss rfl (rd_app (rd_nw rfl HL)))) (rd_sn rfl (rd_sn rfl (rd_nw rfl (len_a HL rfl))))) (by decide) rfl ?_
  refine s_aldn (p' := 14) rfl rfl rfl ?_
  refine s_ildn (p' := 15) rfl rfl rfl ?_
  refine s_callV (p' := 18) (kc := 2) (ls0 := [_, _]) rfl rfl rfl rfl rfl (mj_rcv_is (rd_sn rfl (rd_sn rfl (rd_ss rfl (rd_app (rd_nw rfl HL)))))) rfl (mj_run.eq (x_kept (rd_sn rfl (rd_sn rfl (rd_ss rfl (rd_app (rd_nw rfl HL))))) (rd_ss rfl (rd_sn rfl (rd_sn rfl (rd_nw rfl (len_a HL rfl)))))) (by rw [gkept_id])) (by decide) rfl ?_
  refine s_istn (p' := 19) (ls' := [_, _, _, _]) rfl rfl rfl rfl ?_
  refine s_ildn (p' := 20) rfl rfl rfl ?_
  refine s_if (p' := 23) false rfl (by decide +kernel) rfl ?_
  refine s_ildn (p' := 24) rfl rfl rfl ?_
  refine s_bip (p' := 26) rfl rfl ?_
  refine s_bz (p' := 27) (z := (nI 0)) rfl rfl rfl (by decide +kernel) ?_
  refine c_iret rfl rfl ?_
  refine k_iret rfl rfl ?_
  refine l_aldn (p' := 2154) rfl rfl rfl rfl ?_
  refine l_call (p' := 2157) (kc := 99) (ls0 := [_, _, _, _, _, _, _, _]) rfl rfl rfl rfl rfl rfl (mj_rcv_is (rd_sn rfl (rd_sn rfl (rd_sn rfl (rd_app (rd_app H400)))))) rfl rfl rfl ?_
  refine s_aldn (p' := 1) rfl rfl rfl ?_
  refine s_con (p' := 2) rfl rfl ?_
  refine s_pfz (p' := 5) (fs' := [_, _, _, _, _, _, _, _, _, _, _]) rfl rfl (rd_sn rfl (rd_sn rfl (rd_sn rfl (rd_app (rd_app H400))))) rfl rfl rfl rfl ?_
  refine s_aldn (p' := 6) rfl rfl rfl ?_
  refine c_call (p' := 9) (kc := 98) (ls0 := [_, _, _]) rfl rfl rfl rfl rfl (mj_rcv_is (rd_ss rfl (rd_sn rfl (rd_sn rfl (rd_sn rfl (rd_app (rd_app H400))))))) rfl rfl rfl ?_
  refine s_con (p' := 1) rfl rfl ?_
  refine s_istn (p' := 2) (ls' := [_, _, _]) rfl rfl rfl rfl ?_
  refine s_con (p' := 3) rfl rfl ?_
  refine s_istn (p' := 4) (ls' := [_, _, _]) rfl rfl rfl rfl ?_
  refine s_ildn (p' := 5) rfl rfl rfl ?_
  refine s_bip (p' := 7) rfl rfl ?_
  refine s_icmp (p' := 10) false rfl (by decide +kernel) rfl ?_
  refine s_ildn (p' := 11) rfl rfl rfl ?_
  refine s_aldn (p' := 12) rfl rfl rfl ?_
  refine s_ildn (p' := 13) rfl rfl rfl ?_
  refine c_call (p' := 16) (kc := 97) (ls0 := [_, _, _, _, _]) rfl rfl rfl rfl rfl (mj_rcv_is (rd_ss rfl (rd_sn rfl (rd_sn rfl (rd_sn rfl (rd_app (rd_app H400))))))) rfl rfl rfl ?_
  refine s_ildn (p' := 1) rfl rfl rfl ?_
  refine s_istn (p' := 2) (ls' := [_, _, _, _, _]) rfl rfl rfl rfl ?_
  refine s_aldn (p' := 3) rfl rfl rfl ?_
  refine s_gf (p' := 6) rfl (rd_ss rfl (rd_sn rfl (rd_sn rfl (rd_sn rfl (rd_app (rd_app H400)))))) rfl rfl ?_
  refine c_call (p' := 11) (kc := 96) (ls0 := [_]) rfl rfl rfl rfl rfl (mj_rcv_is (rd_sn rfl (rd_sn rfl (rd_sn rfl (rd_sn rfl (rd_app (rd_app H410))))))) rfl rfl rfl ?_
  refine s_newz (p' := 3) (a := 416) rfl (len_s (len_s (len_s (len_s (len_a (len_a HL rfl) rfl))))) rfl rfl ?_
  refine s_dupr (p' := 4) rfl rfl ?_
  refine s_aldn (p' := 5) rfl rfl rfl ?_
  refine c_call (p' := 8) (kc := 95) (ls0 := [_, _]) rfl rfl rfl rfl rfl (mj_rcv_is (rd_nw rfl (len_s (len_s (len_s (len_s (len_a (len_a HL rfl) rfl))))))) rfl rfl rfl ?_
  refine s_aldn (p' := 1) rfl rfl rfl ?_
  refine s_aldn (p' := 2) rfl rfl rfl ?_
  refine s_pfz (p' := 5) (fs' := [_, _, _, _]) rfl rfl (rd_nw rfl (len_s (len_s (len_s (len_s (len_a (len_a HL rfl) rfl)))))) rfl rfl rfl rfl ?_
  refine s_aldn (p' := 6) rfl rfl rfl ?_
  refine s_primN (p' := 9) (q := 3) rfl rfl rfl rfl rfl rfl rfl rfl ?_
  refine s_aldn (p' := 10) rfl rfl rfl ?_
  refine s_con (p' := 11) rfl rfl ?_
  refine s_pfz (p' := 14) (fs' := [_, _, _, _]) rfl rfl (rd_ss rfl (rd_nw rfl (len_s (len_s (len_s (len_s (len_a (len_a HL rfl) rfl))))))) rfl rfl rfl rfl ?_
  refine s_aldn (p' := 15) rfl rfl rfl ?_
  refine s_aldn (p' := 16) rfl rfl rfl ?_
  refine s_gf (p' := 19) rfl (rd_ss rfl (rd_ss rfl (rd_nw rfl (len_s (len_s (len_s (len_s (len_a (len_a HL rfl) rfl)))))))) rfl rfl ?_
  refine s_gf (p' := 22) rfl (rd_sn rfl (rd_sn rfl (rd_app (rd_sn rfl (rd_sn rfl (rd_sn rfl (rd_sn rfl (rd_app (rd_app H410))))))))) rfl rfl ?_
  refine s_pfz (p' := 25) (fs' := [_, _, _, _]) rfl rfl (rd_ss rfl (rd_ss rfl (rd_nw rfl (len_s (len_s (len_s (len_s (len_a (len_a HL rfl) rfl)))))))) rfl rfl rfl rfl ?_
  refine c_ret rfl ?_
  refine c_aret rfl ?_
  refine s_astn (p' := 12) (ls' := [_, _, _, _, _]) rfl rfl rfl rfl ?_
  refine s_aldn (p' := 13) rfl rfl rfl ?_
  refine c_call (p' := 18) (kc := 96) (ls0 := [_]) rfl rfl rfl rfl rfl (mj_rcv_is (rd_ss rfl (rd_ss rfl (rd_ss rfl (rd_nw rfl (len_s (len_s (len_s (len_s (len_a (len_a HL rfl) rfl)))))))))) rfl rfl rfl ?_
  refine s_aldn (p' := 1) rfl rfl rfl ?_
  refine s_gf (p' := 4) rfl (rd_ss rfl (rd_ss rfl (rd_ss rfl (rd_nw rfl (len_s (len_s (len_s (len_s (len_a (len_a HL rfl) rfl))))))))) rfl rfl ?_
  refine s_aldn (p' := 5) rfl rfl rfl ?_
  refine s_gf (p' := 8) rfl (rd_ss rfl (rd_ss rfl (rd_ss rfl (rd_nw rfl (len_s (len_s (len_s (len_s (len_a (len_a HL rfl) rfl))))))))) rfl rfl ?_
  refine s_gf (p' := 11) rfl (rd_sn rfl (rd_sn rfl (rd_sn rfl (rd_app (rd_sn rfl (rd_sn rfl (rd_sn rfl (rd_sn rfl (rd_app (rd_app H410)))))))))) rfl rfl ?_
  refine s_icmp (p' := 18) true rfl (by decide +kernel) rfl ?_
  refine s_con (p' := 19) rfl rfl ?_
  refine c_iret rfl (by decide +kernel) ?_
  refine s_if (p' := 45) true rfl (by decide +kernel) rfl ?_
  refine s_ildn (p' := 46) rfl rfl rfl ?_
  refine c_iret rfl rfl ?_
  refine s_con (p' := 17) rfl rfl ?_
  refine s_ildn (p' := 18) rfl rfl rfl ?_
  refine s_bz (p' := 19) (z := (nI 0)) rfl rfl rfl (by decide +kernel) ?_
  refine s_bz (p' := 20) (z := (nI 0)) rfl rfl rfl (by decide +kernel) ?_
  refine s_bz (p' := 21) (z := (nI 0)) rfl rfl rfl (by decide +kernel) ?_
  refine s_istn (p' := 22) (ls' := [_, _, _]) rfl rfl rfl rfl ?_
  refine s_incz (p' := 25) (w := (nI 1)) (ls' := [_, _, _]) rfl rfl rfl (by decide +kernel) rfl rfl ?_
  refine s_goto (p' := 4) rfl rfl ?_
  refine s_ildn (p' := 5) rfl rfl rfl ?_
  refine s_bip (p' := 7) rfl rfl ?_
  refine s_icmp (p' := 10) false rfl (by decide +kernel) rfl ?_
  refine s_ildn (p' := 11) rfl rfl rfl ?_
  refine s_aldn (p' := 12) rfl rfl rfl ?_
  refine s_ildn (p' := 13) rfl rfl rfl ?_
  refine c_call (p' := 16) (kc := 97) (ls0 := [_, _, _, _, _]) rfl rfl rfl rfl rfl (mj_rcv_is (rd_sn rfl (rd_sn rfl (rd_sn rfl (rd_app (rd_ss rfl (rd_sn rfl (rd_sn rfl (rd_sn rfl (rd_app (rd_app H400))))))))))) rfl rfl rfl ?_
  refine s_ildn (p' := 1) rfl rfl rfl ?_
  refine s_istn (p' := 2) (ls' := [_, _, _, _, _]) rfl rfl rfl rfl ?_
  refine s_aldn (p' := 3) rfl rfl rfl ?_
  refine s_gf (p' := 6) rfl (rd_sn rfl (rd_sn rfl (rd_sn rfl (rd_app (rd_ss rfl (rd_sn rfl (rd_sn rfl (rd_sn rfl (rd_app (rd_app H400)))))))))) rfl rfl ?_
  refine c_call (p' := 11) (kc := 96) (ls0 := [_]) rfl rfl rfl rfl rfl (mj_rcv_is (rd_sn rfl (rd_sn rfl (rd_sn rfl (rd_app (rd_sn rfl (rd_sn rfl (rd_sn rfl (rd_sn rfl (rd_app (rd_app H410))))))))))) rfl rfl rfl ?_
  refine s_newz (p' := 3) (a := 417) rfl (len_s (len_s (len_s (len_a (len_s (len_s (len_s (len_s (len_a (len_a HL rfl) rfl))))) rfl)))) rfl rfl ?_
  refine s_dupr (p' := 4) rfl rfl ?_
  refine s_aldn (p' := 5) rfl rfl rfl ?_
  refine c_call (p' := 8) (kc := 95) (ls0 := [_, _]) rfl rfl rfl rfl rfl (mj_rcv_is (rd_nw rfl (len_s (len_s (len_s (len_a (len_s (len_s (len_s (len_s (len_a (len_a HL rfl) rfl))))) rfl)))))) rfl rfl rfl ?_
  refine s_aldn (p' := 1) rfl rfl rfl ?_
  refine s_aldn (p' := 2) rfl rfl rfl ?_
  refine s_pfz (p' := 5) (fs' := [_, _, _, _]) rfl rfl (rd_nw rfl (len_s (len_s (len_s (len_a (len_s (len_s (len_s (len_s (len_a (len_a HL rfl) rfl))))) rfl))))) rfl rfl rfl rfl ?_
  refine s_aldn (p' := 6) rfl rfl rfl ?_
  refine s_primN (p' := 9) (q := 3) rfl rfl rfl rfl rfl rfl rfl rfl ?_
  refine s_aldn (p' := 10) rfl rfl rfl ?_
  refine s_con (p' := 11) rfl rfl ?_
  refine s_pfz (p' := 14) (fs' := [_, _, _, _]) rfl rfl (rd_ss rfl (rd_nw rfl (len_s (len_s (len_s (len_a (len_s (len_s (len_s (len_s (len_a (len_a HL rfl) rfl))))) rfl)))))) rfl rfl rfl rfl ?_
  refine s_aldn (p' := 15) rfl rfl rfl ?_
  refine s_aldn (p' := 16) rfl rfl rfl ?_
  refine s_gf (p' := 19) rfl (rd_ss rfl (rd_ss rfl (rd_nw rfl (len_s (len_s (len_s (len_a (len_s (len_s (len_s (len_s (len_a (len_a HL rfl) rfl))))) rfl))))))) rfl rfl ?_
  refine s_gf (p' := 22) rfl (rd_sn rfl (rd_sn rfl (rd_app (rd_sn rfl (rd_sn rfl (rd_sn rfl (rd_app (rd_sn rfl (rd_sn rfl (rd_sn rfl (rd_sn rfl (rd_app (rd_app H410))))))))))))) rfl rfl ?_
  refine s_pfz (p' := 25) (fs' := [_, _, _, _]) rfl rfl (rd_ss rfl (rd_ss rfl (rd_nw rfl (len_s (len_s (len_s (len_a (len_s (len_s (len_s (len_s (len_a (len_a HL rfl) rfl))))) rfl))))))) rfl rfl rfl rfl ?_
  refine c_ret rfl ?_
  refine c_aret rfl ?_
  refine s_astn (p' := 12) (ls' := [_, _, _, _, _]) rfl rfl rfl rfl ?_
  refine s_aldn (p' := 13) rfl rfl rfl ?_
  refine c_call (p' := 18) (kc := 96) (ls0 := [_]) rfl rfl rfl rfl rfl (mj_rcv_is (rd_ss rfl (rd_ss rfl (rd_ss rfl (rd_nw rfl (len_s (len_s (len_s (len_a (len_s (len_s (len_s (len_s (len_a (len_a HL rfl) rfl))))) rfl))))))))) rfl rfl rfl ?_
  refine s_aldn (p' := 1) rfl rfl rfl ?_
  refine s_gf (p' := 4) rfl (rd_ss rfl (rd_ss rfl (rd_ss rfl (rd_nw rfl (len_s (len_s (len_s (len_a (len_s (len_s (len_s (len_s (len_a (len_a HL rfl) rfl))))) rfl)))))))) rfl rfl ?_
  refine s_aldn (p' := 5) rfl rfl rfl ?_
  refine s_gf (p' := 8) rfl (rd_ss rfl (rd_ss rfl (rd_ss rfl (rd_nw rfl (len_s (len_s (len_s (len_a (len_s (len_s (len_s (len_s (len_a (len_a HL rfl) rfl))))) rfl)))))))) rfl rfl ?_
  refine s_gf (p' := 11) rfl (rd_sn rfl (rd_sn rfl (rd_sn rfl (rd_app (rd_sn rfl (rd_sn rfl (rd_sn rfl (rd_app (rd_sn rfl (rd_sn rfl (rd_sn rfl (rd_sn rfl (rd_app (rd_app H410)))))))))))))) rfl rfl ?_
  refine s_icmp (p' := 18) true rfl (by decide +kernel) rfl ?_
  refine s_con (p' := 19) rfl rfl ?_
  refine c_iret rfl (by decide +kernel) ?_
  refine s_if (p' := 45) true rfl (by decide +kernel) rfl ?_
  refine s_ildn (p' := 46) rfl rfl rfl ?_
  refine c_iret rfl rfl ?_
  refine s_con (p' := 17) rfl rfl ?_
  refine s_ildn (p' := 18) rfl rfl rfl ?_
  refine s_bz (p' := 19) (z := (nI 3)) rfl rfl rfl (by decide +kernel) ?_
  refine s_bz (p' := 20) (z := (nI 8)) rfl rfl rfl (by decide +kernel) ?_
  refine s_bz (p' := 21) (z := (nI 8)) rfl rfl rfl (by decide +kernel) ?_
  refine s_istn (p' := 22) (ls' := [_, _, _]) rfl rfl rfl rfl ?_
  refine s_incz (p' := 25) (w := (nI 2)) (ls' := [_, _, _]) rfl rfl rfl (by decide +kernel) rfl rfl ?_
  refine s_goto (p' := 4) rfl rfl ?_
  refine s_ildn (p' := 5) rfl rfl rfl ?_
  refine s_bip (p' := 7) rfl rfl ?_
  refine s_icmp (p' := 10) false rfl (by decide +kernel) rfl ?_
  refine s_ildn (p' := 11) rfl rfl rfl ?_
  refine s_aldn (p' := 12) rfl rfl rfl ?_
  refine s_ildn (p' := 13) rfl rfl rfl ?_
  refine c_call (p' := 16) (kc := 97) (ls0 := [_, _, _, _, _]) rfl rfl rfl rfl rfl (mj_rcv_is (rd_sn rfl (rd_sn rfl (rd_sn rfl (rd_app (rd_sn rfl (rd_sn rfl (rd_sn rfl (rd_app (rd_ss rfl (rd_sn rfl (rd_sn rfl (rd_sn rfl (rd_app (rd_app H400))))))))))))))) rfl rfl rfl ?_
  refine s_ildn (p' := 1) rfl rfl rfl ?_
  refine s_istn (p' := 2) (ls' := [_, _, _, _, _]) rfl rfl rfl rfl ?_
  refine s_aldn (p' := 3) rfl rfl rfl ?_
  refine s_gf (p' := 6) rfl (rd_sn rfl (rd_sn rfl (rd_sn rfl (rd_app (rd_sn rfl (rd_sn rfl (rd_sn rfl (rd_app (rd_ss rfl (rd_sn rfl (rd_sn rfl (rd_sn rfl (rd_app (rd_app H400)))))))))))))) rfl rfl ?_
  refine c_call (p' := 11) (kc := 96) (ls0 := [_]) rfl rfl rfl rfl rfl (mj_rcv_is (rd_sn rfl (rd_sn rfl (rd_sn rfl (rd_app (rd_sn rfl (rd_sn rfl (rd_sn rfl (rd_app (rd_sn rfl (rd_sn rfl (rd_sn rfl (rd_sn rfl (rd_app (rd_app H410))))))))))))))) rfl rfl rfl ?_
  refine s_newz (p' := 3) (a := 418) rfl (len_s (len_s (len_s (len_a (len_s (len_s (len_s (len_a (len_s (len_s (len_s (len_s (len_a (len_a HL rfl) rfl))))) rfl)))) rfl)))) rfl rfl ?_
  refine s_dupr (p' := 4) rfl rfl ?_
  refine s_aldn (p' := 5) rfl rfl rfl ?_
  refine c_call (p' := 8) (kc := 95) (ls0 := [_, _]) rfl rfl rfl rfl rfl (mj_rcv_is (rd_nw rfl (len_s (len_s (len_s (len_a (len_s (len_s (len_s (len_a (len_s (len_s (len_s (len_s (len_a (len_a HL rfl) rfl))))) rfl)))) rfl)))))) rfl rfl rfl ?_
  refine s_aldn (p' := 1) rfl rfl rfl ?_
  refine s_aldn (p' := 2) rfl rfl rfl ?_
  refine s_pfz (p' := 5) (fs' := [_, _, _, _]) rfl rfl (rd_nw rfl (len_s (len_s (len_s (len_a (len_s (len_s (len_s (len_a (len_s (len_s (len_s (len_s (len_a (len_a HL rfl) rfl))))) rfl)))) rfl))))) rfl rfl rfl rfl ?_
  refine s_aldn (p' := 6) rfl rfl rfl ?_
  refine s_primN (p' := 9) (q := 3) rfl rfl rfl rfl rfl rfl rfl rfl ?_
  refine s_aldn (p' := 10) rfl rfl rfl ?_
  refine s_con (p' := 11) rfl rfl ?_
  refine s_pfz (p' := 14) (fs' := [_, _, _, _]) rfl rfl (rd_ss rfl (rd_nw rfl (len_s (len_s (len_s (len_a (len_s (len_s (len_s (len_a (len_s (len_s (len_s (len_s (len_a (len_a HL rfl) rfl))))) rfl)))) rfl)))))) rfl rfl rfl rfl ?_
  refine s_aldn (p' := 15) rfl rfl rfl ?_
  refine s_aldn (p' := 16) rfl rfl rfl ?_
  refine s_gf (p' := 19) rfl (rd_ss rfl (rd_ss rfl (rd_nw rfl (len_s (len_s (len_s (len_a (len_s (len_s (len_s (len_a (len_s (len_s (len_s (len_s (len_a (len_a HL rfl) rfl))))) rfl)))) rfl))))))) rfl rfl ?_
  refine s_gf (p' := 22) rfl (rd_sn rfl (rd_sn rfl (rd_app (rd_sn rfl (rd_sn rfl (rd_sn rfl (rd_app (rd_sn rfl (rd_sn rfl (rd_sn rfl (rd_app (rd_sn rfl (rd_sn rfl (rd_sn rfl (rd_sn rfl (rd_app (rd_app H410))))))))))))))))) rfl rfl ?_
  refine s_pfz (p' := 25) (fs' := [_, _, _, _]) rfl rfl (rd_ss rfl (rd_ss rfl (rd_nw rfl (len_s (len_s (len_s (len_a (len_s (len_s (len_s (len_a (len_s (len_s (len_s (len_s (len_a (len_a HL rfl) rfl))))) rfl)))) rfl))))))) rfl rfl rfl rfl ?_
  refine c_ret rfl ?_
  refine c_aret rfl ?_
  refine s_astn (p' := 12) (ls' := [_, _, _, _, _]) rfl rfl rfl rfl ?_
  refine s_aldn (p' := 13) rfl rfl rfl ?_
  refine c_call (p' := 18) (kc := 96) (ls0 := [_]) rfl rfl rfl rfl rfl (mj_rcv_is (rd_ss rfl (rd_ss rfl (rd_ss rfl (rd_nw rfl (len_s (len_s (len_s (len_a (len_s (len_s (len_s (len_a (len_s (len_s (len_s (len_s (len_a (len_a HL rfl) rfl))))) rfl)))) rfl))))))))) rfl rfl rfl ?_
  refine s_aldn (p' := 1) rfl rfl rfl ?_
  refine s_gf (p' := 4) rfl (rd_ss rfl (rd_ss rfl (rd_ss rfl (rd_nw rfl (len_s (len_s (len_s (len_a (len_s (len_s (len_s (len_a (len_s (len_s (len_s (len_s (len_a (len_a HL rfl) rfl))))) rfl)))) rfl)))))))) rfl rfl ?_
  refine s_aldn (p' := 5) rfl rfl rfl ?_
  refine s_gf (p' := 8) rfl (rd_ss rfl (rd_ss rfl (rd_ss rfl (rd_nw rfl (len_s (len_s (len_s (len_a (len_s (len_s (len_s (len_a (len_s (len_s (len_s (len_s (len_a (len_a HL rfl) rfl))))) rfl)))) rfl)))))))) rfl rfl ?_
  refine s_gf (p' := 11) rfl (rd_sn rfl (rd_sn rfl (rd_sn rfl (rd_app (rd_sn rfl (rd_sn rfl (rd_sn rfl (rd_app (rd_sn rfl (rd_sn rfl (rd_sn rfl (rd_app (rd_sn rfl (rd_sn rfl (rd_sn rfl (rd_sn rfl (rd_app (rd_app H410)))))))))))))))))) rfl rfl ?_
  refine s_icmp (p' := 18) true rfl (by decide +kernel) rfl ?_
  refine s_con (p' := 19) rfl rfl ?_
  refine c_iret rfl (by decide +kernel) ?_
  refine s_if (p' := 45) true rfl (by decide +kernel) rfl ?_
  refine s_ildn (p' := 46) rfl rfl rfl ?_
  refine c_iret rfl rfl ?_
  refine s_con (p' := 17) rfl rfl ?_
  refine s_ildn (p' := 18) rfl rfl rfl ?_
  refine s_bz (p' := 19) (z := (nI 6)) rfl rfl rfl (by decide +kernel) ?_
  refine s_bz (p' := 20) (z := (nI 128)) rfl rfl rfl (by decide +kernel) ?_
  refine s_bz (p' := 21) (z := (nI 136)) rfl rfl rfl (by decide +kernel) ?_
  refine s_istn (p' := 22) (ls' := [_, _, _]) rfl rfl rfl rfl ?_
  refine s_incz (p' := 25) (w := (nI 3)) (ls' := [_, _, _]) rfl rfl rfl (by decide +kernel) rfl rfl ?_
  refine s_goto (p' := 4) rfl rfl ?_
  refine s_ildn (p' := 5) rfl rfl rfl ?_
  refine s_bip (p' := 7) rfl rfl ?_
  refine s_icmp (p' := 10) false rfl (by decide +kernel) rfl ?_
  refine s_ildn (p' := 11) rfl rfl rfl ?_
  refine s_aldn (p' := 12) rfl rfl rfl ?_
  refine s_ildn (p' := 13) rfl rfl rfl ?_
  refine c_call (p' := 16) (kc := 97) (ls0 := [_, _, _, _, _]) rfl rfl rfl rfl rfl (mj_rcv_is (rd_sn rfl (rd_sn rfl (rd_sn rfl (rd_app (rd_sn rfl (rd_sn rfl (rd_sn rfl (rd_app (rd_sn rfl (rd_sn rfl (rd_sn rfl (rd_app (rd_ss rfl (rd_sn rfl (rd_sn rfl (rd_sn rfl (rd_app (rd_app H400))))))))))))))))))) rfl rfl rfl ?_
  refine s_ildn (p' := 1) rfl rfl rfl ?_
  refine s_istn (p' := 2) (ls' := [_, _, _, _, _]) rfl rfl rfl rfl ?_
  refine s_aldn (p' := 3) rfl rfl rfl ?_
  refine s_gf (p' := 6) rfl (rd_sn rfl (rd_sn rfl (rd_sn rfl (rd_app (rd_sn rfl (rd_sn rfl (rd_sn rfl (rd_app (rd_sn rfl (rd_sn rfl (rd_sn rfl (rd_app (rd_ss rfl (rd_sn rfl (rd_sn rfl (rd_sn rfl (rd_app (rd_app H400)))))))))))))))))) rfl rfl ?_
  refine c_call (p' := 11) (kc := 96) (ls0 := [_]) rfl rfl rfl rfl rfl (mj_rcv_is (rd_sn rfl (rd_sn rfl (rd_sn rfl (rd_app (rd_sn rfl (rd_sn rfl (rd_sn rfl (rd_app (rd_sn rfl (rd_sn rfl (rd_sn rfl (rd_app (rd_sn rfl (rd_sn rfl (rd_sn rfl (rd_sn rfl (rd_app (rd_app H410))))))))))))))))))) rfl rfl rfl ?_
  refine s_newz (p' := 3) (a := 419) rfl (len_s (len_s (len_s (len_a (len_s (len_s (len_s (len_a (len_s (len_s (len_s (len_a (len_s (len_s (len_s (len_s (len_a (len_a HL rfl) rfl))))) rfl)))) rfl)))) rfl)))) rfl rfl ?_
  refine s_dupr (p' := 4) rfl rfl ?_
  refine s_aldn (p' := 5) rfl rfl rfl ?_
  refine c_call (p' := 8) (kc := 95) (ls0 := [_, _]) rfl rfl rfl rfl rfl (mj_rcv_is (rd_nw rfl (len_s (len_s (len_s (len_a (len_s (len_s (len_s (len_a (len_s (len_s (len_s (len_a (len_s (len_s (len_s (len_s (len_a (len_a HL rfl) rfl))))) rfl)))) rfl)))) rfl)))))) rfl rfl rfl ?_
  refine s_aldn (p' := 1) rfl rfl rfl ?_
  refine s_aldn (p' := 2) rfl rfl rfl ?_
  refine s_pfz (p' := 5) (fs' := [_, _, _, _]) rfl rfl (rd_nw rfl (len_s (len_s (len_s (len_a (len_s (len_s (len_s (len_a (len_s (len_s (len_s (len_a (len_s (len_s (len_s (len_s (len_a (len_a HL rfl) rfl))))) rfl)))) rfl)))) rfl))))) rfl rfl rfl rfl ?_
  refine s_aldn (p' := 6) rfl rfl rfl ?_
  refine s_primN (p' := 9) (q := 3) rfl rfl rfl rfl rfl rfl rfl rfl ?_
  refine s_aldn (p' := 10) rfl rfl rfl ?_
  refine s_con (p' := 11) rfl rfl ?_
  refine s_pfz (p' := 14) (fs' := [_, _, _, _]) rfl rfl (rd_ss rfl (rd_nw rfl (len_s (len_s (len_s (len_a (len_s (len_s (len_s (len_a (len_s (len_s (len_s (len_a (len_s (len_s (len_s (len_s (len_a (len_a HL rfl) rfl))))) rfl)))) rfl)))) rfl)))))) rfl rfl rfl rfl ?_
  refine s_aldn (p' := 15) rfl rfl rfl ?_
  refine s_aldn (p' := 16) rfl rfl rfl ?_
  refine s_gf (p' := 19) rfl (rd_ss rfl (rd_ss rfl (rd_nw rfl (len_s (len_s (len_s (len_a (len_s (len_s (len_s (len_a (len_s (len_s (len_s (len_a (len_s (len_s (len_s (len_s (len_a (len_a HL rfl) rfl))))) rfl)))) rfl)))) rfl))))))) rfl rfl ?_
  refine s_gf (p' := 22) rfl (rd_sn rfl (rd_sn rfl (rd_app (rd_sn rfl (rd_sn rfl (rd_sn rfl (rd_app (rd_sn rfl (rd_sn rfl (rd_sn rfl (rd_app (rd_sn rfl (rd_sn rfl (rd_sn rfl (rd_app (rd_sn rfl (rd_sn rfl (rd_sn rfl (rd_sn rfl (rd_app (rd_app H410))))))))))))))))))))) rfl rfl ?_
  refine s_pfz (p' := 25) (fs' := [_, _, _, _]) rfl rfl (rd_ss rfl (rd_ss rfl (rd_nw rfl (len_s (len_s (len_s (len_a (len_s (len_s (len_s (len_a (len_s (len_s (len_s (len_a (len_s (len_s (len_s (len_s (len_a (len_a HL rfl) rfl))))) rfl)))) rfl)))) rfl))))))) rfl rfl rfl rfl ?_
  refine c_ret rfl ?_
  refine c_aret rfl ?_
  refine s_astn (p' := 12) (ls' := [_, _, _, _, _]) rfl rfl rfl rfl ?_
  refine s_aldn (p' := 13) rfl rfl rfl ?_
  refine c_call (p' := 18) (kc := 96) (ls0 := [_]) rfl rfl rfl rfl rfl (mj_rcv_is (rd_ss rfl (rd_ss rfl (rd_ss rfl (rd_nw rfl (len_s (len_s (len_s (len_a (len_s (len_s (len_s (len_a (len_s (len_s (len_s (len_a (len_s (len_s (len_s (len_s (len_a (len_a HL rfl) rfl))))) rfl)))) rfl)))) rfl))))))))) rfl rfl rfl ?_
  refine s_aldn (p' := 1) rfl rfl rfl ?_
  refine s_gf (p' := 4) rfl (rd_ss rfl (rd_ss rfl (rd_ss rfl (rd_nw rfl (len_s (len_s (len_s (len_a (len_s (len_s (len_s (len_a (len_s (len_s (len_s (len_a (len_s (len_s (len_s (len_s (len_a (len_a HL rfl) rfl))))) rfl)))) rfl)))) rfl)))))))) rfl rfl ?_
  refine s_aldn (p' := 5) rfl rfl rfl ?_
  refine s_gf (p' := 8) rfl (rd_ss rfl (rd_ss rfl (rd_ss rfl (rd_nw rfl (len_s (len_s (len_s (len_a (len_s (len_s (len_s (len_a (len_s (len_s (len_s (len_a (len_s (len_s (len_s (len_s (len_a (len_a HL rfl) rfl))))) rfl)))) rfl)))) rfl)))))))) rfl rfl ?_
  refine s_gf (p' := 11) rfl (rd_sn rfl (rd_sn rfl (rd_sn rfl (rd_app (rd_sn rfl (rd_sn rfl (rd_sn rfl (rd_app (rd_sn rfl (rd_sn rfl (rd_sn rfl (rd_app (rd_sn rfl (rd_sn rfl (rd_sn rfl (rd_app (rd_sn rfl (rd_sn rfl (rd_sn rfl (rd_sn rfl (rd_app (rd_app H410)))))))))))))))))))))) rfl rfl ?_
  refine s_icmp (p' := 18) true rfl (by decide +kernel) rfl ?_
  refine s_con (p' := 19) rfl rfl ?_
  refine c_iret rfl (by decide +kernel) ?_
  refine s_if (p' := 45) true rfl (by decide +kernel) rfl ?_
  refine s_ildn (p' := 46) rfl rfl rfl ?_
  refine c_iret rfl rfl ?_
  refine s_con (p' := 17) rfl rfl ?_
  refine s_ildn (p' := 18) rfl rfl rfl ?_
  refine s_bz (p' := 19) (z := (nI 9)) rfl rfl rfl (by decide +kernel) ?_
  refine s_bz (p' := 20) (z := (nI 1536)) rfl rfl rfl (by decide +kernel) ?_
  refine s_bz (p' := 21) (z := (nI 1672)) rfl rfl rfl (by decide +kernel) ?_
  refine s_istn (p' := 22) (ls' := [_, _, _]) rfl rfl rfl rfl ?_
  refine s_incz (p' := 25) (w := (nI 4)) (ls' := [_, _, _]) rfl rfl rfl (by decide +kernel) rfl rfl ?_
  refine s_goto (p' := 4) rfl rfl ?_
  refine s_ildn (p' := 5) rfl rfl rfl ?_
  refine s_bip (p' := 7) rfl rfl ?_
  refine s_icmp (p' := 10) false rfl (by decide +kernel) rfl ?_
  refine s_ildn (p' := 11) rfl rfl rfl ?_
  refine s_aldn (p' := 12) rfl rfl rfl ?_
  refine s_ildn (p' := 13) rfl rfl rfl ?_
  refine c_call (p' := 16) (kc := 97) (ls0 := [_, _, _, _, _]) rfl rfl rfl rfl rfl (mj_rcv_is (rd_sn rfl (rd_sn rfl (rd_sn rfl (rd_app (rd_sn rfl (rd_sn rfl (rd_sn rfl (rd_app (rd_sn rfl (rd_sn rfl (rd_sn rfl (rd_app (rd_sn rfl (rd_sn rfl (rd_sn rfl (rd_app (rd_ss rfl (rd_sn rfl (rd_sn rfl (rd_sn rfl (rd_app (rd_app H400))))))))))))))))))))))) rfl rfl rfl ?_
  refine s_ildn (p' := 1) rfl rfl rfl ?_
  refine s_istn (p' := 2) (ls' := [_, _, _, _, _]) rfl rfl rfl rfl ?_
  refine s_aldn (p' := 3) rfl rfl rfl ?_
  refine s_gf (p' := 6) rfl (rd_sn rfl (rd_sn rfl (rd_sn rfl (rd_app (rd_sn rfl (rd_sn rfl (rd_sn rfl (rd_app (rd_sn rfl (rd_sn rfl (rd_sn rfl (rd_app (rd_sn rfl (rd_sn rfl (rd_sn rfl (rd_app (rd_ss rfl (rd_sn rfl (rd_sn rfl (rd_sn rfl (rd_app (rd_app H400)))))))))))))))))))))) rfl rfl ?_
  refine c_call (p' := 11) (kc := 96) (ls0 := [_]) rfl rfl rfl rfl rfl (mj_rcv_is (rd_sn rfl (rd_sn rfl (rd_sn rfl (rd_app (rd_sn rfl (rd_sn rfl (rd_sn rfl (rd_app (rd_sn rfl (rd_sn rfl (rd_sn rfl (rd_app (rd_sn rfl (rd_sn rfl (rd_sn rfl (rd_app (rd_sn rfl (rd_sn rfl (rd_sn rfl (rd_sn rfl (rd_app (rd_app H410))))))))))))))))))))))) rfl rfl rfl ?_
  refine s_newz (p' := 3) (a := 420) rfl (len_s (len_s (len_s (len_a (len_s (len_s (len_s (len_a (len_s (len_s (len_s (len_a (len_s (len_s (len_s (len_a (len_s (len_s (len_s (len_s (len_a (len_a HL rfl) rfl))))) rfl)))) rfl)))) rfl)))) rfl)))) rfl rfl ?_
  refine s_dupr (p' := 4) rfl rfl ?_
  refine s_aldn (p' := 5) rfl rfl rfl ?_
  refine c_call (p' := 8) (kc := 95) (ls0 := [_, _]) rfl rfl rfl rfl rfl (mj_rcv_is (rd_nw rfl (len_s (len_s (len_s (len_a (len_s (len_s (len_s (len_a (len_s (len_s (len_s (len_a (len_s (len_s (len_s (len_a (len_s (len_s (len_s (len_s (len_a (len_a HL rfl) rfl))))) rfl)))) rfl)))) rfl)))) rfl)))))) rfl rfl rfl ?_
  refine s_aldn (p' := 1) rfl rfl rfl ?_
  refine s_aldn (p' := 2) rfl rfl rfl ?_
  refine s_pfz (p' := 5) (fs' := [_, _, _, _]) rfl rfl (rd_nw rfl (len_s (len_s (len_s (len_a (len_s (len_s (len_s (len_a (len_s (len_s (len_s (len_a (len_s (len_s (len_s (len_a (len_s (len_s (len_s (len_s (len_a (len_a HL rfl) rfl))))) rfl)))) rfl)))) rfl)))) rfl))))) rfl rfl rfl rfl ?_
  refine s_aldn (p' := 6) rfl rfl rfl ?_
  refine s_primN (p' := 9) (q := 3) rfl rfl rfl rfl rfl rfl rfl rfl ?_
  refine s_aldn (p' := 10) rfl rfl rfl ?_
  refine s_con (p' := 11) rfl rfl ?_
  refine s_pfz (p' := 14) (fs' := [_, _, _, _]) rfl rfl (rd_ss rfl (rd_nw rfl (len_s (len_s (len_s (len_a (len_s (len_s (len_s (len_a (len_s (len_s (len_s (len_a (len_s (len_s (len_s (len_a (len_s (len_s (len_s (len_s (len_a (len_a HL rfl) rfl))))) rfl)))) rfl)))) rfl)))) rfl)))))) rfl rfl rfl rfl ?_
  refine s_aldn (p' := 15) rfl rfl rfl ?_
  refine s_aldn (p' := 16) rfl rfl rfl ?_
  refine s_gf (p' := 19) rfl (rd_ss rfl (rd_ss rfl (rd_nw rfl (len_s (len_s (len_s (len_a (len_s (len_s (len_s (len_a (len_s (len_s (len_s (len_a (len_s (len_s (len_s (len_a (len_s (len_s (len_s (len_s (len_a (len_a HL rfl) rfl))))) rfl)))) rfl)))) rfl)))) rfl))))))) rfl rfl ?_
  refine s_gf (p' := 22) rfl (rd_sn rfl (rd_sn rfl (rd_app (rd_sn rfl (rd_sn rfl (rd_sn rfl (rd_app (rd_sn rfl (rd_sn rfl (rd_sn rfl (rd_app (rd_sn rfl (rd_sn rfl (rd_sn rfl (rd_app (rd_sn rfl (rd_sn rfl (rd_sn rfl (rd_app (rd_sn rfl (rd_sn rfl (rd_sn rfl (rd_sn rfl (rd_app (rd_app H410))))))))))))))))))))))))) rfl rfl ?_
  refine s_pfz (p' := 25) (fs' := [_, _, _, _]) rfl rfl (rd_ss rfl (rd_ss rfl (rd_nw rfl (len_s (len_s (len_s (len_a (len_s (len_s (len_s (len_a (len_s (len_s (len_s (len_a (len_s (len_s (len_s (len_a (len_s (len_s (len_s (len_s (len_a (len_a HL rfl) rfl))))) rfl)))) rfl)))) rfl)))) rfl))))))) rfl rfl rfl rfl ?_
  refine c_ret rfl ?_
  refine c_aret rfl ?_
  refine s_astn (p' := 12) (ls' := [_, _, _, _, _]) rfl rfl rfl rfl ?_
  refine s_aldn (p' := 13) rfl rfl rfl ?_
  refine c_call (p' := 18) (kc := 96) (ls0 := [_]) rfl rfl rfl rfl rfl (mj_rcv_is (rd_ss rfl (rd_ss rfl (rd_ss rfl (rd_nw rfl (len_s (len_s (len_s (len_a (len_s (len_s (len_s (len_a (len_s (len_s (len_s (len_a (len_s (len_s (len_s (len_a (len_s (len_s (len_s (len_s (len_a (len_a HL rfl) rfl))))) rfl)))) rfl)))) rfl)))) rfl))))))))) rfl rfl rfl ?_
  refine s_aldn (p' := 1) rfl rfl rfl ?_
  refine s_gf (p' := 4) rfl (rd_ss rfl (rd_ss rfl (rd_ss rfl (rd_nw rfl (len_s (len_s (len_s (len_a (len_s (len_s (len_s (len_a (len_s (len_s (len_s (len_a (len_s (len_s (len_s (len_a (len_s (len_s (len_s (len_s (len_a (len_a HL rfl) rfl))))) rfl)))) rfl)))) rfl)))) rfl)))))))) rfl rfl ?_
  refine s_aldn (p' := 5) rfl rfl rfl ?_
  refine s_gf (p' := 8) rfl (rd_ss rfl (rd_ss rfl (rd_ss rfl (rd_nw rfl (len_s (len_s (len_s (len_a (len_s (len_s (len_s (len_a (len_s (len_s (len_s (len_a (len_s (len_s (len_s (len_a (len_s (len_s (len_s (len_s (len_a (len_a HL rfl) rfl))))) rfl)))) rfl)))) rfl)))) rfl)))))))) rfl rfl ?_
  refine s_gf (p' := 11) rfl (rd_sn rfl (rd_sn rfl (rd_sn rfl (rd_app (rd_sn rfl (rd_sn rfl (rd_sn rfl (rd_app (rd_sn rfl (rd_sn rfl (rd_sn rfl (rd_app (rd_sn rfl (rd_sn rfl (rd_sn rfl (rd_app (rd_sn rfl (rd_sn rfl (rd_sn rfl (rd_app (rd_sn rfl (rd_sn rfl (rd_sn rfl (rd_sn rfl (rd_app (rd_app H410)))))))))))))))))))))))))) rfl rfl ?_
  refine s_icmp (p' := 18) true rfl (by decide +kernel) rfl ?_
  refine s_con (p' := 19) rfl rfl ?_
  refine c_iret rfl (by decide +kernel) ?_
  refine s_if (p' := 45) true rfl (by decide +kernel) rfl ?_
  refine s_ildn (p' := 46) rfl rfl rfl ?_
  refine c_iret rfl rfl ?_
  refine s_con (p' := 17) rfl rfl ?_
  refine s_ildn (p' := 18) rfl rfl rfl ?_
  refine s_bz (p' := 19) (z := (nI 12)) rfl rfl rfl (by decide +kernel) ?_
  refine s_bz (p' := 20) (z := (nI 16384)) rfl rfl rfl (by decide +kernel) ?_
  refine s_bz (p' := 21) (z := (nI 18056)) rfl rfl rfl (by decide +kernel) ?_
  refine s_istn (p' := 22) (ls' := [_, _, _]) rfl rfl rfl rfl ?_
  refine s_incz (p' := 25) (w := (nI 5)) (ls' := [_, _, _]) rfl rfl rfl (by decide +kernel) rfl rfl ?_
  refine s_goto (p' := 4) rfl rfl ?_
  refine s_ildn (p' := 5) rfl rfl rfl ?_
  refine s_bip (p' := 7) rfl rfl ?_
  refine s_icmp (p' := 10) false rfl (by decide +kernel) rfl ?_
  refine s_ildn (p' := 11) rfl rfl rfl ?_
  refine s_aldn (p' := 12) rfl rfl rfl ?_
  refine s_ildn (p' := 13) rfl rfl rfl ?_
  refine c_call (p' := 16) (kc := 97) (ls0 := [_, _, _, _, _]) rfl rfl rfl rfl rfl (mj_rcv_is (rd_sn rfl (rd_sn rfl (rd_sn rfl (rd_app (rd_sn rfl (rd_sn rfl (rd_sn rfl (rd_app (rd_sn rfl (rd_sn rfl (rd_sn rfl (rd_app (rd_sn rfl (rd_sn rfl (rd_sn rfl (rd_app (rd_sn rfl (rd_sn rfl (rd_sn rfl (rd_app (rd_ss rfl (rd_sn rfl (rd_sn rfl (rd_sn rfl (rd_app (rd_app H400))))))))))))))))))))))))))) rfl rfl rfl ?_
  refine s_ildn (p' := 1) rfl rfl rfl ?_
  refine s_istn (p' := 2) (ls' := [_, _, _, _, _]) rfl rfl rfl rfl ?_
  refine s_aldn (p' := 3) rfl rfl rfl ?_
  refine s_gf (p' := 6) rfl (rd_sn rfl (rd_sn rfl (rd_sn rfl (rd_app (rd_sn rfl (rd_sn rfl (rd_sn rfl (rd_app (rd_sn rfl (rd_sn rfl (rd_sn rfl (rd_app (rd_sn rfl (rd_sn rfl (rd_sn rfl (rd_app (rd_sn rfl (rd_sn rfl (rd_sn rfl (rd_app (rd_ss rfl (rd_sn rfl (rd_sn rfl (rd_sn rfl (rd_app (rd_app H400)))))))))))))))))))))))))) rfl rfl ?_
  refine c_call (p' := 11) (kc := 96) (ls0 := [_]) rfl rfl rfl rfl rfl (mj_rcv_is (rd_sn rfl (rd_sn rfl (rd_sn rfl (rd_app (rd_sn rfl (rd_sn rfl (rd_sn rfl (rd_app (rd_sn rfl (rd_sn rfl (rd_sn rfl (rd_app (rd_sn rfl (rd_sn rfl (rd_sn rfl (rd_app (rd_sn rfl (rd_sn rfl (rd_sn rfl (rd_app (rd_sn rfl (rd_sn rfl (rd_sn rfl (rd_sn rfl (rd_app (rd_app H410))))))))))))))))))))))))))) rfl rfl rfl ?_
  refine s_newz (p' := 3) (a := 421) rfl (len_s (len_s (len_s (len_a (len_s (len_s (len_s (len_a (len_s (len_s (len_s (len_a (len_s (len_s (len_s (len_a (len_s (len_s (len_s (len_a (len_s (len_s (len_s (len_s (len_a (len_a HL rfl) rfl))))) rfl)))) rfl)))) rfl)))) rfl)))) rfl)))) rfl rfl ?_
  refine s_dupr (p' := 4) rfl rfl ?_
  refine s_aldn (p' := 5) rfl rfl rfl ?_
  refine c_call (p' := 8) (kc := 95) (ls0 := [_, _]) rfl rfl rfl rfl rfl (mj_rcv_is (rd_nw rfl (len_s (len_s (len_s (len_a (len_s (len_s (len_s (len_a (len_s (len_s (len_s (len_a (len_s (len_s (len_s (len_a (len_s (len_s (len_s (len_a (len_s (len_s (len_s (len_s (len_a (len_a HL rfl) rfl))))) rfl)))) rfl)))) rfl)))) rfl)))) rfl)))))) rfl rfl rfl ?_
  refine s_aldn (p' := 1) rfl rfl rfl ?_
  refine s_aldn (p' := 2) rfl rfl rfl ?_
  refine s_pfz (p' := 5) (fs' := [_, _, _, _]) rfl rfl (rd_nw rfl (len_s (len_s (len_s (len_a (len_s (len_s (len_s (len_a (len_s (len_s (len_s (len_a (len_s (len_s (len_s (len_a (len_s (len_s (len_s (len_a (len_s (len_s (len_s (len_s (len_a (len_a HL rfl) rfl))))) rfl)))) rfl)))) rfl)))) rfl)))) rfl))))) rfl rfl rfl rfl ?_
  refine s_aldn (p' := 6) rfl rfl rfl ?_
  refine s_primN (p' := 9) (q := 3) rfl rfl rfl rfl rfl rfl rfl rfl ?_
  refine s_aldn (p' := 10) rfl rfl rfl ?_
  refine s_con (p' := 11) rfl rfl ?_
  refine s_pfz (p' := 14) (fs' := [_, _, _, _]) rfl rfl (rd_ss rfl (rd_nw rfl (len_s (len_s (len_s (len_a (len_s (len_s (len_s (len_a (len_s (len_s (len_s (len_a (len_s (len_s (len_s (len_a (len_s (len_s (len_s (len_a (len_s (len_s (len_s (len_s (len_a (len_a HL rfl) rfl))))) rfl)))) rfl)))) rfl)))) rfl)))) rfl)))))) rfl rfl rfl rfl ?_
  refine s_aldn (p' := 15) rfl rfl rfl ?_
  refine s_aldn (p' := 16) rfl rfl rfl ?_
  refine s_gf (p' := 19) rfl (rd_ss rfl (rd_ss rfl (rd_nw rfl (len_s (len_s (len_s (len_a (len_s (len_s (len_s (len_a (len_s (len_s (len_s (len_a (len_s (len_s (len_s (len_a (len_s (len_s (len_s (len_a (len_s (len_s (len_s (len_s (len_a (len_a HL rfl) rfl))))) rfl)))) rfl)))) rfl)))) rfl)))) rfl))))))) rfl rfl ?_
  refine s_gf (p' := 22) rfl (rd_sn rfl (rd_sn rfl (rd_app (rd_sn rfl (rd_sn rfl (rd_sn rfl (rd_app (rd_sn rfl (rd_sn rfl (rd_sn rfl (rd_app (rd_sn rfl (rd_sn rfl (rd_sn rfl (rd_app (rd_sn rfl (rd_sn rfl (rd_sn rfl (rd_app (rd_sn rfl (rd_sn rfl (rd_sn rfl (rd_app (rd_sn rfl (rd_sn rfl (rd_sn rfl (rd_sn rfl (rd_app (rd_app H410))))))))))))))))))))))))))))) rfl rfl ?_
  refine s_pfz (p' := 25) (fs' := [_, _, _, _]) rfl rfl (rd_ss rfl (rd_ss rfl (rd_nw rfl (len_s (len_s (len_s (len_a (len_s (len_s (len_s (len_a (len_s (len_s (len_s (len_a (len_s (len_s (len_s (len_a (len_s (len_s (len_s (len_a (len_s (len_s (len_s (len_s (len_a (len_a HL rfl) rfl))))) rfl)))) rfl)))) rfl)))) rfl)))) rfl))))))) rfl rfl rfl rfl ?_
  refine c_ret rfl ?_
  refine c_aret rfl ?_
  refine s_astn (p' := 12) (ls' := [_, _, _, _, _]) rfl rfl rfl rfl ?_
  refine s_aldn (p' := 13) rfl rfl rfl ?_
  refine c_call (p' := 18) (kc := 96) (ls0 := [_]) rfl rfl rfl rfl rfl (mj_rcv_is (rd_ss rfl (rd_ss rfl (rd_ss rfl (rd_nw rfl (len_s (len_s (len_s (len_a (len_s (len_s (len_s (len_a (len_s (len_s (len_s (len_a (len_s (len_s (len_s (len_a (len_s (len_s (len_s (len_a (len_s (len_s (len_s (len_s (len_a (len_a HL rfl) rfl))))) rfl)))) rfl)))) rfl)))) rfl)))) rfl))))))))) rfl rfl rfl ?_
  refine s_aldn (p' := 1) rfl rfl rfl ?_
  refine s_gf (p' := 4) rfl (rd_ss rfl (rd_ss rfl (rd_ss rfl (rd_nw rfl (len_s (len_s (len_s (len_a (len_s (len_s (len_s (len_a (len_s (len_s (len_s (len_a (len_s (len_s (len_s (len_a (len_s (len_s (len_s (len_a (len_s (len_s (len_s (len_s (len_a (len_a HL rfl) rfl))))) rfl)))) rfl)))) rfl)))) rfl)))) rfl)))))))) rfl rfl ?_
  refine s_aldn (p' := 5) rfl rfl rfl ?_
  refine s_gf (p' := 8) rfl (rd_ss rfl (rd_ss rfl (rd_ss rfl (rd_nw rfl (len_s (len_s (len_s (len_a (len_s (len_s (len_s (len_a (len_s (len_s (len_s (len_a (len_s (len_s (len_s (len_a (len_s (len_s (len_s (len_a (len_s (len_s (len_s (len_s (len_a (len_a HL rfl) rfl))))) rfl)))) rfl)))) rfl)))) rfl)))) rfl)))))))) rfl rfl ?_
  refine s_gf (p' := 11) rfl (rd_sn rfl (rd_sn rfl (rd_sn rfl (rd_app (rd_sn rfl (rd_sn rfl (rd_sn rfl (rd_app (rd_sn rfl (rd_sn rfl (rd_sn rfl (rd_app (rd_sn rfl (rd_sn rfl (rd_sn rfl (rd_app (rd_sn rfl (rd_sn rfl (rd_sn rfl (rd_app (rd_sn rfl (rd_sn rfl (rd_sn rfl (rd_app (rd_sn rfl (rd_sn rfl (rd_sn rfl (rd_sn rfl (rd_app (rd_app H410)))))))))))))))))))))))))))))) rfl rfl ?_
  refine s_icmp (p' := 18) true rfl (by decide +kernel) rfl ?_
  refine s_con (p' := 19) rfl rfl ?_
  refine c_iret rfl (by decide +kernel) ?_
  refine s_if (p' := 45) true rfl (by decide +kernel) rfl ?_
  refine s_ildn (p' := 46) rfl rfl rfl ?_
  refine c_iret rfl rfl ?_
  refine s_con (p' := 17) rfl rfl ?_
  refine s_ildn (p' := 18) rfl rfl rfl ?_
  refine s_bz (p' := 19) (z := (nI 15)) rfl rfl rfl (by decide +kernel) ?_
  refine s_bz (p' := 20) (z := (nI 163840)) rfl rfl rfl (by decide +kernel) ?_
  refine s_bz (p' := 21) (z := (nI 181896)) rfl rfl rfl (by decide +kernel) ?_
  refine s_istn (p' := 22) (ls' := [_, _, _]) rfl rfl rfl rfl ?_
  refine s_incz (p' := 25) (w := (nI 6)) (ls' := [_, _, _]) rfl rfl rfl (by decide +kernel) rfl rfl ?_
  refine s_goto (p' := 4) rfl rfl ?_
  refine s_ildn (p' := 5) rfl rfl rfl ?_
  refine s_bip (p' := 7) rfl rfl ?_
  refine s_icmp (p' := 10) false rfl (by decide +kernel) rfl ?_
  refine s_ildn (p' := 11) rfl rfl rfl ?_
  refine s_aldn (p' := 12) rfl rfl rfl ?_
  refine s_ildn (p' := 13) rfl rfl rfl ?_
  refine c_call (p' := 16) (kc := 97) (ls0 := [_, _, _, _, _]) rfl rfl rfl rfl rfl (mj_rcv_is (rd_sn rfl (rd_sn rfl (rd_sn rfl (rd_app (rd_sn rfl (rd_sn rfl (rd_sn rfl (rd_app (rd_sn rfl (rd_sn rfl (rd_sn rfl (rd_app (rd_sn rfl (rd_sn rfl (rd_sn rfl (rd_app (rd_sn rfl (rd_sn rfl (rd_sn rfl (rd_app (rd_sn rfl (rd_sn rfl (rd_sn rfl (rd_app (rd_ss rfl (rd_sn rfl (rd_sn rfl (rd_sn rfl (rd_app (rd_app H400))))))))))))))))))))))))))))))) rfl rfl rfl ?_
  refine s_ildn (p' := 1) rfl rfl rfl ?_
  refine s_istn (p' := 2) (ls' := [_, _, _, _, _]) rfl rfl rfl rfl ?_
  refine s_aldn (p' := 3) rfl rfl rfl ?_
  refine s_gf (p' := 6) rfl (rd_sn rfl (rd_sn rfl (rd_sn rfl (rd_app (rd_sn rfl (rd_sn rfl (rd_sn rfl (rd_app (rd_sn rfl (rd_sn rfl (rd_sn rfl (rd_app (rd_sn rfl (rd_sn rfl (rd_sn rfl (rd_app (rd_sn rfl (rd_sn rfl (rd_sn rfl (rd_app (rd_sn rfl (rd_sn rfl (rd_sn rfl (rd_app (rd_ss rfl (rd_sn rfl (rd_sn rfl (rd_sn rfl (rd_app (rd_app H400)))))))))))))))))))))))))))))) rfl rfl ?_
  refine c_call (p' := 11) (kc := 96) (ls0 := [_]) rfl rfl rfl rfl rfl (mj_rcv_is (rd_sn rfl (rd_sn rfl (rd_sn rfl (rd_app (rd_sn rfl (rd_sn rfl (rd_sn rfl (rd_app (rd_sn rfl (rd_sn rfl (rd_sn rfl (rd_app (rd_sn rfl (rd_sn rfl (rd_sn rfl (rd_app (rd_sn rfl (rd_sn rfl (rd_sn rfl (rd_app (rd_sn rfl (rd_sn rfl (rd_sn rfl (rd_app (rd_sn rfl (rd_sn rfl (rd_sn rfl (rd_sn rfl (rd_app (rd_app H410))))))))))))))))))))))))))))))) rfl rfl rfl ?_
  refine s_newz (p' := 3) (a := 422) rfl (len_s (len_s (len_s (len_a (len_s (len_s (len_s (len_a (len_s (len_s (len_s (len_a (len_s (len_s (len_s (len_a (len_s (len_s (len_s (len_a (len_s (len_s (len_s (len_a (len_s (len_s (len_s (len_s (len_a (len_a HL rfl) rfl))))) rfl)))) rfl)))) rfl)))) rfl)))) rfl)))) rfl)))) rfl rfl ?_
  refine s_dupr (p' := 4) rfl rfl ?_
  refine s_aldn (p' := 5) rfl rfl rfl ?_
  refine c_call (p' := 8) (kc := 95) (ls0 := [_, _]) rfl rfl rfl rfl rfl (mj_rcv_is (rd_nw rfl (len_s (len_s (len_s (len_a (len_s (len_s (len_s (len_a (len_s (len_s (len_s (len_a (len_s (len_s (len_s (len_a (len_s (len_s (len_s (len_a (len_s (len_s (len_s (len_a (len_s (len_s (len_s (len_s (len_a (len_a HL rfl) rfl))))) rfl)))) rfl)))) rfl)))) rfl)))) rfl)))) rfl)))))) rfl rfl rfl ?_
  refine s_aldn (p' := 1) rfl rfl rfl ?_
  refine s_aldn (p' := 2) rfl rfl rfl ?_
  refine s_pfz (p' := 5) (fs' := [_, _, _, _]) rfl rfl (rd_nw rfl (len_s (len_s (len_s (len_a (len_s (len_s (len_s (len_a (len_s (len_s (len_s (len_a (len_s (len_s (len_s (len_a (len_s (len_s (len_s (len_a (len_s (len_s (len_s (len_a (len_s (len_s (len_s (len_s (len_a (len_a HL rfl) rfl))))) rfl)))) rfl)))) rfl)))) rfl)))) rfl)))) rfl))))) rfl rfl rfl rfl ?_
  refine s_aldn (p' := 6) rfl rfl rfl ?_
  refine s_primN (p' := 9) (q := 3) rfl rfl rfl rfl rfl rfl rfl rfl ?_
  refine s_aldn (p' := 10) rfl rfl rfl ?_
  refine s_con (p' := 11) rfl rfl ?_
  refine s_pfz (p' := 14) (fs' := [_, _, _, _]) rfl rfl (rd_ss rfl (rd_nw rfl (len_s (len_s (len_s (len_a (len_s (len_s (len_s (len_a (len_s (len_s (len_s (len_a (len_s (len_s (len_s (len_a (len_s (len_s (len_s (len_a (len_s (len_s (len_s (len_a (len_s (len_s (len_s (len_s (len_a (len_a HL rfl) rfl))))) rfl)))) rfl)))) rfl)))) rfl)))) rfl)))) rfl)))))) rfl rfl rfl rfl ?_
  refine s_aldn (p' := 15) rfl rfl rfl ?_
  refine s_aldn (p' := 16) rfl rfl rfl ?_
  refine s_gf (p' := 19) rfl (rd_ss rfl (rd_ss rfl (rd_nw rfl (len_s (len_s (len_s (len_a (len_s (len_s (len_s (len_a (len_s (len_s (len_s (len_a (len_s (len_s (len_s (len_a (len_s (len_s (len_s (len_a (len_s (len_s (len_s (len_a (len_s (len_s (len_s (len_s (len_a (len_a HL rfl) rfl))))) rfl)))) rfl)))) rfl)))) rfl)))) rfl)))) rfl))))))) rfl rfl ?_
  refine s_gf (p' := 22) rfl (rd_sn rfl (rd_sn rfl (rd_app (rd_sn rfl (rd_sn rfl (rd_sn rfl (rd_app (rd_sn rfl (rd_sn rfl (rd_sn rfl (rd_app (rd_sn rfl (rd_sn rfl (rd_sn rfl (rd_app (rd_sn rfl (rd_sn rfl (rd_sn rfl (rd_app (rd_sn rfl (rd_sn rfl (rd_sn rfl (rd_app (rd_sn rfl (rd_sn rfl (rd_sn rfl (rd_app (rd_sn rfl (rd_sn rfl (rd_sn rfl (rd_sn rfl (rd_app (rd_app H410))))))))))))))))))))))))))))))))) rfl rfl ?_
  refine s_pfz (p' := 25) (fs' := [_, _, _, _]) rfl rfl (rd_ss rfl (rd_ss rfl (rd_nw rfl (len_s (len_s (len_s (len_a (len_s (len_s (len_s (len_a (len_s (len_s (len_s (len_a (len_s (len_s (len_s (len_a (len_s (len_s (len_s (len_a (len_s (len_s (len_s (len_a (len_s (len_s (len_s (len_s (len_a (len_a HL rfl) rfl))))) rfl)))) rfl)))) rfl)))) rfl)))) rfl)))) rfl))))))) rfl rfl rfl rfl ?_
  refine c_ret rfl ?_
  refine c_aret rfl ?_
  refine s_astn (p' := 12) (ls' := [_, _, _, _, _]) rfl rfl rfl rfl ?_
  refine s_aldn (p' := 13) rfl rfl rfl ?_
  refine c_call (p' := 18) (kc := 96) (ls0 := [_]) rfl rfl rfl rfl rfl (mj_rcv_is (rd_ss rfl (rd_ss rfl (rd_ss rfl (rd_nw rfl (len_s (len_s (len_s (len_a (len_s (len_s (len_s (len_a (len_s (len_s (len_s (len_a (len_s (len_s (len_s (len_a (len_s (len_s (len_s (len_a (len_s (len_s (len_s (len_a (len_s (len_s (len_s (len_s (len_a (len_a HL rfl) rfl))))) rfl)))) rfl)))) rfl)))) rfl)))) rfl)))) rfl))))))))) rfl rfl rfl ?_
  refine s_aldn (p' := 1) rfl rfl rfl ?_
  refine s_gf (p' := 4) rfl (rd_ss rfl (rd_ss rfl (rd_ss rfl (rd_nw rfl (len_s (len_s (len_s (len_a (len_s (len_s (len_s (len_a (len_s (len_s (len_s (len_a (len_s (len_s (len_s (len_a (len_s (len_s (len_s (len_a (len_s (len_s (len_s (len_a (len_s (len_s (len_s (len_s (len_a (len_a HL rfl) rfl))))) rfl)))) rfl)))) rfl)))) rfl)))) rfl)))) rfl)))))))) rfl rfl ?_
  refine s_aldn (p' := 5) rfl rfl rfl ?_
  refine s_gf (p' := 8) rfl (rd_ss rfl (rd_ss rfl (rd_ss rfl (rd_nw rfl (len_s (len_s (len_s (len_a (len_s (len_s (len_s (len_a (len_s (len_s (len_s (len_a (len_s (len_s (len_s (len_a (len_s (len_s (len_s (len_a (len_s (len_s (len_s (len_a (len_s (len_s (len_s (len_s (len_a (len_a HL rfl) rfl))))) rfl)))) rfl)))) rfl)))) rfl)))) rfl)))) rfl)))))))) rfl rfl ?_
  refine s_gf (p' := 11) rfl (rd_sn rfl (rd_sn rfl (rd_sn rfl (rd_app (rd_sn rfl (rd_sn rfl (rd_sn rfl (rd_app (rd_sn rfl (rd_sn rfl (rd_sn rfl (rd_app (rd_sn rfl (rd_sn rfl (rd_sn rfl (rd_app (rd_sn rfl (rd_sn rfl (rd_sn rfl (rd_app (rd_sn rfl (rd_sn rfl (rd_sn rfl (rd_app (rd_sn rfl (rd_sn rfl (rd_sn rfl (rd_app (rd_sn rfl (rd_sn rfl (rd_sn rfl (rd_sn rfl (rd_app (rd_app H410)))))))))))))))))))))))))))))))))) rfl rfl ?_
  refine s_icmp (p' := 18) true rfl (by decide +kernel) rfl ?_
  refine s_con (p' := 19) rfl rfl ?_
  refine c_iret rfl (by decide +kernel) ?_
  refine s_if (p' := 45) true rfl (by decide +kernel) rfl ?_
  refine s_ildn (p' := 46) rfl rfl rfl ?_
  refine c_iret rfl rfl ?_
  refine s_con (p' := 17) rfl rfl ?_
  refine s_ildn (p' := 18) rfl rfl rfl ?_
  refine s_bz (p' := 19) (z := (nI 18)) rfl rfl rfl (by decide +kernel) ?_
  refine s_bz (p' := 20) (z := (nI 1572864)) rfl rfl rfl (by decide +kernel) ?_
  refine s_bz (p' := 21) (z := (nI 1754760)) rfl rfl rfl (by decide +kernel) ?_
  refine s_istn (p' := 22) (ls' := [_, _, _]) rfl rfl rfl rfl ?_
  refine s_incz (p' := 25) (w := (nI 7)) (ls' := [_, _, _]) rfl rfl rfl (by decide +kernel) rfl rfl ?_
  refine s_goto (p' := 4) rfl rfl ?_
  refine s_ildn (p' := 5) rfl rfl rfl ?_
  refine s_bip (p' := 7) rfl rfl ?_
  refine s_icmp (p' := 10) false rfl (by decide +kernel) rfl ?_
  refine s_ildn (p' := 11) rfl rfl rfl ?_
  refine s_aldn (p' := 12) rfl rfl rfl ?_
  refine s_ildn (p' := 13) rfl rfl rfl ?_
  refine c_call (p' := 16) (kc := 97) (ls0 := [_, _, _, _, _]) rfl rfl rfl rfl rfl (mj_rcv_is (rd_sn rfl (rd_sn rfl (rd_sn rfl (rd_app (rd_sn rfl (rd_sn rfl (rd_sn rfl (rd_app (rd_sn rfl (rd_sn rfl (rd_sn rfl (rd_app (rd_sn rfl (rd_sn rfl (rd_sn rfl (rd_app (rd_sn rfl (rd_sn rfl (rd_sn rfl (rd_app (rd_sn rfl (rd_sn rfl (rd_sn rfl (rd_app (rd_sn rfl (rd_sn rfl (rd_sn rfl (rd_app (rd_ss rfl (rd_sn rfl (rd_sn rfl (rd_sn rfl (rd_app (rd_app H400))))))))))))))))))))))))))))))))))) rfl rfl rfl ?_
  refine s_ildn (p' := 1) rfl rfl rfl ?_
  refine s_istn (p' := 2) (ls' := [_, _, _, _, _]) rfl rfl rfl rfl ?_
  refine s_aldn (p' := 3) rfl rfl rfl ?_
  refine s_gf (p' := 6) rfl (rd_sn rfl (rd_sn rfl (rd_sn rfl (rd_app (rd_sn rfl (rd_sn rfl (rd_sn rfl (rd_app (rd_sn rfl (rd_sn rfl (rd_sn rfl (rd_app (rd_sn rfl (rd_sn rfl (rd_sn rfl (rd_app (rd_sn rfl (rd_sn rfl (rd_sn rfl (rd_app (rd_sn rfl (rd_sn rfl (rd_sn rfl (rd_app (rd_sn rfl (rd_sn rfl (rd_sn rfl (rd_app (rd_ss rfl (rd_sn rfl (rd_sn rfl (rd_sn rfl (rd_app (rd_app H400)))))))))))))))))))))))))))))))))) rfl rfl ?_
  refine c_call (p' := 11) (kc := 96) (ls0 := [_]) rfl rfl rfl rfl rfl (mj_rcv_is (rd_sn rfl (rd_sn rfl (rd_sn rfl (rd_app (rd_sn rfl (rd_sn rfl (rd_sn rfl (rd_app (rd_sn rfl (rd_sn rfl (rd_sn rfl (rd_app (rd_sn rfl (rd_sn rfl (rd_sn rfl (rd_app (rd_sn rfl (rd_sn rfl (rd_sn rfl (rd_app (rd_sn rfl (rd_sn rfl (rd_sn rfl (rd_app (rd_sn rfl (rd_sn rfl (rd_sn rfl (rd_app (rd_sn rfl (rd_sn rfl (rd_sn rfl (rd_sn rfl (rd_app (rd_app H410))))))))))))))))))))))))))))))))))) rfl rfl rfl ?_
  refine s_newz (p' := 3) (a := 423) rfl (len_s (len_s (len_s (len_a (len_s (len_s (len_s (len_a (len_s (len_s (len_s (len_a (len_s (len_s (len_s (len_a (len_s (len_s (len_s (len_a (len_s (len_s (len_s (len_a (len_s (len_s (len_s (len_a (len_s (len_s (len_s (len_s (len_a (len_a HL rfl) rfl))))) rfl)))) rfl)))) rfl)))) rfl)))) rfl)))) rfl)))) rfl)))) rfl rfl ?_
  refine s_dupr (p' := 4) rfl rfl ?_
  refine s_aldn (p' := 5) rfl rfl rfl ?_
  refine c_call (p' := 8) (kc := 95) (ls0 := [_, _]) rfl rfl rfl rfl rfl (mj_rcv_is (rd_nw rfl (len_s (len_s (len_s (len_a (len_s (len_s (len_s (len_a (len_s (len_s (len_s (len_a (len_s (len_s (len_s (len_a (len_s (len_s (len_s (len_a (len_s (len_s (len_s (len_a (len_s (len_s (len_s (len_a (len_s (len_s (len_s (len_s (len_a (len_a HL rfl) rfl))))) rfl)))) rfl)))) rfl)))) rfl)))) rfl)))) rfl)))) rfl)))))) rfl rfl rfl ?_
  refine s_aldn (p' := 1) rfl rfl rfl ?_
  refine s_aldn (p' := 2) rfl rfl rfl ?_
  refine s_pfz (p' := 5) (fs' := [_, _, _, _]) rfl rfl (rd_nw rfl (len_s (len_s (len_s (len_a (len_s (len_s (len_s (len_a (len_s (len_s (len_s (len_a (len_s (len_s (len_s (len_a (len_s (len_s (len_s (len_a (len_s (len_s (len_s (len_a (len_s (len_s (len_s (len_a (len_s (len_s (len_s (len_s (len_a (len_a HL rfl) rfl))))) rfl)))) rfl)))) rfl)))) rfl)))) rfl)))) rfl)))) rfl))))) rfl rfl rfl rfl ?_
  refine s_aldn (p' := 6) rfl rfl rfl ?_
  refine s_primN (p' := 9) (q := 3) rfl rfl rfl rfl rfl rfl rfl rfl ?_
  refine s_aldn (p' := 10) rfl rfl rfl ?_
  refine s_con (p' := 11) rfl rfl ?_
  refine s_pfz (p' := 14) (fs' := [_, _, _, _]) rfl rfl (rd_ss rfl (rd_nw rfl (len_s (len_s (len_s (len_a (len_s (len_s (len_s (len_a (len_s (len_s (len_s (len_a (len_s (len_s (len_s (len_a (len_s (len_s (len_s (len_a (len_s (len_s (len_s (len_a (len_s (len_s (len_s (len_a (len_s (len_s (len_s (len_s (len_a (len_a HL rfl) rfl))))) rfl)))) rfl)))) rfl)))) rfl)))) rfl)))) rfl)))) rfl)))))) rfl rfl rfl rfl ?_
  refine s_aldn (p' := 15) rfl rfl rfl ?_
  refine s_aldn (p' := 16) rfl rfl rfl ?_
  refine s_gf (p' := 19) rfl (rd_ss rfl (rd_ss rfl (rd_nw rfl (len_s (len_s (len_s (len_a (len_s (len_s (len_s (len_a (len_s (len_s (len_s (len_a (len_s (len_s (len_s (len_a (len_s (len_s (len_s (len_a (len_s (len_s (len_s (len_a (len_s (len_s (len_s (len_a (len_s (len_s (len_s (len_s (len_a (len_a HL rfl) rfl))))) rfl)))) rfl)))) rfl)))) rfl)))) rfl)))) rfl)))) rfl))))))) rfl rfl ?_
  refine s_gf (p' := 22) rfl (rd_sn rfl (rd_sn rfl (rd_app (rd_sn rfl (rd_sn rfl (rd_sn rfl (rd_app (rd_sn rfl (rd_sn rfl (rd_sn rfl (rd_app (rd_sn rfl (rd_sn rfl (rd_sn rfl (rd_app (rd_sn rfl (rd_sn rfl (rd_sn rfl (rd_app (rd_sn rfl (rd_sn rfl (rd_sn rfl (rd_app (rd_sn rfl (rd_sn rfl (rd_sn rfl (rd_app (rd_sn rfl (rd_sn rfl (rd_sn rfl (rd_app (rd_sn rfl (rd_sn rfl (rd_sn rfl (rd_sn rfl (rd_app (rd_app H410))))))))))))))))))))))))))))))))))))) rfl rfl ?_
  refine s_pfz (p' := 25) (fs' := [_, _, _, _]) rfl rfl (rd_ss rfl (rd_ss rfl (rd_nw rfl (len_s (len_s (len_s (len_a (len_s (len_s (len_s (len_a (len_s (len_s (len_s (len_a (len_s (len_s (len_s (len_a (len_s (len_s (len_s (len_a (len_s (len_s (len_s (len_a (len_s (len_s (len_s (len_a (len_s (len_s (len_s (len_s (len_a (len_a HL rfl) rfl))))) rfl)))) rfl)))) rfl)))) rfl)))) rfl)))) rfl)))) rfl))))))) rfl rfl rfl rfl ?_
  refine c_ret rfl ?_
  refine c_aret rfl ?_
  refine s_astn (p' := 12) (ls' := [_, _, _, _, _]) rfl rfl rfl rfl ?_
  refine s_aldn (p' := 13) rfl rfl rfl ?_
  refine c_call (p' := 18) (kc := 96) (ls0 := [_]) rfl rfl rfl rfl rfl (mj_rcv_is (rd_ss rfl (rd_ss rfl (rd_ss rfl (rd_nw rfl (len_s (len_s (len_s (len_a (len_s (len_s (len_s (len_a (len_s (len_s (len_s (len_a (len_s (len_s (len_s (len_a (len_s (len_s (len_s (len_a (len_s (len_s (len_s (len_a (len_s (len_s (len_s (len_a (len_s (len_s (len_s (len_s (len_a (len_a HL rfl) rfl))))) rfl)))) rfl)))) rfl)))) rfl)))) rfl)))) rfl)))) rfl))))))))) rfl rfl rfl ?_
  refine s_aldn (p' := 1) rfl rfl rfl ?_
  refine s_gf (p' := 4) rfl (rd_ss rfl (rd_ss rfl (rd_ss rfl (rd_nw rfl (len_s (len_s (len_s (len_a (len_s (len_s (len_s (len_a (len_s (len_s (len_s (len_a (len_s (len_s (len_s (len_a (len_s (len_s (len_s (len_a (len_s (len_s (len_s (len_a (len_s (len_s (len_s (len_a (len_s (len_s (len_s (len_s (len_a (len_a HL rfl) rfl))))) rfl)))) rfl)))) rfl)))) rfl)))) rfl)))) rfl)))) rfl)))))))) rfl rfl ?_
  refine s_aldn (p' := 5) rfl rfl rfl ?_
  refine s_gf (p' := 8) rfl (rd_ss rfl (rd_ss rfl (rd_ss rfl (rd_nw rfl (len_s (len_s (len_s (len_a (len_s (len_s (len_s (len_a (len_s (len_s (len_s (len_a (len_s (len_s (len_s (len_a (len_s (len_s (len_s (len_a (len_s (len_s (len_s (len_a (len_s (len_s (len_s (len_a (len_s (len_s (len_s (len_s (len_a (len_a HL rfl) rfl))))) rfl)))) rfl)))) rfl)))) rfl)))) rfl)))) rfl)))) rfl)))))))) rfl rfl ?_
  refine s_gf (p' := 11) rfl (rd_sn rfl (rd_sn rfl (rd_sn rfl (rd_app (rd_sn rfl (rd_sn rfl (rd_sn rfl (rd_app (rd_sn rfl (rd_sn rfl (rd_sn rfl (rd_app (rd_sn rfl (rd_sn rfl (rd_sn rfl (rd_app (rd_sn rfl (rd_sn rfl (rd_sn rfl (rd_app (rd_sn rfl (rd_sn rfl (rd_sn rfl (rd_app (rd_sn rfl (rd_sn rfl (rd_sn rfl (rd_app (rd_sn rfl (rd_sn rfl (rd_sn rfl (rd_app (rd_sn rfl (rd_sn rfl (rd_sn rfl (rd_sn rfl (rd_app (rd_app H410)))))))))))))))))))))))))))))))))))))) rfl rfl ?_
  refine s_icmp (p' := 18) true rfl (by decide +kernel) rfl ?_
  refine s_con (p' := 19) rfl rfl ?_
  refine c_iret rfl (by decide +kernel) ?_
  refine s_if (p' := 45) true rfl (by decide +kernel) rfl ?_
  refine s_ildn (p' := 46) rfl rfl rfl ?_
  refine c_iret rfl rfl ?_
  refine s_con (p' := 17) rfl rfl ?_
  refine s_ildn (p' := 18) rfl rfl rfl ?_
  refine s_bz (p' := 19) (z := (nI 21)) rfl rfl rfl (by decide +kernel) ?_
  refine s_bz (p' := 20) (z := (nI 14680064)) rfl rfl rfl (by decide +kernel) ?_
  refine s_bz (p' := 21) (z := (nI 16434824)) rfl rfl rfl (by decide +kernel) ?_
  refine s_istn (p' := 22) (ls' := [_, _, _]) rfl rfl rfl rfl ?_
  refine s_incz (p' := 25) (w := (nI 8)) (ls' := [_, _, _]) rfl rfl rfl (by decide +kernel) rfl rfl ?_
  refine s_goto (p' := 4) rfl rfl ?_
  refine s_ildn (p' := 5) rfl rfl rfl ?_
  refine s_bip (p' := 7) rfl rfl ?_
  refine s_icmp (p' := 28) true rfl (by decide +kernel) rfl ?_
  refine s_ildn (p' := 29) rfl rfl rfl ?_
  refine c_iret rfl rfl ?_
  refine s_istn (p' := 10) (ls' := [_, _, _, _, _, _, _, _]) rfl rfl rfl rfl ?_
  refine s_con (p' := 11) rfl rfl ?_
  refine s_istn (p' := 12) (ls' := [_, _, _, _, _, _, _, _]) rfl rfl rfl rfl ?_
  refine s_con (p' := 13) rfl rfl ?_
  refine s_istn (p' := 14) (ls' := [_, _, _, _, _, _, _, _]) rfl rfl rfl rfl ?_
  refine s_ildn (p' := 15) rfl rfl rfl ?_
  refine s_bip (p' := 17) rfl rfl ?_
  refine s_icmp (p' := 20) false rfl (by decide +kernel) rfl ?_
  refine s_ildn (p' := 21) rfl rfl rfl ?_
  refine s_ildn (p' := 22) rfl rfl rfl ?_
  refine s_con (p' := 23) rfl rfl ?_
  refine s_ildn (p' := 24) rfl rfl rfl ?_
  refine s_bz (p' := 25) (z := (nI 0)) rfl rfl rfl (by decide +kernel) ?_
  refine s_bz (p' := 26) (z := (nI 0)) rfl rfl rfl (by decide +kernel) ?_
  refine s_bz (p' := 27) (z := (nI 0)) rfl rfl rfl (by decide +kernel) ?_
  refine s_istn (p' := 28) (ls' := [_, _, _, _, _, _, _, _]) rfl rfl rfl rfl ?_
  refine s_incz (p' := 31) (w := (nI 1)) (ls' := [_, _, _, _, _, _, _, _]) rfl rfl rfl (by decide +kernel) rfl rfl ?_
  refine s_goto (p' := 14) rfl rfl ?_
  refine s_ildn (p' := 15) rfl rfl rfl ?_
  refine s_bip (p' := 17) rfl rfl ?_
  refine s_icmp (p' := 20) false rfl (by decide +kernel) rfl ?_
  refine s_ildn (p' := 21) rfl rfl rfl ?_
  refine s_ildn (p' := 22) rfl rfl rfl ?_
  refine s_con (p' := 23) rfl rfl ?_
  refine s_ildn (p' := 24) rfl rfl rfl ?_
  refine s_bz (p' := 25) (z := (nI 3)) rfl rfl rfl (by decide +kernel) ?_
  refine s_bz (p' := 26) (z := (nI 8)) rfl rfl rfl (by decide +kernel) ?_
  refine s_bz (p' := 27) (z := (nI 8)) rfl rfl rfl (by decide +kernel) ?_
  refine s_istn (p' := 28) (ls' := [_, _, _, _, _, _, _, _]) rfl rfl rfl rfl ?_
  refine s_incz (p' := 31) (w := (nI 2)) (ls' := [_, _, _, _, _, _, _, _]) rfl rfl rfl (by decide +kernel) rfl rfl ?_
  refine s_goto (p' := 14) rfl rfl ?_
  refine s_ildn (p' := 15) rfl rfl rfl ?_
  refine s_bip (p' := 17) rfl rfl ?_
  refine s_icmp (p' := 20) false rfl (by decide +kernel) rfl ?_
  refine s_ildn (p' := 21) rfl rfl rfl ?_
  refine s_ildn (p' := 22) rfl rfl rfl ?_
  refine s_con (p' := 23) rfl rfl ?_
  refine s_ildn (p' := 24) rfl rfl rfl ?_
  refine s_bz (p' := 25) (z := (nI 6)) rfl rfl rfl (by decide +kernel) ?_
  refine s_bz (p' := 26) (z := (nI 128)) rfl rfl rfl (by decide +kernel) ?_
  refine s_bz (p' := 27) (z := (nI 136)) rfl rfl rfl (by decide +kernel) ?_
  refine s_istn (p' := 28) (ls' := [_, _, _, _, _, _, _, _]) rfl rfl rfl rfl ?_
  refine s_incz (p' := 31) (w := (nI 3)) (ls' := [_, _, _, _, _, _, _, _]) rfl rfl rfl (by decide +kernel) rfl rfl ?_
  refine s_goto (p' := 14) rfl rfl ?_
  refine s_ildn (p' := 15) rfl rfl rfl ?_
  refine s_bip (p' := 17) rfl rfl ?_
  refine s_icmp (p' := 20) false rfl (by decide +kernel) rfl ?_
  refine s_ildn (p' := 21) rfl rfl rfl ?_
  refine s_ildn (p' := 22) rfl rfl rfl ?_
  refine s_con (p' := 23) rfl rfl ?_
  refine s_ildn (p' := 24) rfl rfl rfl ?_
  refine s_bz (p' := 25) (z := (nI 9)) rfl rfl rfl (by decide +kernel) ?_
  refine s_bz (p' := 26) (z := (nI 1536)) rfl rfl rfl (by decide +kernel) ?_
  refine s_bz (p' := 27) (z := (nI 1672)) rfl rfl rfl (by decide +kernel) ?_
  refine s_istn (p' := 28) (ls' := [_, _, _, _, _, _, _, _]) rfl rfl rfl rfl ?_
  refine s_incz (p' := 31) (w := (nI 4)) (ls' := [_, _, _, _, _, _, _, _]) rfl rfl rfl (by decide +kernel) rfl rfl ?_
  refine s_goto (p' := 14) rfl rfl ?_
  refine s_ildn (p' := 15) rfl rfl rfl ?_
  refine s_bip (p' := 17) rfl rfl ?_
  refine s_icmp (p' := 20) false rfl (by decide +kernel) rfl ?_
  refine s_ildn (p' := 21) rfl rfl rfl ?_
  refine s_ildn (p' := 22) rfl rfl rfl ?_
  refine s_con (p' := 23) rfl rfl ?_
  refine s_ildn (p' := 24) rfl rfl rfl ?_
  refine s_bz (p' := 25) (z := (nI 12)) rfl rfl rfl (by decide +kernel) ?_
  refine s_bz (p' := 26) (z := (nI 16384)) rfl rfl rfl (by decide +kernel) ?_
  refine s_bz (p' := 27) (z := (nI 18056)) rfl rfl rfl (by decide +kernel) ?_
  refine s_istn (p' := 28) (ls' := [_, _, _, _, _, _, _, _]) rfl rfl rfl rfl ?_
  refine s_incz (p' := 31) (w := (nI 5)) (ls' := [_, _, _, _, _, _, _, _]) rfl rfl rfl (by decide +kernel) rfl rfl ?_
  refine s_goto (p' := 14) rfl rfl ?_
  refine s_ildn (p' := 15) rfl rfl rfl ?_
  refine s_bip (p' := 17) rfl rfl ?_
  refine s_icmp (p' := 20) false rfl (by decide +kernel) rfl ?_
  refine s_ildn (p' := 21) rfl rfl rfl ?_
  refine s_ildn (p' := 22) rfl rfl rfl ?_
  refine s_con (p' := 23) rfl rfl ?_
  refine s_ildn (p' := 24) rfl rfl rfl ?_
  refine s_bz (p' := 25) (z := (nI 15)) rfl rfl rfl (by decide +kernel) ?_
  refine s_bz (p' := 26) (z := (nI 163840)) rfl rfl rfl (by decide +kernel) ?_
  refine s_bz (p' := 27) (z := (nI 181896)) rfl rfl rfl (by decide +kernel) ?_
  refine s_istn (p' := 28) (ls' := [_, _, _, _, _, _, _, _]) rfl rfl rfl rfl ?_
  refine s_incz (p' := 31) (w := (nI 6)) (ls' := [_, _, _, _, _, _, _, _]) rfl rfl rfl (by decide +kernel) rfl rfl ?_
  refine s_goto (p' := 14) rfl rfl ?_
  refine s_ildn (p' := 15) rfl rfl rfl ?_
  refine s_bip (p' := 17) rfl rfl ?_
  refine s_icmp (p' := 20) false rfl (by decide +kernel) rfl ?_
  refine s_ildn (p' := 21) rfl rfl rfl ?_
  refine s_ildn (p' := 22) rfl rfl rfl ?_
  refine s_con (p' := 23) rfl rfl ?_
  refine s_ildn (p' := 24) rfl rfl rfl ?_
  refine s_bz (p' := 25) (z := (nI 18)) rfl rfl rfl (by decide +kernel) ?_
  refine s_bz (p' := 26) (z := (nI 1572864)) rfl rfl rfl (by decide +kernel) ?_
  refine s_bz (p' := 27) (z := (nI 1754760)) rfl rfl rfl (by decide +kernel) ?_
  refine s_istn (p' := 28) (ls' := [_, _, _, _, _, _, _, _]) rfl rfl rfl rfl ?_
  refine s_incz (p' := 31) (w := (nI 7)) (ls' := [_, _, _, _, _, _, _, _]) rfl rfl rfl (by decide +kernel) rfl rfl ?_
  refine s_goto (p' := 14) rfl rfl ?_
  refine s_ildn (p' := 15) rfl rfl rfl ?_
  refine s_bip (p' := 17) rfl rfl ?_
  refine s_icmp (p' := 20) false rfl (by decide +kernel) rfl ?_
  refine s_ildn (p' := 21) rfl rfl rfl ?_
  refine s_ildn (p' := 22) rfl rfl rfl ?_
  refine s_con (p' := 23) rfl rfl ?_
  refine s_ildn (p' := 24) rfl rfl rfl ?_
  refine s_bz (p' := 25) (z := (nI 21)) rfl rfl rfl (by decide +kernel) ?_
  refine s_bz (p' := 26) (z := (nI 14680064)) rfl rfl rfl (by decide +kernel) ?_
  refine s_bz (p' := 27) (z := (nI 16434824)) rfl rfl rfl (by decide +kernel) ?_
  refine s_istn (p' := 28) (ls' := [_, _, _, _, _, _, _, _]) rfl rfl rfl rfl ?_
  refine s_incz (p' := 31) (w := (nI 8)) (ls' := [_, _, _, _, _, _, _, _]) rfl rfl rfl (by decide +kernel) rfl rfl ?_
  refine s_goto (p' := 14) rfl rfl ?_
  refine s_ildn (p' := 15) rfl rfl rfl ?_
  refine s_bip (p' := 17) rfl rfl ?_
  refine s_icmp (p' := 34) true rfl (by decide +kernel) rfl ?_
  refine s_aldn (p' := 35) rfl rfl rfl ?_
  refine s_aldn (p' := 36) rfl rfl rfl ?_
  refine s_gf (p' := 39) rfl (rd_sn rfl (rd_sn rfl (rd_sn rfl (rd_app (rd_sn rfl (rd_sn rfl (rd_sn rfl (rd_app (rd_sn rfl (rd_sn rfl (rd_sn rfl (rd_app (rd_sn rfl (rd_sn rfl (rd_sn rfl (rd_app (rd_sn rfl (rd_sn rfl (rd_sn rfl (rd_app (rd_sn rfl (rd_sn rfl (rd_sn rfl (rd_app (rd_sn rfl (rd_sn rfl (rd_sn rfl (rd_app (rd_sn rfl (rd_sn rfl (rd_sn rfl (rd_app (rd_ss rfl (rd_sn rfl (rd_sn rfl (rd_sn rfl (rd_app (rd_app H400)))))))))))))))))))))))))))))))))))))) rfl rfl ?_
  refine s_nonnull (p' := 42) (x := none) false rfl rfl rfl ?_
  refine s_sh (p' := 45) (ls' := _) (st' := .int (nI 40320) :: _) (h' := _) rfl rfl rfl rfl ?_
  refine s_naz (p' := 47) (a := 424) (n := 40320) rfl (len_s (len_s (len_s (len_a (len_s (len_s (len_s (len_a (len_s (len_s (len_s (len_a (len_s (len_s (len_s (len_a (len_s (len_s (len_s (len_a (len_s (len_s (len_s (len_a (len_s (len_s (len_s (len_a (len_s (len_s (len_s (len_a (len_s (len_s (len_s (len_s (len_a (len_a HL rfl) rfl))))) rfl)))) rfl)))) rfl)))) rfl)))) rfl)))) rfl)))) rfl)))) rfl)))) rfl rfl ?_
  refine s_goto (p' := 54) rfl rfl ?_
  refine s_pfz (p' := 57) (fs' := [_, _, _, _, _, _, _, _, _, _, _]) rfl rfl (rd_app (rd_sn rfl (rd_sn rfl (rd_sn rfl (rd_app (rd_sn rfl (rd_sn rfl (rd_sn rfl (rd_app (rd_sn rfl (rd_sn rfl (rd_sn rfl (rd_app (rd_sn rfl (rd_sn rfl (rd_sn rfl (rd_app (rd_sn rfl (rd_sn rfl (rd_sn rfl (rd_app (rd_sn rfl (rd_sn rfl (rd_sn rfl (rd_app (rd_sn rfl (rd_sn rfl (rd_sn rfl (rd_app (rd_sn rfl (rd_sn rfl (rd_sn rfl (rd_app (rd_ss rfl (rd_sn rfl (rd_sn rfl (rd_sn rfl (rd_app (rd_app H400))))))))))))))))))))))))))))))))))))))) rfl rfl rfl rfl ?_
  refine s_aldn (p' := 58) rfl rfl rfl ?_
  refine s_aldn (p' := 59) rfl rfl rfl ?_
  refine s_gf (p' := 62) rfl (rd_ss rfl (rd_app (rd_sn rfl (rd_sn rfl (rd_sn rfl (rd_app (rd_sn rfl (rd_sn rfl (rd_sn rfl (rd_app (rd_sn rfl (rd_sn rfl (rd_sn rfl (rd_app (rd_sn rfl (rd_sn rfl (rd_sn rfl (rd_app (rd_sn rfl (rd_sn rfl (rd_sn rfl (rd_app (rd_sn rfl (rd_sn rfl (rd_sn rfl (rd_app (rd_sn rfl (rd_sn rfl (rd_sn rfl (rd_app (rd_sn rfl (rd_sn rfl (rd_sn rfl (rd_app (rd_ss rfl (rd_sn rfl (rd_sn rfl (rd_sn rfl (rd_app (rd_app H400)))))))))))))))))))))))))))))))))))))))) rfl rfl ?_
  refine s_nonnull (p' := 65) (x := none) false rfl rfl rfl ?_
  refine s_sh (p' := 68) (ls' := _) (st' := .int (nI 40320) :: _) (h' := _) rfl rfl rfl rfl ?_
  refine s_naz (p' := 70) (a := 425) (n := 40320) rfl (len_s (len_a (len_s (len_s (len_s (len_a (len_s (len_s (len_s (len_a (len_s (len_s (len_s (len_a (len_s (len_s (len_s (len_a (len_s (len_s (len_s (len_a (len_s (len_s (len_s (len_a (len_s (len_s (len_s (len_a (len_s (len_s (len_s (len_a (len_s (len_s (len_s (len_s (len_a (len_a HL rfl) rfl))))) rfl)))) rfl)))) rfl)))) rfl)))) rfl)))) rfl)))) rfl)))) rfl)))) rfl)) rfl rfl ?_
  refine s_goto (p' := 77) rfl rfl ?_
  refine s_pfz (p' := 80) (fs' := [_, _, _, _, _, _, _, _, _, _, _]) rfl rfl (rd_app (rd_ss rfl (rd_app (rd_sn rfl (rd_sn rfl (rd_sn rfl (rd_app (rd_sn rfl (rd_sn rfl (rd_sn rfl (rd_app (rd_sn rfl (rd_sn rfl (rd_sn rfl (rd_app (rd_sn rfl (rd_sn rfl (rd_sn rfl (rd_app (rd_sn rfl (rd_sn rfl (rd_sn rfl (rd_app (rd_sn rfl (rd_sn rfl (rd_sn rfl (rd_app (rd_sn rfl (rd_sn rfl (rd_sn rfl (rd_app (rd_sn rfl (rd_sn rfl (rd_sn rfl (rd_app (rd_ss rfl (rd_sn rfl (rd_sn rfl (rd_sn rfl (rd_app (rd_app H400))))))))))))))))))))))))))))))))))))))))) rfl rfl rfl rfl ?_
  refine s_aldn (p' := 81) rfl rfl rfl ?_
  refine s_aldn (p' := 82) rfl rfl rfl ?_
  refine s_gf (p' := 85) rfl (rd_ss rfl (rd_app (rd_ss rfl (rd_app (rd_sn rfl (rd_sn rfl (rd_sn rfl (rd_app (rd_sn rfl (rd_sn rfl (rd_sn rfl (rd_app (rd_sn rfl (rd_sn rfl (rd_sn rfl (rd_app (rd_sn rfl (rd_sn rfl (rd_sn rfl (rd_app (rd_sn rfl (rd_sn rfl (rd_sn rfl (rd_app (rd_sn rfl (rd_sn rfl (rd_sn rfl (rd_app (rd_sn rfl (rd_sn rfl (rd_sn rfl (rd_app (rd_sn rfl (rd_sn rfl (rd_sn rfl (rd_app (rd_ss rfl (rd_sn rfl (rd_sn rfl (rd_sn rfl (rd_app (rd_app H400)))))))))))))))))))))))))))))))))))))))))) rfl rfl ?_
  refine s_nonnull (p' := 88) (x := none) false rfl rfl rfl ?_
  refine s_sh (p' := 91) (ls' := _) (st' := .int (nI 40320) :: _) (h' := _) rfl rfl rfl rfl ?_
  refine s_naz (p' := 93) (a := 426) (n := 40320) rfl (len_s (len_a (len_s (len_a (len_s (len_s (len_s (len_a (len_s (len_s (len_s (len_a (len_s (len_s (len_s (len_a (len_s (len_s (len_s (len_a (len_s (len_s (len_s (len_a (len_s (len_s (len_s (len_a (len_s (len_s (len_s (len_a (len_s (len_s (len_s (len_a (len_s (len_s (len_s (len_s (len_a (len_a HL rfl) rfl))))) rfl)))) rfl)))) rfl)))) rfl)))) rfl)))) rfl)))) rfl)))) rfl)))) rfl)) rfl)) rfl rfl ?_
  refine s_goto (p' := 100) rfl rfl ?_
  refine s_pfz (p' := 103) (fs' := [_, _, _, _, _, _, _, _, _, _, _]) rfl rfl (rd_app (rd_ss rfl (rd_app (rd_ss rfl (rd_app (rd_sn rfl (rd_sn rfl (rd_sn rfl (rd_app (rd_sn rfl (rd_sn rfl (rd_sn rfl (rd_app (rd_sn rfl (rd_sn rfl (rd_sn rfl (rd_app (rd_sn rfl (rd_sn rfl (rd_sn rfl (rd_app (rd_sn rfl (rd_sn rfl (rd_sn rfl (rd_app (rd_sn rfl (rd_sn rfl (rd_sn rfl (rd_app (rd_sn rfl (rd_sn rfl (rd_sn rfl (rd_app (rd_sn rfl (rd_sn rfl (rd_sn rfl (rd_app (rd_ss rfl (rd_sn rfl (rd_sn rfl (rd_sn rfl (rd_app (rd_app H400))))))))))))))))))))))))))))))))))))))))))) rfl rfl rfl rfl ?_
  refine s_aldn (p' := 104) rfl rfl rfl ?_
  refine s_gf (p' := 107) rfl (rd_ss rfl (rd_app (rd_ss rfl (rd_app (rd_ss rfl (rd_app (rd_sn rfl (rd_sn rfl (rd_sn rfl (rd_app (rd_sn rfl (rd_sn rfl (rd_sn rfl (rd_app (rd_sn rfl (rd_sn rfl (rd_sn rfl (rd_app (rd_sn rfl (rd_sn rfl (rd_sn rfl (rd_app (rd_sn rfl (rd_sn rfl (rd_sn rfl (rd_app (rd_sn rfl (rd_sn rfl (rd_sn rfl (rd_app (rd_sn rfl (rd_sn rfl (rd_sn rfl (rd_app (rd_sn rfl (rd_sn rfl (rd_sn rfl (rd_app (rd_ss rfl (rd_sn rfl (rd_sn rfl (rd_sn rfl (rd_app (rd_app H400)))))))))))))))))))))))))))))))))))))))))))) rfl rfl ?_
  refine s_con (p' := 108) rfl rfl ?_
  refine s_callN (p' := 111) (kc := 1) (ls0 := [_, _, _, _]) rfl rfl rfl rfl rfl rfl rfl (x_fillZ (w := nI 0) (by decide +kernel) (by decide) (rd_sn rfl (rd_app (rd_sn rfl (rd_app (rd_sn rfl (rd_nw rfl (len_s (len_s (len_s (len_a (len_s (len_s (len_s (len_a (len_s (len_s (len_s (len_a (len_s (len_s (len_s (len_a (len_s (len_s (len_s (len_a (len_s (len_s (len_s (len_a (len_s (len_s (len_s (len_a (len_s (len_s (len_s (len_a (len_s (len_s (len_s (len_s (len_a (len_a HL rfl) rfl))))) rfl)))) rfl)))) rfl)))) rfl)))) rfl)))) rfl)))) rfl)))) rfl)))))))))) (by decide)) (by decide) rfl ?_
  refine s_aldn (p' := 112) rfl rfl rfl ?_
  refine s_gf (p' := 115) rfl (rd_sn rfl (rd_ss rfl (rd_app (rd_ss rfl (rd_app (rd_ss rfl (rd_app (rd_sn rfl (rd_sn rfl (rd_sn rfl (rd_app (rd_sn rfl (rd_sn rfl (rd_sn rfl (rd_app (rd_sn rfl (rd_sn rfl (rd_sn rfl (rd_app (rd_sn rfl (rd_sn rfl (rd_sn rfl (rd_app (rd_sn rfl (rd_sn rfl (rd_sn rfl (rd_app (rd_sn rfl (rd_sn rfl (rd_sn rfl (rd_app (rd_sn rfl (rd_sn rfl (rd_sn rfl (rd_app (rd_sn rfl (rd_sn rfl (rd_sn rfl (rd_app (rd_ss rfl (rd_sn rfl (rd_sn rfl (rd_sn rfl (rd_app (rd_app H400))))))))))))))))))))))))))))))))))))))))))))) rfl rfl ?_
  refine s_ildn (p' := 116) rfl rfl rfl ?_
  refine c_call (p' := 119) (kc := 98) (ls0 := [_, _, _, _, _]) rfl rfl rfl rfl rfl rfl rfl rfl rfl ?_
  refine s_con (p' := 1) rfl rfl ?_
  refine s_istn (p' := 2) (ls' := [_, _, _, _, _]) rfl rfl rfl rfl ?_
  refine s_con (p' := 3) rfl rfl ?_
  refine s_istn (p' := 4) (ls' := [_, _, _, _, _]) rfl rfl rfl rfl ?_
  refine s_ildn (p' := 5) rfl rfl rfl ?_
  refine s_bip (p' := 7) rfl rfl ?_
  refine s_icmp (p' := 10) false rfl (by decide +kernel) rfl ?_
  refine s_con (p' := 11) rfl rfl ?_
  refine s_istn (p' := 12) (ls' := [_, _, _, _, _]) rfl rfl rfl rfl ?_
  refine s_ildn (p' := 13) rfl rfl rfl ?_
  refine s_con (p' := 14) rfl rfl ?_
  refine s_bz (p' := 15) (z := (nI 1)) rfl rfl rfl (by decide +kernel) ?_
  refine s_ist (p' := 17) (ls' := [_, _, _, _, _]) rfl rfl rfl rfl ?_
  refine s_ild (p' := 19) rfl rfl rfl ?_
  refine s_bip (p' := 21) rfl rfl ?_
  refine s_icmp (p' := 24) false rfl (by decide +kernel) rfl ?_
  refine s_ildn (p' := 25) rfl rfl rfl ?_
  refine s_ildn (p' := 26) rfl rfl rfl ?_
  refine s_con (p' := 27) rfl rfl ?_
  refine s_ild (p' := 29) rfl rfl rfl ?_
  refine s_bz (p' := 30) (z := (nI 3)) rfl rfl rfl (by decide +kernel) ?_
  refine s_bz (p' := 31) (z := (nI 2054353)) rfl rfl rfl (by decide +kernel) ?_
  refine s_bip (p' := 33) rfl rfl ?_
  refine s_bz (p' := 34) (z := (nI 1)) rfl rfl rfl (by decide +kernel) ?_
  refine s_ildn (p' := 35) rfl rfl rfl ?_
  refine s_con (p' := 36) rfl rfl ?_
  refine s_ildn (p' := 37) rfl rfl rfl ?_
  refine s_bz (p' := 38) (z := (nI 0)) rfl rfl rfl (by decide +kernel) ?_
  refine s_bz (p' := 39) (z := (nI 16434824)) rfl rfl rfl (by decide +kernel) ?_
  refine s_bip (p' := 41) rfl rfl ?_
  refine s_bz (p' := 42) (z := (nI 0)) rfl rfl rfl (by decide +kernel) ?_
  refine s_icmp (p' := 49) true rfl (by decide +kernel) rfl ?_
  refine s_con (p' := 50) rfl rfl ?_
  refine s_bz (p' := 51) (z := (nI 0)) rfl rfl rfl (by decide +kernel) ?_
  refine s_istn (p' := 52) (ls' := [_, _, _, _, _]) rfl rfl rfl rfl ?_
  refine s_incz (p' := 55) (w := (nI 2)) (ls' := [_, _, _, _, _]) rfl rfl rfl (by decide +kernel) rfl rfl ?_
  refine s_goto (p' := 17) rfl rfl ?_
  refine s_ild (p' := 19) rfl rfl rfl ?_
  refine s_bip (p' := 21) rfl rfl ?_
  refine s_icmp (p' := 24) false rfl (by decide +kernel) rfl ?_
  refine s_ildn (p' := 25) rfl rfl rfl ?_
  refine s_ildn (p' := 26) rfl rfl rfl ?_
  refine s_con (p' := 27) rfl rfl ?_
  refine s_ild (p' := 29) rfl rfl rfl ?_
  refine s_bz (p' := 30) (z := (nI 6)) rfl rfl rfl (by decide +kernel) ?_
  refine s_bz (p' := 31) (z := (nI 256794)) rfl rfl rfl (by decide +kernel) ?_
  refine s_bip (p' := 33) rfl rfl ?_
  refine s_bz (p' := 34) (z := (nI 2)) rfl rfl rfl (by decide +kernel) ?_
  refine s_ildn (p' := 35) rfl rfl rfl ?_
  refine s_con (p' := 36) rfl rfl ?_
  refine s_ildn (p' := 37) rfl rfl rfl ?_
  refine s_bz (p' := 38) (z := (nI 0)) rfl rfl rfl (by decide +kernel) ?_
  refine s_bz (p' := 39) (z := (nI 16434824)) rfl rfl rfl (by decide +kernel) ?_
  refine s_bip (p' := 41) rfl rfl ?_
  refine s_bz (p' := 42) (z := (nI 0)) rfl rfl rfl (by decide +kernel) ?_
  refine s_icmp (p' := 49) true rfl (by decide +kernel) rfl ?_
  refine s_con (p' := 50) rfl rfl ?_
  refine s_bz (p' := 51) (z := (nI 0)) rfl rfl rfl (by decide +kernel) ?_
  refine s_istn (p' := 52) (ls' := [_, _, _, _, _]) rfl rfl rfl rfl ?_
  refine s_incz (p' := 55) (w := (nI 3)) (ls' := [_, _, _, _, _]) rfl rfl rfl (by decide +kernel) rfl rfl ?_
  refine s_goto (p' := 17) rfl rfl ?_
  refine s_ild (p' := 19) rfl rfl rfl ?_
  refine s_bip (p' := 21) rfl rfl ?_
  refine s_icmp (p' := 24) false rfl (by decide +kernel) rfl ?_
  refine s_ildn (p' := 25) rfl rfl rfl ?_
  refine s_ildn (p' := 26) rfl rfl rfl ?_
  refine s_con (p' := 27) rfl rfl ?_
  refine s_ild (p' := 29) rfl rfl rfl ?_
  refine s_bz (p' := 30) (z := (nI 9)) rfl rfl rfl (by decide +kernel) ?_
  refine s_bz (p' := 31) (z := (nI 32099)) rfl rfl rfl (by decide +kernel) ?_
  refine s_bip (p' := 33) rfl rfl ?_
  refine s_bz (p' := 34) (z := (nI 3)) rfl rfl rfl (by decide +kernel) ?_
  refine s_ildn (p' := 35) rfl rfl rfl ?_
  refine s_con (p' := 36) rfl rfl ?_
  refine s_ildn (p' := 37) rfl rfl rfl ?_
  refine s_bz (p' := 38) (z := (nI 0)) rfl rfl rfl (by decide +kernel) ?_
  refine s_bz (p' := 39) (z := (nI 16434824)) rfl rfl rfl (by decide +kernel) ?_
  refine s_bip (p' := 41) rfl rfl ?_
  refine s_bz (p' := 42) (z := (nI 0)) rfl rfl rfl (by decide +kernel) ?_
  refine s_icmp (p' := 49) true rfl (by decide +kernel) rfl ?_
  refine s_con (p' := 50) rfl rfl ?_
  refine s_bz (p' := 51) (z := (nI 0)) rfl rfl rfl (by decide +kernel) ?_
  refine s_istn (p' := 52) (ls' := [_, _, _, _, _]) rfl rfl rfl rfl ?_
  refine s_incz (p' := 55) (w := (nI 4)) (ls' := [_, _, _, _, _]) rfl rfl rfl (by decide +kernel) rfl rfl ?_
  refine s_goto (p' := 17) rfl rfl ?_
  refine s_ild (p' := 19) rfl rfl rfl ?_
  refine s_bip (p' := 21) rfl rfl ?_
  refine s_icmp (p' := 24) false rfl (by decide +kernel) rfl ?_
  refine s_ildn (p' := 25) rfl rfl rfl ?_
  refine s_ildn (p' := 26) rfl rfl rfl ?_
  refine s_con (p' := 27) rfl rfl ?_
  refine s_ild (p' := 29) rfl rfl rfl ?_
  refine s_bz (p' := 30) (z := (nI 12)) rfl rfl rfl (by decide +kernel) ?_
  refine s_bz (p' := 31) (z := (nI 4012)) rfl rfl rfl (by decide +kernel) ?_
  refine s_bip (p' := 33) rfl rfl ?_
  refine s_bz (p' := 34) (z := (nI 4)) rfl rfl rfl (by decide +kernel) ?_
  refine s_ildn (p' := 35) rfl rfl rfl ?_
  refine s_con (p' := 36) rfl rfl ?_
  refine s_ildn (p' := 37) rfl rfl rfl ?_
  refine s_bz (p' := 38) (z := (nI 0)) rfl rfl rfl (by decide +kernel) ?_
  refine s_bz (p' := 39) (z := (nI 16434824)) rfl rfl rfl (by decide +kernel) ?_
  refine s_bip (p' := 41) rfl rfl ?_
  refine s_bz (p' := 42) (z := (nI 0)) rfl rfl rfl (by decide +kernel) ?_
  refine s_icmp (p' := 49) true rfl (by decide +kernel) rfl ?_
  refine s_con (p' := 50) rfl rfl ?_
  refine s_bz (p' := 51) (z := (nI 0)) rfl rfl rfl (by decide +kernel) ?_
  refine s_istn (p' := 52) (ls' := [_, _, _, _, _]) rfl rfl rfl rfl ?_
  refine s_incz (p' := 55) (w := (nI 5)) (ls' := [_, _, _, _, _]) rfl rfl rfl (by decide +kernel) rfl rfl ?_
  refine s_goto (p' := 17) rfl rfl ?_
  refine s_ild (p' := 19) rfl rfl rfl ?_
  refine s_bip (p' := 21) rfl rfl ?_
  refine s_icmp (p' := 24) false rfl (by decide +kernel) rfl ?_
  refine s_ildn (p' := 25) rfl rfl rfl ?_
  refine s_ildn (p' := 26) rfl rfl rfl ?_
  refine s_con (p' := 27) rfl rfl ?_
  refine s_ild (p' := 29) rfl rfl rfl ?_
  refine s_bz (p' := 30) (z := (nI 15)) rfl rfl rfl (by decide +kernel) ?_
  refine s_bz (p' := 31) (z := (nI 501)) rfl rfl rfl (by decide +kernel) ?_
  refine s_bip (p' := 33) rfl rfl ?_
  refine s_bz (p' := 34) (z := (nI 5)) rfl rfl rfl (by decide +kernel) ?_
  refine s_ildn (p' := 35) rfl rfl rfl ?_
  refine s_con (p' := 36) rfl rfl ?_
  refine s_ildn (p' := 37) rfl rfl rfl ?_
  refine s_bz (p' := 38) (z := (nI 0)) rfl rfl rfl (by decide +kernel) ?_
  refine s_bz (p' := 39) (z := (nI 16434824)) rfl rfl rfl (by decide +kernel) ?_
  refine s_bip (p' := 41) rfl rfl ?_
  refine s_bz (p' := 42) (z := (nI 0)) rfl rfl rfl (by decide +kernel) ?_
  refine s_icmp (p' := 49) true rfl (by decide +kernel) rfl ?_
  refine s_con (p' := 50) rfl rfl ?_
  refine s_bz (p' := 51) (z := (nI 0)) rfl rfl rfl (by decide +kernel) ?_
  refine s_istn (p' := 52) (ls' := [_, _, _, _, _]) rfl rfl rfl rfl ?_
  refine s_incz (p' := 55) (w := (nI 6)) (ls' := [_, _, _, _, _]) rfl rfl rfl (by decide +kernel) rfl rfl ?_
  refine s_goto (p' := 17) rfl rfl ?_
  refine s_ild (p' := 19) rfl rfl rfl ?_
  refine s_bip (p' := 21) rfl rfl ?_
  refine s_icmp (p' := 24) false rfl (by decide +kernel) rfl ?_
  refine s_ildn (p' := 25) rfl rfl rfl ?_
  refine s_ildn (p' := 26) rfl rfl rfl ?_
  refine s_con (p' := 27) rfl rfl ?_
  refine s_ild (p' := 29) rfl rfl rfl ?_
  refine s_bz (p' := 30) (z := (nI 18)) rfl rfl rfl (by decide +kernel) ?_
  refine s_bz (p' := 31) (z := (nI 62)) rfl rfl rfl (by decide +kernel) ?_
  refine s_bip (p' := 33) rfl rfl ?_
  refine s_bz (p' := 34) (z := (nI 6)) rfl rfl rfl (by decide +kernel) ?_
  refine s_ildn (p' := 35) rfl rfl rfl ?_
  refine s_con (p' := 36) rfl rfl ?_
  refine s_ildn (p' := 37) rfl rfl rfl ?_
  refine s_bz (p' := 38) (z := (nI 0)) rfl rfl rfl (by decide +kernel) ?_
  refine s_bz (p' := 39) (z := (nI 16434824)) rfl rfl rfl (by decide +kernel) ?_
  refine s_bip (p' := 41) rfl rfl ?_
  refine s_bz (p' := 42) (z := (nI 0)) rfl rfl rfl (by decide +kernel) ?_
  refine s_icmp (p' := 49) true rfl (by decide +kernel) rfl ?_
  refine s_con (p' := 50) rfl rfl ?_
  refine s_bz (p' := 51) (z := (nI 0)) rfl rfl rfl (by decide +kernel) ?_
  refine s_istn (p' := 52) (ls' := [_, _, _, _, _]) rfl rfl rfl rfl ?_
  refine s_incz (p' := 55) (w := (nI 7)) (ls' := [_, _, _, _, _]) rfl rfl rfl (by decide +kernel) rfl rfl ?_
  refine s_goto (p' := 17) rfl rfl ?_
  refine s_ild (p' := 19) rfl rfl rfl ?_
  refine s_bip (p' := 21) rfl rfl ?_
  refine s_icmp (p' := 24) false rfl (by decide +kernel) rfl ?_
  refine s_ildn (p' := 25) rfl rfl rfl ?_
  refine s_ildn (p' := 26) rfl rfl rfl ?_
  refine s_con (p' := 27) rfl rfl ?_
  refine s_ild (p' := 29) rfl rfl rfl ?_
  refine s_bz (p' := 30) (z := (nI 21)) rfl rfl rfl (by decide +kernel) ?_
  refine s_bz (p' := 31) (z := (nI 7)) rfl rfl rfl (by decide +kernel) ?_
  refine s_bip (p' := 33) rfl rfl ?_
  refine s_bz (p' := 34) (z := (nI 7)) rfl rfl rfl (by decide +kernel) ?_
  refine s_ildn (p' := 35) rfl rfl rfl ?_
  refine s_con (p' := 36) rfl rfl ?_
  refine s_ildn (p' := 37) rfl rfl rfl ?_
  refine s_bz (p' := 38) (z := (nI 0)) rfl rfl rfl (by decide +kernel) ?_
  refine s_bz (p' := 39) (z := (nI 16434824)) rfl rfl rfl (by decide +kernel) ?_
  refine s_bip (p' := 41) rfl rfl ?_
  refine s_bz (p' := 42) (z := (nI 0)) rfl rfl rfl (by decide +kernel) ?_
  refine s_icmp (p' := 49) true rfl (by decide +kernel) rfl ?_
  refine s_con (p' := 50) rfl rfl ?_
  refine s_bz (p' := 51) (z := (nI 0)) rfl rfl rfl (by decide +kernel) ?_
  refine s_istn (p' := 52) (ls' := [_, _, _, _, _]) rfl rfl rfl rfl ?_
  refine s_incz (p' := 55) (w := (nI 8)) (ls' := [_, _, _, _, _]) rfl rfl rfl (by decide +kernel) rfl rfl ?_
  refine s_goto (p' := 17) rfl rfl ?_
  refine s_ild (p' := 19) rfl rfl rfl ?_
  refine s_bip (p' := 21) rfl rfl ?_
  refine s_icmp (p' := 58) true rfl (by decide +kernel) rfl ?_
  refine s_ildn (p' := 59) rfl rfl rfl ?_
  refine s_bip (p' := 61) rfl rfl ?_
  refine s_ildn (p' := 62) rfl rfl rfl ?_
  refine s_bz (p' := 63) (z := (nI 8)) rfl rfl rfl (by decide +kernel) ?_
  refine s_bz (p' := 64) (z := (nI 0)) rfl rfl rfl (by decide +kernel) ?_
  refine s_ildn (p' := 65) rfl rfl rfl ?_
  refine s_bz (p' := 66) (z := (nI 0)) rfl rfl rfl (by decide +kernel) ?_
  refine s_istn (p' := 67) (ls' := [_, _, _, _, _]) rfl rfl rfl rfl ?_
  refine s_incz (p' := 70) (w := (nI 1)) (ls' := [_, _, _, _, _]) rfl rfl rfl (by decide +kernel) rfl rfl ?_
  refine s_goto (p' := 4) rfl rfl ?_
  refine s_ildn (p' := 5) rfl rfl rfl ?_
  refine s_bip (p' := 7) rfl rfl ?_
  refine s_icmp (p' := 10) false rfl (by decide +kernel) rfl ?_
  refine s_con (p' := 11) rfl rfl ?_
  refine s_istn (p' := 12) (ls' := [_, _, _, _, _]) rfl rfl rfl rfl ?_
  refine s_ildn (p' := 13) rfl rfl rfl ?_
  refine s_con (p' := 14) rfl rfl ?_
  refine s_bz (p' := 15) (z := (nI 2)) rfl rfl rfl (by decide +kernel) ?_
  refine s_ist (p' := 17) (ls' := [_, _, _, _, _]) rfl rfl rfl rfl ?_
  refine s_ild (p' := 19) rfl rfl rfl ?_
  refine s_bip (p' := 21) rfl rfl ?_
  refine s_icmp (p' := 24) false rfl (by decide +kernel) rfl ?_
  refine s_ildn (p' := 25) rfl rfl rfl ?_
  refine s_ildn (p' := 26) rfl rfl rfl ?_
  refine s_con (p' := 27) rfl rfl ?_
  refine s_ild (p' := 29) rfl rfl rfl ?_
  refine s_bz (p' := 30) (z := (nI 6)) rfl rfl rfl (by decide +kernel) ?_
  refine s_bz (p' := 31) (z := (nI 256794)) rfl rfl rfl (by decide +kernel) ?_
  refine s_bip (p' := 33) rfl rfl ?_
  refine s_bz (p' := 34) (z := (nI 2)) rfl rfl rfl (by decide +kernel) ?_
  refine s_ildn (p' := 35) rfl rfl rfl ?_
  refine s_con (p' := 36) rfl rfl ?_
  refine s_ildn (p' := 37) rfl rfl rfl ?_
  refine s_bz (p' := 38) (z := (nI 3)) rfl rfl rfl (by decide +kernel) ?_
  refine s_bz (p' := 39) (z := (nI 2054353)) rfl rfl rfl (by decide +kernel) ?_
  refine s_bip (p' := 41) rfl rfl ?_
  refine s_bz (p' := 42) (z := (nI 1)) rfl rfl rfl (by decide +kernel) ?_
  refine s_icmp (p' := 49) true rfl (by decide +kernel) rfl ?_
  refine s_con (p' := 50) rfl rfl ?_
  refine s_bz (p' := 51) (z := (nI 0)) rfl rfl rfl (by decide +kernel) ?_
  refine s_istn (p' := 52) (ls' := [_, _, _, _, _]) rfl rfl rfl rfl ?_
  refine s_incz (p' := 55) (w := (nI 3)) (ls' := [_, _, _, _, _]) rfl rfl rfl (by decide +kernel) rfl rfl ?_
  refine s_goto (p' := 17) rfl rfl ?_
  refine s_ild (p' := 19) rfl rfl rfl ?_
  refine s_bip (p' := 21) rfl rfl ?_
  refine s_icmp (p' := 24) false rfl (by decide +kernel) rfl ?_
  refine s_ildn (p' := 25) rfl rfl rfl ?_
  refine s_ildn (p' := 26) rfl rfl rfl ?_
  refine s_con (p' := 27) rfl rfl ?_
  refine s_ild (p' := 29) rfl rfl rfl ?_
  refine s_bz (p' := 30) (z := (nI 9)) rfl rfl rfl (by decide +kernel) ?_
  refine s_bz (p' := 31) (z := (nI 32099)) rfl rfl rfl (by decide +kernel) ?_
  refine s_bip (p' := 33) rfl rfl ?_
  refine s_bz (p' := 34) (z := (nI 3)) rfl rfl rfl (by decide +kernel) ?_
  refine s_ildn (p' := 35) rfl rfl rfl ?_
  refine s_con (p' := 36) rfl rfl ?_
  refine s_ildn (p' := 37) rfl rfl rfl ?_
  refine s_bz (p' := 38) (z := (nI 3)) rfl rfl rfl (by decide +kernel) ?_
  refine s_bz (p' := 39) (z := (nI 2054353)) rfl rfl rfl (by decide +kernel) ?_
  refine s_bip (p' := 41) rfl rfl ?_
  refine s_bz (p' := 42) (z := (nI 1)) rfl rfl rfl (by decide +kernel) ?_
  refine s_icmp (p' := 49) true rfl (by decide +kernel) rfl ?_
  refine s_con (p' := 50) rfl rfl ?_
  refine s_bz (p' := 51) (z := (nI 0)) rfl rfl rfl (by decide +kernel) ?_
  refine s_istn (p' := 52) (ls' := [_, _, _, _, _]) rfl rfl rfl rfl ?_
  refine s_incz (p' := 55) (w := (nI 4)) (ls' := [_, _, _, _, _]) rfl rfl rfl (by decide +kernel) rfl rfl ?_
  refine s_goto (p' := 17) rfl rfl ?_
  refine s_ild (p' := 19) rfl rfl rfl ?_
  refine s_bip (p' := 21) rfl rfl ?_
  refine s_icmp (p' := 24) false rfl (by decide +kernel) rfl ?_
  refine s_ildn (p' := 25) rfl rfl rfl ?_
  refine s_ildn (p' := 26) rfl rfl rfl ?_
  refine s_con (p' := 27) rfl rfl ?_
  refine s_ild (p' := 29) rfl rfl rfl ?_
  refine s_bz (p' := 30) (z := (nI 12)) rfl rfl rfl (by decide +kernel) ?_
  refine s_bz (p' := 31) (z := (nI 4012)) rfl rfl rfl (by decide +kernel) ?_
  refine s_bip (p' := 33) rfl rfl ?_
  refine s_bz (p' := 34) (z := (nI 4)) rfl rfl rfl (by decide +kernel) ?_
  refine s_ildn (p' := 35) rfl rfl rfl ?_
  refine s_con (p' := 36) rfl rfl ?_
  refine s_ildn (p' := 37) rfl rfl rfl ?_
  refine s_bz (p' := 38) (z := (nI 3)) rfl rfl rfl (by decide +kernel) ?_
  refine s_bz (p' := 39) (z := (nI 2054353)) rfl rfl rfl (by decide +kernel) ?_
  refine s_bip (p' := 41) rfl rfl ?_
  refine s_bz (p' := 42) (z := (nI 1)) rfl rfl rfl (by decide +kernel) ?_
  refine s_icmp (p' := 49) true rfl (by decide +kernel) rfl ?_
  refine s_con (p' := 50) rfl rfl ?_
  refine s_bz (p' := 51) (z := (nI 0)) rfl rfl rfl (by decide +kernel) ?_
  refine s_istn (p' := 52) (ls' := [_, _, _, _, _]) rfl rfl rfl rfl ?_
  refine s_incz (p' := 55) (w := (nI 5)) (ls' := [_, _, _, _, _]) rfl rfl rfl (by decide +kernel) rfl rfl ?_
  refine s_goto (p' := 17) rfl rfl ?_
  refine s_ild (p' := 19) rfl rfl rfl ?_
  refine s_bip (p' := 21) rfl rfl ?_
  refine s_icmp (p' := 24) false rfl (by decide +kernel) rfl ?_
  refine s_ildn (p' := 25) rfl rfl rfl ?_
  refine s_ildn (p' := 26) rfl rfl rfl ?_
  refine s_con (p' := 27) rfl rfl ?_
  refine s_ild (p' := 29) rfl rfl rfl ?_
  refine s_bz (p' := 30) (z := (nI 15)) rfl rfl rfl (by decide +kernel) ?_
  refine s_bz (p' := 31) (z := (nI 501)) rfl rfl rfl (by decide +kernel) ?_
  refine s_bip (p' := 33) rfl rfl ?_
  refine s_bz (p' := 34) (z := (nI 5)) rfl rfl rfl (by decide +kernel) ?_
  refine s_ildn (p' := 35) rfl rfl rfl ?_
  refine s_con (p' := 36) rfl rfl ?_
  refine s_ildn (p' := 37) rfl rfl rfl ?_
  refine s_bz (p' := 38) (z := (nI 3)) rfl rfl rfl (by decide +kernel) ?_
  refine s_bz (p' := 39) (z := (nI 2054353)) rfl rfl rfl (by decide +kernel) ?_
  refine s_bip (p' := 41) rfl rfl ?_
  refine s_bz (p' := 42) (z := (nI 1)) rfl rfl rfl (by decide +kernel) ?_
  refine s_icmp (p' := 49) true rfl (by decide +kernel) rfl ?_
  refine s_con (p' := 50) rfl rfl ?_
  refine s_bz (p' := 51) (z := (nI 0)) rfl rfl rfl (by decide +kernel) ?_
  refine s_istn (p' := 52) (ls' := [_, _, _, _, _]) rfl rfl rfl rfl ?_
  refine s_incz (p' := 55) (w := (nI 6)) (ls' := [_, _, _, _, _]) rfl rfl rfl (by decide +kernel) rfl rfl ?_
  refine s_goto (p' := 17) rfl rfl ?_
  refine s_ild (p' := 19) rfl rfl rfl ?_
  refine s_bip (p' := 21) rfl rfl ?_
  refine s_icmp (p' := 24) false rfl (by decide +kernel) rfl ?_
  refine s_ildn (p' := 25) rfl rfl rfl ?_
  refine s_ildn (p' := 26) rfl rfl rfl ?_
  refine s_con (p' := 27) rfl rfl ?_
  refine s_ild (p' := 29) rfl rfl rfl ?_
  refine s_bz (p' := 30) (z := (nI 18)) rfl rfl rfl (by decide +kernel) ?_
  refine s_bz (p' := 31) (z := (nI 62)) rfl rfl rfl (by decide +kernel) ?_
  refine s_bip (p' := 33) rfl rfl ?_
  refine s_bz (p' := 34) (z := (nI 6)) rfl rfl rfl (by decide +kernel) ?_
  refine s_ildn (p' := 35) rfl rfl rfl ?_
  refine s_con (p' := 36) rfl rfl ?_
  refine s_ildn (p' := 37) rfl rfl rfl ?_
  refine s_bz (p' := 38) (z := (nI 3)) rfl rfl rfl (by decide +kernel) ?_
  refine s_bz (p' := 39) (z := (nI 2054353)) rfl rfl rfl (by decide +kernel) ?_
  refine s_bip (p' := 41) rfl rfl ?_
  refine s_bz (p' := 42) (z := (nI 1)) rfl rfl rfl (by decide +kernel) ?_
  refine s_icmp (p' := 49) true rfl (by decide +kernel) rfl ?_
  refine s_con (p' := 50) rfl rfl ?_
  refine s_bz (p' := 51) (z := (nI 0)) rfl rfl rfl (by decide +kernel) ?_
  refine s_istn (p' := 52) (ls' := [_, _, _, _, _]) rfl rfl rfl rfl ?_
  refine s_incz (p' := 55) (w := (nI 7)) (ls' := [_, _, _, _, _]) rfl rfl rfl (by decide +kernel) rfl rfl ?_
  refine s_goto (p' := 17) rfl rfl ?_
  refine s_ild (p' := 19) rfl rfl rfl ?_
  refine s_bip (p' := 21) rfl rfl ?_
  refine s_icmp (p' := 24) false rfl (by decide +kernel) rfl ?_
  refine s_ildn (p' := 25) rfl rfl rfl ?_
  refine s_ildn (p' := 26) rfl rfl rfl ?_
  refine s_con (p' := 27) rfl rfl ?_
  refine s_ild (p' := 29) rfl rfl rfl ?_
  refine s_bz (p' := 30) (z := (nI 21)) rfl rfl rfl (by decide +kernel) ?_
  refine s_bz (p' := 31) (z := (nI 7)) rfl rfl rfl (by decide +kernel) ?_
  refine s_bip (p' := 33) rfl rfl ?_
  refine s_bz (p' := 34) (z := (nI 7)) rfl rfl rfl (by decide +kernel) ?_
  refine s_ildn (p' := 35) rfl rfl rfl ?_
  refine s_con (p' := 36) rfl rfl ?_
  refine s_ildn (p' := 37) rfl rfl rfl ?_
  refine s_bz (p' := 38) (z := (nI 3)) rfl rfl rfl (by decide +kernel) ?_
  refine s_bz (p' := 39) (z := (nI 2054353)) rfl rfl rfl (by decide +kernel) ?_
  refine s_bip (p' := 41) rfl rfl ?_
  refine s_bz (p' := 42) (z := (nI 1)) rfl rfl rfl (by decide +kernel) ?_
  refine s_icmp (p' := 49) true rfl (by decide +kernel) rfl ?_
  refine s_con (p' := 50) rfl rfl ?_
  refine s_bz (p' := 51) (z := (nI 0)) rfl rfl rfl (by decide +kernel) ?_
  refine s_istn (p' := 52) (ls' := [_, _, _, _, _]) rfl rfl rfl rfl ?_
  refine s_incz (p' := 55) (w := (nI 8)) (ls' := [_, _, _, _, _]) rfl rfl rfl (by decide +kernel) rfl rfl ?_
  refine s_goto (p' := 17) rfl rfl ?_
  refine s_ild (p' := 19) rfl rfl rfl ?_
  refine s_bip (p' := 21) rfl rfl ?_
  refine s_icmp (p' := 58) true rfl (by decide +kernel) rfl ?_
  refine s_ildn (p' := 59) rfl rfl rfl ?_
  refine s_bip (p' := 61) rfl rfl ?_
  refine s_ildn (p' := 62) rfl rfl rfl ?_
  refine s_bz (p' := 63) (z := (nI 7)) rfl rfl rfl (by decide +kernel) ?_
  refine s_bz (p' := 64) (z := (nI 0)) rfl rfl rfl (by decide +kernel) ?_
  refine s_ildn (p' := 65) rfl rfl rfl ?_
  refine s_bz (p' := 66) (z := (nI 0)) rfl rfl rfl (by decide +kernel) ?_
  refine s_istn (p' := 67) (ls' := [_, _, _, _, _]) rfl rfl rfl rfl ?_
  refine s_incz (p' := 70) (w := (nI 2)) (ls' := [_, _, _, _, _]) rfl rfl rfl (by decide +kernel) rfl rfl ?_
  refine s_goto (p' := 4) rfl rfl ?_
  refine s_ildn (p' := 5) rfl rfl rfl ?_
  refine s_bip (p' := 7) rfl rfl ?_
  refine s_icmp (p' := 10) false rfl (by decide +kernel) rfl ?_
  refine s_con (p' := 11) rfl rfl ?_
  refine s_istn (p' := 12) (ls' := [_, _, _, _, _]) rfl rfl rfl rfl ?_
  refine s_ildn (p' := 13) rfl rfl rfl ?_
  refine s_con (p' := 14) rfl rfl ?_
  refine s_bz (p' := 15) (z := (nI 3)) rfl rfl rfl (by decide +kernel) ?_
  refine s_ist (p' := 17) (ls' := [_, _, _, _, _]) rfl rfl rfl rfl ?_
  refine s_ild (p' := 19) rfl rfl rfl ?_
  refine s_bip (p' := 21) rfl rfl ?_
  refine s_icmp (p' := 24) false rfl (by decide +kernel) rfl ?_
  refine s_ildn (p' := 25) rfl rfl rfl ?_
  refine s_ildn (p' := 26) rfl rfl rfl ?_
  refine s_con (p' := 27) rfl rfl ?_
  refine s_ild (p' := 29) rfl rfl rfl ?_
  refine s_bz (p' := 30) (z := (nI 9)) rfl rfl rfl (by decide +kernel) ?_
  refine s_bz (p' := 31) (z := (nI 32099)) rfl rfl rfl (by decide +kernel) ?_
  refine s_bip (p' := 33) rfl rfl ?_
  refine s_bz (p' := 34) (z := (nI 3)) rfl rfl rfl (by decide +kernel) ?_
  refine s_ildn (p' := 35) rfl rfl rfl ?_
  refine s_con (p' := 36) rfl rfl ?_
  refine s_ildn (p' := 37) rfl rfl rfl ?_
  refine s_bz (p' := 38) (z := (nI 6)) rfl rfl rfl (by decide +kernel) ?_
  refine s_bz (p' := 39) (z := (nI 256794)) rfl rfl rfl (by decide +kernel) ?_
  refine s_bip (p' := 41) rfl rfl ?_
  refine s_bz (p' := 42) (z := (nI 2)) rfl rfl rfl (by decide +kernel) ?_
  refine s_icmp (p' := 49) true rfl (by decide +kernel) rfl ?_
  refine s_con (p' := 50) rfl rfl ?_
  refine s_bz (p' := 51) (z := (nI 0)) rfl rfl rfl (by decide +kernel) ?_
  refine s_istn (p' := 52) (ls' := [_, _, _, _, _]) rfl rfl rfl rfl ?_
  refine s_incz (p' := 55) (w := (nI 4)) (ls' := [_, _, _, _, _]) rfl rfl rfl (by decide +kernel) rfl rfl ?_
  refine s_goto (p' := 17) rfl rfl ?_
  refine s_ild (p' := 19) rfl rfl rfl ?_
  refine s_bip (p' := 21) rfl rfl ?_
  refine s_icmp (p' := 24) false rfl (by decide +kernel) rfl ?_
  refine s_ildn (p' := 25) rfl rfl rfl ?_
  refine s_ildn (p' := 26) rfl rfl rfl ?_
  refine s_con (p' := 27) rfl rfl ?_
  refine s_ild (p' := 29) rfl rfl rfl ?_
  refine s_bz (p' := 30) (z := (nI 12)) rfl rfl rfl (by decide +kernel) ?_
  refine s_bz (p' := 31) (z := (nI 4012)) rfl rfl rfl (by decide +kernel) ?_
  refine s_bip (p' := 33) rfl rfl ?_
  refine s_bz (p' := 34) (z := (nI 4)) rfl rfl rfl (by decide +kernel) ?_
  refine s_ildn (p' := 35) rfl rfl rfl ?_
  refine s_con (p' := 36) rfl rfl ?_
  refine s_ildn (p' := 37) rfl rfl rfl ?_
  refine s_bz (p' := 38) (z := (nI 6)) rfl rfl rfl (by decide +kernel) ?_
  refine s_bz (p' := 39) (z := (nI 256794)) rfl rfl rfl (by decide +kernel) ?_
  refine s_bip (p' := 41) rfl rfl ?_
  refine s_bz (p' := 42) (z := (nI 2)) rfl rfl rfl (by decide +kernel) ?_
  refine s_icmp (p' := 49) true rfl (by decide +kernel) rfl ?_
  refine s_con (p' := 50) rfl rfl ?_
  refine s_bz (p' := 51) (z := (nI 0)) rfl rfl rfl (by decide +kernel) ?_
  refine s_istn (p' := 52) (ls' := [_, _, _, _, _]) rfl rfl rfl rfl ?_
  refine s_incz (p' := 55) (w := (nI 5)) (ls' := [_, _, _, _, _]) rfl rfl rfl (by decide +kernel) rfl rfl ?_
  refine s_goto (p' := 17) rfl rfl ?_
  refine s_ild (p' := 19) rfl rfl rfl ?_
  refine s_bip (p' := 21) rfl rfl ?_
  refine s_icmp (p' := 24) false rfl (by decide +kernel) rfl ?_
  refine s_ildn (p' := 25) rfl rfl rfl ?_
  refine s_ildn (p' := 26) rfl rfl rfl ?_
  refine s_con (p' := 27) rfl rfl ?_
  refine s_ild (p' := 29) rfl rfl rfl ?_
  refine s_bz (p' := 30) (z := (nI 15)) rfl rfl rfl (by decide +kernel) ?_
  refine s_bz (p' := 31) (z := (nI 501)) rfl rfl rfl (by decide +kernel) ?_
  refine s_bip (p' := 33) rfl rfl ?_
  refine s_bz (p' := 34) (z := (nI 5)) rfl rfl rfl (by decide +kernel) ?_
  refine s_ildn (p' := 35) rfl rfl rfl ?_
  refine s_con (p' := 36) rfl rfl ?_
  refine s_ildn (p' := 37) rfl rfl rfl ?_
  refine s_bz (p' := 38) (z := (nI 6)) rfl rfl rfl (by decide +kernel) ?_
  refine s_bz (p' := 39) (z := (nI 256794)) rfl rfl rfl (by decide +kernel) ?_
  refine s_bip (p' := 41) rfl rfl ?_
  refine s_bz (p' := 42) (z := (nI 2)) rfl rfl rfl (by decide +kernel) ?_
  refine s_icmp (p' := 49) true rfl (by decide +kernel) rfl ?_
  refine s_con (p' := 50) rfl rfl ?_
  refine s_bz (p' := 51) (z := (nI 0)) rfl rfl rfl (by decide +kernel) ?_
  refine s_istn (p' := 52) (ls' := [_, _, _, _, _]) rfl rfl rfl rfl ?_
  refine s_incz (p' := 55) (w := (nI 6)) (ls' := [_, _, _, _, _]) rfl rfl rfl (by decide +kernel) rfl rfl ?_
  refine s_goto (p' := 17) rfl rfl ?_
  refine s_ild (p' := 19) rfl rfl rfl ?_
  refine s_bip (p' := 21) rfl rfl ?_
  refine s_icmp (p' := 24) false rfl (by decide +kernel) rfl ?_
  refine s_ildn (p' := 25) rfl rfl rfl ?_
  refine s_ildn (p' := 26) rfl rfl rfl ?_
  refine s_con (p' := 27) rfl rfl ?_
  refine s_ild (p' := 29) rfl rfl rfl ?_
  refine s_bz (p' := 30) (z := (nI 18)) rfl rfl rfl (by decide +kernel) ?_
  refine s_bz (p' := 31) (z := (nI 62)) rfl rfl rfl (by decide +kernel) ?_
  refine s_bip (p' := 33) rfl rfl ?_
  refine s_bz (p' := 34) (z := (nI 6)) rfl rfl rfl (by decide +kernel) ?_
  refine s_ildn (p' := 35) rfl rfl rfl ?_
  refine s_con (p' := 36) rfl rfl ?_
  refine s_ildn (p' := 37) rfl rfl rfl ?_
  refine s_bz (p' := 38) (z := (nI 6)) rfl rfl rfl (by decide +kernel) ?_
  refine s_bz (p' := 39) (z := (nI 256794)) rfl rfl rfl (by decide +kernel) ?_
  refine s_bip (p' := 41) rfl rfl ?_
  refine s_bz (p' := 42) (z := (nI 2)) rfl rfl rfl (by decide +kernel) ?_
  refine s_icmp (p' := 49) true rfl (by decide +kernel) rfl ?_
  refine s_con (p' := 50) rfl rfl ?_
  refine s_bz (p' := 51) (z := (nI 0)) rfl rfl rfl (by decide +kernel) ?_
  refine s_istn (p' := 52) (ls' := [_, _, _, _, _]) rfl rfl rfl rfl ?_
  refine s_incz (p' := 55) (w := (nI 7)) (ls' := [_, _, _, _, _]) rfl rfl rfl (by decide +kernel) rfl rfl ?_
  refine s_goto (p' := 17) rfl rfl ?_
  refine s_ild (p' := 19) rfl rfl rfl ?_
  refine s_bip (p' := 21) rfl rfl ?_
  refine s_icmp (p' := 24) false rfl (by decide +kernel) rfl ?_
  refine s_ildn (p' := 25) rfl rfl rfl ?_
  refine s_ildn (p' := 26) rfl rfl rfl ?_
  refine s_con (p' := 27) rfl rfl ?_
  refine s_ild (p' := 29) rfl rfl rfl ?_
  refine s_bz (p' := 30) (z := (nI 21)) rfl rfl rfl (by decide +kernel) ?_
  refine s_bz (p' := 31) (z := (nI 7)) rfl rfl rfl (by decide +kernel) ?_
  refine s_bip (p' := 33) rfl rfl ?_
  refine s_bz (p' := 34) (z := (nI 7)) rfl rfl rfl (by decide +kernel) ?_
  refine s_ildn (p' := 35) rfl rfl rfl ?_
  refine s_con (p' := 36) rfl rfl ?_
  refine s_ildn (p' := 37) rfl rfl rfl ?_
  refine s_bz (p' := 38) (z := (nI 6)) rfl rfl rfl (by decide +kernel) ?_
  refine s_bz (p' := 39) (z := (nI 256794)) rfl rfl rfl (by decide +kernel) ?_
  refine s_bip (p' := 41) rfl rfl ?_
  refine s_bz (p' := 42) (z := (nI 2)) rfl rfl rfl (by decide +kernel) ?_
  refine s_icmp (p' := 49) true rfl (by decide +kernel) rfl ?_
  refine s_con (p' := 50) rfl rfl ?_
  refine s_bz (p' := 51) (z := (nI 0)) rfl rfl rfl (by decide +kernel) ?_
  refine s_istn (p' := 52) (ls' := [_, _, _, _, _]) rfl rfl rfl rfl ?_
  refine s_incz (p' := 55) (w := (nI 8)) (ls' := [_, _, _, _, _]) rfl rfl rfl (by decide +kernel) rfl rfl ?_
  refine s_goto (p' := 17) rfl rfl ?_
  refine s_ild (p' := 19) rfl rfl rfl ?_
  refine s_bip (p' := 21) rfl rfl ?_
  refine s_icmp (p' := 58) true rfl (by decide +kernel) rfl ?_
  refine s_ildn (p' := 59) rfl rfl rfl ?_
  refine s_bip (p' := 61) rfl rfl ?_
  refine s_ildn (p' := 62) rfl rfl rfl ?_
  refine s_bz (p' := 63) (z := (nI 6)) rfl rfl rfl (by decide +kernel) ?_
  refine s_bz (p' := 64) (z := (nI 0)) rfl rfl rfl (by decide +kernel) ?_
  refine s_ildn (p' := 65) rfl rfl rfl ?_
  refine s_bz (p' := 66) (z := (nI 0)) rfl rfl rfl (by decide +kernel) ?_
  refine s_istn (p' := 67) (ls' := [_, _, _, _, _]) rfl rfl rfl rfl ?_
  refine s_incz (p' := 70) (w := (nI 3)) (ls' := [_, _, _, _, _]) rfl rfl rfl (by decide +kernel) rfl rfl ?_
  refine s_goto (p' := 4) rfl rfl ?_
  refine s_ildn (p' := 5) rfl rfl rfl ?_
  refine s_bip (p' := 7) rfl rfl ?_
  refine s_icmp (p' := 10) false rfl (by decide +kernel) rfl ?_
  refine s_con (p' := 11) rfl rfl ?_
  refine s_istn (p' := 12) (ls' := [_, _, _, _, _]) rfl rfl rfl rfl ?_
  refine s_ildn (p' := 13) rfl rfl rfl ?_
  refine s_con (p' := 14) rfl rfl ?_
  refine s_bz (p' := 15) (z := (nI 4)) rfl rfl rfl (by decide +kernel) ?_
  refine s_ist (p' := 17) (ls' := [_, _, _, _, _]) rfl rfl rfl rfl ?_
  refine s_ild (p' := 19) rfl rfl rfl ?_
  refine s_bip (p' := 21) rfl rfl ?_
  refine s_icmp (p' := 24) false rfl (by decide +kernel) rfl ?_
  refine s_ildn (p' := 25) rfl rfl rfl ?_
  refine s_ildn (p' := 26) rfl rfl rfl ?_
  refine s_con (p' := 27) rfl rfl ?_
  refine s_ild (p' := 29) rfl rfl rfl ?_
  refine s_bz (p' := 30) (z := (nI 12)) rfl rfl rfl (by decide +kernel) ?_
  refine s_bz (p' := 31) (z := (nI 4012)) rfl rfl rfl (by decide +kernel) ?_
  refine s_bip (p' := 33) rfl rfl ?_
  refine s_bz (p' := 34) (z := (nI 4)) rfl rfl rfl (by decide +kernel) ?_
  refine s_ildn (p' := 35) rfl rfl rfl ?_
  refine s_con (p' := 36) rfl rfl ?_
  refine s_ildn (p' := 37) rfl rfl rfl ?_
  refine s_bz (p' := 38) (z := (nI 9)) rfl rfl rfl (by decide +kernel) ?_
  refine s_bz (p' := 39) (z := (nI 32099)) rfl rfl rfl (by decide +kernel) ?_
  refine s_bip (p' := 41) rfl rfl ?_
  refine s_bz (p' := 42) (z := (nI 3)) rfl rfl rfl (by decide +kernel) ?_
  refine s_icmp (p' := 49) true rfl (by decide +kernel) rfl ?_
  refine s_con (p' := 50) rfl rfl ?_
  refine s_bz (p' := 51) (z := (nI 0)) rfl rfl rfl (by decide +kernel) ?_
  refine s_istn (p' := 52) (ls' := [_, _, _, _, _]) rfl rfl rfl rfl ?_
  refine s_incz (p' := 55) (w := (nI 5)) (ls' := [_, _, _, _, _]) rfl rfl rfl (by decide +kernel) rfl rfl ?_
  refine s_goto (p' := 17) rfl rfl ?_
  refine s_ild (p' := 19) rfl rfl rfl ?_
  refine s_bip (p' := 21) rfl rfl ?_
  refine s_icmp (p' := 24) false rfl (by decide +kernel) rfl ?_
  refine s_ildn (p' := 25) rfl rfl rfl ?_
  refine s_ildn (p' := 26) rfl rfl rfl ?_
  refine s_con (p' := 27) rfl rfl ?_
  refine s_ild (p' := 29) rfl rfl rfl ?_
  refine s_bz (p' := 30) (z := (nI 15)) rfl rfl rfl (by decide +kernel) ?_
  refine s_bz (p' := 31) (z := (nI 501)) rfl rfl rfl (by decide +kernel) ?_
  refine s_bip (p' := 33) rfl rfl ?_
  refine s_bz (p' := 34) (z := (nI 5)) rfl rfl rfl (by decide +kernel) ?_
  refine s_ildn (p' := 35) rfl rfl rfl ?_
  refine s_con (p' := 36) rfl rfl ?_
  refine s_ildn (p' := 37) rfl rfl rfl ?_
  refine s_bz (p' := 38) (z := (nI 9)) rfl rfl rfl (by decide +kernel) ?_
  refine s_bz (p' := 39) (z := (nI 32099)) rfl rfl rfl (by decide +kernel) ?_
  refine s_bip (p' := 41) rfl rfl ?_
  refine s_bz (p' := 42) (z := (nI 3)) rfl rfl rfl (by decide +kernel) ?_
  refine s_icmp (p' := 49) true rfl (by decide +kernel) rfl ?_
  refine s_con (p' := 50) rfl rfl ?_
  refine s_bz (p' := 51) (z := (nI 0)) rfl rfl rfl (by decide +kernel) ?_
  refine s_istn (p' := 52) (ls' := [_, _, _, _, _]) rfl rfl rfl rfl ?_
  refine s_incz (p' := 55) (w := (nI 6)) (ls' := [_, _, _, _, _]) rfl rfl rfl (by decide +kernel) rfl rfl ?_
  refine s_goto (p' := 17) rfl rfl ?_
  refine s_ild (p' := 19) rfl rfl rfl ?_
  refine s_bip (p' := 21) rfl rfl ?_
  refine s_icmp (p' := 24) false rfl (by decide +kernel) rfl ?_
  refine s_ildn (p' := 25) rfl rfl rfl ?_
  refine s_ildn (p' := 26) rfl rfl rfl ?_
  refine s_con (p' := 27) rfl rfl ?_
  refine s_ild (p' := 29) rfl rfl rfl ?_
  refine s_bz (p' := 30) (z := (nI 18)) rfl rfl rfl (by decide +kernel) ?_
  refine s_bz (p' := 31) (z := (nI 62)) rfl rfl rfl (by decide +kernel) ?_
  refine s_bip (p' := 33) rfl rfl ?_
  refine s_bz (p' := 34) (z := (nI 6)) rfl rfl rfl (by decide +kernel) ?_
  refine s_ildn (p' := 35) rfl rfl rfl ?_
  refine s_con (p' := 36) rfl rfl ?_
  refine s_ildn (p' := 37) rfl rfl rfl ?_
  refine s_bz (p' := 38) (z := (nI 9)) rfl rfl rfl (by decide +kernel) ?_
  refine s_bz (p' := 39) (z := (nI 32099)) rfl rfl rfl (by decide +kernel) ?_
  refine s_bip (p' := 41) rfl rfl ?_
  refine s_bz (p' := 42) (z := (nI 3)) rfl rfl rfl (by decide +kernel) ?_
  refine s_icmp (p' := 49) true rfl (by decide +kernel) rfl ?_
  refine s_con (p' := 50) rfl rfl ?_
  refine s_bz (p' := 51) (z := (nI 0)) rfl rfl rfl (by decide +kernel) ?_
  refine s_istn (p' := 52) (ls' := [_, _, _, _, _]) rfl rfl rfl rfl ?_
  refine s_incz (p' := 55) (w := (nI 7)) (ls' := [_, _, _, _, _]) rfl rfl rfl (by decide +kernel) rfl rfl ?_
  refine s_goto (p' := 17) rfl rfl ?_
  refine s_ild (p' := 19) rfl rfl rfl ?_
  refine s_bip (p' := 21) rfl rfl ?_
  refine s_icmp (p' := 24) false rfl (by decide +kernel) rfl ?_
  refine s_ildn (p' := 25) rfl rfl rfl ?_
  refine s_ildn (p' := 26) rfl rfl rfl ?_
  refine s_con (p' := 27) rfl rfl ?_
  refine s_ild (p' := 29) rfl rfl rfl ?_
  refine s_bz (p' := 30) (z := (nI 21)) rfl rfl rfl (by decide +kernel) ?_
  refine s_bz (p' := 31) (z := (nI 7)) rfl rfl rfl (by decide +kernel) ?_
  refine s_bip (p' := 33) rfl rfl ?_
  refine s_bz (p' := 34) (z := (nI 7)) rfl rfl rfl (by decide +kernel) ?_
  refine s_ildn (p' := 35) rfl rfl rfl ?_
  refine s_con (p' := 36) rfl rfl ?_
  refine s_ildn (p' := 37) rfl rfl rfl ?_
  refine s_bz (p' := 38) (z := (nI 9)) rfl rfl rfl (by decide +kernel) ?_
  refine s_bz (p' := 39) (z := (nI 32099)) rfl rfl rfl (by decide +kernel) ?_
  refine s_bip (p' := 41) rfl rfl ?_
  refine s_bz (p' := 42) (z := (nI 3)) rfl rfl rfl (by decide +kernel) ?_
  refine s_icmp (p' := 49) true rfl (by decide +kernel) rfl ?_
  refine s_con (p' := 50) rfl rfl ?_
  refine s_bz (p' := 51) (z := (nI 0)) rfl rfl rfl (by decide +kernel) ?_
  refine s_istn (p' := 52) (ls' := [_, _, _, _, _]) rfl rfl rfl rfl ?_
  refine s_incz (p' := 55) (w := (nI 8)) (ls' := [_, _, _, _, _]) rfl rfl rfl (by decide +kernel) rfl rfl ?_
  refine s_goto (p' := 17) rfl rfl ?_
  refine s_ild (p' := 19) rfl rfl rfl ?_
  refine s_bip (p' := 21) rfl rfl ?_
  refine s_icmp (p' := 58) true rfl (by decide +kernel) rfl ?_
  refine s_ildn (p' := 59) rfl rfl rfl ?_
  refine s_bip (p' := 61) rfl rfl ?_
  refine s_ildn (p' := 62) rfl rfl rfl ?_
  refine s_bz (p' := 63) (z := (nI 5)) rfl rfl rfl (by decide +kernel) ?_
  refine s_bz (p' := 64) (z := (nI 0)) rfl rfl rfl (by decide +kernel) ?_
  refine s_ildn (p' := 65) rfl rfl rfl ?_
  refine s_bz (p' := 66) (z := (nI 0)) rfl rfl rfl (by decide +kernel) ?_
  refine s_istn (p' := 67) (ls' := [_, _, _, _, _]) rfl rfl rfl rfl ?_
  refine s_incz (p' := 70) (w := (nI 4)) (ls' := [_, _, _, _, _]) rfl rfl rfl (by decide +kernel) rfl rfl ?_
  refine s_goto (p' := 4) rfl rfl ?_
  refine s_ildn (p' := 5) rfl rfl rfl ?_
  refine s_bip (p' := 7) rfl rfl ?_
  refine s_icmp (p' := 10) false rfl (by decide +kernel) rfl ?_
  refine s_con (p' := 11) rfl rfl ?_
  refine s_istn (p' := 12) (ls' := [_, _, _, _, _]) rfl rfl rfl rfl ?_
  refine s_ildn (p' := 13) rfl rfl rfl ?_
  refine s_con (p' := 14) rfl rfl ?_
  refine s_bz (p' := 15) (z := (nI 5)) rfl rfl rfl (by decide +kernel) ?_
  refine s_ist (p' := 17) (ls' := [_, _, _, _, _]) rfl rfl rfl rfl ?_
  refine s_ild (p' := 19) rfl rfl rfl ?_
  refine s_bip (p' := 21) rfl rfl ?_
  refine s_icmp (p' := 24) false rfl (by decide +kernel) rfl ?_
  refine s_ildn (p' := 25) rfl rfl rfl ?_
  refine s_ildn (p' := 26) rfl rfl rfl ?_
  refine s_con (p' := 27) rfl rfl ?_
  refine s_ild (p' := 29) rfl rfl rfl ?_
  refine s_bz (p' := 30) (z := (nI 15)) rfl rfl rfl (by decide +kernel) ?_
  refine s_bz (p' := 31) (z := (nI 501)) rfl rfl rfl (by decide +kernel) ?_
  refine s_bip (p' := 33) rfl rfl ?_
  refine s_bz (p' := 34) (z := (nI 5)) rfl rfl rfl (by decide +kernel) ?_
  refine s_ildn (p' := 35) rfl rfl rfl ?_
  refine s_con (p' := 36) rfl rfl ?_
  refine s_ildn (p' := 37) rfl rfl rfl ?_
  refine s_bz (p' := 38) (z := (nI 12)) rfl rfl rfl (by decide +kernel) ?_
  refine s_bz (p' := 39) (z := (nI 4012)) rfl rfl rfl (by decide +kernel) ?_
  refine s_bip (p' := 41) rfl rfl ?_
  refine s_bz (p' := 42) (z := (nI 4)) rfl rfl rfl (by decide +kernel) ?_
  refine s_icmp (p' := 49) true rfl (by decide +kernel) rfl ?_
  refine s_con (p' := 50) rfl rfl ?_
  refine s_bz (p' := 51) (z := (nI 0)) rfl rfl rfl (by decide +kernel) ?_
  refine s_istn (p' := 52) (ls' := [_, _, _, _, _]) rfl rfl rfl rfl ?_
  refine s_incz (p' := 55) (w := (nI 6)) (ls' := [_, _, _, _, _]) rfl rfl rfl (by decide +kernel) rfl rfl ?_
  refine s_goto (p' := 17) rfl rfl ?_
  refine s_ild (p' := 19) rfl rfl rfl ?_
  refine s_bip (p' := 21) rfl rfl ?_
  refine s_icmp (p' := 24) false rfl (by decide +kernel) rfl ?_
  refine s_ildn (p' := 25) rfl rfl rfl ?_
  refine s_ildn (p' := 26) rfl rfl rfl ?_
  refine s_con (p' := 27) rfl rfl ?_
  refine s_ild (p' := 29) rfl rfl rfl ?_
  refine s_bz (p' := 30) (z := (nI 18)) rfl rfl rfl (by decide +kernel) ?_
  refine s_bz (p' := 31) (z := (nI 62)) rfl rfl rfl (by decide +kernel) ?_
  refine s_bip (p' := 33) rfl rfl ?_
  refine s_bz (p' := 34) (z := (nI 6)) rfl rfl rfl (by decide +kernel) ?_
  refine s_ildn (p' := 35) rfl rfl rfl ?_
  refine s_con (p' := 36) rfl rfl ?_
  refine s_ildn (p' := 37) rfl rfl rfl ?_
  refine s_bz (p' := 38) (z := (nI 12)) rfl rfl rfl (by decide +kernel) ?_
  refine s_bz (p' := 39) (z := (nI 4012)) rfl rfl rfl (by decide +kernel) ?_
  refine s_bip (p' := 41) rfl rfl ?_
  refine s_bz (p' := 42) (z := (nI 4)) rfl rfl rfl (by decide +kernel) ?_
  refine s_icmp (p' := 49) true rfl (by decide +kernel) rfl ?_
  refine s_con (p' := 50) rfl rfl ?_
  refine s_bz (p' := 51) (z := (nI 0)) rfl rfl rfl (by decide +kernel) ?_
  refine s_istn (p' := 52) (ls' := [_, _, _, _, _]) rfl rfl rfl rfl ?_
  refine s_incz (p' := 55) (w := (nI 7)) (ls' := [_, _, _, _, _]) rfl rfl rfl (by decide +kernel) rfl rfl ?_
  refine s_goto (p' := 17) rfl rfl ?_
  refine s_ild (p' := 19) rfl rfl rfl ?_
  refine s_bip (p' := 21) rfl rfl ?_
  refine s_icmp (p' := 24) false rfl (by decide +kernel) rfl ?_
  refine s_ildn (p' := 25) rfl rfl rfl ?_
  refine s_ildn (p' := 26) rfl rfl rfl ?_
  refine s_con (p' := 27) rfl rfl ?_
  refine s_ild (p' := 29) rfl rfl rfl ?_
  refine s_bz (p' := 30) (z := (nI 21)) rfl rfl rfl (by decide +kernel) ?_
  refine s_bz (p' := 31) (z := (nI 7)) rfl rfl rfl (by decide +kernel) ?_
  refine s_bip (p' := 33) rfl rfl ?_
  refine s_bz (p' := 34) (z := (nI 7)) rfl rfl rfl (by decide +kernel) ?_
  refine s_ildn (p' := 35) rfl rfl rfl ?_
  refine s_con (p' := 36) rfl rfl ?_
  refine s_ildn (p' := 37) rfl rfl rfl ?_
  refine s_bz (p' := 38) (z := (nI 12)) rfl rfl rfl (by decide +kernel) ?_
  refine s_bz (p' := 39) (z := (nI 4012)) rfl rfl rfl (by decide +kernel) ?_
  refine s_bip (p' := 41) rfl rfl ?_
  refine s_bz (p' := 42) (z := (nI 4)) rfl rfl rfl (by decide +kernel) ?_
  refine s_icmp (p' := 49) true rfl (by decide +kernel) rfl ?_
  refine s_con (p' := 50) rfl rfl ?_
  refine s_bz (p' := 51) (z := (nI 0)) rfl rfl rfl (by decide +kernel) ?_
  refine s_istn (p' := 52) (ls' := [_, _, _, _, _]) rfl rfl rfl rfl ?_
  refine s_incz (p' := 55) (w := (nI 8)) (ls' := [_, _, _, _, _]) rfl rfl rfl (by decide +kernel) rfl rfl ?_
  refine s_goto (p' := 17) rfl rfl ?_
  refine s_ild (p' := 19) rfl rfl rfl ?_
  refine s_bip (p' := 21) rfl rfl ?_
  refine s_icmp (p' := 58) true rfl (by decide +kernel) rfl ?_
  refine s_ildn (p' := 59) rfl rfl rfl ?_
  refine s_bip (p' := 61) rfl rfl ?_
  refine s_ildn (p' := 62) rfl rfl rfl ?_
  refine s_bz (p' := 63) (z := (nI 4)) rfl rfl rfl (by decide +kernel) ?_
  refine s_bz (p' := 64) (z := (nI 0)) rfl rfl rfl (by decide +kernel) ?_
  refine s_ildn (p' := 65) rfl rfl rfl ?_
  refine s_bz (p' := 66) (z := (nI 0)) rfl rfl rfl (by decide +kernel) ?_
  refine s_istn (p' := 67) (ls' := [_, _, _, _, _]) rfl rfl rfl rfl ?_
  refine s_incz (p' := 70) (w := (nI 5)) (ls' := [_, _, _, _, _]) rfl rfl rfl (by decide +kernel) rfl rfl ?_
  refine s_goto (p' := 4) rfl rfl ?_
  refine s_ildn (p' := 5) rfl rfl rfl ?_
  refine s_bip (p' := 7) rfl rfl ?_
  refine s_icmp (p' := 10) false rfl (by decide +kernel) rfl ?_
  refine s_con (p' := 11) rfl rfl ?_
  refine s_istn (p' := 12) (ls' := [_, _, _, _, _]) rfl rfl rfl rfl ?_
  refine s_ildn (p' := 13) rfl rfl rfl ?_
  refine s_con (p' := 14) rfl rfl ?_
  refine s_bz (p' := 15) (z := (nI 6)) rfl rfl rfl (by decide +kernel) ?_
  refine s_ist (p' := 17) (ls' := [_, _, _, _, _]) rfl rfl rfl rfl ?_
  refine s_ild (p' := 19) rfl rfl rfl ?_
  refine s_bip (p' := 21) rfl rfl ?_
  refine s_icmp (p' := 24) false rfl (by decide +kernel) rfl ?_
  refine s_ildn (p' := 25) rfl rfl rfl ?_
  refine s_ildn (p' := 26) rfl rfl rfl ?_
  refine s_con (p' := 27) rfl rfl ?_
  refine s_ild (p' := 29) rfl rfl rfl ?_
  refine s_bz (p' := 30) (z := (nI 18)) rfl rfl rfl (by decide +kernel) ?_
  refine s_bz (p' := 31) (z := (nI 62)) rfl rfl rfl (by decide +kernel) ?_
  refine s_bip (p' := 33) rfl rfl ?_
  refine s_bz (p' := 34) (z := (nI 6)) rfl rfl rfl (by decide +kernel) ?_
  refine s_ildn (p' := 35) rfl rfl rfl ?_
  refine s_con (p' := 36) rfl rfl ?_
  refine s_ildn (p' := 37) rfl rfl rfl ?_
  refine s_bz (p' := 38) (z := (nI 15)) rfl rfl rfl (by decide +kernel) ?_
  refine s_bz (p' := 39) (z := (nI 501)) rfl rfl rfl (by decide +kernel) ?_
  refine s_bip (p' := 41) rfl rfl ?_
  refine s_bz (p' := 42) (z := (nI 5)) rfl rfl rfl (by decide +kernel) ?_
  refine s_icmp (p' := 49) true rfl (by decide +kernel) rfl ?_
  refine s_con (p' := 50) rfl rfl ?_
  refine s_bz (p' := 51) (z := (nI 0)) rfl rfl rfl (by decide +kernel) ?_
  refine s_istn (p' := 52) (ls' := [_, _, _, _, _]) rfl rfl rfl rfl ?_
  refine s_incz (p' := 55) (w := (nI 7)) (ls' := [_, _, _, _, _]) rfl rfl rfl (by decide +kernel) rfl rfl ?_
  refine s_goto (p' := 17) rfl rfl ?_
  refine s_ild (p' := 19) rfl rfl rfl ?_
  refine s_bip (p' := 21) rfl rfl ?_
  refine s_icmp (p' := 24) false rfl (by decide +kernel) rfl ?_
  refine s_ildn (p' := 25) rfl rfl rfl ?_
  refine s_ildn (p' := 26) rfl rfl rfl ?_
  refine s_con (p' := 27) rfl rfl ?_
  refine s_ild (p' := 29) rfl rfl rfl ?_
  refine s_bz (p' := 30) (z := (nI 21)) rfl rfl rfl (by decide +kernel) ?_
  refine s_bz (p' := 31) (z := (nI 7)) rfl rfl rfl (by decide +kernel) ?_
  refine s_bip (p' := 33) rfl rfl ?_
  refine s_bz (p' := 34) (z := (nI 7)) rfl rfl rfl (by decide +kernel) ?_
  refine s_ildn (p' := 35) rfl rfl rfl ?_
  refine s_con (p' := 36) rfl rfl ?_
  refine s_ildn (p' := 37) rfl rfl rfl ?_
  refine s_bz (p' := 38) (z := (nI 15)) rfl rfl rfl (by decide +kernel) ?_
  refine s_bz (p' := 39) (z := (nI 501)) rfl rfl rfl (by decide +kernel) ?_
  refine s_bip (p' := 41) rfl rfl ?_
  refine s_bz (p' := 42) (z := (nI 5)) rfl rfl rfl (by decide +kernel) ?_
  refine s_icmp (p' := 49) true rfl (by decide +kernel) rfl ?_
  refine s_con (p' := 50) rfl rfl ?_
  refine s_bz (p' := 51) (z := (nI 0)) rfl rfl rfl (by decide +kernel) ?_
  refine s_istn (p' := 52) (ls' := [_, _, _, _, _]) rfl rfl rfl rfl ?_
  refine s_incz (p' := 55) (w := (nI 8)) (ls' := [_, _, _, _, _]) rfl rfl rfl (by decide +kernel) rfl rfl ?_
  refine s_goto (p' := 17) rfl rfl ?_
  refine s_ild (p' := 19) rfl rfl rfl ?_
  refine s_bip (p' := 21) rfl rfl ?_
  refine s_icmp (p' := 58) true rfl (by decide +kernel) rfl ?_
  refine s_ildn (p' := 59) rfl rfl rfl ?_
  refine s_bip (p' := 61) rfl rfl ?_
  refine s_ildn (p' := 62) rfl rfl rfl ?_
  refine s_bz (p' := 63) (z := (nI 3)) rfl rfl rfl (by decide +kernel) ?_
  refine s_bz (p' := 64) (z := (nI 0)) rfl rfl rfl (by decide +kernel) ?_
  refine s_ildn (p' := 65) rfl rfl rfl ?_
  refine s_bz (p' := 66) (z := (nI 0)) rfl rfl rfl (by decide +kernel) ?_
  refine s_istn (p' := 67) (ls' := [_, _, _, _, _]) rfl rfl rfl rfl ?_
  refine s_incz (p' := 70) (w := (nI 6)) (ls' := [_, _, _, _, _]) rfl rfl rfl (by decide +kernel) rfl rfl ?_
  refine s_goto (p' := 4) rfl rfl ?_
  refine s_ildn (p' := 5) rfl rfl rfl ?_
  refine s_bip (p' := 7) rfl rfl ?_
  refine s_icmp (p' := 10) false rfl (by decide +kernel) rfl ?_
  refine s_con (p' := 11) rfl rfl ?_
  refine s_istn (p' := 12) (ls' := [_, _, _, _, _]) rfl rfl rfl rfl ?_
  refine s_ildn (p' := 13) rfl rfl rfl ?_
  refine s_con (p' := 14) rfl rfl ?_
  refine s_bz (p' := 15) (z := (nI 7)) rfl rfl rfl (by decide +kernel) ?_
  refine s_ist (p' := 17) (ls' := [_, _, _, _, _]) rfl rfl rfl rfl ?_
  refine s_ild (p' := 19) rfl rfl rfl ?_
  refine s_bip (p' := 21) rfl rfl ?_
  refine s_icmp (p' := 24) false rfl (by decide +kernel) rfl ?_
  refine s_ildn (p' := 25) rfl rfl rfl ?_
  refine s_ildn (p' := 26) rfl rfl rfl ?_
  refine s_con (p' := 27) rfl rfl ?_
  refine s_ild (p' := 29) rfl rfl rfl ?_
  refine s_bz (p' := 30) (z := (nI 21)) rfl rfl rfl (by decide +kernel) ?_
  refine s_bz (p' := 31) (z := (nI 7)) rfl rfl rfl (by decide +kernel) ?_
  refine s_bip (p' := 33) rfl rfl ?_
  refine s_bz (p' := 34) (z := (nI 7)) rfl rfl rfl (by decide +kernel) ?_
  refine s_ildn (p' := 35) rfl rfl rfl ?_
  refine s_con (p' := 36) rfl rfl ?_
  refine s_ildn (p' := 37) rfl rfl rfl ?_
  refine s_bz (p' := 38) (z := (nI 18)) rfl rfl rfl (by decide +kernel) ?_
  refine s_bz (p' := 39) (z := (nI 62)) rfl rfl rfl (by decide +kernel) ?_
  refine s_bip (p' := 41) rfl rfl ?_
  refine s_bz (p' := 42) (z := (nI 6)) rfl rfl rfl (by decide +kernel) ?_
  refine s_icmp (p' := 49) true rfl (by decide +kernel) rfl ?_
  refine s_con (p' := 50) rfl rfl ?_
  refine s_bz (p' := 51) (z := (nI 0)) rfl rfl rfl (by decide +kernel) ?_
  refine s_istn (p' := 52) (ls' := [_, _, _, _, _]) rfl rfl rfl rfl ?_
  refine s_incz (p' := 55) (w := (nI 8)) (ls' := [_, _, _, _, _]) rfl rfl rfl (by decide +kernel) rfl rfl ?_
  refine s_goto (p' := 17) rfl rfl ?_
  refine s_ild (p' := 19) rfl rfl rfl ?_
  refine s_bip (p' := 21) rfl rfl ?_
  refine s_icmp (p' := 58) true rfl (by decide +kernel) rfl ?_
  refine s_ildn (p' := 59) rfl rfl rfl ?_
  refine s_bip (p' := 61) rfl rfl ?_
  refine s_ildn (p' := 62) rfl rfl rfl ?_
  refine s_bz (p' := 63) (z := (nI 2)) rfl rfl rfl (by decide +kernel) ?_
  refine s_bz (p' := 64) (z := (nI 0)) rfl rfl rfl (by decide +kernel) ?_
  refine s_ildn (p' := 65) rfl rfl rfl ?_
  refine s_bz (p' := 66) (z := (nI 0)) rfl rfl rfl (by decide +kernel) ?_
  refine s_istn (p' := 67) (ls' := [_, _, _, _, _]) rfl rfl rfl rfl ?_
  refine s_incz (p' := 70) (w := (nI 7)) (ls' := [_, _, _, _, _]) rfl rfl rfl (by decide +kernel) rfl rfl ?_
  refine s_goto (p' := 4) rfl rfl ?_
  refine s_ildn (p' := 5) rfl rfl rfl ?_
  refine s_bip (p' := 7) rfl rfl ?_
  refine s_icmp (p' := 10) false rfl (by decide +kernel) rfl ?_
  refine s_con (p' := 11) rfl rfl ?_
  refine s_istn (p' := 12) (ls' := [_, _, _, _, _]) rfl rfl rfl rfl ?_
  refine s_ildn (p' := 13) rfl rfl rfl ?_
  refine s_con (p' := 14) rfl rfl ?_
  refine s_bz (p' := 15) (z := (nI 8)) rfl rfl rfl (by decide +kernel) ?_
  refine s_ist (p' := 17) (ls' := [_, _, _, _, _]) rfl rfl rfl rfl ?_
  refine s_ild (p' := 19) rfl rfl rfl ?_
  refine s_bip (p' := 21) rfl rfl ?_
  refine s_icmp (p' := 58) true rfl (by decide +kernel) rfl ?_
  refine s_ildn (p' := 59) rfl rfl rfl ?_
  refine s_bip (p' := 61) rfl rfl ?_
  refine s_ildn (p' := 62) rfl rfl rfl ?_
  refine s_bz (p' := 63) (z := (nI 1)) rfl rfl rfl (by decide +kernel) ?_
  refine s_bz (p' := 64) (z := (nI 0)) rfl rfl rfl (by decide +kernel) ?_
  refine s_ildn (p' := 65) rfl rfl rfl ?_
  refine s_bz (p' := 66) (z := (nI 0)) rfl rfl rfl (by decide +kernel) ?_
  refine s_istn (p' := 67) (ls' := [_, _, _, _, _]) rfl rfl rfl rfl ?_
  refine s_incz (p' := 70) (w := (nI 8)) (ls' := [_, _, _, _, _]) rfl rfl rfl (by decide +kernel) rfl rfl ?_
  refine s_goto (p' := 4) rfl rfl ?_
  refine s_ildn (p' := 5) rfl rfl rfl ?_
  refine s_bip (p' := 7) rfl rfl ?_
  refine s_icmp (p' := 73) true rfl (by decide +kernel) rfl ?_
  refine s_ildn (p' := 74) rfl rfl rfl ?_
  refine c_iret rfl rfl ?_
  refine s_con (p' := 120) rfl rfl ?_
  refine s_bas2z (p' := 121) (m := 0) (w := (nI 1)) rfl rfl (rd_ss rfl (rd_sn rfl (rd_app (rd_sn rfl (rd_app (rd_sn rfl (rd_nw rfl (len_s (len_s (len_s (len_a (len_s (len_s (len_s (len_a (len_s (len_s (len_s (len_a (len_s (len_s (len_s (len_a (len_s (len_s (len_s (len_a (len_s (len_s (len_s (len_a (len_s (len_s (len_s (len_a (len_s (len_s (len_s (len_a (len_s (len_s (len_s (len_s (len_a (len_a HL rfl) rfl))))) rfl)))) rfl)))) rfl)))) rfl)))) rfl)))) rfl)))) rfl)))) rfl))))))))))) (by decide +kernel) rfl (by decide +kernel) rfl rfl ?_
  refine s_aldn (p' := 122) rfl rfl rfl ?_
  refine s_gf (p' := 125) rfl (rd_sn rfl (rd_sn rfl (rd_ss rfl (rd_app (rd_ss rfl (rd_app (rd_ss rfl (rd_app (rd_sn rfl (rd_sn rfl (rd_sn rfl (rd_app (rd_sn rfl (rd_sn rfl (rd_sn rfl (rd_app (rd_sn rfl (rd_sn rfl (rd_sn rfl (rd_app (rd_sn rfl (rd_sn rfl (rd_sn rfl (rd_app (rd_sn rfl (rd_sn rfl (rd_sn rfl (rd_app (rd_sn rfl (rd_sn rfl (rd_sn rfl (rd_app (rd_sn rfl (rd_sn rfl (rd_sn rfl (rd_app (rd_sn rfl (rd_sn rfl (rd_sn rfl (rd_app (rd_ss rfl (rd_sn rfl (rd_sn rfl (rd_sn rfl (rd_app (rd_app H400)))))))))))))))))))))))))))))))))))))))))))))) rfl rfl ?_
  refine s_con (p' := 126) rfl rfl ?_
  refine s_ildn (p' := 127) rfl rfl rfl ?_
  refine s_iasz (p' := 128) (m := 0) rfl rfl (rd_sn rfl (rd_sn rfl (rd_sn rfl (rd_app (rd_sn rfl (rd_nw rfl (len_s (len_a (len_s (len_s (len_s (len_a (len_s (len_s (len_s (len_a (len_s (len_s (len_s (len_a (len_s (len_s (len_s (len_a (len_s (len_s (len_s (len_a (len_s (len_s (len_s (len_a (len_s (len_s (len_s (len_a (len_s (len_s (len_s (len_a (len_s (len_s (len_s (len_s (len_a (len_a HL rfl) rfl))))) rfl)))) rfl)))) rfl)))) rfl)))) rfl)))) rfl)))) rfl)))) rfl)))) rfl)))))))) (by decide +kernel) rfl rfl rfl ?_
  refine s_con (p' := 129) rfl rfl ?_
  refine s_istn (p' := 130) (ls' := [_, _, _, _, _, _, _, _]) rfl rfl rfl rfl ?_
  refine s_con (p' := 131) rfl rfl ?_
  refine s_ist (p' := 133) (ls' := [_, _, _, _, _, _, _, _]) rfl rfl rfl rfl ?_
  refine s_con (p' := 134) rfl rfl ?_
  refine s_ist (p' := 136) (ls' := [_, _, _, _, _, _, _, _]) rfl rfl rfl rfl ?_
  refine s_con (p' := 137) rfl rfl ?_
  refine s_ist (p' := 139) (ls' := [_, _, _, _, _, _, _, _]) rfl rfl rfl rfl ?_
  refine s_ild (p' := 141) rfl rfl rfl ?_
  refine s_ildn (p' := 142) rfl rfl rfl ?_
  refine s_icmp (p' := 145) false rfl (by decide +kernel) rfl ?_
  refine s_aldn (p' := 146) rfl rfl rfl ?_
  refine s_gf (p' := 149) rfl (rd_sn rfl (rd_sn rfl (rd_sn rfl (rd_ss rfl (rd_app (rd_ss rfl (rd_app (rd_ss rfl (rd_app (rd_sn rfl (rd_sn rfl (rd_sn rfl (rd_app (rd_sn rfl (rd_sn rfl (rd_sn rfl (rd_app (rd_sn rfl (rd_sn rfl (rd_sn rfl (rd_app (rd_sn rfl (rd_sn rfl (rd_sn rfl (rd_app (rd_sn rfl (rd_sn rfl (rd_sn rfl (rd_app (rd_sn rfl (rd_sn rfl (rd_sn rfl (rd_app (rd_sn rfl (rd_sn rfl (rd_sn rfl (rd_app (rd_sn rfl (rd_sn rfl (rd_sn rfl (rd_app (rd_ss rfl (rd_sn rfl (rd_sn rfl (rd_sn rfl (rd_app (rd_app H400))))))))))))))))))))))))))))))))))))))))))))))) rfl rfl ?_
  refine s_ild (p' := 151) rfl rfl rfl ?_
  refine s_ialz (p' := 152) (m := 0) (v := (nI 16434824)) rfl (rd_ss rfl (rd_sn rfl (rd_sn rfl (rd_sn rfl (rd_app (rd_sn rfl (rd_nw rfl (len_s (len_a (len_s (len_s (len_s (len_a (len_s (len_s (len_s (len_a (len_s (len_s (len_s (len_a (len_s (len_s (len_s (len_a (len_s (len_s (len_s (len_a (len_s (len_s (len_s (len_a (len_s (len_s (len_s (len_a (len_s (len_s (len_s (len_a (len_s (len_s (len_s (len_s (len_a (len_a HL rfl) rfl))))) rfl)))) rfl)))) rfl)))) rfl)))) rfl)))) rfl)))) rfl)))) rfl)))) rfl))))))))) (by decide +kernel) rfl (by decide +kernel) rfl ?_
  refine s_ildn (p' := 153) rfl rfl rfl ?_
  refine s_icmp (p' := 156) false rfl (by decide +kernel) rfl ?_
  refine s_ild (p' := 158) rfl rfl rfl ?_
  refine k_iret rfl rfl ?_
  refine l_icmp (p' := 2541) true rfl rfl (by decide +kernel) rfl ?_
  refine l_incz (p' := 2544) (w := (nI 4)) (ls' := [_, _, _, _, _, _, _, _, _, _]) rfl rfl rfl rfl (by decide +kernel) rfl rfl ?_
  refine l_goto (p' := 28) rfl rfl rfl ?_
  refine l_ild (p' := 30) rfl rfl rfl rfl ?_
  refine l_alds (p' := 31) rfl rfl rfl rfl ?_
  refine l_lens (p' := 32) rfl rfl rfl ?_
  refine l_con (p' := 33) rfl rfl rfl ?_
  refine l_bz (p' := 34) (z := (nI 0)) rfl rfl rfl rfl rfl (by decide +kernel) ?_
  refine l_icmp (p' := 2547) true rfl rfl (by decide +kernel) rfl ?_
  refine l_con (p' := 2548) rfl rfl rfl ?_
  refine l_end rfl rfl ?_
  exact ⟨Nat.le_trans (Nat.le_of_eq (len_s (len_s (len_s (len_s (len_a (len_s (len_a (len_s (len_a (len_s (len_s (len_s (len_a (len_s (len_s (len_s (len_a (len_s (len_s (len_s (len_a (len_s (len_s (len_s (len_a (len_s (len_s (len_s (len_a (len_s (len_s (len_s (len_a (len_s (len_s (len_s (len_a (len_s (len_s (len_s (len_a (len_s (len_s (len_s (len_s (len_a (len_a HL rfl) rfl))))) rfl)))) rfl)))) rfl)))) rfl)))) rfl)))) rfl)))) rfl)))) rfl)))) rfl)) rfl)) rfl)))))) (Nat.le_of_ble_eq_true rfl), Nat.le_trans (sz_sA rfl (rd_sn rfl (rd_sn rfl (rd_sn rfl (rd_app (rd_sn rfl (rd_nw rfl (len_s (len_a (len_s (len_s (len_s (len_a (len_s (len_s (len_s (len_a (len_s (len_s (len_s (len_a (len_s (len_s (len_s (len_a (len_s (len_s (len_s (len_a (len_s (len_s (len_s (len_a (len_s (len_s (len_s (len_a (len_s (len_s (len_s (len_a (len_s (len_s (len_s (len_s (len_a (len_a HL rfl) rfl))))) rfl)))) rfl)))) rfl)))) rfl)))) rfl)))) rfl)))) rfl)))) rfl)))) rfl)))))))) (sz_sA rfl (rd_ss rfl (rd_sn rfl (rd_app (rd_sn rfl (rd_app (rd_sn rfl (rd_nw rfl (len_s (len_s (len_s (len_a (len_s (len_s (len_s (len_a (len_s (len_s (len_s (len_a (len_s (len_s (len_s (len_a (len_s (len_s (len_s (len_a (len_s (len_s (len_s (len_a (len_s (len_s (len_s (len_a (len_s (len_s (len_s (len_a (len_s (len_s (len_s (len_s (len_a (len_a HL rfl) rfl))))) rfl)))) rfl)))) rfl)))) rfl)))) rfl)))) rfl)))) rfl)))) rfl))))))))))) (sz_sA rfl (rd_sn rfl (rd_app (rd_sn rfl (rd_app (rd_sn rfl (rd_nw rfl (len_s (len_s (len_s (len_a (len_s (len_s (len_s (len_a (len_s (len_s (len_s (len_a (len_s (len_s (len_s (len_a (len_s (len_s (len_s (len_a (len_s (len_s (len_s (len_a (len_s (len_s (len_s (len_a (len_s (len_s (len_s (len_a (len_s (len_s (len_s (len_s (len_a (len_a HL rfl) rfl))))) rfl)))) rfl)))) rfl)))) rfl)))) rfl)))) rfl)))) rfl)))) rfl)))))))))) (sz_s rfl (rd_app (rd_ss rfl (rd_app (rd_ss rfl (rd_app (rd_sn rfl (rd_sn rfl (rd_sn rfl (rd_app (rd_sn rfl (rd_sn rfl (rd_sn rfl (rd_app (rd_sn rfl (rd_sn rfl (rd_sn rfl (rd_app (rd_sn rfl (rd_sn rfl (rd_sn rfl (rd_app (rd_sn rfl (rd_sn rfl (rd_sn rfl (rd_app (rd_sn rfl (rd_sn rfl (rd_sn rfl (rd_app (rd_sn rfl (rd_sn rfl (rd_sn rfl (rd_app (rd_sn rfl (rd_sn rfl (rd_sn rfl (rd_app (rd_ss rfl (rd_sn rfl (rd_sn rfl (rd_sn rfl (rd_app (rd_app H400))))))))))))))))))))))))))))))))))))))))))) rfl (sz_aa (k := 40320) (m := 149185) rfl rfl (sz_s rfl (rd_app (rd_ss rfl (rd_app (rd_sn rfl (rd_sn rfl (rd_sn rfl (rd_app (rd_sn rfl (rd_sn rfl (rd_sn rfl (rd_app (rd_sn rfl (rd_sn rfl (rd_sn rfl (rd_app (rd_sn rfl (rd_sn rfl (rd_sn rfl (rd_app (rd_sn rfl (rd_sn rfl (rd_sn rfl (rd_app (rd_sn rfl (rd_sn rfl (rd_sn rfl (rd_app (rd_sn rfl (rd_sn rfl (rd_sn rfl (rd_app (rd_sn rfl (rd_sn rfl (rd_sn rfl (rd_app (rd_ss rfl (rd_sn rfl (rd_sn rfl (rd_sn rfl (rd_app (rd_app H400))))))))))))))))))))))))))))))))))))))))) rfl (sz_aa (k := 40320) (m := 108865) rfl rfl (sz_s rfl (rd_app (rd_sn rfl (rd_sn rfl (rd_sn rfl (rd_app (rd_sn rfl (rd_sn rfl (rd_sn rfl (rd_app (rd_sn rfl (rd_sn rfl (rd_sn rfl (rd_app (rd_sn rfl (rd_sn rfl (rd_sn rfl (rd_app (rd_sn rfl (rd_sn rfl (rd_sn rfl (rd_app (rd_sn rfl (rd_sn rfl (rd_sn rfl (rd_app (rd_sn rfl (rd_sn rfl (rd_sn rfl (rd_app (rd_sn rfl (rd_sn rfl (rd_sn rfl (rd_app (rd_ss rfl (rd_sn rfl (rd_sn rfl (rd_sn rfl (rd_app (rd_app H400))))))))))))))))))))))))))))))))))))))) rfl (sz_aa (k := 40320) (m := 68545) rfl rfl (sz_s rfl (rd_ss rfl (rd_ss rfl (rd_nw rfl (len_s (len_s (len_s (len_a (len_s (len_s (len_s (len_a (len_s (len_s (len_s (len_a (len_s (len_s (len_s (len_a (len_s (len_s (len_s (len_a (len_s (len_s (len_s (len_a (len_s (len_s (len_s (len_a (len_s (len_s (len_s (len_s (len_a (len_a HL rfl) rfl))))) rfl)))) rfl)))) rfl)))) rfl)))) rfl)))) rfl)))) rfl))))))) rfl (sz_s rfl (rd_ss rfl (rd_nw rfl (len_s (len_s (len_s (len_a (len_s (len_s (len_s (len_a (len_s (len_s (len_s (len_a (len_s (len_s (len_s (len_a (len_s (len_s (len_s (len_a (len_s (len_s (len_s (len_a (len_s (len_s (len_s (len_a (len_s (len_s (len_s (len_s (len_a (len_a HL rfl) rfl))))) rfl)))) rfl)))) rfl)))) rfl)))) rfl)))) rfl)))) rfl)))))) rfl (sz_s rfl (rd_nw rfl (len_s (len_s (len_s (len_a (len_s (len_s (len_s (len_a (len_s (len_s (len_s (len_a (len_s (len_s (len_s (len_a (len_s (len_s (len_s (len_a (len_s (len_s (len_s (len_a (len_s (len_s (len_s (len_a (len_s (len_s (len_s (len_s (len_a (len_a HL rfl) rfl))))) rfl)))) rfl)))) rfl)))) rfl)))) rfl)))) rfl)))) rfl))))) rfl (sz_aa (k := 4) (m := 28225) rfl rfl (sz_s rfl (rd_ss rfl (rd_ss rfl (rd_nw rfl (len_s (len_s (len_s (len_a (len_s (len_s (len_s (len_a (len_s (len_s (len_s (len_a (len_s (len_s (len_s (len_a (len_s (len_s (len_s (len_a (len_s (len_s (len_s (len_a (len_s (len_s (len_s (len_s (len_a (len_a HL rfl) rfl))))) rfl)))) rfl)))) rfl)))) rfl)))) rfl)))) rfl))))))) rfl (sz_s rfl (rd_ss rfl (rd_nw rfl (len_s (len_s (len_s (len_a (len_s (len_s (len_s (len_a (len_s (len_s (len_s (len_a (len_s (len_s (len_s (len_a (len_s (len_s (len_s (len_a (len_s (len_s (len_s (len_a (len_s (len_s (len_s (len_s (len_a (len_a HL rfl) rfl))))) rfl)))) rfl)))) rfl)))) rfl)))) rfl)))) rfl)))))) rfl (sz_s rfl (rd_nw rfl (len_s (len_s (len_s (len_a (len_s (len_s (len_s (len_a (len_s (len_s (len_s (len_a (len_s (len_s (len_s (len_a (len_s (len_s (len_s (len_a (len_s (len_s (len_s (len_a (len_s (len_s (len_s (len_s (len_a (len_a HL rfl) rfl))))) rfl)))) rfl)))) rfl)))) rfl)))) rfl)))) rfl))))) rfl (sz_aa (k := 4) (m := 28221) rfl rfl (sz_s rfl (rd_ss rfl (rd_ss rfl (rd_nw rfl (len_s (len_s (len_s (len_a (len_s (len_s (len_s (len_a (len_s (len_s (len_s (len_a (len_s (len_s (len_s (len_a (len_s (len_s (len_s (len_a (len_s (len_s (len_s (len_s (len_a (len_a HL rfl) rfl))))) rfl)))) rfl)))) rfl)))) rfl)))) rfl))))))) rfl (sz_s rfl (rd_ss rfl (rd_nw rfl (len_s (len_s (len_s (len_a (len_s (len_s (len_s (len_a (len_s (len_s (len_s (len_a (len_s (len_s (len_s (len_a (len_s (len_s (len_s (len_a (len_s (len_s (len_s (len_s (len_a (len_a HL rfl) rfl))))) rfl)))) rfl)))) rfl)))) rfl)))) rfl)))))) rfl (sz_s rfl (rd_nw rfl (len_s (len_s (len_s (len_a (len_s (len_s (len_s (len_a (len_s (len_s (len_s (len_a (len_s (len_s (len_s (len_a (len_s (len_s (len_s (len_a (len_s (len_s (len_s (len_s (len_a (len_a HL rfl) rfl))))) rfl)))) rfl)))) rfl)))) rfl)))) rfl))))) rfl (sz_aa (k := 4) (m := 28217) rfl rfl (sz_s rfl (rd_ss rfl (rd_ss rfl (rd_nw rfl (len_s (len_s (len_s (len_a (len_s (len_s (len_s (len_a (len_s (len_s (len_s (len_a (len_s (len_s (len_s (len_a (len_s (len_s (len_s (len_s (len_a (len_a HL rfl) rfl))))) rfl)))) rfl)))) rfl)))) rfl))))))) rfl (sz_s rfl (rd_ss rfl (rd_nw rfl (len_s (len_s (len_s (len_a (len_s (len_s (len_s (len_a (len_s (len_s (len_s (len_a (len_s (len_s (len_s (len_a (len_s (len_s (len_s (len_s (len_a (len_a HL rfl) rfl))))) rfl)))) rfl)))) rfl)))) rfl)))))) rfl (sz_s rfl (rd_nw rfl (len_s (len_s (len_s (len_a (len_s (len_s (len_s (len_a (len_s (len_s (len_s (len_a (len_s (len_s (len_s (len_a (len_s (len_s (len_s (len_s (len_a (len_a HL rfl) rfl))))) rfl)))) rfl)))) rfl)))) rfl))))) rfl (sz_aa (k := 4) (m := 28213) rfl rfl (sz_s rfl (rd_ss rfl (rd_ss rfl (rd_nw rfl (len_s (len_s (len_s (len_a (len_s (len_s (len_s (len_a (len_s (len_s (len_s (len_a (len_s (len_s (len_s (len_s (len_a (len_a HL rfl) rfl))))) rfl)))) rfl)))) rfl))))))) rfl (sz_s rfl (rd_ss rfl (rd_nw rfl (len_s (len_s (len_s (len_a (len_s (len_s (len_s (len_a (len_s (len_s (len_s (len_a (len_s (len_s (len_s (len_s (len_a (len_a HL rfl) rfl))))) rfl)))) rfl)))) rfl)))))) rfl (sz_s rfl (rd_nw rfl (len_s (len_s (len_s (len_a (len_s (len_s (len_s (len_a (len_s (len_s (len_s (len_a (len_s (len_s (len_s (len_s (len_a (len_a HL rfl) rfl))))) rfl)))) rfl)))) rfl))))) rfl (sz_aa (k := 4) (m := 28209) rfl rfl (sz_s rfl (rd_ss rfl (rd_ss rfl (rd_nw rfl (len_s (len_s (len_s (len_a (len_s (len_s (len_s (len_a (len_s (len_s (len_s (len_s (len_a (len_a HL rfl) rfl))))) rfl)))) rfl))))))) rfl (sz_s rfl (rd_ss rfl (rd_nw rfl (len_s (len_s (len_s (len_a (len_s (len_s (len_s (len_a (len_s (len_s (len_s (len_s (len_a (len_a HL rfl) rfl))))) rfl)))) rfl)))))) rfl (sz_s rfl (rd_nw rfl (len_s (len_s (len_s (len_a (len_s (len_s (len_s (len_a (len_s (len_s (len_s (len_s (len_a (len_a HL rfl) rfl))))) rfl)))) rfl))))) rfl (sz_aa (k := 4) (m := 28205) rfl rfl (sz_s rfl (rd_ss rfl (rd_ss rfl (rd_nw rfl (len_s (len_s (len_s (len_a (len_s (len_s (len_s (len_s (len_a (len_a HL rfl) rfl))))) rfl))))))) rfl (sz_s rfl (rd_ss rfl (rd_nw rfl (len_s (len_s (len_s (len_a (len_s (len_s (len_s (len_s (len_a (len_a HL rfl) rfl))))) rfl)))))) rfl (sz_s rfl (rd_nw rfl (len_s (len_s (len_s (len_a (len_s (len_s (len_s (len_s (len_a (len_a HL rfl) rfl))))) rfl))))) rfl (sz_aa (k := 4) (m := 28201) rfl rfl (sz_s rfl (rd_ss rfl (rd_ss rfl (rd_nw rfl (len_s (len_s (len_s (len_s (len_a (len_a HL rfl) rfl)))))))) rfl (sz_s rfl (rd_ss rfl (rd_nw rfl (len_s (len_s (len_s (len_s (len_a (len_a HL rfl) rfl))))))) rfl (sz_s rfl (rd_nw rfl (len_s (len_s (len_s (len_s (len_a (len_a HL rfl) rfl)))))) rfl (sz_aa (k := 4) (m := 28197) rfl rfl (sz_s rfl (rd_sn rfl (rd_sn rfl (rd_sn rfl (rd_app (rd_app H400))))) rfl (sz_sA rfl (rd_sn rfl (rd_sn rfl (rd_nw rfl (len_a HL rfl)))) (sz_s rfl (rd_sn rfl (rd_app (rd_app H0))) rfl (sz_s rfl (rd_app (rd_nw rfl HL)) rfl (sz_aa (k := 8192) (m := 28193) rfl rfl (sz_aa (k := 1) (m := 20001) rfl rfl HZ))))))))))))))))))))))))))))))))))))))))))))))) (Nat.le_of_ble_eq_true rfl)⟩
theorem p1_50 {xs : Nat → Int32} {h : mj_H}  (hk : xs 0 &&& nI 63 = nI 50)   (HL : h.length = 414) (HZ : mj_sz h ≤ 20000)  : mj_fin 4 xs h := by
  unfold mj_fin
  refine l_ild (p' := 30) rfl rfl rfl rfl ?_
  refine l_alds (p' := 31) rfl rfl rfl rfl ?_
  refine l_lens (p' := 32) rfl rfl rfl ?_
  refine l_con (p' := 33) rfl rfl rfl ?_
  refine l_bz (p' := 34) (z := (nI 0)) rfl rfl rfl rfl rfl (by decide +kernel) ?_
  refine l_icmp (p' := 37) false rfl rfl (by decide +kernel) rfl ?_
  refine l_alds (p' := 38) rfl rfl rfl rfl ?_
  refine l_ild (p' := 40) rfl rfl rfl rfl ?_
  refine l_ialz (p' := 41) (m := 0) (z := (xs 0)) rfl rfl (by decide +kernel) rfl rfl rfl ?_
  refine l_bip (p' := 43) rfl rfl rfl ?_
  refine l_bz (p' := 44) (z := (nI 50)) rfl rfl rfl rfl rfl hk ?_
  refine l_sp (p' := 2541) (ls' := _) rfl rfl rfl rfl rfl ?_
  refine l_incz (p' := 2544) (w := (nI 4)) (ls' := [_, _, _, _, _, _, _, _, _, _]) rfl rfl rfl rfl (by decide +kernel) rfl rfl ?_
  refine l_goto (p' := 28) rfl rfl rfl ?_
  refine l_ild (p' := 30) rfl rfl rfl rfl ?_
  refine l_alds (p' := 31) rfl rfl rfl rfl ?_
  refine l_lens (p' := 32) rfl rfl rfl ?_
  refine l_con (p' := 33) rfl rfl rfl ?_
  refine l_bz (p' := 34) (z := (nI 0)) rfl rfl rfl rfl rfl (by decide +kernel) ?_
  refine l_icmp (p' := 2547) true rfl rfl (by decide +kernel) rfl ?_
  refine l_con (p' := 2548) rfl rfl rfl ?_
  refine l_end rfl rfl ?_
  exact ⟨Nat.le_trans (Nat.le_of_eq HL) (Nat.le_of_ble_eq_true rfl), Nat.le_trans HZ (Nat.le_of_ble_eq_true rfl)⟩
theorem p1_51 {xs : Nat → Int32} {h : mj_H}  (hk : xs 0 &&& nI 63 = nI 51)   (HL : h.length = 414) (HZ : mj_sz h ≤ 20000)  : mj_fin 4 xs h := by
  unfold mj_fin
  refine l_ild (p' := 30) rfl rfl rfl rfl ?_
  refine l_alds (p' := 31) rfl rfl rfl rfl ?_
  refine l_lens (p' := 32) rfl rfl rfl ?_
  refine l_con (p' := 33) rfl rfl rfl ?_
  refine l_bz (p' := 34) (z := (nI 0)) rfl rfl rfl rfl rfl (by decide +kernel) ?_
  refine l_icmp (p' := 37) false rfl rfl (by decide +kernel) rfl ?_
  refine l_alds (p' := 38) rfl rfl rfl rfl ?_
  refine l_ild (p' := 40) rfl rfl rfl rfl ?_
  refine l_ialz (p' := 41) (m := 0) (z := (xs 0)) rfl rfl (by decide +kernel) rfl rfl rfl ?_
  refine l_bip (p' := 43) rfl rfl rfl ?_
  refine l_bz (p' := 44) (z := (nI 51)) rfl rfl rfl rfl rfl hk ?_
  refine l_sp (p' := 2541) (ls' := _) rfl rfl rfl rfl rfl ?_
  refine l_incz (p' := 2544) (w := (nI 4)) (ls' := [_, _, _, _, _, _, _, _, _, _]) rfl rfl rfl rfl (by decide +kernel) rfl rfl ?_
  refine l_goto (p' := 28) rfl rfl rfl ?_
  refine l_ild (p' := 30) rfl rfl rfl rfl ?_
  refine l_alds (p' := 31) rfl rfl rfl rfl ?_
  refine l_lens (p' := 32) rfl rfl rfl ?_
  refine l_con (p' := 33) rfl rfl rfl ?_
  refine l_bz (p' := 34) (z := (nI 0)) rfl rfl rfl rfl rfl (by decide +kernel) ?_
  refine l_icmp (p' := 2547) true rfl rfl (by decide +kernel) rfl ?_
  refine l_con (p' := 2548) rfl rfl rfl ?_
  refine l_end rfl rfl ?_
  exact ⟨Nat.le_trans (Nat.le_of_eq HL) (Nat.le_of_ble_eq_true rfl), Nat.le_trans HZ (Nat.le_of_ble_eq_true rfl)⟩
theorem p1_52 {xs : Nat → Int32} {h : mj_H}  (hk : xs 0 &&& nI 63 = nI 52)   (HL : h.length = 414) (HZ : mj_sz h ≤ 20000)  : mj_fin 4 xs h := by
  unfold mj_fin
  refine l_ild (p' := 30) rfl rfl rfl rfl ?_
  refine l_alds (p' := 31) rfl rfl rfl rfl ?_
  refine l_lens (p' := 32) rfl rfl rfl ?_
  refine l_con (p' := 33) rfl rfl rfl ?_
  refine l_bz (p' := 34) (z := (nI 0)) rfl rfl rfl rfl rfl (by decide +kernel) ?_
  refine l_icmp (p' := 37) false rfl rfl (by decide +kernel) rfl ?_
  refine l_alds (p' := 38) rfl rfl rfl rfl ?_
  refine l_ild (p' := 40) rfl rfl rfl rfl ?_
  refine l_ialz (p' := 41) (m := 0) (z := (xs 0)) rfl rfl (by decide +kernel) rfl rfl rfl ?_
  refine l_bip (p' := 43) rfl rfl rfl ?_
  refine l_bz (p' := 44) (z := (nI 52)) rfl rfl rfl rfl rfl hk ?_
  refine l_sp (p' := 2541) (ls' := _) rfl rfl rfl rfl rfl ?_
  refine l_incz (p' := 2544) (w := (nI 4)) (ls' := [_, _, _, _, _, _, _, _, _, _]) rfl rfl rfl rfl (by decide +kernel) rfl rfl ?_
  refine l_goto (p' := 28) rfl rfl rfl ?_
  refine l_ild (p' := 30) rfl rfl rfl rfl ?_
  refine l_alds (p' := 31) rfl rfl rfl rfl ?_
  refine l_lens (p' := 32) rfl rfl rfl ?_
  refine l_con (p' := 33) rfl rfl rfl ?_
  refine l_bz (p' := 34) (z := (nI 0)) rfl rfl rfl rfl rfl (by decide +kernel) ?_
  refine l_icmp (p' := 2547) true rfl rfl (by decide +kernel) rfl ?_
  refine l_con (p' := 2548) rfl rfl rfl ?_
  refine l_end rfl rfl ?_
  exact ⟨Nat.le_trans (Nat.le_of_eq HL) (Nat.le_of_ble_eq_true rfl), Nat.le_trans HZ (Nat.le_of_ble_eq_true rfl)⟩
theorem p1_53 {xs : Nat → Int32} {h : mj_H}  (hk : xs 0 &&& nI 63 = nI 53)   (HL : h.length = 414) (HZ : mj_sz h ≤ 20000)  : mj_fin 4 xs h := by
  unfold mj_fin
  refine l_ild (p' := 30) rfl rfl rfl rfl ?_
  refine l_alds (p' := 31) rfl rfl rfl rfl ?_
  refine l_lens (p' := 32) rfl rfl rfl ?_
  refine l_con (p' := 33) rfl rfl rfl ?_
  refine l_bz (p' := 34) (z := (nI 0)) rfl rfl rfl rfl rfl (by decide +kernel) ?_
  refine l_icmp (p' := 37) false rfl rfl (by decide +kernel) rfl ?_
  refine l_alds (p' := 38) rfl rfl rfl rfl ?_
  refine l_ild (p' := 40) rfl rfl rfl rfl ?_
  refine l_ialz (p' := 41) (m := 0) (z := (xs 0)) rfl rfl (by decide +kernel) rfl rfl rfl ?_
  refine l_bip (p' := 43) rfl rfl rfl ?_
  refine l_bz (p' := 44) (z := (nI 53)) rfl rfl rfl rfl rfl hk ?_
  refine l_sp (p' := 2541) (ls' := _) rfl rfl rfl rfl rfl ?_
  refine l_incz (p' := 2544) (w := (nI 4)) (ls' := [_, _, _, _, _, _, _, _, _, _]) rfl rfl rfl rfl (by decide +kernel) rfl rfl ?_
  refine l_goto (p' := 28) rfl rfl rfl ?_
  refine l_ild (p' := 30) rfl rfl rfl rfl ?_
  refine l_alds (p' := 31) rfl rfl rfl rfl ?_
  refine l_lens (p' := 32) rfl rfl rfl ?_
  refine l_con (p' := 33) rfl rfl rfl ?_
  refine l_bz (p' := 34) (z := (nI 0)) rfl rfl rfl rfl rfl (by decide +kernel) ?_
  refine l_icmp (p' := 2547) true rfl rfl (by decide +kernel) rfl ?_
  refine l_con (p' := 2548) rfl rfl rfl ?_
  refine l_end rfl rfl ?_
  exact ⟨Nat.le_trans (Nat.le_of_eq HL) (Nat.le_of_ble_eq_true rfl), Nat.le_trans HZ (Nat.le_of_ble_eq_true rfl)⟩
theorem p1_54 {xs : Nat → Int32} {h : mj_H}  (hk : xs 0 &&& nI 63 = nI 54)   (HL : h.length = 414) (HZ : mj_sz h ≤ 20000)  : mj_fin 4 xs h := by
  unfold mj_fin
  refine l_ild (p' := 30) rfl rfl rfl rfl ?_
  refine l_alds (p' := 31) rfl rfl rfl rfl ?_
  refine l_lens (p' := 32) rfl rfl rfl ?_
  refine l_con (p' := 33) rfl rfl rfl ?_
  refine l_bz (p' := 34) (z := (nI 0)) rfl rfl rfl rfl rfl (by decide +kernel) ?_
  refine l_icmp (p' := 37) false rfl rfl (by decide +kernel) rfl ?_
  refine l_alds (p' := 38) rfl rfl rfl rfl ?_
  refine l_ild (p' := 40) rfl rfl rfl rfl ?_
  refine l_ialz (p' := 41) (m := 0) (z := (xs 0)) rfl rfl (by decide +kernel) rfl rfl rfl ?_
  refine l_bip (p' := 43) rfl rfl rfl ?_
  refine l_bz (p' := 44) (z := (nI 54)) rfl rfl rfl rfl rfl hk ?_
  refine l_sp (p' := 2541) (ls' := _) rfl rfl rfl rfl rfl ?_
  refine l_incz (p' := 2544) (w := (nI 4)) (ls' := [_, _, _, _, _, _, _, _, _, _]) rfl rfl rfl rfl (by decide +kernel) rfl rfl ?_
  refine l_goto (p' := 28) rfl rfl rfl ?_
  refine l_ild (p' := 30) rfl rfl rfl rfl ?_
  refine l_alds (p' := 31) rfl rfl rfl rfl ?_
  refine l_lens (p' := 32) rfl rfl rfl ?_
  refine l_con (p' := 33) rfl rfl rfl ?_
  refine l_bz (p' := 34) (z := (nI 0)) rfl rfl rfl rfl rfl (by decide +kernel) ?_
  refine l_icmp (p' := 2547) true rfl rfl (by decide +kernel) rfl ?_
  refine l_con (p' := 2548) rfl rfl rfl ?_
  refine l_end rfl rfl ?_
  exact ⟨Nat.le_trans (Nat.le_of_eq HL) (Nat.le_of_ble_eq_true rfl), Nat.le_trans HZ (Nat.le_of_ble_eq_true rfl)⟩
theorem p1_55 {xs : Nat → Int32} {h : mj_H}  (hk : xs 0 &&& nI 63 = nI 55)   (HL : h.length = 414) (HZ : mj_sz h ≤ 20000)  : mj_fin 4 xs h := by
  unfold mj_fin
  refine l_ild (p' := 30) rfl rfl rfl rfl ?_
  refine l_alds (p' := 31) rfl rfl rfl rfl ?_
  refine l_lens (p' := 32) rfl rfl rfl ?_
  refine l_con (p' := 33) rfl rfl rfl ?_
  refine l_bz (p' := 34) (z := (nI 0)) rfl rfl rfl rfl rfl (by decide +kernel) ?_
  refine l_icmp (p' := 37) false rfl rfl (by decide +kernel) rfl ?_
  refine l_alds (p' := 38) rfl rfl rfl rfl ?_
  refine l_ild (p' := 40) rfl rfl rfl rfl ?_
  refine l_ialz (p' := 41) (m := 0) (z := (xs 0)) rfl rfl (by decide +kernel) rfl rfl rfl ?_
  refine l_bip (p' := 43) rfl rfl rfl ?_
  refine l_bz (p' := 44) (z := (nI 55)) rfl rfl rfl rfl rfl hk ?_
  refine l_sp (p' := 2541) (ls' := _) rfl rfl rfl rfl rfl ?_
  refine l_incz (p' := 2544) (w := (nI 4)) (ls' := [_, _, _, _, _, _, _, _, _, _]) rfl rfl rfl rfl (by decide +kernel) rfl rfl ?_
  refine l_goto (p' := 28) rfl rfl rfl ?_
  refine l_ild (p' := 30) rfl rfl rfl rfl ?_
  refine l_alds (p' := 31) rfl rfl rfl rfl ?_
  refine l_lens (p' := 32) rfl rfl rfl ?_
  refine l_con (p' := 33) rfl rfl rfl ?_
  refine l_bz (p' := 34) (z := (nI 0)) rfl rfl rfl rfl rfl (by decide +kernel) ?_
  refine l_icmp (p' := 2547) true rfl rfl (by decide +kernel) rfl ?_
  refine l_con (p' := 2548) rfl rfl rfl ?_
  refine l_end rfl rfl ?_
  exact ⟨Nat.le_trans (Nat.le_of_eq HL) (Nat.le_of_ble_eq_true rfl), Nat.le_trans HZ (Nat.le_of_ble_eq_true rfl)⟩
theorem p1_56 {xs : Nat → Int32} {h : mj_H}  (hk : xs 0 &&& nI 63 = nI 56)   (HL : h.length = 414) (HZ : mj_sz h ≤ 20000)  : mj_fin 4 xs h := by
  unfold mj_fin
  refine l_ild (p' := 30) rfl rfl rfl rfl ?_
  refine l_alds (p' := 31) rfl rfl rfl rfl ?_
  refine l_lens (p' := 32) rfl rfl rfl ?_
  refine l_con (p' := 33) rfl rfl rfl ?_
  refine l_bz (p' := 34) (z := (nI 0)) rfl rfl rfl rfl rfl (by decide +kernel) ?_
  refine l_icmp (p' := 37) false rfl rfl (by decide +kernel) rfl ?_
  refine l_alds (p' := 38) rfl rfl rfl rfl ?_
  refine l_ild (p' := 40) rfl rfl rfl rfl ?_
  refine l_ialz (p' := 41) (m := 0) (z := (xs 0)) rfl rfl (by decide +kernel) rfl rfl rfl ?_
  refine l_bip (p' := 43) rfl rfl rfl ?_
  refine l_bz (p' := 44) (z := (nI 56)) rfl rfl rfl rfl rfl hk ?_
  refine l_sp (p' := 2541) (ls' := _) rfl rfl rfl rfl rfl ?_
  refine l_incz (p' := 2544) (w := (nI 4)) (ls' := [_, _, _, _, _, _, _, _, _, _]) rfl rfl rfl rfl (by decide +kernel) rfl rfl ?_
  refine l_goto (p' := 28) rfl rfl rfl ?_
  refine l_ild (p' := 30) rfl rfl rfl rfl ?_
  refine l_alds (p' := 31) rfl rfl rfl rfl ?_
  refine l_lens (p' := 32) rfl rfl rfl ?_
  refine l_con (p' := 33) rfl rfl rfl ?_
  refine l_bz (p' := 34) (z := (nI 0)) rfl rfl rfl rfl rfl (by decide +kernel) ?_
  refine l_icmp (p' := 2547) true rfl rfl (by decide +kernel) rfl ?_
  refine l_con (p' := 2548) rfl rfl rfl ?_
  refine l_end rfl rfl ?_
  exact ⟨Nat.le_trans (Nat.le_of_eq HL) (Nat.le_of_ble_eq_true rfl), Nat.le_trans HZ (Nat.le_of_ble_eq_true rfl)⟩
theorem p1_57 {xs : Nat → Int32} {h : mj_H}  (hk : xs 0 &&& nI 63 = nI 57)   (HL : h.length = 414) (HZ : mj_sz h ≤ 20000)  : mj_fin 4 xs h := by
  unfold mj_fin
  refine l_ild (p' := 30) rfl rfl rfl rfl ?_
  refine l_alds (p' := 31) rfl rfl rfl rfl ?_
  refine l_lens (p' := 32) rfl rfl rfl ?_
  refine l_con (p' := 33) rfl rfl rfl ?_
  refine l_bz (p' := 34) (z := (nI 0)) rfl rfl rfl rfl rfl (by decide +kernel) ?_
  refine l_icmp (p' := 37) false rfl rfl (by decide +kernel) rfl ?_
  refine l_alds (p' := 38) rfl rfl rfl rfl ?_
  refine l_ild (p' := 40) rfl rfl rfl rfl ?_
  refine l_ialz (p' := 41) (m := 0) (z := (xs 0)) rfl rfl (by decide +kernel) rfl rfl rfl ?_
  refine l_bip (p' := 43) rfl rfl rfl ?_
  refine l_bz (p' := 44) (z := (nI 57)) rfl rfl rfl rfl rfl hk ?_
  refine l_sp (p' := 2541) (ls' := _) rfl rfl rfl rfl rfl ?_
  refine l_incz (p' := 2544) (w := (nI 4)) (ls' := [_, _, _, _, _, _, _, _, _, _]) rfl rfl rfl rfl (by decide +kernel) rfl rfl ?_
  refine l_goto (p' := 28) rfl rfl rfl ?_
  refine l_ild (p' := 30) rfl rfl rfl rfl ?_
  refine l_alds (p' := 31) rfl rfl rfl rfl ?_
  refine l_lens (p' := 32) rfl rfl rfl ?_
  refine l_con (p' := 33) rfl rfl rfl ?_
  refine l_bz (p' := 34) (z := (nI 0)) rfl rfl rfl rfl rfl (by decide +kernel) ?_
  refine l_icmp (p' := 2547) true rfl rfl (by decide +kernel) rfl ?_
  refine l_con (p' := 2548) rfl rfl rfl ?_
  refine l_end rfl rfl ?_
  exact ⟨Nat.le_trans (Nat.le_of_eq HL) (Nat.le_of_ble_eq_true rfl), Nat.le_trans HZ (Nat.le_of_ble_eq_true rfl)⟩
theorem p1_58 {xs : Nat → Int32} {h : mj_H}  (hk : xs 0 &&& nI 63 = nI 58)   (HL : h.length = 414) (HZ : mj_sz h ≤ 20000)  : mj_fin 4 xs h := by
  unfold mj_fin
  refine l_ild (p' := 30) rfl rfl rfl rfl ?_
  refine l_alds (p' := 31) rfl rfl rfl rfl ?_
  refine l_lens (p' := 32) rfl rfl rfl ?_
  refine l_con (p' := 33) rfl rfl rfl ?_
  refine l_bz (p' := 34) (z := (nI 0)) rfl rfl rfl rfl rfl (by decide +kernel) ?_
  refine l_icmp (p' := 37) false rfl rfl (by decide +kernel) rfl ?_
  refine l_alds (p' := 38) rfl rfl rfl rfl ?_
  refine l_ild (p' := 40) rfl rfl rfl rfl ?_
  refine l_ialz (p' := 41) (m := 0) (z := (xs 0)) rfl rfl (by decide +kernel) rfl rfl rfl ?_
  refine l_bip (p' := 43) rfl rfl rfl ?_
  refine l_bz (p' := 44) (z := (nI 58)) rfl rfl rfl rfl rfl hk ?_
  refine l_sp (p' := 2541) (ls' := _) rfl rfl rfl rfl rfl ?_
  refine l_incz (p' := 2544) (w := (nI 4)) (ls' := [_, _, _, _, _, _, _, _, _, _]) rfl rfl rfl rfl (by decide +kernel) rfl rfl ?_
  refine l_goto (p' := 28) rfl rfl rfl ?_
  refine l_ild (p' := 30) rfl rfl rfl rfl ?_
  refine l_alds (p' := 31) rfl rfl rfl rfl ?_
  refine l_lens (p' := 32) rfl rfl rfl ?_
  refine l_con (p' := 33) rfl rfl rfl ?_
  refine l_bz (p' := 34) (z := (nI 0)) rfl rfl rfl rfl rfl (by decide +kernel) ?_
  refine l_icmp (p' := 2547) true rfl rfl (by decide +kernel) rfl ?_
  refine l_con (p' := 2548) rfl rfl rfl ?_
  refine l_end rfl rfl ?_
  exact ⟨Nat.le_trans (Nat.le_of_eq HL) (Nat.le_of_ble_eq_true rfl), Nat.le_trans HZ (Nat.le_of_ble_eq_true rfl)⟩
theorem p1_59 {xs : Nat → Int32} {h : mj_H}  (hk : xs 0 &&& nI 63 = nI 59)   (HL : h.length = 414) (HZ : mj_sz h ≤ 20000)  : mj_fin 4 xs h := by
  unfold mj_fin
  refine l_ild (p' := 30) rfl rfl rfl rfl ?_
  refine l_alds (p' := 31) rfl rfl rfl rfl ?_
  refine l_lens (p' := 32) rfl rfl rfl ?_
  refine l_con (p' := 33) rfl rfl rfl ?_
  refine l_bz (p' := 34) (z := (nI 0)) rfl rfl rfl rfl rfl (by decide +kernel) ?_
  refine l_icmp (p' := 37) false rfl rfl (by decide +kernel) rfl ?_
  refine l_alds (p' := 38) rfl rfl rfl rfl ?_
  refine l_ild (p' := 40) rfl rfl rfl rfl ?_
  refine l_ialz (p' := 41) (m := 0) (z := (xs 0)) rfl rfl (by decide +kernel) rfl rfl rfl ?_
  refine l_bip (p' := 43) rfl rfl rfl ?_
  refine l_bz (p' := 44) (z := (nI 59)) rfl rfl rfl rfl rfl hk ?_
  refine l_sp (p' := 2541) (ls' := _) rfl rfl rfl rfl rfl ?_
  refine l_incz (p' := 2544) (w := (nI 4)) (ls' := [_, _, _, _, _, _, _, _, _, _]) rfl rfl rfl rfl (by decide +kernel) rfl rfl ?_
  refine l_goto (p' := 28) rfl rfl rfl ?_
  refine l_ild (p' := 30) rfl rfl rfl rfl ?_
  refine l_alds (p' := 31) rfl rfl rfl rfl ?_
  refine l_lens (p' := 32) rfl rfl rfl ?_
  refine l_con (p' := 33) rfl rfl rfl ?_
  refine l_bz (p' := 34) (z := (nI 0)) rfl rfl rfl rfl rfl (by decide +kernel) ?_
  refine l_icmp (p' := 2547) true rfl rfl (by decide +kernel) rfl ?_
  refine l_con (p' := 2548) rfl rfl rfl ?_
  refine l_end rfl rfl ?_
  exact ⟨Nat.le_trans (Nat.le_of_eq HL) (Nat.le_of_ble_eq_true rfl), Nat.le_trans HZ (Nat.le_of_ble_eq_true rfl)⟩
theorem p1_60 {xs : Nat → Int32} {h : mj_H}  (hk : xs 0 &&& nI 63 = nI 60)   (HL : h.length = 414) (HZ : mj_sz h ≤ 20000)  : mj_fin 4 xs h := by
  unfold mj_fin
  refine l_ild (p' := 30) rfl rfl rfl rfl ?_
  refine l_alds (p' := 31) rfl rfl rfl rfl ?_
  refine l_lens (p' := 32) rfl rfl rfl ?_
  refine l_con (p' := 33) rfl rfl rfl ?_
  refine l_bz (p' := 34) (z := (nI 0)) rfl rfl rfl rfl rfl (by decide +kernel) ?_
  refine l_icmp (p' := 37) false rfl rfl (by decide +kernel) rfl ?_
  refine l_alds (p' := 38) rfl rfl rfl rfl ?_
  refine l_ild (p' := 40) rfl rfl rfl rfl ?_
  refine l_ialz (p' := 41) (m := 0) (z := (xs 0)) rfl rfl (by decide +kernel) rfl rfl rfl ?_
  refine l_bip (p' := 43) rfl rfl rfl ?_
  refine l_bz (p' := 44) (z := (nI 60)) rfl rfl rfl rfl rfl hk ?_
  refine l_sp (p' := 2541) (ls' := _) rfl rfl rfl rfl rfl ?_
  refine l_incz (p' := 2544) (w := (nI 4)) (ls' := [_, _, _, _, _, _, _, _, _, _]) rfl rfl rfl rfl (by decide +kernel) rfl rfl ?_
  refine l_goto (p' := 28) rfl rfl rfl ?_
  refine l_ild (p' := 30) rfl rfl rfl rfl ?_
  refine l_alds (p' := 31) rfl rfl rfl rfl ?_
  refine l_lens (p' := 32) rfl rfl rfl ?_
  refine l_con (p' := 33) rfl rfl rfl ?_
  refine l_bz (p' := 34) (z := (nI 0)) rfl rfl rfl rfl rfl (by decide +kernel) ?_
  refine l_icmp (p' := 2547) true rfl rfl (by decide +kernel) rfl ?_
  refine l_con (p' := 2548) rfl rfl rfl ?_
  refine l_end rfl rfl ?_
  exact ⟨Nat.le_trans (Nat.le_of_eq HL) (Nat.le_of_ble_eq_true rfl), Nat.le_trans HZ (Nat.le_of_ble_eq_true rfl)⟩
theorem p1_61 {xs : Nat → Int32} {h : mj_H}  (hk : xs 0 &&& nI 63 = nI 61)   (HL : h.length = 414) (HZ : mj_sz h ≤ 20000)  : mj_fin 4 xs h := by
  unfold mj_fin
  refine l_ild (p' := 30) rfl rfl rfl rfl ?_
  refine l_alds (p' := 31) rfl rfl rfl rfl ?_
  refine l_lens (p' := 32) rfl rfl rfl ?_
  refine l_con (p' := 33) rfl rfl rfl ?_
  refine l_bz (p' := 34) (z := (nI 0)) rfl rfl rfl rfl rfl (by decide +kernel) ?_
  refine l_icmp (p' := 37) false rfl rfl (by decide +kernel) rfl ?_
  refine l_alds (p' := 38) rfl rfl rfl rfl ?_
  refine l_ild (p' := 40) rfl rfl rfl rfl ?_
  refine l_ialz (p' := 41) (m := 0) (z := (xs 0)) rfl rfl (by decide +kernel) rfl rfl rfl ?_
  refine l_bip (p' := 43) rfl rfl rfl ?_
  refine l_bz (p' := 44) (z := (nI 61)) rfl rfl rfl rfl rfl hk ?_
  refine l_sp (p' := 2541) (ls' := _) rfl rfl rfl rfl rfl ?_
  refine l_incz (p' := 2544) (w := (nI 4)) (ls' := [_, _, _, _, _, _, _, _, _, _]) rfl rfl rfl rfl (by decide +kernel) rfl rfl ?_
  refine l_goto (p' := 28) rfl rfl rfl ?_
  refine l_ild (p' := 30) rfl rfl rfl rfl ?_
  refine l_alds (p' := 31) rfl rfl rfl rfl ?_
  refine l_lens (p' := 32) rfl rfl rfl ?_
  refine l_con (p' := 33) rfl rfl rfl ?_
  refine l_bz (p' := 34) (z := (nI 0)) rfl rfl rfl rfl rfl (by decide +kernel) ?_
  refine l_icmp (p' := 2547) true rfl rfl (by decide +kernel) rfl ?_
  refine l_con (p' := 2548) rfl rfl rfl ?_
  refine l_end rfl rfl ?_
  exact ⟨Nat.le_trans (Nat.le_of_eq HL) (Nat.le_of_ble_eq_true rfl), Nat.le_trans HZ (Nat.le_of_ble_eq_true rfl)⟩
theorem p1_62 {xs : Nat → Int32} {h : mj_H}  (hk : xs 0 &&& nI 63 = nI 62)   (HL : h.length = 414) (HZ : mj_sz h ≤ 20000)  : mj_fin 4 xs h := by
  unfold mj_fin
  refine l_ild (p' := 30) rfl rfl rfl rfl ?_
  refine l_alds (p' := 31) rfl rfl rfl rfl ?_
  refine l_lens (p' := 32) rfl rfl rfl ?_
  refine l_con (p' := 33) rfl rfl rfl ?_
  refine l_bz (p' := 34) (z := (nI 0)) rfl rfl rfl rfl rfl (by decide +kernel) ?_
  refine l_icmp (p' := 37) false rfl rfl (by decide +kernel) rfl ?_
  refine l_alds (p' := 38) rfl rfl rfl rfl ?_
  refine l_ild (p' := 40) rfl rfl rfl rfl ?_
  refine l_ialz (p' := 41) (m := 0) (z := (xs 0)) rfl rfl (by decide +kernel) rfl rfl rfl ?_
  refine l_bip (p' := 43) rfl rfl rfl ?_
  refine l_bz (p' := 44) (z := (nI 62)) rfl rfl rfl rfl rfl hk ?_
  refine l_sp (p' := 2541) (ls' := _) rfl rfl rfl rfl rfl ?_
  refine l_incz (p' := 2544) (w := (nI 4)) (ls' := [_, _, _, _, _, _, _, _, _, _]) rfl rfl rfl rfl (by decide +kernel) rfl rfl ?_
  refine l_goto (p' := 28) rfl rfl rfl ?_
  refine l_ild (p' := 30) rfl rfl rfl rfl ?_
  refine l_alds (p' := 31) rfl rfl rfl rfl ?_
  refine l_lens (p' := 32) rfl rfl rfl ?_
  refine l_con (p' := 33) rfl rfl rfl ?_
  refine l_bz (p' := 34) (z := (nI 0)) rfl rfl rfl rfl rfl (by decide +kernel) ?_
  refine l_icmp (p' := 2547) true rfl rfl (by decide +kernel) rfl ?_
  refine l_con (p' := 2548) rfl rfl rfl ?_
  refine l_end rfl rfl ?_
  exact ⟨Nat.le_trans (Nat.le_of_eq HL) (Nat.le_of_ble_eq_true rfl), Nat.le_trans HZ (Nat.le_of_ble_eq_true rfl)⟩
theorem p1_63 {xs : Nat → Int32} {h : mj_H}  (hk : xs 0 &&& nI 63 = nI 63)   (HL : h.length = 414) (HZ : mj_sz h ≤ 20000)  : mj_fin 4 xs h := by
  unfold mj_fin
  refine l_ild (p' := 30) rfl rfl rfl rfl ?_
  refine l_alds (p' := 31) rfl rfl rfl rfl ?_
  refine l_lens (p' := 32) rfl rfl rfl ?_
  refine l_con (p' := 33) rfl rfl rfl ?_
  refine l_bz (p' := 34) (z := (nI 0)) rfl rfl rfl rfl rfl (by decide +kernel) ?_
  refine l_icmp (p' := 37) false rfl rfl (by decide +kernel) rfl ?_
  refine l_alds (p' := 38) rfl rfl rfl rfl ?_
  refine l_ild (p' := 40) rfl rfl rfl rfl ?_
  refine l_ialz (p' := 41) (m := 0) (z := (xs 0)) rfl rfl (by decide +kernel) rfl rfl rfl ?_
  refine l_bip (p' := 43) rfl rfl rfl ?_
  refine l_bz (p' := 44) (z := (nI 63)) rfl rfl rfl rfl rfl hk ?_
  refine l_sp (p' := 2541) (ls' := _) rfl rfl rfl rfl rfl ?_
  refine l_incz (p' := 2544) (w := (nI 4)) (ls' := [_, _, _, _, _, _, _, _, _, _]) rfl rfl rfl rfl (by decide +kernel) rfl rfl ?_
  refine l_goto (p' := 28) rfl rfl rfl ?_
  refine l_ild (p' := 30) rfl rfl rfl rfl ?_
  refine l_alds (p' := 31) rfl rfl rfl rfl ?_
  refine l_lens (p' := 32) rfl rfl rfl ?_
  refine l_con (p' := 33) rfl rfl rfl ?_
  refine l_bz (p' := 34) (z := (nI 0)) rfl rfl rfl rfl rfl (by decide +kernel) ?_
  refine l_icmp (p' := 2547) true rfl rfl (by decide +kernel) rfl ?_
  refine l_con (p' := 2548) rfl rfl rfl ?_
  refine l_end rfl rfl ?_
  exact ⟨Nat.le_trans (Nat.le_of_eq HL) (Nat.le_of_ble_eq_true rfl), Nat.le_trans HZ (Nat.le_of_ble_eq_true rfl)⟩
theorem p1_L0 {xs : Nat → Int32} {h : mj_H}    (HL : h.length = 414) (HZ : mj_sz h ≤ 20000)  : mj_fin 0 xs h := by
  unfold mj_fin
  refine l_ild (p' := 30) rfl rfl rfl rfl ?_
  refine l_alds (p' := 31) rfl rfl rfl rfl ?_
  refine l_lens (p' := 32) rfl rfl rfl ?_
  refine l_con (p' := 33) rfl rfl rfl ?_
  refine l_bz (p' := 34) (z := (nI 4294967292)) rfl rfl rfl rfl rfl (by decide +kernel) ?_
  refine l_icmp (p' := 2547) true rfl rfl (by decide +kernel) rfl ?_
  refine l_con (p' := 2548) rfl rfl rfl ?_
  refine l_end rfl rfl ?_
  exact ⟨Nat.le_trans (Nat.le_of_eq HL) (Nat.le_of_ble_eq_true rfl), Nat.le_trans HZ (Nat.le_of_ble_eq_true rfl)⟩
theorem p1_L1 {xs : Nat → Int32} {h : mj_H}    (HL : h.length = 414) (HZ : mj_sz h ≤ 20000)  : mj_fin 1 xs h := by
  unfold mj_fin
  refine l_ild (p' := 30) rfl rfl rfl rfl ?_
  refine l_alds (p' := 31) rfl rfl rfl rfl ?_
  refine l_lens (p' := 32) rfl rfl rfl ?_
  refine l_con (p' := 33) rfl rfl rfl ?_
  refine l_bz (p' := 34) (z := (nI 4294967293)) rfl rfl rfl rfl rfl (by decide +kernel) ?_
  refine l_icmp (p' := 2547) true rfl rfl (by decide +kernel) rfl ?_
  refine l_con (p' := 2548) rfl rfl rfl ?_
  refine l_end rfl rfl ?_
  exact ⟨Nat.le_trans (Nat.le_of_eq HL) (Nat.le_of_ble_eq_true rfl), Nat.le_trans HZ (Nat.le_of_ble_eq_true rfl)⟩
theorem p1_L2 {xs : Nat → Int32} {h : mj_H}    (HL : h.length = 414) (HZ : mj_sz h ≤ 20000)  : mj_fin 2 xs h := by
  unfold mj_fin
  refine l_ild (p' := 30) rfl rfl rfl rfl ?_
  refine l_alds (p' := 31) rfl rfl rfl rfl ?_
  refine l_lens (p' := 32) rfl rfl rfl ?_
  refine l_con (p' := 33) rfl rfl rfl ?_
  refine l_bz (p' := 34) (z := (nI 4294967294)) rfl rfl rfl rfl rfl (by decide +kernel) ?_
  refine l_icmp (p' := 2547) true rfl rfl (by decide +kernel) rfl ?_
  refine l_con (p' := 2548) rfl rfl rfl ?_
  refine l_end rfl rfl ?_
  exact ⟨Nat.le_trans (Nat.le_of_eq HL) (Nat.le_of_ble_eq_true rfl), Nat.le_trans HZ (Nat.le_of_ble_eq_true rfl)⟩
theorem p1_L3 {xs : Nat → Int32} {h : mj_H}    (HL : h.length = 414) (HZ : mj_sz h ≤ 20000)  : mj_fin 3 xs h := by
  unfold mj_fin
  refine l_ild (p' := 30) rfl rfl rfl rfl ?_
  refine l_alds (p' := 31) rfl rfl rfl rfl ?_
  refine l_lens (p' := 32) rfl rfl rfl ?_
  refine l_con (p' := 33) rfl rfl rfl ?_
  refine l_bz (p' := 34) (z := (nI 4294967295)) rfl rfl rfl rfl rfl (by decide +kernel) ?_
  refine l_icmp (p' := 2547) true rfl rfl (by decide +kernel) rfl ?_
  refine l_con (p' := 2548) rfl rfl rfl ?_
  refine l_end rfl rfl ?_
  exact ⟨Nat.le_trans (Nat.le_of_eq HL) (Nat.le_of_ble_eq_true rfl), Nat.le_trans HZ (Nat.le_of_ble_eq_true rfl)⟩
