/-! One call on fresh objects: type. -/
theorem cpr_1 {f : Nat → Int32} (h : fits .byte (.int (f 0)) = true) : mj_cpr f 0 1 = true := by
  show (fits .byte (.int (f (0 + 0))) && true) = true
  rw [Nat.add_zero, h]
  rfl
theorem cpr_2 {f : Nat → Int32} (h : fits .byte (.int (f 0)) = true) (g : fits .byte (.int (f 1)) = true) : mj_cpr f 0 2 = true := by
  show (fits .byte (.int (f (0 + 0))) && (fits .byte (.int (f (0 + 1))) && true)) = true
  rw [Nat.add_zero, Nat.zero_add, h, g]
  rfl
theorem nI_u {n : Nat} (hn : n < 4294967296) : (nI n).toUInt32.toNat = n := by
  show (UInt32.ofNat n).toNat = n
  exact UInt32.toNat_ofNat_of_lt' hn
theorem ch_nar {n : Nat} (hn : n < 65536) : vp_nar .char (nI n) = nI n := by
  rw [vp_nar_char]
  have h1 : (nI n).toUInt32.toUInt16.toUInt32 = (nI n).toUInt32 := by
    apply UInt32.toNat_inj.mp
    rw [UInt16.toNat_toUInt32, UInt32.toNat_toUInt16, nI_u (by omega)]
    exact Nat.mod_eq_of_lt hn
  rw [h1]
  rfl
theorem b8_nar (x : Int32) : vp_nar .byte x.toInt8.toInt32 = x.toInt8.toInt32 := by
  rw [vp_nar_byte, Int8.toInt8_toInt32]
theorem b8_fit (x : Int32) : fits .byte (.int x.toInt8.toInt32) = true := by
  have h1 := Int8.le_toInt x.toInt8
  have h2 := Int8.toInt_lt x.toInt8
  show (decide ((-128 : Int32) ≤ x.toInt8.toInt32) && decide (x.toInt8.toInt32 ≤ (127 : Int32))) = true
  rw [Bool.and_eq_true]
  have e1 : (-128 : Int32).toInt = -128 := by decide
  have e2 : (127 : Int32).toInt = 127 := by decide
  constructor
  · apply decide_eq_true
    rw [Int32.le_iff_toInt_le, Int8.toInt_toInt32, e1]
    omega
  · apply decide_eq_true
    rw [Int32.le_iff_toInt_le, Int8.toInt_toInt32, e2]
    omega
/-- a char -/
theorem i2c_is (x : Int32) : ∃ n, n < 65536 ∧ (x.toUInt32 % 65536).toInt32 = nI n := by
  refine ⟨(x.toUInt32 % 65536).toNat, ?_, ?_⟩
  · rw [UInt32.toNat_mod]
    exact Nat.mod_lt _ (by decide)
  · show _ = Int32.ofNat _
    rw [← UInt32.toInt32_ofNat', UInt32.ofNat_toNat]
theorem p1_0_l {xs : Nat → Int32} {h : mj_H} (hk : xs 0 &&& nI 63 = nI 0)  {n : Nat} {b : Int32} (hn : n < 256) (hc : ((xs 1).toUInt32 % 65536).toInt32 = nI n) (hn3 : vp_nar .char (nI n) = nI n) (hb : (nI n).toInt8.toInt32 = b) (hn1 : vp_nar .byte b = b) (hfb : fits .byte (.int b) = true) (HL : h.length = 414) (HZ : mj_sz h ≤ 20000) (H0 : mj_rd h 0 = some (.inr (0, [.ref 1, .ref 38, .ref 299, .ref 336, .ref 373, .ref 375, .ref 378, .ref 381, .ref 387, .ref 393, .null, .null, .ref 397, .ref 398, .ref 399, .long (lN 0), .long (lN 0)]))) (H1 : mj_rd h 1 = some (.inr (1, [.ref 2, .ref 4, .ref 37]))) (H2 : mj_rd h 2 = some (.inr (2, [.ref 3, .int (nI 0)]))) (H3 : mj_rd h 3 = some (.inl (3, (60, .inl (fun _ => 0))))) (H400 : mj_rd h 400 = some (.inr (17, [.int (nI 0), .ref 401, .ref 402, .ref 1000300, .long (lN 0), .long (lN 0), .ref 410, .null, .null, .null, .ref 411]))) (H412 : mj_rd h 412 = some (.inl (4, (1, .inr (.inl (fun _ => 0)))))) : mj_fin 4 xs h := by
  unfold mj_fin
  refine l_ild (p' := 30) rfl rfl rfl rfl ?_
  refine l_alds (p' := 31) rfl rfl rfl rfl ?_
  refine l_lens (p' := 32) rfl rfl rfl ?_
  refine l_con (p' := 33) rfl rfl rfl ?_
  refine l_bz (p' := 34) (z := (nI 0)) rfl rfl rfl rfl rfl (by decide +kernel) ?_
  refine l_icmp (p' := 37) false rfl rfl (by decide +kernel) rfl ?_
  refine l_alds (p' := 38) rfl rfl rfl rfl ?_
  refine l_ild (p' := 40) rfl rfl rfl rfl ?_
  refine l_ialz (p' := 41) (m := 0) (z := (xs 0)) rfl rfl (by decide +kernel) rfl rfl rfl ?_
  refine l_bip (p' := 43) rfl rfl rfl ?_
  refine l_bz (p' := 44) (z := (nI 0)) rfl rfl rfl rfl rfl hk ?_
  refine l_sp (p' := 260) (ls' := _) rfl rfl rfl rfl rfl ?_
  refine l_aldn (p' := 261) rfl rfl rfl rfl ?_
  refine l_alds (p' := 262) rfl rfl rfl rfl ?_
  refine l_ild (p' := 264) rfl rfl rfl rfl ?_
  refine l_con (p' := 265) rfl rfl rfl ?_
  refine l_bz (p' := 266) (z := (nI 1)) rfl rfl rfl rfl rfl (by decide +kernel) ?_
  refine l_ialz (p' := 267) (m := 1) (z := (xs 1)) rfl rfl (by decide +kernel) rfl rfl rfl ?_
  refine l_bz (p' := 268) (z := (nI n)) rfl rfl rfl rfl rfl hc ?_
  refine l_aldn (p' := 269) rfl rfl rfl rfl ?_
  refine l_call (p' := 272) (kc := 99) (ls0 := [_, _, _, _]) rfl rfl rfl rfl rfl rfl rfl rfl rfl rfl ?_
  refine s_aldn (p' := 1) rfl rfl rfl ?_
  refine s_con (p' := 2) rfl rfl ?_
  refine s_aldn (p' := 3) rfl rfl rfl ?_
  refine s_ildn (p' := 4) rfl rfl rfl ?_
  refine c_call (p' := 7) (kc := 98) (ls0 := [_, _]) rfl rfl rfl rfl rfl (mj_rcv_is H0) rfl rfl rfl ?_
  refine s_aldn (p' := 1) rfl rfl rfl ?_
  refine s_gf (p' := 4) rfl H0 rfl rfl ?_
  refine s_gf (p' := 7) rfl H1 rfl rfl ?_
  refine c_call (p' := 10) (kc := 97) (ls0 := [_]) rfl rfl rfl rfl rfl (mj_rcv_is H2) rfl rfl rfl ?_
  refine s_aldn (p' := 1) rfl rfl rfl ?_
  refine s_gf (p' := 4) rfl H2 rfl rfl ?_
  refine s_bip (p' := 6) rfl rfl ?_
  refine s_icmp (p' := 13) true rfl (by decide +kernel) rfl ?_
  refine s_con (p' := 14) rfl rfl ?_
  refine c_iret rfl (by decide +kernel) ?_
  refine s_if (p' := 23) true rfl (by decide +kernel) rfl ?_
  refine s_aldn (p' := 24) rfl rfl rfl ?_
  refine s_gf (p' := 27) rfl H0 rfl rfl ?_
  refine s_gf (p' := 30) rfl H1 rfl rfl ?_
  refine s_ildn (p' := 31) rfl rfl rfl ?_
  refine c_call (p' := 34) (kc := 97) (ls0 := [_, _]) rfl rfl rfl rfl rfl (mj_rcv_is H2) rfl rfl rfl ?_
  refine s_aldn (p' := 1) rfl rfl rfl ?_
  refine s_gf (p' := 4) rfl H2 rfl rfl ?_
  refine s_if (p' := 7) false rfl (by decide +kernel) rfl ?_
  refine s_aldn (p' := 8) rfl rfl rfl ?_
  refine s_gf (p' := 11) rfl H2 rfl rfl ?_
  refine s_aldn (p' := 12) rfl rfl rfl ?_
  refine s_gf (p' := 15) rfl H2 rfl rfl ?_
  refine s_lenz (p' := 16) rfl (mj_rdA_is H3 (by decide)) rfl rfl ?_
  refine s_icmp (p' := 19) false rfl (by decide +kernel) rfl ?_
  refine s_aldn (p' := 20) rfl rfl rfl ?_
  refine s_gf (p' := 23) rfl H2 rfl rfl ?_
  refine s_aldn (p' := 24) rfl rfl rfl ?_
  refine s_gf (p' := 27) rfl H2 rfl rfl ?_
  refine s_ildn (p' := 28) rfl rfl rfl ?_
  refine s_casz (p' := 29) (m := 0) (w := (nI n)) rfl rfl H3 (by decide +kernel) rfl hn3 rfl rfl ?_
  refine s_aldn (p' := 30) rfl rfl rfl ?_
  refine s_dupr (p' := 31) rfl rfl ?_
  refine s_gf (p' := 34) rfl (rd_sn rfl H2) rfl rfl ?_
  refine s_con (p' := 35) rfl rfl ?_
  refine s_bz (p' := 36) (z := (nI 1)) rfl rfl rfl (by decide +kernel) ?_
  refine s_pfz (p' := 39) (fs' := [_, _]) rfl rfl (rd_sn rfl H2) rfl rfl rfl rfl ?_
  refine c_ret rfl ?_
  refine s_aldn (p' := 35) rfl rfl rfl ?_
  refine s_gf (p' := 38) rfl (rd_sn rfl (rd_sn rfl H0)) rfl rfl ?_
  refine s_gf (p' := 41) rfl (rd_sn rfl (rd_sn rfl H1)) rfl rfl ?_
  refine c_call (p' := 44) (kc := 97) (ls0 := [_]) rfl rfl rfl rfl rfl (mj_rcv_is (rd_ss rfl (rd_sn rfl H2))) rfl rfl rfl ?_
  refine s_aldn (p' := 1) rfl rfl rfl ?_
  refine s_gf (p' := 4) rfl (rd_ss rfl (rd_sn rfl H2)) rfl rfl ?_
  refine c_iret rfl rfl ?_
  refine c_iret rfl rfl ?_
  refine s_bzL (p' := 8) (z := (lN 1)) rfl rfl rfl (by decide +kernel) ?_
  refine s_lasz (p' := 9) (m := 0) rfl rfl (rd_sn rfl (rd_sn rfl H412)) (by decide +kernel) rfl rfl rfl ?_
  refine s_goto (p' := 15) rfl rfl ?_
  refine s_con (p' := 16) rfl rfl ?_
  refine k_iret rfl rfl ?_
  refine l_ist (p' := 274) (ls' := [_, _, _, _, _, _, _, _, _, _]) rfl rfl rfl rfl rfl ?_
  refine l_aldn (p' := 275) rfl rfl rfl rfl ?_
  refine l_alds (p' := 276) rfl rfl rfl rfl ?_
  refine l_ild (p' := 278) rfl rfl rfl rfl ?_
  refine l_con (p' := 279) rfl rfl rfl ?_
  refine l_bz (p' := 280) (z := (nI 1)) rfl rfl rfl rfl rfl (by decide +kernel) ?_
  refine l_ialz (p' := 281) (m := 1) (z := (xs 1)) rfl rfl (by decide +kernel) rfl rfl rfl ?_
  refine l_bz (p' := 282) (z := (nI n)) rfl rfl rfl rfl rfl hc ?_
  refine l_call (p' := 285) (kc := 99) (ls0 := [_, _]) rfl rfl rfl rfl rfl rfl (mj_rcv_is (rd_sn rfl (rd_sn rfl (rd_sn rfl H400)))) rfl rfl rfl ?_
  refine s_aldn (p' := 1) rfl rfl rfl ?_
  refine s_aldn (p' := 2) rfl rfl rfl ?_
  refine s_gf (p' := 5) rfl (rd_sn rfl (rd_sn rfl (rd_sn rfl H400))) rfl rfl ?_
  refine c_call (p' := 8) (kc := 98) (ls0 := [_]) rfl rfl rfl rfl rfl (mj_rcv_is (k_300 _)) rfl rfl rfl ?_
  refine s_aldn (p' := 1) rfl rfl rfl ?_
  refine s_gf (p' := 4) rfl (k_300 _) rfl rfl ?_
  refine s_lenz (p' := 5) rfl (mj_rdA_cst (k_301 _) (by decide)) rfl rfl ?_
  refine s_aldn (p' := 6) rfl rfl rfl ?_
  refine c_call (p' := 9) (kc := 97) (ls0 := [_]) rfl rfl rfl rfl rfl (mj_rcv_is (k_300 _)) rfl rfl rfl ?_
  refine s_sh (p' := 3) (ls' := _) (st' := .int (nI 1) :: _) (h' := _) rfl rfl rfl rfl ?_
  refine s_if (p' := 6) false rfl (by decide +kernel) rfl ?_
  refine s_aldn (p' := 7) rfl rfl rfl ?_
  refine s_gf (p' := 10) rfl (k_300 _) rfl rfl ?_
  refine s_goto (p' := 14) rfl rfl ?_
  refine c_iret rfl (by decide +kernel) ?_
  refine s_bz (p' := 10) (z := (nI 0)) rfl rfl rfl (by decide +kernel) ?_
  refine c_iret rfl rfl ?_
  refine s_bip (p' := 10) rfl rfl ?_
  refine s_icmp (p' := 17) true rfl (by decide +kernel) rfl ?_
  refine s_con (p' := 18) rfl rfl ?_
  refine c_call (p' := 21) (kc := 98) (ls0 := [_, _]) rfl rfl rfl rfl rfl (mj_rcv_is (rd_sn rfl (rd_sn rfl (rd_sn rfl H400)))) rfl rfl rfl ?_
  refine s_aldn (p' := 1) rfl rfl rfl ?_
  refine s_ildn (p' := 2) rfl rfl rfl ?_
  refine s_pfz (p' := 5) (fs' := [_, _, _, _, _, _, _, _, _, _, _]) rfl rfl (rd_sn rfl (rd_sn rfl (rd_sn rfl H400))) rfl rfl rfl rfl ?_
  refine s_ildn (p' := 6) rfl rfl rfl ?_
  refine s_if (p' := 13) true rfl (by decide +kernel) rfl ?_
  refine s_con (p' := 14) rfl rfl ?_
  refine c_iret rfl (by decide +kernel) ?_
  refine s_if (p' := 26) true rfl (by decide +kernel) rfl ?_
  refine s_newz (p' := 29) (a := 414) rfl (len_s (len_s (len_s (len_s HL)))) rfl rfl ?_
  refine s_dupr (p' := 30) rfl rfl ?_
  refine c_call (p' := 33) (kc := 98) (ls0 := [_]) rfl rfl rfl rfl rfl (mj_rcv_is (rd_nw rfl (len_s (len_s (len_s (len_s HL)))))) rfl rfl rfl ?_
  refine s_aldn (p' := 1) rfl rfl rfl ?_
  refine s_bip (p' := 3) rfl rfl ?_
  refine c_call (p' := 6) (kc := 97) (ls0 := [_, _]) rfl rfl rfl rfl rfl (mj_rcv_is (rd_nw rfl (len_s (len_s (len_s (len_s HL)))))) rfl rfl rfl ?_
  refine s_aldn (p' := 1) rfl rfl rfl ?_
  refine s_primN (p' := 4) (q := 3) rfl rfl rfl rfl rfl rfl rfl rfl ?_
  refine s_sh (p' := 7) (ls' := _) (st' := .int (nI 1) :: _) (h' := _) rfl rfl rfl rfl ?_
  refine s_if (p' := 10) false rfl (by decide +kernel) rfl ?_
  refine s_aldn (p' := 11) rfl rfl rfl ?_
  refine s_ildn (p' := 12) rfl rfl rfl ?_
  refine s_naz (p' := 14) (a := 415) (n := 16) rfl (len_a (len_s (len_s (len_s (len_s HL)))) rfl) rfl rfl ?_
  refine s_pfz (p' := 17) (fs' := [_, _, _, _]) rfl rfl (rd_app (rd_nw rfl (len_s (len_s (len_s (len_s HL)))))) rfl rfl rfl rfl ?_
  refine s_aldn (p' := 18) rfl rfl rfl ?_
  refine s_con (p' := 19) rfl rfl ?_
  refine s_pfz (p' := 22) (fs' := [_, _, _, _]) rfl rfl (rd_ss rfl (rd_app (rd_nw rfl (len_s (len_s (len_s (len_s HL))))))) rfl rfl rfl rfl ?_
  refine s_goto (p' := 38) rfl rfl ?_
  refine c_ret rfl ?_
  refine c_ret rfl ?_
  refine s_aldn (p' := 34) rfl rfl rfl ?_
  refine s_sp (p' := 35) (ls' := _) rfl rfl rfl ?_
  refine s_gf (p' := 38) rfl (rd_sn rfl (rd_sn rfl (rd_app (rd_app (rd_ss rfl (rd_sn rfl (rd_sn rfl (rd_sn rfl H400)))))))) rfl rfl ?_
  refine c_call (p' := 41) (kc := 98) (ls0 := [_, _]) rfl rfl rfl rfl rfl (mj_rcv_is (rd_ss rfl (rd_ss rfl (rd_app (rd_nw rfl (len_s (len_s (len_s (len_s HL))))))))) rfl rfl rfl ?_
  refine s_aldn (p' := 1) rfl rfl rfl ?_
  refine s_aldn (p' := 2) rfl rfl rfl ?_
  refine c_call (p' := 5) (kc := 97) (ls0 := [_, _, _]) rfl rfl rfl rfl rfl (mj_rcv_is (rd_ss rfl (rd_ss rfl (rd_app (rd_nw rfl (len_s (len_s (len_s (len_s HL))))))))) rfl rfl rfl ?_
  refine s_aldn (p' := 1) rfl rfl rfl ?_
  refine s_nonnull (p' := 9) (x := some 1000300) true rfl rfl rfl ?_
  refine s_aldn (p' := 10) rfl rfl rfl ?_
  refine c_call (p' := 13) (kc := 96) (ls0 := [_]) rfl rfl rfl rfl rfl (mj_rcv_is (k_300 _)) rfl rfl rfl ?_
  refine s_aldn (p' := 1) rfl rfl rfl ?_
  refine s_gf (p' := 4) rfl (k_300 _) rfl rfl ?_
  refine s_lenz (p' := 5) rfl (mj_rdA_cst (k_301 _) (by decide)) rfl rfl ?_
  refine s_aldn (p' := 6) rfl rfl rfl ?_
  refine c_call (p' := 9) (kc := 95) (ls0 := [_]) rfl rfl rfl rfl rfl (mj_rcv_is (k_300 _)) rfl rfl rfl ?_
  refine s_sh (p' := 3) (ls' := _) (st' := .int (nI 1) :: _) (h' := _) rfl rfl rfl rfl ?_
  refine s_if (p' := 6) false rfl (by decide +kernel) rfl ?_
  refine s_aldn (p' := 7) rfl rfl rfl ?_
  refine s_gf (p' := 10) rfl (k_300 _) rfl rfl ?_
  refine s_goto (p' := 14) rfl rfl ?_
  refine c_iret rfl (by decide +kernel) ?_
  refine s_bz (p' := 10) (z := (nI 0)) rfl rfl rfl (by decide +kernel) ?_
  refine c_iret rfl rfl ?_
  refine s_istn (p' := 14) (ls' := [_, _, _]) rfl rfl rfl rfl ?_
  refine s_aldn (p' := 15) rfl rfl rfl ?_
  refine s_aldn (p' := 16) rfl rfl rfl ?_
  refine s_gf (p' := 19) rfl (rd_ss rfl (rd_ss rfl (rd_app (rd_nw rfl (len_s (len_s (len_s (len_s HL)))))))) rfl rfl ?_
  refine s_ildn (p' := 20) rfl rfl rfl ?_
  refine s_bz (p' := 21) (z := (nI 0)) rfl rfl rfl (by decide +kernel) ?_
  refine c_call (p' := 24) (kc := 96) (ls0 := [_, _, _]) rfl rfl rfl rfl rfl (mj_rcv_is (rd_ss rfl (rd_ss rfl (rd_app (rd_nw rfl (len_s (len_s (len_s (len_s HL))))))))) rfl rfl rfl ?_
  refine s_aldn (p' := 1) rfl rfl rfl ?_
  refine s_gf (p' := 4) rfl (rd_ss rfl (rd_ss rfl (rd_app (rd_nw rfl (len_s (len_s (len_s (len_s HL)))))))) rfl rfl ?_
  refine s_lenz (p' := 5) rfl (mj_rdA_is (rd_sn rfl (rd_sn rfl (rd_nw rfl (len_a (len_s (len_s (len_s (len_s HL)))) rfl)))) (by decide)) rfl rfl ?_
  refine s_aldn (p' := 6) rfl rfl rfl ?_
  refine s_gf (p' := 9) rfl (rd_ss rfl (rd_ss rfl (rd_app (rd_nw rfl (len_s (len_s (len_s (len_s HL)))))))) rfl rfl ?_
  refine s_bz (p' := 10) (z := (nI 16)) rfl rfl rfl (by decide +kernel) ?_
  refine s_istn (p' := 11) (ls' := [_, _, _]) rfl rfl rfl rfl ?_
  refine s_ildn (p' := 12) rfl rfl rfl ?_
  refine s_ildn (p' := 13) rfl rfl rfl ?_
  refine s_bz (p' := 14) (z := (nI 4294967280)) rfl rfl rfl (by decide +kernel) ?_
  refine s_if (p' := 38) true rfl (by decide +kernel) rfl ?_
  refine c_ret rfl ?_
  refine s_aldn (p' := 25) rfl rfl rfl ?_
  refine s_aldn (p' := 26) rfl rfl rfl ?_
  refine s_gf (p' := 29) rfl (rd_ss rfl (rd_ss rfl (rd_app (rd_nw rfl (len_s (len_s (len_s (len_s HL)))))))) rfl rfl ?_
  refine s_aldn (p' := 30) rfl rfl rfl ?_
  refine c_call (p' := 33) (kc := 96) (ls0 := [_, _, _]) rfl rfl rfl rfl rfl (mj_rcv_is (rd_ss rfl (rd_ss rfl (rd_app (rd_nw rfl (len_s (len_s (len_s (len_s HL))))))))) rfl rfl rfl ?_
  refine s_aldn (p' := 1) rfl rfl rfl ?_
  refine s_aldn (p' := 2) rfl rfl rfl ?_
  refine c_call (p' := 5) (kc := 95) (ls0 := [_, _]) rfl rfl rfl rfl rfl (mj_rcv_is (rd_ss rfl (rd_ss rfl (rd_app (rd_nw rfl (len_s (len_s (len_s (len_s HL))))))))) rfl rfl rfl ?_
  refine s_sh (p' := 3) (ls' := _) (st' := .int (nI 1) :: _) (h' := _) rfl rfl rfl rfl ?_
  refine s_if (p' := 6) false rfl (by decide +kernel) rfl ?_
  refine s_aldn (p' := 7) rfl rfl rfl ?_
  refine s_gf (p' := 10) rfl (rd_ss rfl (rd_ss rfl (rd_app (rd_nw rfl (len_s (len_s (len_s (len_s HL)))))))) rfl rfl ?_
  refine s_aldn (p' := 11) rfl rfl rfl ?_
  refine c_call (p' := 14) (kc := 94) (ls0 := [_]) rfl rfl rfl rfl rfl (mj_rcv_is (k_300 _)) rfl rfl rfl ?_
  refine s_sh (p' := 3) (ls' := _) (st' := .int (nI 1) :: _) (h' := _) rfl rfl rfl rfl ?_
  refine s_if (p' := 6) false rfl (by decide +kernel) rfl ?_
  refine s_aldn (p' := 7) rfl rfl rfl ?_
  refine s_gf (p' := 10) rfl (k_300 _) rfl rfl ?_
  refine s_goto (p' := 14) rfl rfl ?_
  refine c_iret rfl (by decide +kernel) ?_
  refine s_icmp (p' := 21) true rfl (by decide +kernel) rfl ?_
  refine c_ret rfl ?_
  refine s_aldn (p' := 6) rfl rfl rfl ?_
  refine s_aldn (p' := 7) rfl rfl rfl ?_
  refine s_gf (p' := 10) rfl (rd_ss rfl (rd_ss rfl (rd_app (rd_nw rfl (len_s (len_s (len_s (len_s HL)))))))) rfl rfl ?_
  refine s_ildn (p' := 11) rfl rfl rfl ?_
  refine s_aldn (p' := 12) rfl rfl rfl ?_
  refine s_gf (p' := 15) rfl (rd_ss rfl (rd_ss rfl (rd_app (rd_nw rfl (len_s (len_s (len_s (len_s HL)))))))) rfl rfl ?_
  refine c_call (p' := 18) (kc := 95) (ls0 := [_, _, _, _]) rfl rfl rfl rfl rfl (mj_rcv_is (k_300 _)) rfl rfl rfl ?_
  refine s_aldn (p' := 1) rfl rfl rfl ?_
  refine c_call (p' := 4) (kc := 94) (ls0 := [_]) rfl rfl rfl rfl rfl (mj_rcv_is (k_300 _)) rfl rfl rfl ?_
  refine s_sh (p' := 3) (ls' := _) (st' := .int (nI 1) :: _) (h' := _) rfl rfl rfl rfl ?_
  refine s_if (p' := 6) false rfl (by decide +kernel) rfl ?_
  refine s_aldn (p' := 7) rfl rfl rfl ?_
  refine s_gf (p' := 10) rfl (k_300 _) rfl rfl ?_
  refine s_goto (p' := 14) rfl rfl ?_
  refine c_iret rfl (by decide +kernel) ?_
  refine s_ildn (p' := 5) rfl rfl rfl ?_
  refine s_icmp (p' := 8) false rfl (by decide +kernel) rfl ?_
  refine s_aldn (p' := 9) rfl rfl rfl ?_
  refine s_gf (p' := 12) rfl (k_300 _) rfl rfl ?_
  refine s_con (p' := 13) rfl rfl ?_
  refine s_aldn (p' := 14) rfl rfl rfl ?_
  refine s_ildn (p' := 15) rfl rfl rfl ?_
  refine s_ildn (p' := 16) rfl rfl rfl ?_
  refine s_bz (p' := 17) (z := (nI 0)) rfl rfl rfl (by decide +kernel) ?_
  refine s_aldn (p' := 18) rfl rfl rfl ?_
  refine s_gf (p' := 21) rfl (k_300 _) rfl rfl ?_
  refine s_lenz (p' := 22) rfl (mj_rdA_cst (k_301 _) (by decide)) rfl rfl ?_
  refine s_primN (p' := 25) (q := 0) rfl rfl rfl rfl rfl rfl (p_cpyB rfl (mj_rdA_cst (k_301 _) (by decide)) (mj_rdA_is (rd_sn rfl (rd_sn rfl (rd_nw rfl (len_a (len_s (len_s (len_s (len_s HL)))) rfl)))) (by decide)) rfl (by decide +kernel)) rfl ?_
  refine s_goto (p' := 43) rfl rfl ?_
  refine c_ret rfl ?_
  refine c_ret rfl ?_
  refine s_aldn (p' := 34) rfl rfl rfl ?_
  refine s_dupr (p' := 35) rfl rfl ?_
  refine s_gf (p' := 38) rfl (rd_sn rfl (rd_ss rfl (rd_ss rfl (rd_app (rd_nw rfl (len_s (len_s (len_s (len_s HL))))))))) rfl rfl ?_
  refine s_ildn (p' := 39) rfl rfl rfl ?_
  refine s_bz (p' := 40) (z := (nI 0)) rfl rfl rfl (by decide +kernel) ?_
  refine s_pfz (p' := 43) (fs' := [_, _, _, _]) rfl rfl (rd_sn rfl (rd_ss rfl (rd_ss rfl (rd_app (rd_nw rfl (len_s (len_s (len_s (len_s HL))))))))) rfl rfl rfl rfl ?_
  refine s_aldn (p' := 44) rfl rfl rfl ?_
  refine c_aret rfl ?_
  refine s_sp (p' := 6) (ls' := _) rfl rfl rfl ?_
  refine s_aldn (p' := 7) rfl rfl rfl ?_
  refine c_aret rfl ?_
  refine s_ildn (p' := 42) rfl rfl rfl ?_
  refine c_call (p' := 45) (kc := 98) (ls0 := [_, _]) rfl rfl rfl rfl rfl (mj_rcv_is (rd_ss rfl (rd_sn rfl (rd_ss rfl (rd_ss rfl (rd_app (rd_nw rfl (len_s (len_s (len_s (len_s HL))))))))))) rfl rfl rfl ?_
  refine s_aldn (p' := 1) rfl rfl rfl ?_
  refine s_ildn (p' := 2) rfl rfl rfl ?_
  refine c_call (p' := 5) (kc := 97) (ls0 := [_, _]) rfl rfl rfl rfl rfl (mj_rcv_is (rd_ss rfl (rd_sn rfl (rd_ss rfl (rd_ss rfl (rd_app (rd_nw rfl (len_s (len_s (len_s (len_s HL))))))))))) rfl rfl rfl ?_
  refine s_aldn (p' := 1) rfl rfl rfl ?_
  refine s_aldn (p' := 2) rfl rfl rfl ?_
  refine s_gf (p' := 5) rfl (rd_ss rfl (rd_sn rfl (rd_ss rfl (rd_ss rfl (rd_app (rd_nw rfl (len_s (len_s (len_s (len_s HL)))))))))) rfl rfl ?_
  refine s_con (p' := 6) rfl rfl ?_
  refine s_bz (p' := 7) (z := (nI 1)) rfl rfl rfl (by decide +kernel) ?_
  refine c_call (p' := 10) (kc := 96) (ls0 := [_, _, _]) rfl rfl rfl rfl rfl (mj_rcv_is (rd_ss rfl (rd_sn rfl (rd_ss rfl (rd_ss rfl (rd_app (rd_nw rfl (len_s (len_s (len_s (len_s HL))))))))))) rfl rfl rfl ?_
  refine s_aldn (p' := 1) rfl rfl rfl ?_
  refine s_gf (p' := 4) rfl (rd_ss rfl (rd_sn rfl (rd_ss rfl (rd_ss rfl (rd_app (rd_nw rfl (len_s (len_s (len_s (len_s HL)))))))))) rfl rfl ?_
  refine s_lenz (p' := 5) rfl (mj_rdA_is (rd_sn rfl (rd_ss rfl (rd_sn rfl (rd_sn rfl (rd_nw rfl (len_a (len_s (len_s (len_s (len_s HL)))) rfl)))))) (by decide)) rfl rfl ?_
  refine s_aldn (p' := 6) rfl rfl rfl ?_
  refine s_gf (p' := 9) rfl (rd_ss rfl (rd_sn rfl (rd_ss rfl (rd_ss rfl (rd_app (rd_nw rfl (len_s (len_s (len_s (len_s HL)))))))))) rfl rfl ?_
  refine s_bz (p' := 10) (z := (nI 16)) rfl rfl rfl (by decide +kernel) ?_
  refine s_istn (p' := 11) (ls' := [_, _, _]) rfl rfl rfl rfl ?_
  refine s_ildn (p' := 12) rfl rfl rfl ?_
  refine s_ildn (p' := 13) rfl rfl rfl ?_
  refine s_bz (p' := 14) (z := (nI 4294967281)) rfl rfl rfl (by decide +kernel) ?_
  refine s_if (p' := 38) true rfl (by decide +kernel) rfl ?_
  refine c_ret rfl ?_
  refine s_aldn (p' := 11) rfl rfl rfl ?_
  refine c_call (p' := 14) (kc := 96) (ls0 := [_]) rfl rfl rfl rfl rfl (mj_rcv_is (rd_ss rfl (rd_sn rfl (rd_ss rfl (rd_ss rfl (rd_app (rd_nw rfl (len_s (len_s (len_s (len_s HL))))))))))) rfl rfl rfl ?_
  refine s_sh (p' := 3) (ls' := _) (st' := .int (nI 1) :: _) (h' := _) rfl rfl rfl rfl ?_
  refine s_if (p' := 6) false rfl (by decide +kernel) rfl ?_
  refine s_aldn (p' := 7) rfl rfl rfl ?_
  refine s_gf (p' := 10) rfl (rd_ss rfl (rd_sn rfl (rd_ss rfl (rd_ss rfl (rd_app (rd_nw rfl (len_s (len_s (len_s (len_s HL)))))))))) rfl rfl ?_
  refine s_if (p' := 13) false rfl (by decide +kernel) rfl ?_
  refine s_con (p' := 14) rfl rfl ?_
  refine s_goto (p' := 18) rfl rfl ?_
  refine c_iret rfl (by decide +kernel) ?_
  refine s_if (p' := 17) false rfl (by decide +kernel) rfl ?_
  refine s_ildn (p' := 18) rfl rfl rfl ?_
  refine c_call (p' := 21) (kc := 96) (ls0 := [_]) rfl rfl rfl rfl rfl rfl rfl rfl rfl ?_
  refine s_ildn (p' := 1) rfl rfl rfl ?_
  refine s_sip (p' := 4) rfl rfl ?_
  refine s_icmp (p' := 7) false rfl ((cg_gt (w := 255) (by decide +kernel)).trans (decide_eq_false (by rw [mI_ti (by omega)]; omega))) rfl ?_
  refine s_con (p' := 8) rfl rfl ?_
  refine s_goto (p' := 12) rfl rfl ?_
  refine c_iret rfl (by decide +kernel) ?_
  refine s_if (p' := 24) false rfl (by decide +kernel) rfl ?_
  refine s_aldn (p' := 25) rfl rfl rfl ?_
  refine s_gf (p' := 28) rfl (rd_ss rfl (rd_sn rfl (rd_ss rfl (rd_ss rfl (rd_app (rd_nw rfl (len_s (len_s (len_s (len_s HL)))))))))) rfl rfl ?_
  refine s_aldn (p' := 29) rfl rfl rfl ?_
  refine s_dupr (p' := 30) rfl rfl ?_
  refine s_gf (p' := 33) rfl (rd_ss rfl (rd_sn rfl (rd_ss rfl (rd_ss rfl (rd_app (rd_nw rfl (len_s (len_s (len_s (len_s HL)))))))))) rfl rfl ?_
  refine s_sp (p' := 34) (ls' := _) rfl rfl rfl ?_
  refine s_con (p' := 35) rfl rfl ?_
  refine s_bz (p' := 36) (z := (nI 1)) rfl rfl rfl (by decide +kernel) ?_
  refine s_pfz (p' := 39) (fs' := [_, _, _, _]) rfl rfl (rd_ss rfl (rd_sn rfl (rd_ss rfl (rd_ss rfl (rd_app (rd_nw rfl (len_s (len_s (len_s (len_s HL)))))))))) rfl rfl rfl rfl ?_
  refine s_ildn (p' := 40) rfl rfl rfl ?_
  refine s_bz (p' := 41) (z := b) rfl rfl rfl hb ?_
  refine s_bas1z (p' := 42) (m := 0) (w := b) rfl rfl (rd_sn rfl (rd_sn rfl (rd_ss rfl (rd_sn rfl (rd_sn rfl (rd_nw rfl (len_a (len_s (len_s (len_s (len_s HL)))) rfl))))))) (by decide +kernel) rfl hn1 rfl rfl ?_
  refine s_goto (p' := 75) rfl rfl ?_
  refine s_aldn (p' := 76) rfl rfl rfl ?_
  refine c_aret rfl ?_
  refine s_sp (p' := 6) (ls' := _) rfl rfl rfl ?_
  refine s_aldn (p' := 7) rfl rfl rfl ?_
  refine c_aret rfl ?_
  refine c_call (p' := 48) (kc := 98) (ls0 := [_]) rfl rfl rfl rfl rfl (mj_rcv_is (rd_sn rfl (rd_ss rfl (rd_ss rfl (rd_sn rfl (rd_ss rfl (rd_ss rfl (rd_app (rd_nw rfl (len_s (len_s (len_s (len_s HL))))))))))))) rfl rfl rfl ?_
  refine s_newz (p' := 3) (a := 416) rfl (len_s (len_s (len_s (len_s (len_s (len_s (len_a (len_a (len_s (len_s (len_s (len_s HL)))) rfl) rfl))))))) rfl rfl ?_
  refine s_dupr (p' := 4) rfl rfl ?_
  refine s_aldn (p' := 5) rfl rfl rfl ?_
  refine c_call (p' := 8) (kc := 97) (ls0 := [_, _]) rfl rfl rfl rfl rfl (mj_rcv_is (rd_nw rfl (len_s (len_s (len_s (len_s (len_s (len_s (len_a (len_a (len_s (len_s (len_s (len_s HL)))) rfl) rfl))))))))) rfl rfl rfl ?_
  refine s_aldn (p' := 1) rfl rfl rfl ?_
  refine s_aldn (p' := 2) rfl rfl rfl ?_
  refine s_sp (p' := 3) (ls' := _) rfl rfl rfl ?_
  refine c_call (p' := 6) (kc := 96) (ls0 := [_, _, _, _, _]) rfl rfl rfl rfl rfl (mj_rcv_is (rd_nw rfl (len_s (len_s (len_s (len_s (len_s (len_s (len_a (len_a (len_s (len_s (len_s (len_s HL)))) rfl) rfl))))))))) rfl rfl rfl ?_
  refine s_aldn (p' := 1) rfl rfl rfl ?_
  refine s_primN (p' := 4) (q := 3) rfl rfl rfl rfl rfl rfl rfl rfl ?_
  refine s_aldn (p' := 5) rfl rfl rfl ?_
  refine c_call (p' := 8) (kc := 95) (ls0 := [_]) rfl rfl rfl rfl rfl (mj_rcv_is (rd_app (rd_sn rfl (rd_ss rfl (rd_ss rfl (rd_sn rfl (rd_ss rfl (rd_ss rfl (rd_app (rd_nw rfl (len_s (len_s (len_s (len_s HL)))))))))))))) rfl rfl rfl ?_
  refine s_aldn (p' := 1) rfl rfl rfl ?_
  refine s_gf (p' := 4) rfl (rd_app (rd_sn rfl (rd_ss rfl (rd_ss rfl (rd_sn rfl (rd_ss rfl (rd_ss rfl (rd_app (rd_nw rfl (len_s (len_s (len_s (len_s HL))))))))))))) rfl rfl ?_
  refine c_aret rfl ?_
  refine s_astn (p' := 9) (ls' := [_, _, _, _, _]) rfl rfl rfl rfl ?_
  refine s_aldn (p' := 10) rfl rfl rfl ?_
  refine c_call (p' := 13) (kc := 95) (ls0 := [_]) rfl rfl rfl rfl rfl (mj_rcv_is (rd_app (rd_sn rfl (rd_ss rfl (rd_ss rfl (rd_sn rfl (rd_ss rfl (rd_ss rfl (rd_app (rd_nw rfl (len_s (len_s (len_s (len_s HL)))))))))))))) rfl rfl rfl ?_
  refine s_aldn (p' := 1) rfl rfl rfl ?_
  refine c_call (p' := 4) (kc := 94) (ls0 := [_]) rfl rfl rfl rfl rfl (mj_rcv_is (rd_app (rd_sn rfl (rd_ss rfl (rd_ss rfl (rd_sn rfl (rd_ss rfl (rd_ss rfl (rd_app (rd_nw rfl (len_s (len_s (len_s (len_s HL)))))))))))))) rfl rfl rfl ?_
  refine s_aldn (p' := 1) rfl rfl rfl ?_
  refine s_gf (p' := 4) rfl (rd_app (rd_sn rfl (rd_ss rfl (rd_ss rfl (rd_sn rfl (rd_ss rfl (rd_ss rfl (rd_app (rd_nw rfl (len_s (len_s (len_s (len_s HL))))))))))))) rfl rfl ?_
  refine c_iret rfl rfl ?_
  refine c_iret rfl rfl ?_
  refine s_ist (p' := 15) (ls' := [_, _, _, _, _]) rfl rfl rfl rfl ?_
  refine s_aldn (p' := 16) rfl rfl rfl ?_
  refine c_call (p' := 19) (kc := 95) (ls0 := [_]) rfl rfl rfl rfl rfl (mj_rcv_is (rd_app (rd_sn rfl (rd_ss rfl (rd_ss rfl (rd_sn rfl (rd_ss rfl (rd_ss rfl (rd_app (rd_nw rfl (len_s (len_s (len_s (len_s HL)))))))))))))) rfl rfl rfl ?_
  refine s_sh (p' := 3) (ls' := _) (st' := .int (nI 1) :: _) (h' := _) rfl rfl rfl rfl ?_
  refine s_if (p' := 6) false rfl (by decide +kernel) rfl ?_
  refine s_aldn (p' := 7) rfl rfl rfl ?_
  refine s_gf (p' := 10) rfl (rd_app (rd_sn rfl (rd_ss rfl (rd_ss rfl (rd_sn rfl (rd_ss rfl (rd_ss rfl (rd_app (rd_nw rfl (len_s (len_s (len_s (len_s HL))))))))))))) rfl rfl ?_
  refine s_if (p' := 13) false rfl (by decide +kernel) rfl ?_
  refine s_con (p' := 14) rfl rfl ?_
  refine s_goto (p' := 18) rfl rfl ?_
  refine c_iret rfl (by decide +kernel) ?_
  refine s_if (p' := 22) false rfl (by decide +kernel) rfl ?_
  refine s_aldn (p' := 23) rfl rfl rfl ?_
  refine s_con (p' := 24) rfl rfl ?_
  refine s_pfz (p' := 27) (fs' := [_, _, _, _]) rfl rfl (rd_nw rfl (len_s (len_s (len_s (len_s (len_s (len_s (len_a (len_a (len_s (len_s (len_s (len_s HL)))) rfl) rfl)))))))) rfl rfl rfl rfl ?_
  refine s_aldn (p' := 28) rfl rfl rfl ?_
  refine s_aldn (p' := 29) rfl rfl rfl ?_
  refine s_con (p' := 30) rfl rfl ?_
  refine s_ild (p' := 32) rfl rfl rfl ?_
  refine c_call (p' := 35) (kc := 95) (ls0 := [_, _, _]) rfl rfl rfl rfl rfl rfl rfl rfl rfl ?_
  refine s_ildn (p' := 1) rfl rfl rfl ?_
  refine s_if (p' := 4) false rfl (by decide +kernel) rfl ?_
  refine s_ildn (p' := 5) rfl rfl rfl ?_
  refine s_aldn (p' := 6) rfl rfl rfl ?_
  refine s_lenz (p' := 7) rfl (mj_rdA_is (rd_sn rfl (rd_app (rd_ss rfl (rd_sn rfl (rd_sn rfl (rd_ss rfl (rd_sn rfl (rd_sn rfl (rd_nw rfl (len_a (len_s (len_s (len_s (len_s HL)))) rfl)))))))))) (by decide)) rfl rfl ?_
  refine s_icmp (p' := 10) false rfl (by decide +kernel) rfl ?_
  refine s_aldn (p' := 11) rfl rfl rfl ?_
  refine s_ildn (p' := 12) rfl rfl rfl ?_
  refine s_ildn (p' := 13) rfl rfl rfl ?_
  refine c_call (p' := 16) (kc := 94) (ls0 := [_, _, _, _, _]) rfl rfl rfl rfl rfl rfl rfl rfl rfl ?_
  refine s_ildn (p' := 1) rfl rfl rfl ?_
  refine s_ildn (p' := 2) rfl rfl rfl ?_
  refine c_call (p' := 5) (kc := 93) (ls0 := [_, _]) rfl rfl rfl rfl rfl rfl rfl rfl rfl ?_
  refine s_ildn (p' := 1) rfl rfl rfl ?_
  refine s_ildn (p' := 2) rfl rfl rfl ?_
  refine s_icmp (p' := 37) true rfl (by decide +kernel) rfl ?_
  refine c_ret rfl ?_
  refine s_ildn (p' := 6) rfl rfl rfl ?_
  refine s_ildn (p' := 7) rfl rfl rfl ?_
  refine s_bz (p' := 8) (z := (nI 1)) rfl rfl rfl (by decide +kernel) ?_
  refine s_istn (p' := 9) (ls' := [_, _, _, _, _]) rfl rfl rfl rfl ?_
  refine s_ildn (p' := 10) rfl rfl rfl ?_
  refine s_naz (p' := 12) (a := 417) (n := 1) rfl (len_s (len_a (len_s (len_s (len_s (len_s (len_s (len_s (len_a (len_a (len_s (len_s (len_s (len_s HL)))) rfl) rfl))))))) rfl)) rfl rfl ?_
  refine s_ast (p' := 14) (ls' := [_, _, _, _, _]) rfl rfl rfl rfl ?_
  refine s_aldn (p' := 15) rfl rfl rfl ?_
  refine s_ildn (p' := 16) rfl rfl rfl ?_
  refine s_ald (p' := 18) rfl rfl rfl ?_
  refine s_con (p' := 19) rfl rfl ?_
  refine s_aldn (p' := 20) rfl rfl rfl ?_
  refine s_lenz (p' := 21) rfl (mj_rdA_is (rd_app (rd_sn rfl (rd_app (rd_ss rfl (rd_sn rfl (rd_sn rfl (rd_ss rfl (rd_sn rfl (rd_sn rfl (rd_nw rfl (len_a (len_s (len_s (len_s (len_s HL)))) rfl))))))))))) (by decide)) rfl rfl ?_
  refine s_ildn (p' := 22) rfl rfl rfl ?_
  refine s_bz (p' := 23) (z := (nI 16)) rfl rfl rfl (by decide +kernel) ?_
  refine s_ildn (p' := 24) rfl rfl rfl ?_
  refine s_primV (p' := 27) (q := 5) rfl rfl rfl rfl rfl rfl (p_min (x := (nI 16)) (y := (nI 1)) (z := (nI 1)) (by decide +kernel)) rfl ?_
  refine s_primN (p' := 30) (q := 0) rfl rfl rfl rfl rfl rfl (p_cpyB rfl (mj_rdA_is (rd_app (rd_sn rfl (rd_app (rd_ss rfl (rd_sn rfl (rd_sn rfl (rd_ss rfl (rd_sn rfl (rd_sn rfl (rd_nw rfl (len_a (len_s (len_s (len_s (len_s HL)))) rfl))))))))))) (by decide)) (mj_rdA_is (rd_nw rfl (len_s (len_a (len_s (len_s (len_s (len_s (len_s (len_s (len_a (len_a (len_s (len_s (len_s (len_s HL)))) rfl) rfl))))))) rfl))) (by decide)) rfl (cpr_1 hfb)) rfl ?_
  refine s_ald (p' := 32) rfl rfl rfl ?_
  refine c_aret rfl ?_
  refine c_aret rfl ?_
  refine s_pfz (p' := 38) (fs' := [_, _, _, _]) rfl rfl (rd_sn rfl (rd_app (rd_ss rfl (rd_nw rfl (len_s (len_s (len_s (len_s (len_s (len_s (len_a (len_a (len_s (len_s (len_s (len_s HL)))) rfl) rfl))))))))))) rfl rfl rfl rfl ?_
  refine s_goto (p' := 97) rfl rfl ?_
  refine c_ret rfl ?_
  refine c_ret rfl ?_
  refine c_aret rfl ?_
  refine s_pfz (p' := 51) (fs' := [_, _, _, _, _, _, _, _, _, _, _]) rfl rfl (rd_sn rfl (rd_sn rfl (rd_app (rd_sn rfl (rd_app (rd_sn rfl (rd_sn rfl (rd_sn rfl (rd_sn rfl (rd_sn rfl (rd_sn rfl (rd_app (rd_app (rd_ss rfl (rd_sn rfl (rd_sn rfl (rd_sn rfl H400))))))))))))))))) rfl rfl rfl rfl ?_
  refine s_aldn (p' := 52) rfl rfl rfl ?_
  refine s_gf (p' := 55) rfl (rd_ss rfl (rd_sn rfl (rd_sn rfl (rd_app (rd_sn rfl (rd_app (rd_sn rfl (rd_sn rfl (rd_sn rfl (rd_sn rfl (rd_sn rfl (rd_sn rfl (rd_app (rd_app (rd_ss rfl (rd_sn rfl (rd_sn rfl (rd_sn rfl H400)))))))))))))))))) rfl rfl ?_
  refine c_call (p' := 58) (kc := 98) (ls0 := [_]) rfl rfl rfl rfl rfl (mj_rcv_is (rd_sn rfl (rd_ss rfl (rd_sn rfl (rd_app (rd_ss rfl (rd_nw rfl (len_s (len_s (len_s (len_s (len_s (len_s (len_a (len_a (len_s (len_s (len_s (len_s HL)))) rfl) rfl)))))))))))))) rfl rfl rfl ?_
  refine s_aldn (p' := 1) rfl rfl rfl ?_
  refine s_gf (p' := 4) rfl (rd_sn rfl (rd_ss rfl (rd_sn rfl (rd_app (rd_ss rfl (rd_nw rfl (len_s (len_s (len_s (len_s (len_s (len_s (len_a (len_a (len_s (len_s (len_s (len_s HL)))) rfl) rfl))))))))))))) rfl rfl ?_
  refine s_lenz (p' := 5) rfl (mj_rdA_is (rd_sn rfl (rd_sn rfl (rd_ss rfl (rd_nw rfl (len_s (len_a (len_s (len_s (len_s (len_s (len_s (len_s (len_a (len_a (len_s (len_s (len_s (len_s HL)))) rfl) rfl))))))) rfl)))))) (by decide)) rfl rfl ?_
  refine s_aldn (p' := 6) rfl rfl rfl ?_
  refine c_call (p' := 9) (kc := 97) (ls0 := [_]) rfl rfl rfl rfl rfl (mj_rcv_is (rd_sn rfl (rd_ss rfl (rd_sn rfl (rd_app (rd_ss rfl (rd_nw rfl (len_s (len_s (len_s (len_s (len_s (len_s (len_a (len_a (len_s (len_s (len_s (len_s HL)))) rfl) rfl)))))))))))))) rfl rfl rfl ?_
  refine s_sh (p' := 3) (ls' := _) (st' := .int (nI 1) :: _) (h' := _) rfl rfl rfl rfl ?_
  refine s_if (p' := 6) false rfl (by decide +kernel) rfl ?_
  refine s_aldn (p' := 7) rfl rfl rfl ?_
  refine s_gf (p' := 10) rfl (rd_sn rfl (rd_ss rfl (rd_sn rfl (rd_app (rd_ss rfl (rd_nw rfl (len_s (len_s (len_s (len_s (len_s (len_s (len_a (len_a (len_s (len_s (len_s (len_s HL)))) rfl) rfl))))))))))))) rfl rfl ?_
  refine s_goto (p' := 14) rfl rfl ?_
  refine c_iret rfl (by decide +kernel) ?_
  refine s_bz (p' := 10) (z := (nI 1)) rfl rfl rfl (by decide +kernel) ?_
  refine c_iret rfl rfl ?_
  refine k_iret rfl rfl ?_
  refine l_ist (p' := 287) (ls' := [_, _, _, _, _, _, _, _, _, _]) rfl rfl rfl rfl rfl ?_
  refine l_aldn (p' := 288) rfl rfl rfl rfl ?_
  refine l_call (p' := 291) (kc := 99) (ls0 := [_]) rfl rfl rfl rfl rfl rfl (mj_rcv_is (rd_ss rfl (rd_sn rfl (rd_sn rfl (rd_app (rd_sn rfl (rd_app (rd_sn rfl (rd_sn rfl (rd_sn rfl (rd_sn rfl (rd_sn rfl (rd_sn rfl (rd_app (rd_app (rd_ss rfl (rd_sn rfl (rd_sn rfl (rd_sn rfl H400))))))))))))))))))) rfl rfl rfl ?_
  refine s_aldn (p' := 1) rfl rfl rfl ?_
  refine s_gf (p' := 4) rfl (rd_ss rfl (rd_sn rfl (rd_sn rfl (rd_app (rd_sn rfl (rd_app (rd_sn rfl (rd_sn rfl (rd_sn rfl (rd_sn rfl (rd_sn rfl (rd_sn rfl (rd_app (rd_app (rd_ss rfl (rd_sn rfl (rd_sn rfl (rd_sn rfl H400)))))))))))))))))) rfl rfl ?_
  refine k_iret rfl rfl ?_
  refine l_ild (p' := 293) rfl rfl rfl rfl ?_
  refine l_icmp (p' := 298) true rfl rfl (by decide +kernel) rfl ?_
  refine l_ild (p' := 300) rfl rfl rfl rfl ?_
  refine l_if (p' := 303) false rfl rfl (by decide +kernel) rfl ?_
  refine l_aldn (p' := 304) rfl rfl rfl rfl ?_
  refine l_con (p' := 305) rfl rfl rfl ?_
  refine l_lalz (p' := 306) (m := 0) (v := (lN 1)) rfl rfl (rd_sn rfl (rd_sn rfl (rd_sn rfl (rd_app (rd_sn rfl (rd_app (rd_sn rfl (rd_sn rfl (rd_sn rfl (rd_sn rfl (rd_sn rfl (rd_sn rfl (rd_app (rd_app (rd_sn rfl (rd_ss rfl (rd_sn rfl (rd_sn rfl H412)))))))))))))))))) (by decide +kernel) rfl (by decide +kernel) rfl ?_
  refine l_ild (p' := 308) rfl rfl rfl rfl ?_
  refine l_bzL (p' := 309) (z := (lN 1)) rfl rfl rfl rfl rfl (by decide +kernel) ?_
  refine l_bz (p' := 310) (z := (nI 0)) rfl rfl rfl rfl rfl (by decide +kernel) ?_
  refine l_if (p' := 315) true rfl rfl (by decide +kernel) rfl ?_
  refine l_goto (p' := 2541) rfl rfl rfl ?_
  refine l_incz (p' := 2544) (w := (nI 4)) (ls' := [_, _, _, _, _, _, _, _, _, _]) rfl rfl rfl rfl (by decide +kernel) rfl rfl ?_
  refine l_goto (p' := 28) rfl rfl rfl ?_
  refine l_ild (p' := 30) rfl rfl rfl rfl ?_
  refine l_alds (p' := 31) rfl rfl rfl rfl ?_
  refine l_lens (p' := 32) rfl rfl rfl ?_
  refine l_con (p' := 33) rfl rfl rfl ?_
  refine l_bz (p' := 34) (z := (nI 0)) rfl rfl rfl rfl rfl (by decide +kernel) ?_
  refine l_icmp (p' := 2547) true rfl rfl (by decide +kernel) rfl ?_
  refine l_con (p' := 2548) rfl rfl rfl ?_
  refine l_end rfl rfl ?_
  exact ⟨Nat.le_trans (Nat.le_of_eq (len_s (len_s (len_s (len_a (len_s (len_a (len_s (len_s (len_s (len_s (len_s (len_s (len_a (len_a (len_s (len_s (len_s (len_s HL)))) rfl) rfl))))))) rfl)) rfl))))) (Nat.le_of_ble_eq_true rfl), Nat.le_trans (sz_s rfl (rd_sn rfl (rd_sn rfl (rd_app (rd_sn rfl (rd_app (rd_sn rfl (rd_sn rfl (rd_sn rfl (rd_sn rfl (rd_sn rfl (rd_sn rfl (rd_app (rd_app (rd_ss rfl (rd_sn rfl (rd_sn rfl (rd_sn rfl H400))))))))))))))))) rfl (sz_s rfl (rd_sn rfl (rd_app (rd_ss rfl (rd_nw rfl (len_s (len_s (len_s (len_s (len_s (len_s (len_a (len_a (len_s (len_s (len_s (len_s HL)))) rfl) rfl))))))))))) rfl (sz_sA rfl (rd_nw rfl (len_s (len_a (len_s (len_s (len_s (len_s (len_s (len_s (len_a (len_a (len_s (len_s (len_s (len_s HL)))) rfl) rfl))))))) rfl))) (sz_aa (k := 1) (m := 20025) rfl rfl (sz_s rfl (rd_nw rfl (len_s (len_s (len_s (len_s (len_s (len_s (len_a (len_a (len_s (len_s (len_s (len_s HL)))) rfl) rfl)))))))) rfl (sz_aa (k := 4) (m := 20024) rfl rfl (sz_sA rfl (rd_sn rfl (rd_sn rfl (rd_ss rfl (rd_sn rfl (rd_sn rfl (rd_nw rfl (len_a (len_s (len_s (len_s (len_s HL)))) rfl))))))) (sz_s rfl (rd_ss rfl (rd_sn rfl (rd_ss rfl (rd_ss rfl (rd_app (rd_nw rfl (len_s (len_s (len_s (len_s HL)))))))))) rfl (sz_s rfl (rd_sn rfl (rd_ss rfl (rd_ss rfl (rd_app (rd_nw rfl (len_s (len_s (len_s (len_s HL))))))))) rfl (sz_sA rfl (rd_sn rfl (rd_sn rfl (rd_nw rfl (len_a (len_s (len_s (len_s (len_s HL)))) rfl)))) (sz_s rfl (rd_ss rfl (rd_app (rd_nw rfl (len_s (len_s (len_s (len_s HL))))))) rfl (sz_s rfl (rd_app (rd_nw rfl (len_s (len_s (len_s (len_s HL)))))) rfl (sz_aa (k := 16) (m := 20020) rfl rfl (sz_aa (k := 4) (m := 20004) rfl rfl (sz_s rfl (rd_sn rfl (rd_sn rfl (rd_sn rfl H400))) rfl (sz_sA rfl (rd_sn rfl (rd_sn rfl H412)) (sz_s rfl (rd_sn rfl H2) rfl (sz_sA rfl H3 HZ)))))))))))))))))) (Nat.le_of_ble_eq_true rfl)⟩
theorem p1_0_u {xs : Nat → Int32} {h : mj_H} (hk : xs 0 &&& nI 63 = nI 0)  {n : Nat} {r0 r1 b0 b1 : Int32} (hn : n < 65536) (hn2 : 256 ≤ n) (hc : ((xs 1).toUInt32 % 65536).toInt32 = nI n) (hn3 : vp_nar .char (nI n) = nI n) (hr0 : nI n >>> (nI 0 &&& 31) = r0) (hb0 : r0.toInt8.toInt32 = b0) (hm0 : vp_nar .byte b0 = b0) (hf0 : fits .byte (.int b0) = true) (hr1 : nI n >>> (nI 8 &&& 31) = r1) (hb1 : r1.toInt8.toInt32 = b1) (hm1 : vp_nar .byte b1 = b1) (hf1 : fits .byte (.int b1) = true) (HL : h.length = 414) (HZ : mj_sz h ≤ 20000) (H0 : mj_rd h 0 = some (.inr (0, [.ref 1, .ref 38, .ref 299, .ref 336, .ref 373, .ref 375, .ref 378, .ref 381, .ref 387, .ref 393, .null, .null, .ref 397, .ref 398, .ref 399, .long (lN 0), .long (lN 0)]))) (H1 : mj_rd h 1 = some (.inr (1, [.ref 2, .ref 4, .ref 37]))) (H2 : mj_rd h 2 = some (.inr (2, [.ref 3, .int (nI 0)]))) (H3 : mj_rd h 3 = some (.inl (3, (60, .inl (fun _ => 0))))) (H400 : mj_rd h 400 = some (.inr (17, [.int (nI 0), .ref 401, .ref 402, .ref 1000300, .long (lN 0), .long (lN 0), .ref 410, .null, .null, .null, .ref 411]))) (H412 : mj_rd h 412 = some (.inl (4, (1, .inr (.inl (fun _ => 0)))))) : mj_fin 4 xs h := by
  unfold mj_fin
  refine l_ild (p' := 30) rfl rfl rfl rfl ?_
  refine l_alds (p' := 31) rfl rfl rfl rfl ?_
  refine l_lens (p' := 32) rfl rfl rfl ?_
  refine l_con (p' := 33) rfl rfl rfl ?_
  refine l_bz (p' := 34) (z := (nI 0)) rfl rfl rfl rfl rfl (by decide +kernel) ?_
  refine l_icmp (p' := 37) false rfl rfl (by decide +kernel) rfl ?_
  refine l_alds (p' := 38) rfl rfl rfl rfl ?_
  refine l_ild (p' := 40) rfl rfl rfl rfl ?_
  refine l_ialz (p' := 41) (m := 0) (z := (xs 0)) rfl rfl (by decide +kernel) rfl rfl rfl ?_
  refine l_bip (p' := 43) rfl rfl rfl ?_
  refine l_bz (p' := 44) (z := (nI 0)) rfl rfl rfl rfl rfl hk ?_
  refine l_sp (p' := 260) (ls' := _) rfl rfl rfl rfl rfl ?_
  refine l_aldn (p' := 261) rfl rfl rfl rfl ?_
  refine l_alds (p' := 262) rfl rfl rfl rfl ?_
  refine l_ild (p' := 264) rfl rfl rfl rfl ?_
  refine l_con (p' := 265) rfl rfl rfl ?_
  refine l_bz (p' := 266) (z := (nI 1)) rfl rfl rfl rfl rfl (by decide +kernel) ?_
  refine l_ialz (p' := 267) (m := 1) (z := (xs 1)) rfl rfl (by decide +kernel) rfl rfl rfl ?_
  refine l_bz (p' := 268) (z := (nI n)) rfl rfl rfl rfl rfl hc ?_
  refine l_aldn (p' := 269) rfl rfl rfl rfl ?_
  refine l_call (p' := 272) (kc := 99) (ls0 := [_, _, _, _]) rfl rfl rfl rfl rfl rfl rfl rfl rfl rfl ?_
  refine s_aldn (p' := 1) rfl rfl rfl ?_
  refine s_con (p' := 2) rfl rfl ?_
  refine s_aldn (p' := 3) rfl rfl rfl ?_
  refine s_ildn (p' := 4) rfl rfl rfl ?_
  refine c_call (p' := 7) (kc := 98) (ls0 := [_, _]) rfl rfl rfl rfl rfl (mj_rcv_is H0) rfl rfl rfl ?_
  refine s_aldn (p' := 1) rfl rfl rfl ?_
  refine s_gf (p' := 4) rfl H0 rfl rfl ?_
  refine s_gf (p' := 7) rfl H1 rfl rfl ?_
  refine c_call (p' := 10) (kc := 97) (ls0 := [_]) rfl rfl rfl rfl rfl (mj_rcv_is H2) rfl rfl rfl ?_
  refine s_aldn (p' := 1) rfl rfl rfl ?_
  refine s_gf (p' := 4) rfl H2 rfl rfl ?_
  refine s_bip (p' := 6) rfl rfl ?_
  refine s_icmp (p' := 13) true rfl (by decide +kernel) rfl ?_
  refine s_con (p' := 14) rfl rfl ?_
  refine c_iret rfl (by decide +kernel) ?_
  refine s_if (p' := 23) true rfl (by decide +kernel) rfl ?_
  refine s_aldn (p' := 24) rfl rfl rfl ?_
  refine s_gf (p' := 27) rfl H0 rfl rfl ?_
  refine s_gf (p' := 30) rfl H1 rfl rfl ?_
  refine s_ildn (p' := 31) rfl rfl rfl ?_
  refine c_call (p' := 34) (kc := 97) (ls0 := [_, _]) rfl rfl rfl rfl rfl (mj_rcv_is H2) rfl rfl rfl ?_
  refine s_aldn (p' := 1) rfl rfl rfl ?_
  refine s_gf (p' := 4) rfl H2 rfl rfl ?_
  refine s_if (p' := 7) false rfl (by decide +kernel) rfl ?_
  refine s_aldn (p' := 8) rfl rfl rfl ?_
  refine s_gf (p' := 11) rfl H2 rfl rfl ?_
  refine s_aldn (p' := 12) rfl rfl rfl ?_
  refine s_gf (p' := 15) rfl H2 rfl rfl ?_
  refine s_lenz (p' := 16) rfl (mj_rdA_is H3 (by decide)) rfl rfl ?_
  refine s_icmp (p' := 19) false rfl (by decide +kernel) rfl ?_
  refine s_aldn (p' := 20) rfl rfl rfl ?_
  refine s_gf (p' := 23) rfl H2 rfl rfl ?_
  refine s_aldn (p' := 24) rfl rfl rfl ?_
  refine s_gf (p' := 27) rfl H2 rfl rfl ?_
  refine s_ildn (p' := 28) rfl rfl rfl ?_
  refine s_casz (p' := 29) (m := 0) (w := (nI n)) rfl rfl H3 (by decide +kernel) rfl hn3 rfl rfl ?_
  refine s_aldn (p' := 30) rfl rfl rfl ?_
  refine s_dupr (p' := 31) rfl rfl ?_
  refine s_gf (p' := 34) rfl (rd_sn rfl H2) rfl rfl ?_
  refine s_con (p' := 35) rfl rfl ?_
  refine s_bz (p' := 36) (z := (nI 1)) rfl rfl rfl (by decide +kernel) ?_
  refine s_pfz (p' := 39) (fs' := [_, _]) rfl rfl (rd_sn rfl H2) rfl rfl rfl rfl ?_
  refine c_ret rfl ?_
  refine s_aldn (p' := 35) rfl rfl rfl ?_
  refine s_gf (p' := 38) rfl (rd_sn rfl (rd_sn rfl H0)) rfl rfl ?_
  refine s_gf (p' := 41) rfl (rd_sn rfl (rd_sn rfl H1)) rfl rfl ?_
  refine c_call (p' := 44) (kc := 97) (ls0 := [_]) rfl rfl rfl rfl rfl (mj_rcv_is (rd_ss rfl (rd_sn rfl H2))) rfl rfl rfl ?_
  refine s_aldn (p' := 1) rfl rfl rfl ?_
  refine s_gf (p' := 4) rfl (rd_ss rfl (rd_sn rfl H2)) rfl rfl ?_
  refine c_iret rfl rfl ?_
  refine c_iret rfl rfl ?_
  refine s_bzL (p' := 8) (z := (lN 1)) rfl rfl rfl (by decide +kernel) ?_
  refine s_lasz (p' := 9) (m := 0) rfl rfl (rd_sn rfl (rd_sn rfl H412)) (by decide +kernel) rfl rfl rfl ?_
  refine s_goto (p' := 15) rfl rfl ?_
  refine s_con (p' := 16) rfl rfl ?_
  refine k_iret rfl rfl ?_
  refine l_ist (p' := 274) (ls' := [_, _, _, _, _, _, _, _, _, _]) rfl rfl rfl rfl rfl ?_
  refine l_aldn (p' := 275) rfl rfl rfl rfl ?_
  refine l_alds (p' := 276) rfl rfl rfl rfl ?_
  refine l_ild (p' := 278) rfl rfl rfl rfl ?_
  refine l_con (p' := 279) rfl rfl rfl ?_
  refine l_bz (p' := 280) (z := (nI 1)) rfl rfl rfl rfl rfl (by decide +kernel) ?_
  refine l_ialz (p' := 281) (m := 1) (z := (xs 1)) rfl rfl (by decide +kernel) rfl rfl rfl ?_
  refine l_bz (p' := 282) (z := (nI n)) rfl rfl rfl rfl rfl hc ?_
  refine l_call (p' := 285) (kc := 99) (ls0 := [_, _]) rfl rfl rfl rfl rfl rfl (mj_rcv_is (rd_sn rfl (rd_sn rfl (rd_sn rfl H400)))) rfl rfl rfl ?_
  refine s_aldn (p' := 1) rfl rfl rfl ?_
  refine s_aldn (p' := 2) rfl rfl rfl ?_
  refine s_gf (p' := 5) rfl (rd_sn rfl (rd_sn rfl (rd_sn rfl H400))) rfl rfl ?_
  refine c_call (p' := 8) (kc := 98) (ls0 := [_]) rfl rfl rfl rfl rfl (mj_rcv_is (k_300 _)) rfl rfl rfl ?_
  refine s_aldn (p' := 1) rfl rfl rfl ?_
  refine s_gf (p' := 4) rfl (k_300 _) rfl rfl ?_
  refine s_lenz (p' := 5) rfl (mj_rdA_cst (k_301 _) (by decide)) rfl rfl ?_
  refine s_aldn (p' := 6) rfl rfl rfl ?_
  refine c_call (p' := 9) (kc := 97) (ls0 := [_]) rfl rfl rfl rfl rfl (mj_rcv_is (k_300 _)) rfl rfl rfl ?_
  refine s_sh (p' := 3) (ls' := _) (st' := .int (nI 1) :: _) (h' := _) rfl rfl rfl rfl ?_
  refine s_if (p' := 6) false rfl (by decide +kernel) rfl ?_
  refine s_aldn (p' := 7) rfl rfl rfl ?_
  refine s_gf (p' := 10) rfl (k_300 _) rfl rfl ?_
  refine s_goto (p' := 14) rfl rfl ?_
  refine c_iret rfl (by decide +kernel) ?_
  refine s_bz (p' := 10) (z := (nI 0)) rfl rfl rfl (by decide +kernel) ?_
  refine c_iret rfl rfl ?_
  refine s_bip (p' := 10) rfl rfl ?_
  refine s_icmp (p' := 17) true rfl (by decide +kernel) rfl ?_
  refine s_con (p' := 18) rfl rfl ?_
  refine c_call (p' := 21) (kc := 98) (ls0 := [_, _]) rfl rfl rfl rfl rfl (mj_rcv_is (rd_sn rfl (rd_sn rfl (rd_sn rfl H400)))) rfl rfl rfl ?_
  refine s_aldn (p' := 1) rfl rfl rfl ?_
  refine s_ildn (p' := 2) rfl rfl rfl ?_
  refine s_pfz (p' := 5) (fs' := [_, _, _, _, _, _, _, _, _, _, _]) rfl rfl (rd_sn rfl (rd_sn rfl (rd_sn rfl H400))) rfl rfl rfl rfl ?_
  refine s_ildn (p' := 6) rfl rfl rfl ?_
  refine s_if (p' := 13) true rfl (by decide +kernel) rfl ?_
  refine s_con (p' := 14) rfl rfl ?_
  refine c_iret rfl (by decide +kernel) ?_
  refine s_if (p' := 26) true rfl (by decide +kernel) rfl ?_
  refine s_newz (p' := 29) (a := 414) rfl (len_s (len_s (len_s (len_s HL)))) rfl rfl ?_
  refine s_dupr (p' := 30) rfl rfl ?_
  refine c_call (p' := 33) (kc := 98) (ls0 := [_]) rfl rfl rfl rfl rfl (mj_rcv_is (rd_nw rfl (len_s (len_s (len_s (len_s HL)))))) rfl rfl rfl ?_
  refine s_aldn (p' := 1) rfl rfl rfl ?_
  refine s_bip (p' := 3) rfl rfl ?_
  refine c_call (p' := 6) (kc := 97) (ls0 := [_, _]) rfl rfl rfl rfl rfl (mj_rcv_is (rd_nw rfl (len_s (len_s (len_s (len_s HL)))))) rfl rfl rfl ?_
  refine s_aldn (p' := 1) rfl rfl rfl ?_
  refine s_primN (p' := 4) (q := 3) rfl rfl rfl rfl rfl rfl rfl rfl ?_
  refine s_sh (p' := 7) (ls' := _) (st' := .int (nI 1) :: _) (h' := _) rfl rfl rfl rfl ?_
  refine s_if (p' := 10) false rfl (by decide +kernel) rfl ?_
  refine s_aldn (p' := 11) rfl rfl rfl ?_
  refine s_ildn (p' := 12) rfl rfl rfl ?_
  refine s_naz (p' := 14) (a := 415) (n := 16) rfl (len_a (len_s (len_s (len_s (len_s HL)))) rfl) rfl rfl ?_
  refine s_pfz (p' := 17) (fs' := [_, _, _, _]) rfl rfl (rd_app (rd_nw rfl (len_s (len_s (len_s (len_s HL)))))) rfl rfl rfl rfl ?_
  refine s_aldn (p' := 18) rfl rfl rfl ?_
  refine s_con (p' := 19) rfl rfl ?_
  refine s_pfz (p' := 22) (fs' := [_, _, _, _]) rfl rfl (rd_ss rfl (rd_app (rd_nw rfl (len_s (len_s (len_s (len_s HL))))))) rfl rfl rfl rfl ?_
  refine s_goto (p' := 38) rfl rfl ?_
  refine c_ret rfl ?_
  refine c_ret rfl ?_
  refine s_aldn (p' := 34) rfl rfl rfl ?_
  refine s_sp (p' := 35) (ls' := _) rfl rfl rfl ?_
  refine s_gf (p' := 38) rfl (rd_sn rfl (rd_sn rfl (rd_app (rd_app (rd_ss rfl (rd_sn rfl (rd_sn rfl (rd_sn rfl H400)))))))) rfl rfl ?_
  refine c_call (p' := 41) (kc := 98) (ls0 := [_, _]) rfl rfl rfl rfl rfl (mj_rcv_is (rd_ss rfl (rd_ss rfl (rd_app (rd_nw rfl (len_s (len_s (len_s (len_s HL))))))))) rfl rfl rfl ?_
  refine s_aldn (p' := 1) rfl rfl rfl ?_
  refine s_aldn (p' := 2) rfl rfl rfl ?_
  refine c_call (p' := 5) (kc := 97) (ls0 := [_, _, _]) rfl rfl rfl rfl rfl (mj_rcv_is (rd_ss rfl (rd_ss rfl (rd_app (rd_nw rfl (len_s (len_s (len_s (len_s HL))))))))) rfl rfl rfl ?_
  refine s_aldn (p' := 1) rfl rfl rfl ?_
  refine s_nonnull (p' := 9) (x := some 1000300) true rfl rfl rfl ?_
  refine s_aldn (p' := 10) rfl rfl rfl ?_
  refine c_call (p' := 13) (kc := 96) (ls0 := [_]) rfl rfl rfl rfl rfl (mj_rcv_is (k_300 _)) rfl rfl rfl ?_
  refine s_aldn (p' := 1) rfl rfl rfl ?_
  refine s_gf (p' := 4) rfl (k_300 _) rfl rfl ?_
  refine s_lenz (p' := 5) rfl (mj_rdA_cst (k_301 _) (by decide)) rfl rfl ?_
  refine s_aldn (p' := 6) rfl rfl rfl ?_
  refine c_call (p' := 9) (kc := 95) (ls0 := [_]) rfl rfl rfl rfl rfl (mj_rcv_is (k_300 _)) rfl rfl rfl ?_
  refine s_sh (p' := 3) (ls' := _) (st' := .int (nI 1) :: _) (h' := _) rfl rfl rfl rfl ?_
  refine s_if (p' := 6) false rfl (by decide +kernel) rfl ?_
  refine s_aldn (p' := 7) rfl rfl rfl ?_
  refine s_gf (p' := 10) rfl (k_300 _) rfl rfl ?_
  refine s_goto (p' := 14) rfl rfl ?_
  refine c_iret rfl (by decide +kernel) ?_
  refine s_bz (p' := 10) (z := (nI 0)) rfl rfl rfl (by decide +kernel) ?_
  refine c_iret rfl rfl ?_
  refine s_istn (p' := 14) (ls' := [_, _, _]) rfl rfl rfl rfl ?_
  refine s_aldn (p' := 15) rfl rfl rfl ?_
  refine s_aldn (p' := 16) rfl rfl rfl ?_
  refine s_gf (p' := 19) rfl (rd_ss rfl (rd_ss rfl (rd_app (rd_nw rfl (len_s (len_s (len_s (len_s HL)))))))) rfl rfl ?_
  refine s_ildn (p' := 20) rfl rfl rfl ?_
  refine s_bz (p' := 21) (z := (nI 0)) rfl rfl rfl (by decide +kernel) ?_
  refine c_call (p' := 24) (kc := 96) (ls0 := [_, _, _]) rfl rfl rfl rfl rfl (mj_rcv_is (rd_ss rfl (rd_ss rfl (rd_app (rd_nw rfl (len_s (len_s (len_s (len_s HL))))))))) rfl rfl rfl ?_
  refine s_aldn (p' := 1) rfl rfl rfl ?_
  refine s_gf (p' := 4) rfl (rd_ss rfl (rd_ss rfl (rd_app (rd_nw rfl (len_s (len_s (len_s (len_s HL)))))))) rfl rfl ?_
  refine s_lenz (p' := 5) rfl (mj_rdA_is (rd_sn rfl (rd_sn rfl (rd_nw rfl (len_a (len_s (len_s (len_s (len_s HL)))) rfl)))) (by decide)) rfl rfl ?_
  refine s_aldn (p' := 6) rfl rfl rfl ?_
  refine s_gf (p' := 9) rfl (rd_ss rfl (rd_ss rfl (rd_app (rd_nw rfl (len_s (len_s (len_s (len_s HL)))))))) rfl rfl ?_
  refine s_bz (p' := 10) (z := (nI 16)) rfl rfl rfl (by decide +kernel) ?_
  refine s_istn (p' := 11) (ls' := [_, _, _]) rfl rfl rfl rfl ?_
  refine s_ildn (p' := 12) rfl rfl rfl ?_
  refine s_ildn (p' := 13) rfl rfl rfl ?_
  refine s_bz (p' := 14) (z := (nI 4294967280)) rfl rfl rfl (by decide +kernel) ?_
  refine s_if (p' := 38) true rfl (by decide +kernel) rfl ?_
  refine c_ret rfl ?_
  refine s_aldn (p' := 25) rfl rfl rfl ?_
  refine s_aldn (p' := 26) rfl rfl rfl ?_
  refine s_gf (p' := 29) rfl (rd_ss rfl (rd_ss rfl (rd_app (rd_nw rfl (len_s (len_s (len_s (len_s HL)))))))) rfl rfl ?_
  refine s_aldn (p' := 30) rfl rfl rfl ?_
  refine c_call (p' := 33) (kc := 96) (ls0 := [_, _, _]) rfl rfl rfl rfl rfl (mj_rcv_is (rd_ss rfl (rd_ss rfl (rd_app (rd_nw rfl (len_s (len_s (len_s (len_s HL))))))))) rfl rfl rfl ?_
  refine s_aldn (p' := 1) rfl rfl rfl ?_
  refine s_aldn (p' := 2) rfl rfl rfl ?_
  refine c_call (p' := 5) (kc := 95) (ls0 := [_, _]) rfl rfl rfl rfl rfl (mj_rcv_is (rd_ss rfl (rd_ss rfl (rd_app (rd_nw rfl (len_s (len_s (len_s (len_s HL))))))))) rfl rfl rfl ?_
  refine s_sh (p' := 3) (ls' := _) (st' := .int (nI 1) :: _) (h' := _) rfl rfl rfl rfl ?_
  refine s_if (p' := 6) false rfl (by decide +kernel) rfl ?_
  refine s_aldn (p' := 7) rfl rfl rfl ?_
  refine s_gf (p' := 10) rfl (rd_ss rfl (rd_ss rfl (rd_app (rd_nw rfl (len_s (len_s (len_s (len_s HL)))))))) rfl rfl ?_
  refine s_aldn (p' := 11) rfl rfl rfl ?_
  refine c_call (p' := 14) (kc := 94) (ls0 := [_]) rfl rfl rfl rfl rfl (mj_rcv_is (k_300 _)) rfl rfl rfl ?_
  refine s_sh (p' := 3) (ls' := _) (st' := .int (nI 1) :: _) (h' := _) rfl rfl rfl rfl ?_
  refine s_if (p' := 6) false rfl (by decide +kernel) rfl ?_
  refine s_aldn (p' := 7) rfl rfl rfl ?_
  refine s_gf (p' := 10) rfl (k_300 _) rfl rfl ?_
  refine s_goto (p' := 14) rfl rfl ?_
  refine c_iret rfl (by decide +kernel) ?_
  refine s_icmp (p' := 21) true rfl (by decide +kernel) rfl ?_
  refine c_ret rfl ?_
  refine s_aldn (p' := 6) rfl rfl rfl ?_
  refine s_aldn (p' := 7) rfl rfl rfl ?_
  refine s_gf (p' := 10) rfl (rd_ss rfl (rd_ss rfl (rd_app (rd_nw rfl (len_s (len_s (len_s (len_s HL)))))))) rfl rfl ?_
  refine s_ildn (p' := 11) rfl rfl rfl ?_
  refine s_aldn (p' := 12) rfl rfl rfl ?_
  refine s_gf (p' := 15) rfl (rd_ss rfl (rd_ss rfl (rd_app (rd_nw rfl (len_s (len_s (len_s (len_s HL)))))))) rfl rfl ?_
  refine c_call (p' := 18) (kc := 95) (ls0 := [_, _, _, _]) rfl rfl rfl rfl rfl (mj_rcv_is (k_300 _)) rfl rfl rfl ?_
  refine s_aldn (p' := 1) rfl rfl rfl ?_
  refine c_call (p' := 4) (kc := 94) (ls0 := [_]) rfl rfl rfl rfl rfl (mj_rcv_is (k_300 _)) rfl rfl rfl ?_
  refine s_sh (p' := 3) (ls' := _) (st' := .int (nI 1) :: _) (h' := _) rfl rfl rfl rfl ?_
  refine s_if (p' := 6) false rfl (by decide +kernel) rfl ?_
  refine s_aldn (p' := 7) rfl rfl rfl ?_
  refine s_gf (p' := 10) rfl (k_300 _) rfl rfl ?_
  refine s_goto (p' := 14) rfl rfl ?_
  refine c_iret rfl (by decide +kernel) ?_
  refine s_ildn (p' := 5) rfl rfl rfl ?_
  refine s_icmp (p' := 8) false rfl (by decide +kernel) rfl ?_
  refine s_aldn (p' := 9) rfl rfl rfl ?_
  refine s_gf (p' := 12) rfl (k_300 _) rfl rfl ?_
  refine s_con (p' := 13) rfl rfl ?_
  refine s_aldn (p' := 14) rfl rfl rfl ?_
  refine s_ildn (p' := 15) rfl rfl rfl ?_
  refine s_ildn (p' := 16) rfl rfl rfl ?_
  refine s_bz (p' := 17) (z := (nI 0)) rfl rfl rfl (by decide +kernel) ?_
  refine s_aldn (p' := 18) rfl rfl rfl ?_
  refine s_gf (p' := 21) rfl (k_300 _) rfl rfl ?_
  refine s_lenz (p' := 22) rfl (mj_rdA_cst (k_301 _) (by decide)) rfl rfl ?_
  refine s_primN (p' := 25) (q := 0) rfl rfl rfl rfl rfl rfl (p_cpyB rfl (mj_rdA_cst (k_301 _) (by decide)) (mj_rdA_is (rd_sn rfl (rd_sn rfl (rd_nw rfl (len_a (len_s (len_s (len_s (len_s HL)))) rfl)))) (by decide)) rfl (by decide +kernel)) rfl ?_
  refine s_goto (p' := 43) rfl rfl ?_
  refine c_ret rfl ?_
  refine c_ret rfl ?_
  refine s_aldn (p' := 34) rfl rfl rfl ?_
  refine s_dupr (p' := 35) rfl rfl ?_
  refine s_gf (p' := 38) rfl (rd_sn rfl (rd_ss rfl (rd_ss rfl (rd_app (rd_nw rfl (len_s (len_s (len_s (len_s HL))))))))) rfl rfl ?_
  refine s_ildn (p' := 39) rfl rfl rfl ?_
  refine s_bz (p' := 40) (z := (nI 0)) rfl rfl rfl (by decide +kernel) ?_
  refine s_pfz (p' := 43) (fs' := [_, _, _, _]) rfl rfl (rd_sn rfl (rd_ss rfl (rd_ss rfl (rd_app (rd_nw rfl (len_s (len_s (len_s (len_s HL))))))))) rfl rfl rfl rfl ?_
  refine s_aldn (p' := 44) rfl rfl rfl ?_
  refine c_aret rfl ?_
  refine s_sp (p' := 6) (ls' := _) rfl rfl rfl ?_
  refine s_aldn (p' := 7) rfl rfl rfl ?_
  refine c_aret rfl ?_
  refine s_ildn (p' := 42) rfl rfl rfl ?_
  refine c_call (p' := 45) (kc := 98) (ls0 := [_, _]) rfl rfl rfl rfl rfl (mj_rcv_is (rd_ss rfl (rd_sn rfl (rd_ss rfl (rd_ss rfl (rd_app (rd_nw rfl (len_s (len_s (len_s (len_s HL))))))))))) rfl rfl rfl ?_
  refine s_aldn (p' := 1) rfl rfl rfl ?_
  refine s_ildn (p' := 2) rfl rfl rfl ?_
  refine c_call (p' := 5) (kc := 97) (ls0 := [_, _]) rfl rfl rfl rfl rfl (mj_rcv_is (rd_ss rfl (rd_sn rfl (rd_ss rfl (rd_ss rfl (rd_app (rd_nw rfl (len_s (len_s (len_s (len_s HL))))))))))) rfl rfl rfl ?_
  refine s_aldn (p' := 1) rfl rfl rfl ?_
  refine s_aldn (p' := 2) rfl rfl rfl ?_
  refine s_gf (p' := 5) rfl (rd_ss rfl (rd_sn rfl (rd_ss rfl (rd_ss rfl (rd_app (rd_nw rfl (len_s (len_s (len_s (len_s HL)))))))))) rfl rfl ?_
  refine s_con (p' := 6) rfl rfl ?_
  refine s_bz (p' := 7) (z := (nI 1)) rfl rfl rfl (by decide +kernel) ?_
  refine c_call (p' := 10) (kc := 96) (ls0 := [_, _, _]) rfl rfl rfl rfl rfl (mj_rcv_is (rd_ss rfl (rd_sn rfl (rd_ss rfl (rd_ss rfl (rd_app (rd_nw rfl (len_s (len_s (len_s (len_s HL))))))))))) rfl rfl rfl ?_
  refine s_aldn (p' := 1) rfl rfl rfl ?_
  refine s_gf (p' := 4) rfl (rd_ss rfl (rd_sn rfl (rd_ss rfl (rd_ss rfl (rd_app (rd_nw rfl (len_s (len_s (len_s (len_s HL)))))))))) rfl rfl ?_
  refine s_lenz (p' := 5) rfl (mj_rdA_is (rd_sn rfl (rd_ss rfl (rd_sn rfl (rd_sn rfl (rd_nw rfl (len_a (len_s (len_s (len_s (len_s HL)))) rfl)))))) (by decide)) rfl rfl ?_
  refine s_aldn (p' := 6) rfl rfl rfl ?_
  refine s_gf (p' := 9) rfl (rd_ss rfl (rd_sn rfl (rd_ss rfl (rd_ss rfl (rd_app (rd_nw rfl (len_s (len_s (len_s (len_s HL)))))))))) rfl rfl ?_
  refine s_bz (p' := 10) (z := (nI 16)) rfl rfl rfl (by decide +kernel) ?_
  refine s_istn (p' := 11) (ls' := [_, _, _]) rfl rfl rfl rfl ?_
  refine s_ildn (p' := 12) rfl rfl rfl ?_
  refine s_ildn (p' := 13) rfl rfl rfl ?_
  refine s_bz (p' := 14) (z := (nI 4294967281)) rfl rfl rfl (by decide +kernel) ?_
  refine s_if (p' := 38) true rfl (by decide +kernel) rfl ?_
  refine c_ret rfl ?_
  refine s_aldn (p' := 11) rfl rfl rfl ?_
  refine c_call (p' := 14) (kc := 96) (ls0 := [_]) rfl rfl rfl rfl rfl (mj_rcv_is (rd_ss rfl (rd_sn rfl (rd_ss rfl (rd_ss rfl (rd_app (rd_nw rfl (len_s (len_s (len_s (len_s HL))))))))))) rfl rfl rfl ?_
  refine s_sh (p' := 3) (ls' := _) (st' := .int (nI 1) :: _) (h' := _) rfl rfl rfl rfl ?_
  refine s_if (p' := 6) false rfl (by decide +kernel) rfl ?_
  refine s_aldn (p' := 7) rfl rfl rfl ?_
  refine s_gf (p' := 10) rfl (rd_ss rfl (rd_sn rfl (rd_ss rfl (rd_ss rfl (rd_app (rd_nw rfl (len_s (len_s (len_s (len_s HL)))))))))) rfl rfl ?_
  refine s_if (p' := 13) false rfl (by decide +kernel) rfl ?_
  refine s_con (p' := 14) rfl rfl ?_
  refine s_goto (p' := 18) rfl rfl ?_
  refine c_iret rfl (by decide +kernel) ?_
  refine s_if (p' := 17) false rfl (by decide +kernel) rfl ?_
  refine s_ildn (p' := 18) rfl rfl rfl ?_
  refine c_call (p' := 21) (kc := 96) (ls0 := [_]) rfl rfl rfl rfl rfl rfl rfl rfl rfl ?_
  refine s_ildn (p' := 1) rfl rfl rfl ?_
  refine s_sip (p' := 4) rfl rfl ?_
  refine s_icmp (p' := 11) true rfl ((cg_gt (w := 255) (by decide +kernel)).trans (decide_eq_true (by rw [mI_ti (by omega)]; omega))) rfl ?_
  refine s_con (p' := 12) rfl rfl ?_
  refine c_iret rfl (by decide +kernel) ?_
  refine s_if (p' := 45) true rfl (by decide +kernel) rfl ?_
  refine s_aldn (p' := 46) rfl rfl rfl ?_
  refine c_call (p' := 49) (kc := 96) (ls0 := [_]) rfl rfl rfl rfl rfl (mj_rcv_is (rd_ss rfl (rd_sn rfl (rd_ss rfl (rd_ss rfl (rd_app (rd_nw rfl (len_s (len_s (len_s (len_s HL))))))))))) rfl rfl rfl ?_
  refine s_sh (p' := 3) (ls' := _) (st' := .int (nI 1) :: _) (h' := _) rfl rfl rfl rfl ?_
  refine s_if (p' := 6) false rfl (by decide +kernel) rfl ?_
  refine s_aldn (p' := 7) rfl rfl rfl ?_
  refine s_gf (p' := 10) rfl (rd_ss rfl (rd_sn rfl (rd_ss rfl (rd_ss rfl (rd_app (rd_nw rfl (len_s (len_s (len_s (len_s HL)))))))))) rfl rfl ?_
  refine s_if (p' := 13) false rfl (by decide +kernel) rfl ?_
  refine s_con (p' := 14) rfl rfl ?_
  refine s_goto (p' := 18) rfl rfl ?_
  refine c_iret rfl (by decide +kernel) ?_
  refine s_if (p' := 52) false rfl (by decide +kernel) rfl ?_
  refine s_aldn (p' := 53) rfl rfl rfl ?_
  refine c_call (p' := 56) (kc := 96) (ls0 := [_, _]) rfl rfl rfl rfl rfl (mj_rcv_is (rd_ss rfl (rd_sn rfl (rd_ss rfl (rd_ss rfl (rd_app (rd_nw rfl (len_s (len_s (len_s (len_s HL))))))))))) rfl rfl rfl ?_
  refine s_aldn (p' := 1) rfl rfl rfl ?_
  refine c_call (p' := 4) (kc := 95) (ls0 := [_]) rfl rfl rfl rfl rfl (mj_rcv_is (rd_ss rfl (rd_sn rfl (rd_ss rfl (rd_ss rfl (rd_app (rd_nw rfl (len_s (len_s (len_s (len_s HL))))))))))) rfl rfl rfl ?_
  refine s_sh (p' := 3) (ls' := _) (st' := .int (nI 1) :: _) (h' := _) rfl rfl rfl rfl ?_
  refine s_if (p' := 6) false rfl (by decide +kernel) rfl ?_
  refine s_aldn (p' := 7) rfl rfl rfl ?_
  refine s_gf (p' := 10) rfl (rd_ss rfl (rd_sn rfl (rd_ss rfl (rd_ss rfl (rd_app (rd_nw rfl (len_s (len_s (len_s (len_s HL)))))))))) rfl rfl ?_
  refine s_if (p' := 13) false rfl (by decide +kernel) rfl ?_
  refine s_con (p' := 14) rfl rfl ?_
  refine s_goto (p' := 18) rfl rfl ?_
  refine c_iret rfl (by decide +kernel) ?_
  refine s_if (p' := 8) true rfl (by decide +kernel) rfl ?_
  refine s_aldn (p' := 9) rfl rfl rfl ?_
  refine s_gf (p' := 12) rfl (rd_ss rfl (rd_sn rfl (rd_ss rfl (rd_ss rfl (rd_app (rd_nw rfl (len_s (len_s (len_s (len_s HL)))))))))) rfl rfl ?_
  refine s_lenz (p' := 13) rfl (mj_rdA_is (rd_sn rfl (rd_ss rfl (rd_sn rfl (rd_sn rfl (rd_nw rfl (len_a (len_s (len_s (len_s (len_s HL)))) rfl)))))) (by decide)) rfl rfl ?_
  refine c_call (p' := 16) (kc := 95) (ls0 := [_]) rfl rfl rfl rfl rfl rfl rfl rfl rfl ?_
  refine s_ildn (p' := 1) rfl rfl rfl ?_
  refine c_call (p' := 4) (kc := 94) (ls0 := [_]) rfl rfl rfl rfl rfl rfl rfl rfl rfl ?_
  refine s_ildn (p' := 1) rfl rfl rfl ?_
  refine s_if (p' := 12) true rfl (by decide +kernel) rfl ?_
  refine s_ildn (p' := 13) rfl rfl rfl ?_
  refine s_sh (p' := 15) (ls' := _) (st' := .int (nI 1073741823) :: _) (h' := _) rfl rfl rfl rfl ?_
  refine s_icmp (p' := 55) true rfl (by decide +kernel) rfl ?_
  refine s_ildn (p' := 56) rfl rfl rfl ?_
  refine s_con (p' := 57) rfl rfl ?_
  refine s_bz (p' := 58) (z := (nI 32)) rfl rfl rfl (by decide +kernel) ?_
  refine c_iret rfl rfl ?_
  refine s_naz (p' := 6) (a := 416) (n := 32) rfl (len_s (len_s (len_s (len_s (len_a (len_a (len_s (len_s (len_s (len_s HL)))) rfl) rfl))))) rfl rfl ?_
  refine c_aret rfl ?_
  refine s_astn (p' := 17) (ls' := [_, _]) rfl rfl rfl rfl ?_
  refine s_aldn (p' := 18) rfl rfl rfl ?_
  refine s_gf (p' := 21) rfl (rd_app (rd_ss rfl (rd_sn rfl (rd_ss rfl (rd_ss rfl (rd_app (rd_nw rfl (len_s (len_s (len_s (len_s HL))))))))))) rfl rfl ?_
  refine s_con (p' := 22) rfl rfl ?_
  refine s_aldn (p' := 23) rfl rfl rfl ?_
  refine s_con (p' := 24) rfl rfl ?_
  refine s_aldn (p' := 25) rfl rfl rfl ?_
  refine s_gf (p' := 28) rfl (rd_app (rd_ss rfl (rd_sn rfl (rd_ss rfl (rd_ss rfl (rd_app (rd_nw rfl (len_s (len_s (len_s (len_s HL))))))))))) rfl rfl ?_
  refine c_call (p' := 31) (kc := 95) (ls0 := [_, _, _, _, _]) rfl rfl rfl rfl rfl rfl rfl rfl rfl ?_
  refine s_aldn (p' := 1) rfl rfl rfl ?_
  refine s_ildn (p' := 2) rfl rfl rfl ?_
  refine s_aldn (p' := 3) rfl rfl rfl ?_
  refine s_ildn (p' := 4) rfl rfl rfl ?_
  refine s_ild (p' := 6) rfl rfl rfl ?_
  refine c_call (p' := 9) (kc := 94) (ls0 := [_, _, _, _, _, _]) rfl rfl rfl rfl rfl rfl rfl rfl rfl ?_
  refine s_ildn (p' := 1) rfl rfl rfl ?_
  refine s_ild (p' := 3) rfl rfl rfl ?_
  refine s_aldn (p' := 4) rfl rfl rfl ?_
  refine c_call (p' := 7) (kc := 93) (ls0 := [_, _, _]) rfl rfl rfl rfl rfl rfl rfl rfl rfl ?_
  refine s_ildn (p' := 1) rfl rfl rfl ?_
  refine s_ildn (p' := 2) rfl rfl rfl ?_
  refine s_aldn (p' := 3) rfl rfl rfl ?_
  refine c_call (p' := 6) (kc := 92) (ls0 := [_]) rfl rfl rfl rfl rfl rfl rfl rfl rfl ?_
  refine s_aldn (p' := 1) rfl rfl rfl ?_
  refine s_lenz (p' := 2) rfl (mj_rdA_is (rd_nw rfl (len_s (len_s (len_s (len_s (len_a (len_a (len_s (len_s (len_s (len_s HL)))) rfl) rfl)))))) (by decide)) rfl rfl ?_
  refine s_con (p' := 3) rfl rfl ?_
  refine s_bz (p' := 4) (z := (nI 16)) rfl rfl rfl (by decide +kernel) ?_
  refine c_iret rfl rfl ?_
  refine c_call (p' := 9) (kc := 92) (ls0 := [_, _, _]) rfl rfl rfl rfl rfl rfl rfl rfl rfl ?_
  refine s_ildn (p' := 1) rfl rfl rfl ?_
  refine s_ildn (p' := 2) rfl rfl rfl ?_
  refine s_ildn (p' := 3) rfl rfl rfl ?_
  refine s_sh (p' := 6) (ls' := _) (st' := .retAddr 0 :: _) (h' := _) rfl rfl rfl rfl ?_
  refine c_call (p' := 9) (kc := 91) (ls0 := [_, _, _, _]) rfl rfl rfl rfl rfl rfl rfl rfl rfl ?_
  refine s_ildn (p' := 1) rfl rfl rfl ?_
  refine s_ildn (p' := 2) rfl rfl rfl ?_
  refine s_bz (p' := 3) (z := (nI 16)) rfl rfl rfl (by decide +kernel) ?_
  refine s_ildn (p' := 4) rfl rfl rfl ?_
  refine s_bz (p' := 5) (z := (nI 16)) rfl rfl rfl (by decide +kernel) ?_
  refine s_if (p' := 8) false rfl (by decide +kernel) rfl ?_
  refine s_ildn (p' := 9) rfl rfl rfl ?_
  refine s_ildn (p' := 10) rfl rfl rfl ?_
  refine s_ildn (p' := 11) rfl rfl rfl ?_
  refine s_bz (p' := 12) (z := (nI 16)) rfl rfl rfl (by decide +kernel) ?_
  refine s_icmp (p' := 23) true rfl (by decide +kernel) rfl ?_
  refine s_ildn (p' := 24) rfl rfl rfl ?_
  refine c_iret rfl rfl ?_
  refine c_iret rfl rfl ?_
  refine s_sp (p' := 10) (ls' := _) rfl rfl rfl ?_
  refine c_ret rfl ?_
  refine s_con (p' := 8) rfl rfl ?_
  refine s_ist (p' := 10) (ls' := [_, _, _, _, _, _]) rfl rfl rfl rfl ?_
  refine s_ild (p' := 12) rfl rfl rfl ?_
  refine s_ild (p' := 14) rfl rfl rfl ?_
  refine s_icmp (p' := 41) true rfl (by decide +kernel) rfl ?_
  refine c_ret rfl ?_
  refine c_ret rfl ?_
  refine s_aldn (p' := 32) rfl rfl rfl ?_
  refine s_aldn (p' := 33) rfl rfl rfl ?_
  refine s_pfz (p' := 36) (fs' := [_, _, _, _]) rfl rfl (rd_app (rd_ss rfl (rd_sn rfl (rd_ss rfl (rd_ss rfl (rd_app (rd_nw rfl (len_s (len_s (len_s (len_s HL))))))))))) rfl rfl rfl rfl ?_
  refine s_aldn (p' := 37) rfl rfl rfl ?_
  refine s_con (p' := 38) rfl rfl ?_
  refine s_pfz (p' := 41) (fs' := [_, _, _, _]) rfl rfl (rd_ss rfl (rd_app (rd_ss rfl (rd_sn rfl (rd_ss rfl (rd_ss rfl (rd_app (rd_nw rfl (len_s (len_s (len_s (len_s HL)))))))))))) rfl rfl rfl rfl ?_
  refine c_ret rfl ?_
  refine s_aldn (p' := 57) rfl rfl rfl ?_
  refine s_gf (p' := 60) rfl (rd_ss rfl (rd_ss rfl (rd_app (rd_ss rfl (rd_sn rfl (rd_ss rfl (rd_ss rfl (rd_app (rd_nw rfl (len_s (len_s (len_s (len_s HL))))))))))))) rfl rfl ?_
  refine s_aldn (p' := 61) rfl rfl rfl ?_
  refine s_dupr (p' := 62) rfl rfl ?_
  refine s_gf (p' := 65) rfl (rd_ss rfl (rd_ss rfl (rd_app (rd_ss rfl (rd_sn rfl (rd_ss rfl (rd_ss rfl (rd_app (rd_nw rfl (len_s (len_s (len_s (len_s HL))))))))))))) rfl rfl ?_
  refine s_sp (p' := 66) (ls' := _) rfl rfl rfl ?_
  refine s_con (p' := 67) rfl rfl ?_
  refine s_bz (p' := 68) (z := (nI 1)) rfl rfl rfl (by decide +kernel) ?_
  refine s_pfz (p' := 71) (fs' := [_, _, _, _]) rfl rfl (rd_ss rfl (rd_ss rfl (rd_app (rd_ss rfl (rd_sn rfl (rd_ss rfl (rd_ss rfl (rd_app (rd_nw rfl (len_s (len_s (len_s (len_s HL))))))))))))) rfl rfl rfl rfl ?_
  refine s_ildn (p' := 72) rfl rfl rfl ?_
  refine c_call (p' := 75) (kc := 96) (ls0 := [_, _, _]) rfl rfl rfl rfl rfl rfl rfl rfl rfl ?_
  refine s_ildn (p' := 1) rfl rfl rfl ?_
  refine s_aldn (p' := 2) rfl rfl rfl ?_
  refine c_call (p' := 5) (kc := 95) (ls0 := [_, _]) rfl rfl rfl rfl rfl rfl rfl rfl rfl ?_
  refine s_ildn (p' := 1) rfl rfl rfl ?_
  refine s_aldn (p' := 2) rfl rfl rfl ?_
  refine c_call (p' := 5) (kc := 94) (ls0 := [_]) rfl rfl rfl rfl rfl rfl rfl rfl rfl ?_
  refine s_aldn (p' := 1) rfl rfl rfl ?_
  refine s_lenz (p' := 2) rfl (mj_rdA_is (rd_sn rfl (rd_sn rfl (rd_sn rfl (rd_nw rfl (len_s (len_s (len_s (len_s (len_a (len_a (len_s (len_s (len_s (len_s HL)))) rfl) rfl))))))))) (by decide)) rfl rfl ?_
  refine s_con (p' := 3) rfl rfl ?_
  refine s_bz (p' := 4) (z := (nI 16)) rfl rfl rfl (by decide +kernel) ?_
  refine c_iret rfl rfl ?_
  refine c_call (p' := 8) (kc := 94) (ls0 := [_, _]) rfl rfl rfl rfl rfl rfl rfl rfl rfl ?_
  refine s_ildn (p' := 1) rfl rfl rfl ?_
  refine s_ildn (p' := 2) rfl rfl rfl ?_
  refine s_sh (p' := 5) (ls' := _) (st' := .retAddr 0 :: _) (h' := _) rfl rfl rfl rfl ?_
  refine c_call (p' := 8) (kc := 93) (ls0 := [_, _, _]) rfl rfl rfl rfl rfl rfl rfl rfl rfl ?_
  refine s_ildn (p' := 1) rfl rfl rfl ?_
  refine s_if (p' := 4) false rfl (by decide +kernel) rfl ?_
  refine s_ildn (p' := 5) rfl rfl rfl ?_
  refine s_ildn (p' := 6) rfl rfl rfl ?_
  refine s_icmp (p' := 16) true rfl (by decide +kernel) rfl ?_
  refine s_ildn (p' := 17) rfl rfl rfl ?_
  refine c_iret rfl rfl ?_
  refine s_sp (p' := 9) (ls' := _) rfl rfl rfl ?_
  refine c_ret rfl ?_
  refine c_ret rfl ?_
  refine s_aldn (p' := 6) rfl rfl rfl ?_
  refine s_ildn (p' := 7) rfl rfl rfl ?_
  refine s_ildn (p' := 8) rfl rfl rfl ?_
  refine c_call (p' := 11) (kc := 95) (ls0 := [_, _, _]) rfl rfl rfl rfl rfl rfl rfl rfl rfl ?_
  refine s_sh (p' := 3) (ls' := _) (st' := .int (nI 1) :: _) (h' := _) rfl rfl rfl rfl ?_
  refine s_if (p' := 28) true rfl (by decide +kernel) rfl ?_
  refine s_ildn (p' := 29) rfl rfl rfl ?_
  refine s_con (p' := 30) rfl rfl ?_
  refine s_bz (p' := 31) (z := (nI 0)) rfl rfl rfl (by decide +kernel) ?_
  refine s_istn (p' := 32) (ls' := [_, _, _]) rfl rfl rfl rfl ?_
  refine s_aldn (p' := 33) rfl rfl rfl ?_
  refine s_ildn (p' := 34) rfl rfl rfl ?_
  refine s_incz (p' := 37) (w := (nI 1)) (ls' := [_, _, _]) rfl rfl rfl (by decide +kernel) rfl rfl ?_
  refine s_ildn (p' := 38) rfl rfl rfl ?_
  refine s_sh (p' := 41) (ls' := _) (st' := .int (nI 0) :: _) (h' := _) rfl rfl rfl rfl ?_
  refine s_bz (p' := 42) (z := r0) rfl rfl rfl hr0 ?_
  refine s_bz (p' := 43) (z := b0) rfl rfl rfl hb0 ?_
  refine s_bas1z (p' := 44) (m := 0) (w := b0) rfl rfl (rd_sn rfl (rd_sn rfl (rd_sn rfl (rd_nw rfl (len_s (len_s (len_s (len_s (len_a (len_a (len_s (len_s (len_s (len_s HL)))) rfl) rfl))))))))) (by decide +kernel) rfl hm0 rfl rfl ?_
  refine s_aldn (p' := 45) rfl rfl rfl ?_
  refine s_ildn (p' := 46) rfl rfl rfl ?_
  refine s_ildn (p' := 47) rfl rfl rfl ?_
  refine s_sh (p' := 50) (ls' := _) (st' := .int (nI 8) :: _) (h' := _) rfl rfl rfl rfl ?_
  refine s_bz (p' := 51) (z := r1) rfl rfl rfl hr1 ?_
  refine s_bz (p' := 52) (z := b1) rfl rfl rfl hb1 ?_
  refine s_bas1z (p' := 53) (m := 1) (w := b1) rfl rfl (rd_ss rfl (rd_sn rfl (rd_sn rfl (rd_sn rfl (rd_nw rfl (len_s (len_s (len_s (len_s (len_a (len_a (len_s (len_s (len_s (len_s HL)))) rfl) rfl)))))))))) (by decide +kernel) rfl hm1 rfl rfl ?_
  refine c_ret rfl ?_
  refine c_ret rfl ?_
  refine s_aldn (p' := 76) rfl rfl rfl ?_
  refine c_aret rfl ?_
  refine s_sp (p' := 6) (ls' := _) rfl rfl rfl ?_
  refine s_aldn (p' := 7) rfl rfl rfl ?_
  refine c_aret rfl ?_
  refine c_call (p' := 48) (kc := 98) (ls0 := [_]) rfl rfl rfl rfl rfl (mj_rcv_is (rd_sn rfl (rd_sn rfl (rd_ss rfl (rd_ss rfl (rd_ss rfl (rd_app (rd_ss rfl (rd_sn rfl (rd_ss rfl (rd_ss rfl (rd_app (rd_nw rfl (len_s (len_s (len_s (len_s HL))))))))))))))))) rfl rfl rfl ?_
  refine s_newz (p' := 3) (a := 417) rfl (len_s (len_s (len_s (len_s (len_s (len_a (len_s (len_s (len_s (len_s (len_a (len_a (len_s (len_s (len_s (len_s HL)))) rfl) rfl))))) rfl)))))) rfl rfl ?_
  refine s_dupr (p' := 4) rfl rfl ?_
  refine s_aldn (p' := 5) rfl rfl rfl ?_
  refine c_call (p' := 8) (kc := 97) (ls0 := [_, _]) rfl rfl rfl rfl rfl (mj_rcv_is (rd_nw rfl (len_s (len_s (len_s (len_s (len_s (len_a (len_s (len_s (len_s (len_s (len_a (len_a (len_s (len_s (len_s (len_s HL)))) rfl) rfl))))) rfl)))))))) rfl rfl rfl ?_
  refine s_aldn (p' := 1) rfl rfl rfl ?_
  refine s_aldn (p' := 2) rfl rfl rfl ?_
  refine s_sp (p' := 3) (ls' := _) rfl rfl rfl ?_
  refine c_call (p' := 6) (kc := 96) (ls0 := [_, _, _, _, _]) rfl rfl rfl rfl rfl (mj_rcv_is (rd_nw rfl (len_s (len_s (len_s (len_s (len_s (len_a (len_s (len_s (len_s (len_s (len_a (len_a (len_s (len_s (len_s (len_s HL)))) rfl) rfl))))) rfl)))))))) rfl rfl rfl ?_
  refine s_aldn (p' := 1) rfl rfl rfl ?_
  refine s_primN (p' := 4) (q := 3) rfl rfl rfl rfl rfl rfl rfl rfl ?_
  refine s_aldn (p' := 5) rfl rfl rfl ?_
  refine c_call (p' := 8) (kc := 95) (ls0 := [_]) rfl rfl rfl rfl rfl (mj_rcv_is (rd_app (rd_sn rfl (rd_sn rfl (rd_ss rfl (rd_ss rfl (rd_ss rfl (rd_app (rd_ss rfl (rd_sn rfl (rd_ss rfl (rd_ss rfl (rd_app (rd_nw rfl (len_s (len_s (len_s (len_s HL)))))))))))))))))) rfl rfl rfl ?_
  refine s_aldn (p' := 1) rfl rfl rfl ?_
  refine s_gf (p' := 4) rfl (rd_app (rd_sn rfl (rd_sn rfl (rd_ss rfl (rd_ss rfl (rd_ss rfl (rd_app (rd_ss rfl (rd_sn rfl (rd_ss rfl (rd_ss rfl (rd_app (rd_nw rfl (len_s (len_s (len_s (len_s HL))))))))))))))))) rfl rfl ?_
  refine c_aret rfl ?_
  refine s_astn (p' := 9) (ls' := [_, _, _, _, _]) rfl rfl rfl rfl ?_
  refine s_aldn (p' := 10) rfl rfl rfl ?_
  refine c_call (p' := 13) (kc := 95) (ls0 := [_]) rfl rfl rfl rfl rfl (mj_rcv_is (rd_app (rd_sn rfl (rd_sn rfl (rd_ss rfl (rd_ss rfl (rd_ss rfl (rd_app (rd_ss rfl (rd_sn rfl (rd_ss rfl (rd_ss rfl (rd_app (rd_nw rfl (len_s (len_s (len_s (len_s HL)))))))))))))))))) rfl rfl rfl ?_
  refine s_aldn (p' := 1) rfl rfl rfl ?_
  refine c_call (p' := 4) (kc := 94) (ls0 := [_]) rfl rfl rfl rfl rfl (mj_rcv_is (rd_app (rd_sn rfl (rd_sn rfl (rd_ss rfl (rd_ss rfl (rd_ss rfl (rd_app (rd_ss rfl (rd_sn rfl (rd_ss rfl (rd_ss rfl (rd_app (rd_nw rfl (len_s (len_s (len_s (len_s HL)))))))))))))))))) rfl rfl rfl ?_
  refine s_aldn (p' := 1) rfl rfl rfl ?_
  refine s_gf (p' := 4) rfl (rd_app (rd_sn rfl (rd_sn rfl (rd_ss rfl (rd_ss rfl (rd_ss rfl (rd_app (rd_ss rfl (rd_sn rfl (rd_ss rfl (rd_ss rfl (rd_app (rd_nw rfl (len_s (len_s (len_s (len_s HL))))))))))))))))) rfl rfl ?_
  refine c_iret rfl rfl ?_
  refine c_iret rfl rfl ?_
  refine s_ist (p' := 15) (ls' := [_, _, _, _, _]) rfl rfl rfl rfl ?_
  refine s_aldn (p' := 16) rfl rfl rfl ?_
  refine c_call (p' := 19) (kc := 95) (ls0 := [_]) rfl rfl rfl rfl rfl (mj_rcv_is (rd_app (rd_sn rfl (rd_sn rfl (rd_ss rfl (rd_ss rfl (rd_ss rfl (rd_app (rd_ss rfl (rd_sn rfl (rd_ss rfl (rd_ss rfl (rd_app (rd_nw rfl (len_s (len_s (len_s (len_s HL)))))))))))))))))) rfl rfl rfl ?_
  refine s_sh (p' := 3) (ls' := _) (st' := .int (nI 1) :: _) (h' := _) rfl rfl rfl rfl ?_
  refine s_if (p' := 6) false rfl (by decide +kernel) rfl ?_
  refine s_aldn (p' := 7) rfl rfl rfl ?_
  refine s_gf (p' := 10) rfl (rd_app (rd_sn rfl (rd_sn rfl (rd_ss rfl (rd_ss rfl (rd_ss rfl (rd_app (rd_ss rfl (rd_sn rfl (rd_ss rfl (rd_ss rfl (rd_app (rd_nw rfl (len_s (len_s (len_s (len_s HL))))))))))))))))) rfl rfl ?_
  refine s_if (p' := 17) true rfl (by decide +kernel) rfl ?_
  refine s_con (p' := 18) rfl rfl ?_
  refine c_iret rfl (by decide +kernel) ?_
  refine s_if (p' := 41) true rfl (by decide +kernel) rfl ?_
  refine s_sh (p' := 44) (ls' := _) (st' := .int (nI 1) :: _) (h' := _) rfl rfl rfl rfl ?_
  refine s_if (p' := 47) false rfl (by decide +kernel) rfl ?_
  refine s_aldn (p' := 48) rfl rfl rfl ?_
  refine s_gf (p' := 51) rfl (rd_app (rd_sn rfl (rd_sn rfl (rd_ss rfl (rd_ss rfl (rd_ss rfl (rd_app (rd_ss rfl (rd_sn rfl (rd_ss rfl (rd_ss rfl (rd_app (rd_nw rfl (len_s (len_s (len_s (len_s HL))))))))))))))))) rfl rfl ?_
  refine s_if (p' := 79) true rfl (by decide +kernel) rfl ?_
  refine s_aldn (p' := 80) rfl rfl rfl ?_
  refine s_con (p' := 81) rfl rfl ?_
  refine s_pfz (p' := 84) (fs' := [_, _, _, _]) rfl rfl (rd_nw rfl (len_s (len_s (len_s (len_s (len_s (len_a (len_s (len_s (len_s (len_s (len_a (len_a (len_s (len_s (len_s (len_s HL)))) rfl) rfl))))) rfl))))))) rfl rfl rfl rfl ?_
  refine s_aldn (p' := 85) rfl rfl rfl ?_
  refine s_aldn (p' := 86) rfl rfl rfl ?_
  refine s_con (p' := 87) rfl rfl ?_
  refine s_ild (p' := 89) rfl rfl rfl ?_
  refine s_con (p' := 90) rfl rfl ?_
  refine s_bz (p' := 91) (z := (nI 2)) rfl rfl rfl (by decide +kernel) ?_
  refine c_call (p' := 94) (kc := 95) (ls0 := [_, _, _]) rfl rfl rfl rfl rfl rfl rfl rfl rfl ?_
  refine s_ildn (p' := 1) rfl rfl rfl ?_
  refine s_if (p' := 4) false rfl (by decide +kernel) rfl ?_
  refine s_ildn (p' := 5) rfl rfl rfl ?_
  refine s_aldn (p' := 6) rfl rfl rfl ?_
  refine s_lenz (p' := 7) rfl (mj_rdA_is (rd_sn rfl (rd_app (rd_ss rfl (rd_ss rfl (rd_sn rfl (rd_sn rfl (rd_sn rfl (rd_nw rfl (len_s (len_s (len_s (len_s (len_a (len_a (len_s (len_s (len_s (len_s HL)))) rfl) rfl))))))))))))) (by decide)) rfl rfl ?_
  refine s_icmp (p' := 10) false rfl (by decide +kernel) rfl ?_
  refine s_aldn (p' := 11) rfl rfl rfl ?_
  refine s_ildn (p' := 12) rfl rfl rfl ?_
  refine s_ildn (p' := 13) rfl rfl rfl ?_
  refine c_call (p' := 16) (kc := 94) (ls0 := [_, _, _, _, _]) rfl rfl rfl rfl rfl rfl rfl rfl rfl ?_
  refine s_ildn (p' := 1) rfl rfl rfl ?_
  refine s_ildn (p' := 2) rfl rfl rfl ?_
  refine c_call (p' := 5) (kc := 93) (ls0 := [_, _]) rfl rfl rfl rfl rfl rfl rfl rfl rfl ?_
  refine s_ildn (p' := 1) rfl rfl rfl ?_
  refine s_ildn (p' := 2) rfl rfl rfl ?_
  refine s_icmp (p' := 37) true rfl (by decide +kernel) rfl ?_
  refine c_ret rfl ?_
  refine s_ildn (p' := 6) rfl rfl rfl ?_
  refine s_ildn (p' := 7) rfl rfl rfl ?_
  refine s_bz (p' := 8) (z := (nI 2)) rfl rfl rfl (by decide +kernel) ?_
  refine s_istn (p' := 9) (ls' := [_, _, _, _, _]) rfl rfl rfl rfl ?_
  refine s_ildn (p' := 10) rfl rfl rfl ?_
  refine s_naz (p' := 12) (a := 418) (n := 2) rfl (len_s (len_a (len_s (len_s (len_s (len_s (len_s (len_a (len_s (len_s (len_s (len_s (len_a (len_a (len_s (len_s (len_s (len_s HL)))) rfl) rfl))))) rfl)))))) rfl)) rfl rfl ?_
  refine s_ast (p' := 14) (ls' := [_, _, _, _, _]) rfl rfl rfl rfl ?_
  refine s_aldn (p' := 15) rfl rfl rfl ?_
  refine s_ildn (p' := 16) rfl rfl rfl ?_
  refine s_ald (p' := 18) rfl rfl rfl ?_
  refine s_con (p' := 19) rfl rfl ?_
  refine s_aldn (p' := 20) rfl rfl rfl ?_
  refine s_lenz (p' := 21) rfl (mj_rdA_is (rd_app (rd_sn rfl (rd_app (rd_ss rfl (rd_ss rfl (rd_sn rfl (rd_sn rfl (rd_sn rfl (rd_nw rfl (len_s (len_s (len_s (len_s (len_a (len_a (len_s (len_s (len_s (len_s HL)))) rfl) rfl)))))))))))))) (by decide)) rfl rfl ?_
  refine s_ildn (p' := 22) rfl rfl rfl ?_
  refine s_bz (p' := 23) (z := (nI 32)) rfl rfl rfl (by decide +kernel) ?_
  refine s_ildn (p' := 24) rfl rfl rfl ?_
  refine s_primV (p' := 27) (q := 5) rfl rfl rfl rfl rfl rfl (p_min (x := (nI 32)) (y := (nI 2)) (z := (nI 2)) (by decide +kernel)) rfl ?_
  refine s_primN (p' := 30) (q := 0) rfl rfl rfl rfl rfl rfl (p_cpyB rfl (mj_rdA_is (rd_app (rd_sn rfl (rd_app (rd_ss rfl (rd_ss rfl (rd_sn rfl (rd_sn rfl (rd_sn rfl (rd_nw rfl (len_s (len_s (len_s (len_s (len_a (len_a (len_s (len_s (len_s (len_s HL)))) rfl) rfl)))))))))))))) (by decide)) (mj_rdA_is (rd_nw rfl (len_s (len_a (len_s (len_s (len_s (len_s (len_s (len_a (len_s (len_s (len_s (len_s (len_a (len_a (len_s (len_s (len_s (len_s HL)))) rfl) rfl))))) rfl)))))) rfl))) (by decide)) rfl (cpr_2 hf0 hf1)) rfl ?_
  refine s_ald (p' := 32) rfl rfl rfl ?_
  refine c_aret rfl ?_
  refine c_aret rfl ?_
  refine s_pfz (p' := 97) (fs' := [_, _, _, _]) rfl rfl (rd_sn rfl (rd_app (rd_ss rfl (rd_nw rfl (len_s (len_s (len_s (len_s (len_s (len_a (len_s (len_s (len_s (len_s (len_a (len_a (len_s (len_s (len_s (len_s HL)))) rfl) rfl))))) rfl)))))))))) rfl rfl rfl rfl ?_
  refine c_ret rfl ?_
  refine c_ret rfl ?_
  refine c_aret rfl ?_
  refine s_pfz (p' := 51) (fs' := [_, _, _, _, _, _, _, _, _, _, _]) rfl rfl (rd_sn rfl (rd_sn rfl (rd_app (rd_sn rfl (rd_app (rd_sn rfl (rd_sn rfl (rd_sn rfl (rd_sn rfl (rd_sn rfl (rd_app (rd_sn rfl (rd_sn rfl (rd_sn rfl (rd_sn rfl (rd_app (rd_app (rd_ss rfl (rd_sn rfl (rd_sn rfl (rd_sn rfl H400))))))))))))))))))))) rfl rfl rfl rfl ?_
  refine s_aldn (p' := 52) rfl rfl rfl ?_
  refine s_gf (p' := 55) rfl (rd_ss rfl (rd_sn rfl (rd_sn rfl (rd_app (rd_sn rfl (rd_app (rd_sn rfl (rd_sn rfl (rd_sn rfl (rd_sn rfl (rd_sn rfl (rd_app (rd_sn rfl (rd_sn rfl (rd_sn rfl (rd_sn rfl (rd_app (rd_app (rd_ss rfl (rd_sn rfl (rd_sn rfl (rd_sn rfl H400)))))))))))))))))))))) rfl rfl ?_
  refine c_call (p' := 58) (kc := 98) (ls0 := [_]) rfl rfl rfl rfl rfl (mj_rcv_is (rd_sn rfl (rd_ss rfl (rd_sn rfl (rd_app (rd_ss rfl (rd_nw rfl (len_s (len_s (len_s (len_s (len_s (len_a (len_s (len_s (len_s (len_s (len_a (len_a (len_s (len_s (len_s (len_s HL)))) rfl) rfl))))) rfl))))))))))))) rfl rfl rfl ?_
  refine s_aldn (p' := 1) rfl rfl rfl ?_
  refine s_gf (p' := 4) rfl (rd_sn rfl (rd_ss rfl (rd_sn rfl (rd_app (rd_ss rfl (rd_nw rfl (len_s (len_s (len_s (len_s (len_s (len_a (len_s (len_s (len_s (len_s (len_a (len_a (len_s (len_s (len_s (len_s HL)))) rfl) rfl))))) rfl)))))))))))) rfl rfl ?_
  refine s_lenz (p' := 5) rfl (mj_rdA_is (rd_sn rfl (rd_sn rfl (rd_ss rfl (rd_nw rfl (len_s (len_a (len_s (len_s (len_s (len_s (len_s (len_a (len_s (len_s (len_s (len_s (len_a (len_a (len_s (len_s (len_s (len_s HL)))) rfl) rfl))))) rfl)))))) rfl)))))) (by decide)) rfl rfl ?_
  refine s_aldn (p' := 6) rfl rfl rfl ?_
  refine c_call (p' := 9) (kc := 97) (ls0 := [_]) rfl rfl rfl rfl rfl (mj_rcv_is (rd_sn rfl (rd_ss rfl (rd_sn rfl (rd_app (rd_ss rfl (rd_nw rfl (len_s (len_s (len_s (len_s (len_s (len_a (len_s (len_s (len_s (len_s (len_a (len_a (len_s (len_s (len_s (len_s HL)))) rfl) rfl))))) rfl))))))))))))) rfl rfl rfl ?_
  refine s_sh (p' := 3) (ls' := _) (st' := .int (nI 1) :: _) (h' := _) rfl rfl rfl rfl ?_
  refine s_if (p' := 6) false rfl (by decide +kernel) rfl ?_
  refine s_aldn (p' := 7) rfl rfl rfl ?_
  refine s_gf (p' := 10) rfl (rd_sn rfl (rd_ss rfl (rd_sn rfl (rd_app (rd_ss rfl (rd_nw rfl (len_s (len_s (len_s (len_s (len_s (len_a (len_s (len_s (len_s (len_s (len_a (len_a (len_s (len_s (len_s (len_s HL)))) rfl) rfl))))) rfl)))))))))))) rfl rfl ?_
  refine s_goto (p' := 14) rfl rfl ?_
  refine c_iret rfl (by decide +kernel) ?_
  refine s_bz (p' := 10) (z := (nI 1)) rfl rfl rfl (by decide +kernel) ?_
  refine c_iret rfl rfl ?_
  refine k_iret rfl rfl ?_
  refine l_ist (p' := 287) (ls' := [_, _, _, _, _, _, _, _, _, _]) rfl rfl rfl rfl rfl ?_
  refine l_aldn (p' := 288) rfl rfl rfl rfl ?_
  refine l_call (p' := 291) (kc := 99) (ls0 := [_]) rfl rfl rfl rfl rfl rfl (mj_rcv_is (rd_ss rfl (rd_sn rfl (rd_sn rfl (rd_app (rd_sn rfl (rd_app (rd_sn rfl (rd_sn rfl (rd_sn rfl (rd_sn rfl (rd_sn rfl (rd_app (rd_sn rfl (rd_sn rfl (rd_sn rfl (rd_sn rfl (rd_app (rd_app (rd_ss rfl (rd_sn rfl (rd_sn rfl (rd_sn rfl H400))))))))))))))))))))))) rfl rfl rfl ?_
  refine s_aldn (p' := 1) rfl rfl rfl ?_
  refine s_gf (p' := 4) rfl (rd_ss rfl (rd_sn rfl (rd_sn rfl (rd_app (rd_sn rfl (rd_app (rd_sn rfl (rd_sn rfl (rd_sn rfl (rd_sn rfl (rd_sn rfl (rd_app (rd_sn rfl (rd_sn rfl (rd_sn rfl (rd_sn rfl (rd_app (rd_app (rd_ss rfl (rd_sn rfl (rd_sn rfl (rd_sn rfl H400)))))))))))))))))))))) rfl rfl ?_
  refine k_iret rfl rfl ?_
  refine l_ild (p' := 293) rfl rfl rfl rfl ?_
  refine l_icmp (p' := 298) true rfl rfl (by decide +kernel) rfl ?_
  refine l_ild (p' := 300) rfl rfl rfl rfl ?_
  refine l_if (p' := 303) false rfl rfl (by decide +kernel) rfl ?_
  refine l_aldn (p' := 304) rfl rfl rfl rfl ?_
  refine l_con (p' := 305) rfl rfl rfl ?_
  refine l_lalz (p' := 306) (m := 0) (v := (lN 1)) rfl rfl (rd_sn rfl (rd_sn rfl (rd_sn rfl (rd_app (rd_sn rfl (rd_app (rd_sn rfl (rd_sn rfl (rd_sn rfl (rd_sn rfl (rd_sn rfl (rd_app (rd_sn rfl (rd_sn rfl (rd_sn rfl (rd_sn rfl (rd_app (rd_app (rd_sn rfl (rd_ss rfl (rd_sn rfl (rd_sn rfl H412)))))))))))))))))))))) (by decide +kernel) rfl (by decide +kernel) rfl ?_
  refine l_ild (p' := 308) rfl rfl rfl rfl ?_
  refine l_bzL (p' := 309) (z := (lN 1)) rfl rfl rfl rfl rfl (by decide +kernel) ?_
  refine l_bz (p' := 310) (z := (nI 0)) rfl rfl rfl rfl rfl (by decide +kernel) ?_
  refine l_if (p' := 315) true rfl rfl (by decide +kernel) rfl ?_
  refine l_goto (p' := 2541) rfl rfl rfl ?_
  refine l_incz (p' := 2544) (w := (nI 4)) (ls' := [_, _, _, _, _, _, _, _, _, _]) rfl rfl rfl rfl (by decide +kernel) rfl rfl ?_
  refine l_goto (p' := 28) rfl rfl rfl ?_
  refine l_ild (p' := 30) rfl rfl rfl rfl ?_
  refine l_alds (p' := 31) rfl rfl rfl rfl ?_
  refine l_lens (p' := 32) rfl rfl rfl ?_
  refine l_con (p' := 33) rfl rfl rfl ?_
  refine l_bz (p' := 34) (z := (nI 0)) rfl rfl rfl rfl rfl (by decide +kernel) ?_
  refine l_icmp (p' := 2547) true rfl rfl (by decide +kernel) rfl ?_
  refine l_con (p' := 2548) rfl rfl rfl ?_
  refine l_end rfl rfl ?_
  exact ⟨Nat.le_trans (Nat.le_of_eq (len_s (len_s (len_s (len_a (len_s (len_a (len_s (len_s (len_s (len_s (len_s (len_a (len_s (len_s (len_s (len_s (len_a (len_a (len_s (len_s (len_s (len_s HL)))) rfl) rfl))))) rfl)))))) rfl)) rfl))))) (Nat.le_of_ble_eq_true rfl), Nat.le_trans (sz_s rfl (rd_sn rfl (rd_sn rfl (rd_app (rd_sn rfl (rd_app (rd_sn rfl (rd_sn rfl (rd_sn rfl (rd_sn rfl (rd_sn rfl (rd_app (rd_sn rfl (rd_sn rfl (rd_sn rfl (rd_sn rfl (rd_app (rd_app (rd_ss rfl (rd_sn rfl (rd_sn rfl (rd_sn rfl H400))))))))))))))))))))) rfl (sz_s rfl (rd_sn rfl (rd_app (rd_ss rfl (rd_nw rfl (len_s (len_s (len_s (len_s (len_s (len_a (len_s (len_s (len_s (len_s (len_a (len_a (len_s (len_s (len_s (len_s HL)))) rfl) rfl))))) rfl)))))))))) rfl (sz_sA rfl (rd_nw rfl (len_s (len_a (len_s (len_s (len_s (len_s (len_s (len_a (len_s (len_s (len_s (len_s (len_a (len_a (len_s (len_s (len_s (len_s HL)))) rfl) rfl))))) rfl)))))) rfl))) (sz_aa (k := 2) (m := 20058) rfl rfl (sz_s rfl (rd_nw rfl (len_s (len_s (len_s (len_s (len_s (len_a (len_s (len_s (len_s (len_s (len_a (len_a (len_s (len_s (len_s (len_s HL)))) rfl) rfl))))) rfl))))))) rfl (sz_aa (k := 4) (m := 20056) rfl rfl (sz_sA rfl (rd_ss rfl (rd_sn rfl (rd_sn rfl (rd_sn rfl (rd_nw rfl (len_s (len_s (len_s (len_s (len_a (len_a (len_s (len_s (len_s (len_s HL)))) rfl) rfl)))))))))) (sz_sA rfl (rd_sn rfl (rd_sn rfl (rd_sn rfl (rd_nw rfl (len_s (len_s (len_s (len_s (len_a (len_a (len_s (len_s (len_s (len_s HL)))) rfl) rfl))))))))) (sz_s rfl (rd_ss rfl (rd_ss rfl (rd_app (rd_ss rfl (rd_sn rfl (rd_ss rfl (rd_ss rfl (rd_app (rd_nw rfl (len_s (len_s (len_s (len_s HL))))))))))))) rfl (sz_s rfl (rd_ss rfl (rd_app (rd_ss rfl (rd_sn rfl (rd_ss rfl (rd_ss rfl (rd_app (rd_nw rfl (len_s (len_s (len_s (len_s HL)))))))))))) rfl (sz_s rfl (rd_app (rd_ss rfl (rd_sn rfl (rd_ss rfl (rd_ss rfl (rd_app (rd_nw rfl (len_s (len_s (len_s (len_s HL))))))))))) rfl (sz_aa (k := 32) (m := 20052) rfl rfl (sz_s rfl (rd_sn rfl (rd_ss rfl (rd_ss rfl (rd_app (rd_nw rfl (len_s (len_s (len_s (len_s HL))))))))) rfl (sz_sA rfl (rd_sn rfl (rd_sn rfl (rd_nw rfl (len_a (len_s (len_s (len_s (len_s HL)))) rfl)))) (sz_s rfl (rd_ss rfl (rd_app (rd_nw rfl (len_s (len_s (len_s (len_s HL))))))) rfl (sz_s rfl (rd_app (rd_nw rfl (len_s (len_s (len_s (len_s HL)))))) rfl (sz_aa (k := 16) (m := 20020) rfl rfl (sz_aa (k := 4) (m := 20004) rfl rfl (sz_s rfl (rd_sn rfl (rd_sn rfl (rd_sn rfl H400))) rfl (sz_sA rfl (rd_sn rfl (rd_sn rfl H412)) (sz_s rfl (rd_sn rfl H2) rfl (sz_sA rfl H3 HZ)))))))))))))))))))))) (Nat.le_of_ble_eq_true rfl)⟩
