/-! ArrayList: adding at the end. -/
theorem mI_half {a : Nat} (ha : a < 1000) : nI a >>> (nI 1 &&& 31) = nI (a / 2) :=
  of_decide_eq_true (List.all_eq_true.mp (show ((List.range 1000).all fun a => decide (nI a >>> (nI 1 &&& 31) = nI (a / 2))) = true by decide +kernel) a (List.mem_range.mpr ha))
abbrev alC (E n : Nat) (mc : Int32) : mj_C := .inr (18, [.ref E, .int (nI n), .int mc])
abbrev alN : mj_C := .inl (6, mj_arr0 6 10)
abbrev alE (cap : Nat) (ef : Nat → Option Nat) : mj_C := .inl (6, (cap, .inr (.inr (.inr (.inr ef)))))
theorem y_addE {h : mj_H} {Lr E n cap q c : Nat} {mc : Int32} {ef : Nat → Option Nat} {fs : List Value} (bL : Lr < mj_CB) (bE : E < mj_CB) (hL : mj_rd h Lr = some (alC E n mc)) (hE : mj_rd h E = some (alE cap ef)) (hq : mj_rd h q = some (.inr (c, fs))) (hc : mj_aok 6 c = true) (hn : n < cap) (hcap : cap < 1000) : mj_run 1 338 (0, [some (.ref Lr), some (.ref q), some (.ref E), some (.int (nI n))], [], h) (.inl none, (h.set E (alE cap (va_up ef n (some q)))).set Lr (alC E (n + 1) mc)) := by
  have hEL : E ≠ Lr := fun e => by rw [e, hL] at hE; cases hE
  refine s_ildn (p' := 1) rfl rfl rfl ?_
  refine s_aldn (p' := 2) rfl rfl rfl ?_
  refine s_len (p' := 3) rfl (mj_rdA_is hE (by decide)) (by decide) rfl ?_
  refine s_icmp (p' := 11) true rfl ((ci_ne (by omega) (by omega)).trans (decide_eq_true (by omega))) rfl ?_
  refine s_aldn (p' := 12) rfl rfl rfl ?_
  refine s_ildn (p' := 13) rfl rfl rfl ?_
  refine s_aldn (p' := 14) rfl rfl rfl ?_
  refine s_aas (p' := 15) rfl bE hE (by decide) (inb_nI (by omega) (by omega)) hq hc rfl ?_
  rw [mI_cl (by omega)]
  refine s_aldn (p' := 16) rfl rfl rfl ?_
  refine s_ildn (p' := 17) rfl rfl rfl ?_
  refine s_con (p' := 18) rfl rfl ?_
  refine s_sp (p' := 19) (ls' := _) rfl rfl rfl ?_
  rw [mI_add]
  refine s_pf (p' := 22) (fs' := [_, _, _]) rfl bL ((rd_setn hEL).trans hL) (Nat.blt_eq.mp rfl) rfl rfl rfl ?_
  exact s_ret rfl rfl
theorem y_addA {h : mj_H} {Lr E n cap q c : Nat} {mc : Int32} {ef : Nat → Option Nat} {fs : List Value} (bL : Lr < mj_CB) (bE : E < mj_CB) (hL : mj_rd h Lr = some (alC E n mc)) (hE : mj_rd h E = some (alE cap ef)) (hq : mj_rd h q = some (.inr (c, fs))) (hc : mj_aok 6 c = true) (hn : n < cap) (hcap : cap < 1000) (hqL : Lr ≠ q) : mj_run 2 337 (0, [some (.ref Lr), some (.ref q)], [], h) (.inl (some (.int (nI 1))), ((h.set Lr (alC E n (mc + nI 1))).set E (alE cap (va_up ef n (some q)))).set Lr (alC E (n + 1) (mc + nI 1))) := by
  have hEL : E ≠ Lr := fun e => by rw [e, hL] at hE; cases hE
  refine s_aldn (p' := 1) rfl rfl rfl ?_
  refine s_sp (p' := 2) (ls' := _) rfl rfl rfl ?_
  refine s_gf (p' := 5) rfl hL rfl rfl ?_
  refine s_con (p' := 6) rfl rfl ?_
  refine s_sp (p' := 7) (ls' := _) rfl rfl rfl ?_
  refine s_pf (p' := 10) (fs' := [_, _, _]) rfl bL hL (Nat.blt_eq.mp rfl) rfl rfl rfl ?_
  refine s_aldn (p' := 11) rfl rfl rfl ?_
  refine s_aldn (p' := 12) rfl rfl rfl ?_
  refine s_aldn (p' := 13) rfl rfl rfl ?_
  refine s_gf (p' := 16) rfl (rd_set bL hL) rfl rfl ?_
  refine s_aldn (p' := 17) rfl rfl rfl ?_
  refine s_gf (p' := 20) rfl (rd_set bL hL) rfl rfl ?_
  refine s_callN (p' := 23) (ls0 := [_, _, _, _]) rfl rfl rfl rfl rfl (mj_rcv_is (rd_set bL hL)) rfl (y_addE bL bE (rd_set bL hL) ((rd_setn (Ne.symm hEL)).trans hE) ((rd_setn hqL).trans hq) hc hn hcap) (by decide) rfl ?_
  refine s_con (p' := 24) rfl rfl ?_
  exact s_iret rfl rfl rfl
theorem y_add0 {h : mj_H} {Lr N q c : Nat} {mc : Int32} {fs : List Value} (bL : Lr < mj_CB) (hN : h.length = N) (hb : N + 10 < mj_CB) (hL : mj_rd h Lr = some (alC 1000000 0 mc)) (hq : mj_rd h q = some (.inr (c, fs))) (hqL : Lr ≠ q) (hc : mj_aok 6 c = true) : mj_run 4 337 (0, [some (.ref Lr), some (.ref q)], [], h) (.inl (some (.int (nI 1))), ((((h.set Lr (alC 1000000 0 (mc + nI 1))) ++ [alN]).set Lr (alC N 0 (mc + nI 1))).set N (alE 10 (va_up (fun _ => none) 0 (some q)))).set Lr (alC N (0 + 1) (mc + nI 1))) := by
  refine s_aldn (p' := 1) rfl rfl rfl ?_
  refine s_sp (p' := 2) (ls' := _) rfl rfl rfl ?_
  refine s_gf (p' := 5) rfl hL rfl rfl ?_
  refine s_con (p' := 6) rfl rfl ?_
  refine s_sp (p' := 7) (ls' := _) rfl rfl rfl ?_
  refine s_pf (p' := 10) (fs' := [_, _, _]) rfl bL hL (Nat.blt_eq.mp rfl) rfl rfl rfl ?_
  refine s_aldn (p' := 11) rfl rfl rfl ?_
  refine s_aldn (p' := 12) rfl rfl rfl ?_
  refine s_aldn (p' := 13) rfl rfl rfl ?_
  refine s_gf (p' := 16) rfl (rd_set bL hL) rfl rfl ?_
  refine s_aldn (p' := 17) rfl rfl rfl ?_
  refine s_gf (p' := 20) rfl (rd_set bL hL) rfl rfl ?_
  refine c_call (p' := 23) (kc := 3) (ls0 := [_, _, _, _]) rfl rfl rfl rfl rfl (mj_rcv_is (rd_set bL hL)) rfl rfl rfl ?_
  refine s_ildn (p' := 1) rfl rfl rfl ?_
  refine s_aldn (p' := 2) rfl rfl rfl ?_
  refine s_len (p' := 3) rfl (mj_rdA_cst (k_0 _) (by decide)) (by decide) rfl ?_
  refine s_icmp (p' := 6) false rfl (by decide +kernel) rfl ?_
  refine s_aldn (p' := 7) rfl rfl rfl ?_
  refine c_call (p' := 10) (kc := 2) (ls0 := [_]) rfl rfl rfl rfl rfl (mj_rcv_is (rd_set bL hL)) rfl rfl rfl ?_
  refine s_aldn (p' := 1) rfl rfl rfl ?_
  refine s_aldn (p' := 2) rfl rfl rfl ?_
  refine s_gf (p' := 5) rfl (rd_set bL hL) rfl rfl ?_
  refine s_con (p' := 6) rfl rfl ?_
  refine s_sp (p' := 7) (ls' := _) rfl rfl rfl ?_
  refine c_call (p' := 10) (kc := 1) (ls0 := [_, _, _, _]) rfl rfl rfl rfl rfl (mj_rcv_is (rd_set bL hL)) rfl rfl rfl ?_
  refine s_aldn (p' := 1) rfl rfl rfl ?_
  refine s_gf (p' := 4) rfl (rd_set bL hL) rfl rfl ?_
  refine s_len (p' := 5) rfl (mj_rdA_cst (k_0 _) (by decide)) (by decide) rfl ?_
  refine s_istn (p' := 6) (ls' := [_, _, _, _]) rfl rfl rfl rfl ?_
  refine s_ildn (p' := 7) rfl rfl rfl ?_
  refine s_if (p' := 10) false rfl (by decide +kernel) rfl ?_
  refine s_aldn (p' := 11) rfl rfl rfl ?_
  refine s_gf (p' := 14) rfl (rd_set bL hL) rfl rfl ?_
  refine s_sh (p' := 17) (ls' := _) (st' := .ref 1000000 :: _) (h' := _) rfl rfl rfl rfl ?_
  refine s_sp (p' := 45) (ls' := _) rfl rfl rfl ?_
  refine s_aldn (p' := 46) rfl rfl rfl ?_
  refine s_bip (p' := 48) rfl rfl ?_
  refine s_ildn (p' := 49) rfl rfl rfl ?_
  refine s_primV (p' := 52) (q := 4) rfl rfl rfl rfl rfl rfl (p_max (x := nI 10) (y := nI 1) (z := nI 10) (by decide +kernel)) rfl ?_
  refine s_anaz (p' := 55) (a := N) (n := 10) rfl (by rw [List.length_set]; exact hN) rfl rfl ?_
  refine s_sp (p' := 56) (ls' := _) rfl rfl rfl ?_
  refine s_pf (p' := 59) (fs' := [_, _, _]) rfl bL (rd_app (rd_set bL hL)) (Nat.blt_eq.mp rfl) rfl rfl rfl ?_
  refine c_aret rfl ?_
  refine c_aret rfl ?_
  refine s_astn (p' := 11) (ls' := [_, _, _, _]) rfl rfl rfl rfl ?_
  refine s_aldn (p' := 12) rfl rfl rfl ?_
  refine s_ildn (p' := 13) rfl rfl rfl ?_
  refine s_aldn (p' := 14) rfl rfl rfl ?_
  have hE2 : mj_rd (((h.set Lr (alC 1000000 0 (mc + nI 1))) ++ [alN]).set Lr (alC N 0 (mc + nI 1))) N = some (alE 10 (fun _ => none)) := (rd_setn (by have := rd_len bL hL; omega)).trans (rd_nw (Nat.blt_eq.mpr (by omega)) (by rw [List.length_set]; exact hN))
  have hq2 : mj_rd (((h.set Lr (alC 1000000 0 (mc + nI 1))) ++ [alN]).set Lr (alC N 0 (mc + nI 1))) q = some (.inr (c, fs)) := (rd_setn hqL).trans (rd_app ((rd_setn hqL).trans hq))
  have hL2 : mj_rd (((h.set Lr (alC 1000000 0 (mc + nI 1))) ++ [alN]).set Lr (alC N 0 (mc + nI 1))) Lr = some (alC N 0 (mc + nI 1)) := rd_set bL (rd_app (rd_set bL hL))
  refine s_aas (p' := 15) rfl (by omega) hE2 (by decide) (inb_nI (by omega) (by omega)) hq2 hc rfl ?_
  rw [mI_cl (by omega)]
  refine s_aldn (p' := 16) rfl rfl rfl ?_
  refine s_ildn (p' := 17) rfl rfl rfl ?_
  refine s_con (p' := 18) rfl rfl ?_
  refine s_sp (p' := 19) (ls' := _) rfl rfl rfl ?_
  rw [mI_add]
  refine s_pf (p' := 22) (fs' := [_, _, _]) rfl bL ((rd_setn (by have := rd_len bL hL; omega)).trans hL2) (Nat.blt_eq.mp rfl) rfl rfl rfl ?_
  refine c_ret rfl ?_
  refine s_con (p' := 24) rfl rfl ?_
  exact s_iret rfl rfl rfl
