/-! Rounds on any state: checksum. -/
def lfo (f : Nat → Int32) : Nat → Nat → Int64 → Int64
  | 0, _, a => a
  | k + 1, i, a => lfo f k (i + 1) (lN 31 * a + (f i).toInt64)
theorem lfo_k (f : Nat → Int32) (k i : Nat) (a : Int64) : lfo f (k + 1) i a = lfo f k (i + 1) (lN 31 * a + (f i).toInt64) := by rw [lfo]
theorem x_fdA {h : mj_H} {S Av As n : Nat} {vf sf : Nat → Int32} (hn : n ≤ 20) (hS : mj_rd h S = some (.inr (7, [.ref Av, .ref As, .int (nI n)]))) (hV : mj_rd h Av = some (.inl (0, (8, .inl vf)))) (hK : mj_rd h As = some (.inl (0, (20, .inl sf)))) {b : Int64} {Q : mj_O × mj_H → Prop} : ∀ (k i : Nat) (a : Int64), i + k = 8 → mj_Wp 2 68 (36, [some (.ref S), some (.long b), none, some (.long (lfo vf k i a)), none, some (.int (nI 8))], [], h) Q → mj_Wp 2 68 (5, [some (.ref S), some (.long b), none, some (.long a), none, some (.int (nI i))], [], h) Q
  | 0, i, a, hi, hq => by
    obtain rfl : i = 8 := by omega
    refine s_ild (p' := 7) rfl rfl rfl ?_
    refine s_aldn (p' := 8) rfl rfl rfl ?_
    refine s_gf (p' := 11) rfl hS rfl rfl ?_
    refine s_len (p' := 12) rfl (mj_rdA_is hV (by decide)) (by decide) rfl ?_
    refine s_icmp (p' := 36) true rfl ((ci_ge (by omega) (by omega)).trans (decide_eq_true (by omega))) rfl ?_
    exact hq
  | k + 1, i, a, hi, hq => by
    have ih := x_fdA hn hS hV hK (b := b) (Q := Q) k
    rw [lfo_k] at hq
    refine s_ild (p' := 7) rfl rfl rfl ?_
    refine s_aldn (p' := 8) rfl rfl rfl ?_
    refine s_gf (p' := 11) rfl hS rfl rfl ?_
    refine s_len (p' := 12) rfl (mj_rdA_is hV (by decide)) (by decide) rfl ?_
    refine s_icmp (p' := 15) false rfl ((ci_ge (by omega) (by omega)).trans (decide_eq_false (by omega))) rfl ?_
    refine s_sh (p' := 18) (ls' := _) (st' := .long (lN 31) :: _) (h' := _) rfl rfl rfl rfl ?_
    refine s_lldn (p' := 19) rfl rfl rfl ?_
    refine s_sp (p' := 20) (ls' := _) rfl rfl rfl ?_
    refine s_aldn (p' := 21) rfl rfl rfl ?_
    refine s_gf (p' := 24) rfl hS rfl rfl ?_
    refine s_ild (p' := 26) rfl rfl rfl ?_
    refine s_ial (p' := 27) rfl hV (inb_nI (by omega) (by omega)) rfl ?_
    rw [mI_cl (by omega)]
    refine s_sp (p' := 28) (ls' := _) rfl rfl rfl ?_
    refine s_sp (p' := 29) (ls' := _) rfl rfl rfl ?_
    refine s_sp (p' := 30) (ls' := [_, _, _, _, _, _]) rfl rfl rfl ?_
    refine s_inc (p' := 33) (ls' := [_, _, _, _, _, _]) rfl rfl rfl rfl rfl ?_
    rw [mI_add]
    refine s_goto (p' := 5) rfl rfl ?_
    exact ih (i + 1) _ (by omega) hq
theorem x_fdB {h : mj_H} {S Av As n : Nat} {vf sf : Nat → Int32} (hn : n ≤ 20) (hS : mj_rd h S = some (.inr (7, [.ref Av, .ref As, .int (nI n)]))) (hV : mj_rd h Av = some (.inl (0, (8, .inl vf)))) (hK : mj_rd h As = some (.inl (0, (20, .inl sf)))) {b : Int64} : ∀ (k i : Nat) (a : Int64), i + k = n → mj_run 2 68 (39, [some (.ref S), some (.long b), none, some (.long a), none, some (.int (nI i))], [], h) (.inl (some (.long (lfo sf k i a))), h)
  | 0, i, a, hi => by
    obtain rfl : i = n := by omega
    refine s_ild (p' := 41) rfl rfl rfl ?_
    refine s_aldn (p' := 42) rfl rfl rfl ?_
    refine s_gf (p' := 45) rfl hS rfl rfl ?_
    refine s_icmp (p' := 68) true rfl ((ci_ge (by omega) (by omega)).trans (decide_eq_true (by omega))) rfl ?_
    refine s_lldn (p' := 69) rfl rfl rfl ?_
    exact s_lret rfl rfl
  | k + 1, i, a, hi => by
    have ih := x_fdB hn hS hV hK (b := b) k
    rw [lfo_k]
    refine s_ild (p' := 41) rfl rfl rfl ?_
    refine s_aldn (p' := 42) rfl rfl rfl ?_
    refine s_gf (p' := 45) rfl hS rfl rfl ?_
    refine s_icmp (p' := 48) false rfl ((ci_ge (by omega) (by omega)).trans (decide_eq_false (by omega))) rfl ?_
    refine s_sh (p' := 51) (ls' := _) (st' := .long (lN 31) :: _) (h' := _) rfl rfl rfl rfl ?_
    refine s_lldn (p' := 52) rfl rfl rfl ?_
    refine s_sp (p' := 53) (ls' := _) rfl rfl rfl ?_
    refine s_aldn (p' := 54) rfl rfl rfl ?_
    refine s_ild (p' := 56) rfl rfl rfl ?_
    refine c_call (p' := 59) (kc := 1) (ls0 := [_, _]) rfl rfl rfl rfl rfl (mj_rcv_is hS) rfl rfl rfl ?_
    refine s_ildn (p' := 1) rfl rfl rfl ?_
    refine s_if (p' := 4) false rfl (cz_lt (by omega)) rfl ?_
    refine s_ildn (p' := 5) rfl rfl rfl ?_
    refine s_aldn (p' := 6) rfl rfl rfl ?_
    refine s_gf (p' := 9) rfl hS rfl rfl ?_
    refine s_icmp (p' := 12) false rfl ((ci_ge (by omega) (by omega)).trans (decide_eq_false (by omega))) rfl ?_
    refine s_ildn (p' := 13) rfl rfl rfl ?_
    refine s_aldn (p' := 14) rfl rfl rfl ?_
    refine s_gf (p' := 17) rfl hS rfl rfl ?_
    refine s_len (p' := 18) rfl (mj_rdA_is hK (by decide)) (by decide) rfl ?_
    refine s_icmp (p' := 21) false rfl ((ci_ge (by omega) (by omega)).trans (decide_eq_false (by omega))) rfl ?_
    refine s_aldn (p' := 22) rfl rfl rfl ?_
    refine s_gf (p' := 25) rfl hS rfl rfl ?_
    refine s_ildn (p' := 26) rfl rfl rfl ?_
    refine s_ial (p' := 27) rfl hK (inb_nI (by omega) (by omega)) rfl ?_
    rw [mI_cl (by omega)]
    refine s_goto (p' := 31) rfl rfl ?_
    refine c_iret rfl rfl ?_
    refine s_sp (p' := 60) (ls' := _) rfl rfl rfl ?_
    refine s_sp (p' := 61) (ls' := _) rfl rfl rfl ?_
    refine s_sp (p' := 62) (ls' := [_, _, _, _, _, _]) rfl rfl rfl ?_
    refine s_inc (p' := 65) (ls' := [_, _, _, _, _, _]) rfl rfl rfl rfl rfl ?_
    rw [mI_add]
    refine s_goto (p' := 39) rfl rfl ?_
    exact ih (i + 1) _ (by omega)
theorem x_fold {h : mj_H} {S Av As n : Nat} {vf sf : Nat → Int32} (hn : n ≤ 20) (hS : mj_rd h S = some (.inr (7, [.ref Av, .ref As, .int (nI n)]))) (hV : mj_rd h Av = some (.inl (0, (8, .inl vf)))) (hK : mj_rd h As = some (.inl (0, (20, .inl sf)))) {b : Int64} : mj_run 2 68 (0, [some (.ref S), some (.long b), none, none, none, none], [], h) (.inl (some (.long (lfo sf n 0 (lfo vf 8 0 b)))), h) := by
  refine s_lldn (p' := 1) rfl rfl rfl ?_
  refine s_sp (p' := 2) (ls' := [_, _, _, _, _, _]) rfl rfl rfl ?_
  refine s_con (p' := 3) rfl rfl ?_
  refine s_ist (p' := 5) (ls' := [_, _, _, _, _, _]) rfl rfl rfl rfl ?_
  refine x_fdA hn hS hV hK 8 0 _ rfl ?_
  refine s_con (p' := 37) rfl rfl ?_
  refine s_ist (p' := 39) (ls' := [_, _, _, _, _, _]) rfl rfl rfl rfl ?_
  exact x_fdB hn hS hV hK n 0 _ (by omega)
theorem y_ckA {h : mj_H} {x W Av As n : Nat} {vf sf wf uf : Nat → Int32} {a0 a1 a3 a4 a5 a6 a7 a8 a9 a10 b2 b3 b4 b5 b6 b8 b9 b10 : Value} (hn : n ≤ 20) (hX : mj_rd h x = some (.inr (17, [a0, a1, .ref W, a3, a4, a5, a6, a7, a8, a9, a10]))) (hW : mj_rd h W = some (.inr (19, [.ref Av, .ref As, b2, b3, b4, b5, b6, .int (nI n), b8, b9, b10]))) (hV : mj_rd h Av = some (.inl (0, (8, .inl wf)))) (hK : mj_rd h As = some (.inl (0, (20, .inl uf)))) (hvw : ∀ j, j < 8 → wf j = vf j) (hsu : ∀ j, j < n → uf j = sf j) {Q : mj_O × mj_H → Prop} : ∀ (k i : Nat) (a : Int64) (l6 : Option Value), i + k = 8 → (∀ l6, mj_Wp 5 462 (53, [some (.ref x), some (.long (lfo vf k i a)), none, some (.ref Av), some (.int (nI 8)), some (.int (nI 8)), l6], [], h) Q) → mj_Wp 5 462 (24, [some (.ref x), some (.long a), none, some (.ref Av), some (.int (nI 8)), some (.int (nI i)), l6], [], h) Q
  | 0, i, a, l6, hi, hq => by
    obtain rfl : i = 8 := by omega
    refine s_ild (p' := 26) rfl rfl rfl ?_
    refine s_ild (p' := 28) rfl rfl rfl ?_
    refine s_icmp (p' := 53) true rfl ((ci_ge (by omega) (by omega)).trans (decide_eq_true (by omega))) rfl ?_
    exact hq l6
  | k + 1, i, a, l6, hi, hq => by
    have ih := y_ckA hn hX hW hV hK hvw hsu (Q := Q) k
    rw [lfo_k] at hq
    refine s_ild (p' := 26) rfl rfl rfl ?_
    refine s_ild (p' := 28) rfl rfl rfl ?_
    refine s_icmp (p' := 31) false rfl ((ci_ge (by omega) (by omega)).trans (decide_eq_false (by omega))) rfl ?_
    refine s_aldn (p' := 32) rfl rfl rfl ?_
    refine s_ild (p' := 34) rfl rfl rfl ?_
    refine s_ial (p' := 35) rfl hV (inb_nI (by omega) (by omega)) rfl ?_
    rw [mI_cl (by omega), hvw i (by omega)]
    refine s_ist (p' := 37) (ls' := [_, _, _, _, _, _, _]) rfl rfl rfl rfl ?_
    refine s_sh (p' := 40) (ls' := _) (st' := .long (lN 31) :: _) (h' := _) rfl rfl rfl rfl ?_
    refine s_lldn (p' := 41) rfl rfl rfl ?_
    refine s_sp (p' := 42) (ls' := _) rfl rfl rfl ?_
    refine s_ild (p' := 44) rfl rfl rfl ?_
    refine s_sp (p' := 45) (ls' := _) rfl rfl rfl ?_
    refine s_sp (p' := 46) (ls' := _) rfl rfl rfl ?_
    refine s_sp (p' := 47) (ls' := [_, _, _, _, _, _, _]) rfl rfl rfl ?_
    refine s_inc (p' := 50) (ls' := [_, _, _, _, _, _, _]) rfl rfl rfl rfl rfl ?_
    rw [mI_add]
    refine s_goto (p' := 24) rfl rfl ?_
    exact ih (i + 1) _ _ (by omega) hq
theorem y_ckB {h : mj_H} {x W Av As n : Nat} {vf sf wf uf : Nat → Int32} {a0 a1 a3 a4 a5 a6 a7 a8 a9 a10 b2 b3 b4 b5 b6 b8 b9 b10 : Value} (hn : n ≤ 20) (hX : mj_rd h x = some (.inr (17, [a0, a1, .ref W, a3, a4, a5, a6, a7, a8, a9, a10]))) (hW : mj_rd h W = some (.inr (19, [.ref Av, .ref As, b2, b3, b4, b5, b6, .int (nI n), b8, b9, b10]))) (hV : mj_rd h Av = some (.inl (0, (8, .inl wf)))) (hK : mj_rd h As = some (.inl (0, (20, .inl uf)))) (hvw : ∀ j, j < 8 → wf j = vf j) (hsu : ∀ j, j < n → uf j = sf j) {l6 : Option Value} {Q : mj_O × mj_H → Prop} : ∀ (k i : Nat) (a : Int64), i + k = n → mj_Wp 5 462 (89, [some (.ref x), some (.long (lfo sf k i a)), none, some (.int (nI n)), some (.int (nI 8)), some (.int (nI 8)), l6], [], h) Q → mj_Wp 5 462 (55, [some (.ref x), some (.long a), none, some (.int (nI i)), some (.int (nI 8)), some (.int (nI 8)), l6], [], h) Q
  | 0, i, a, hi, hq => by
    obtain rfl : i = n := by omega
    refine s_ildn (p' := 56) rfl rfl rfl ?_
    refine s_aldn (p' := 57) rfl rfl rfl ?_
    refine s_gf (p' := 60) rfl hX rfl rfl ?_
    refine s_gf (p' := 63) rfl hW rfl rfl ?_
    refine s_icmp (p' := 89) true rfl ((ci_ge (by omega) (by omega)).trans (decide_eq_true (by omega))) rfl ?_
    exact hq
  | k + 1, i, a, hi, hq => by
    have ih := y_ckB hn hX hW hV hK hvw hsu (l6 := l6) (Q := Q) k
    rw [lfo_k] at hq
    refine s_ildn (p' := 56) rfl rfl rfl ?_
    refine s_aldn (p' := 57) rfl rfl rfl ?_
    refine s_gf (p' := 60) rfl hX rfl rfl ?_
    refine s_gf (p' := 63) rfl hW rfl rfl ?_
    refine s_icmp (p' := 66) false rfl ((ci_ge (by omega) (by omega)).trans (decide_eq_false (by omega))) rfl ?_
    refine s_sh (p' := 69) (ls' := _) (st' := .long (lN 31) :: _) (h' := _) rfl rfl rfl rfl ?_
    refine s_lldn (p' := 70) rfl rfl rfl ?_
    refine s_sp (p' := 71) (ls' := _) rfl rfl rfl ?_
    refine s_aldn (p' := 72) rfl rfl rfl ?_
    refine s_gf (p' := 75) rfl hX rfl rfl ?_
    refine s_gf (p' := 78) rfl hW rfl rfl ?_
    refine s_ildn (p' := 79) rfl rfl rfl ?_
    refine s_ial (p' := 80) rfl hK (inb_nI (by omega) (by omega)) rfl ?_
    rw [mI_cl (by omega), hsu i (by omega)]
    refine s_sp (p' := 81) (ls' := _) rfl rfl rfl ?_
    refine s_sp (p' := 82) (ls' := _) rfl rfl rfl ?_
    refine s_sp (p' := 83) (ls' := [_, _, _, _, _, _, _]) rfl rfl rfl ?_
    refine s_inc (p' := 86) (ls' := [_, _, _, _, _, _, _]) rfl rfl rfl rfl rfl ?_
    rw [mI_add]
    refine s_goto (p' := 55) rfl rfl ?_
    exact ih (i + 1) _ (by omega) hq
theorem w_47 {L i N : Nat} {xs : Nat → Int32} {h : mj_H} {l6 l7 l8 l9 : Option Value} {P : mj_H → Prop} (hL : L ≤ 2048) (hi : i + 4 ≤ L) (hN : N + 2000 < mj_CB) (hN0 : 414 ≤ N) (HL : h.length = N) (hk : xs i &&& nI 63 = nI 47) {gs pl ty wa nw nx dp ca mf : Value} {th : Int32} {sd be : Int64} {ou : Nat → Int64} {vf wf sf uf im jm : Nat → Int32} {k g : Nat} (hk20 : k ≤ 20) (hvw : ∀ j, j < 8 → wf j = vf j) (hsu : ∀ j, j < k → uf j = sf j) (him : ∀ j, j < 8 → jm j = im j) {pe pm ge gm : Value} {q : Nat} (hq6 : q ≤ 6) (hg24 : g ≤ 24)   (H0 : mj_rd h 0 = some (.inr (0, [.ref 1, .ref 38, .ref 299, .ref 336, .ref 373, .ref 375, .ref 378, .ref 381, .ref 387, .ref 393, gs, pl, .ref 397, .ref 398, .ref 399, .long sd, .long be]))) (H375 : mj_rd h 375 = some (.inr (7, [.ref 376, .ref 377, .int (nI k)]))) (H376 : mj_rd h 376 = some (.inl (0, (8, .inl (vf))))) (H377 : mj_rd h 377 = some (.inl (0, (20, .inl (sf))))) (H400 : mj_rd h 400 = some (.inr (17, [.int th, .ref 401, .ref 402, ty, .long sd, .long be, .ref 410, wa, nw, nx, .ref 411]))) (H402 : mj_rd h 402 = some (.inr (19, [.ref 403, .ref 404, .ref 405, .ref 406, .ref 407, .ref 408, .ref 409, .int (nI k), dp, ca, .ref 400]))) (H403 : mj_rd h 403 = some (.inl (0, (8, .inl (wf))))) (H404 : mj_rd h 404 = some (.inl (0, (20, .inl (uf))))) (hn : ∀ (l6 l7 l8 l9 : Option Value) (h' : mj_H), mj_rd h' 400 = some (.inr (17, [.int (nI 0), .ref 401, .ref 402, ty, .long sd, .long be, .ref 410, wa, nw, nx, .ref 411])) ∧ mz_fr [400] h h' ∧ h'.length ≤ N + 0 ∧ mj_sz h' ≤ mj_sz h + 0 → mj_lrun L xs (28, [some (.retAddr 1), some (.ref 0), some (.ref 400), some (.ref 412), some (.ref 413), some (.int (nI (i + 4))), l6, l7, l8, l9], [], h') P) : mj_lrun L xs (28, [some (.retAddr 1), some (.ref 0), some (.ref 400), some (.ref 412), some (.ref 413), some (.int (nI i)), l6, l7, l8, l9], [], h) P := by
  refine l_ild (p' := 30) rfl rfl rfl rfl ?_
  refine l_alds (p' := 31) rfl rfl rfl rfl ?_
  refine l_lens (p' := 32) rfl rfl rfl ?_
  refine l_con (p' := 33) rfl rfl rfl ?_
  refine l_bz (p' := 34) (z := (nI (L - 4))) rfl rfl rfl rfl rfl (mI_sub (by omega)) ?_
  refine l_icmp (p' := 37) false rfl rfl ((ci_gt (by omega) (by omega)).trans (decide_eq_false (by omega))) rfl ?_
  refine l_alds (p' := 38) rfl rfl rfl rfl ?_
  refine l_ild (p' := 40) rfl rfl rfl rfl ?_
  refine l_ialz (p' := 41) (m := i) (z := (xs i)) rfl rfl (inb_nI (by omega) (by omega)) (mI_cl (by omega)) rfl rfl ?_
  refine l_bip (p' := 43) rfl rfl rfl ?_
  refine l_bz (p' := 44) (z := (nI 47)) rfl rfl rfl rfl rfl hk ?_
  refine l_sp (p' := 2449) (ls' := _) rfl rfl rfl rfl rfl ?_
  refine l_aldn (p' := 2450) rfl rfl rfl rfl ?_
  refine l_call (p' := 2453) (kc := 99) (ls0 := [_]) rfl rfl rfl rfl rfl rfl (mj_rcv_is H0) rfl rfl rfl ?_
  refine s_sh (p' := 3) (ls' := _) (st' := .long (lN 31) :: _) (h' := _) rfl rfl rfl rfl ?_
  refine s_aldn (p' := 4) rfl rfl rfl ?_
  refine s_gf (p' := 7) rfl H0 rfl rfl ?_
  refine s_sh (p' := 10) (ls' := _) (st' := .long (lN 7) :: _) (h' := _) rfl rfl rfl rfl ?_
  refine s_callV (p' := 13) (kc := 2) (ls0 := [_, _, _, _, _, _]) rfl rfl rfl rfl rfl (mj_rcv_is H375) rfl (x_fold hk20 H375 H376 H377) (by decide) rfl ?_
  refine s_bzL (p' := 14) (z := ((lN 31) * (lfo sf k 0 (lfo vf 8 0 (lN 7))))) rfl rfl rfl rfl ?_
  refine s_aldn (p' := 15) rfl rfl rfl ?_
  refine s_gf (p' := 18) rfl H0 rfl rfl ?_
  refine s_bzL (p' := 19) (z := (((lN 31) * (lfo sf k 0 (lfo vf 8 0 (lN 7)))) + be)) rfl rfl rfl rfl ?_
  refine k_lret rfl ?_
  refine l_aldn (p' := 2454) rfl rfl rfl rfl ?_
  refine l_call (p' := 2457) (kc := 99) (ls0 := [_, _, _, _, _, _, _]) rfl rfl rfl rfl rfl rfl (mj_rcv_is H400) rfl rfl rfl ?_
  refine s_aldn (p' := 1) rfl rfl rfl ?_
  refine s_con (p' := 2) rfl rfl ?_
  refine s_pfz (p' := 5) (fs' := [_, _, _, _, _, _, _, _, _, _, _]) rfl rfl H400 rfl rfl rfl rfl ?_
  refine s_sh (p' := 8) (ls' := _) (st' := .long (lN 7) :: _) (h' := _) rfl rfl rfl rfl ?_
  refine s_sp (p' := 9) (ls' := [_, _, _, _, _, _, _]) rfl rfl rfl ?_
  refine s_aldn (p' := 10) rfl rfl rfl ?_
  refine s_gf (p' := 13) rfl (rd_ss rfl H400) rfl rfl ?_
  refine s_gf (p' := 16) rfl (rd_sn rfl H402) rfl rfl ?_
  refine s_astn (p' := 17) (ls' := [_, _, _, _, _, _, _]) rfl rfl rfl rfl ?_
  refine s_aldn (p' := 18) rfl rfl rfl ?_
  refine s_lenz (p' := 19) rfl (mj_rdA_is (rd_sn rfl H403) (by decide)) rfl rfl ?_
  refine s_ist (p' := 21) (ls' := [_, _, _, _, _, _, _]) rfl rfl rfl rfl ?_
  refine s_con (p' := 22) rfl rfl ?_
  refine s_ist (p' := 24) (ls' := [_, _, _, _, _, _, _]) rfl rfl rfl rfl ?_
  refine mj_Wp.mono (k := 5) ?_ (by decide)
  refine y_ckA hk20 (rd_ss rfl H400) (rd_sn rfl H402) (rd_sn rfl H403) (rd_sn rfl H404) hvw hsu 8 0 _ _ rfl (fun l6 => ?_)
  refine s_con (p' := 54) rfl rfl ?_
  refine s_istn (p' := 55) (ls' := [_, _, _, _, _, _, _]) rfl rfl rfl rfl ?_
  refine y_ckB hk20 (rd_ss rfl H400) (rd_sn rfl H402) (rd_sn rfl H403) (rd_sn rfl H404) hvw hsu k 0 _ (by omega) ?_
  refine s_sh (p' := 92) (ls' := _) (st' := .long (lN 31) :: _) (h' := _) rfl rfl rfl rfl ?_
  refine s_lldn (p' := 93) rfl rfl rfl ?_
  refine s_bzL (p' := 94) (z := ((lN 31) * (lfo sf k 0 (lfo vf 8 0 (lN 7))))) rfl rfl rfl rfl ?_
  refine s_aldn (p' := 95) rfl rfl rfl ?_
  refine s_gf (p' := 98) rfl (rd_ss rfl H400) rfl rfl ?_
  refine s_bzL (p' := 99) (z := (((lN 31) * (lfo sf k 0 (lfo vf 8 0 (lN 7)))) + be)) rfl rfl rfl rfl ?_
  refine k_lret rfl ?_
  refine l_bz (p' := 2458) (z := nI 0) rfl rfl rfl rfl rfl (lcmp_self _) ?_
  refine l_if (p' := 2541) true rfl rfl (by decide +kernel) rfl ?_
  refine l_incz (p' := 2544) (w := (nI (i + 4))) (ls' := [_, _, _, _, _, _, _, _, _, _]) rfl rfl rfl rfl (mI_add _ _) rfl rfl ?_
  refine l_goto (p' := 28) rfl rfl rfl ?_
  exact hn _ _ _ _ _ ⟨(rd_ss rfl H400), (mz_fr.s (by decide) (mz_fr.rf _ h)), (Nat.le_trans (Nat.le_of_eq (len_s HL)) (by omega)), (Nat.le_trans (sz_s rfl H400 rfl (Nat.le_refl (mj_sz h))) (by omega))⟩
