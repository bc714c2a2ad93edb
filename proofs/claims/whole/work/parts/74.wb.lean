/-! Rounds on any state: circuits. -/
theorem rdA_sn {h : mj_H} {b a : Nat} {c : mj_C} {x : Nat × vp_A} (hn : (b == a) = false) (hr : mj_rdA h a = some x) : mj_rdA (h.set b c) a = some x := by
  unfold mj_rdA at hr ⊢
  rw [rd_setn (by rw [beq_eq_false_iff_ne] at hn; exact hn)]
  exact hr
theorem y_bkL {h : mj_H} {x Lr E cap : Nat} {mc : Int32} {ef : Nat → Option Nat} {G : Nat → Nat} {n : Nat} (hL : mj_rd h Lr = some (.inr (18, [.ref E, .int (nI n), .int mc]))) (hE : mj_rdA h E = some (6, (cap, .inr (.inr (.inr (.inr ef)))))) (hG : ∀ j, j < n → ef j = some (1000138 + G j) ∧ G j < 24) (hn : n ≤ 24) (hcap : n ≤ cap) (hc31 : cap < 1000) {a0 a1 a2 a3 a4 a5 a7 a8 a9 a10 : Value} (hX : mj_rd h x = some (.inr (17, [a0, a1, a2, a3, a4, a5, .ref Lr, a7, a8, a9, a10]))) {v0 : Int32} {Q : mj_O × mj_H → Prop} : ∀ (k v : Nat), k ≤ n → v < 8 → mj_Wp 5 429 (69, [some (.ref x), some (.int v0), some (.int (nI (bthr G k v))), some (.int (nI 0 - nI 1))], [], h) Q → mj_Wp 5 429 (38, [some (.ref x), some (.int v0), some (.int (nI v)), some (.int (nI k - nI 1))], [], h) Q
  | 0, v, hk, hv, hq => by
    refine s_ildn (p' := 39) rfl rfl rfl ?_
    refine s_if (p' := 69) true rfl (by decide +kernel) rfl ?_
    exact hq
  | k + 1, v, hk, hv, hq => by
    have ih := y_bkL hL hE hG hn hcap hc31 hX (v0 := v0) (Q := Q) k
    have hg := hG k (by omega)
    rw [mI_sub (show 1 ≤ k + 1 by omega), Nat.add_sub_cancel]
    refine s_ildn (p' := 39) rfl rfl rfl ?_
    refine s_if (p' := 42) false rfl (cz_lt (by omega)) rfl ?_
    refine s_ildn (p' := 43) rfl rfl rfl ?_
    refine s_aldn (p' := 44) rfl rfl rfl ?_
    refine s_gf (p' := 47) rfl hX rfl rfl ?_
    refine s_ildn (p' := 48) rfl rfl rfl ?_
    refine c_call (p' := 53) (kc := 4) (ls0 := [_, _]) rfl rfl rfl rfl rfl (mj_rcv_is hL) rfl rfl rfl ?_
    refine s_ildn (p' := 1) rfl rfl rfl ?_
    refine s_aldn (p' := 2) rfl rfl rfl ?_
    refine s_gf (p' := 5) rfl hL rfl rfl ?_
    refine c_call (p' := 8) (kc := 3) (ls0 := [_, _]) rfl rfl rfl rfl rfl rfl rfl rfl rfl ?_
    refine s_ildn (p' := 1) rfl rfl rfl ?_
    refine s_ildn (p' := 2) rfl rfl rfl ?_
    refine s_sp (p' := 3) (ls' := _) rfl rfl rfl ?_
    refine c_call (p' := 6) (kc := 2) (ls0 := [_, _, _]) rfl rfl rfl rfl rfl rfl rfl rfl rfl ?_
    refine s_ildn (p' := 1) rfl rfl rfl ?_
    refine s_if (p' := 4) false rfl (cz_lt (by omega)) rfl ?_
    refine s_ildn (p' := 5) rfl rfl rfl ?_
    refine s_ildn (p' := 6) rfl rfl rfl ?_
    refine s_icmp (p' := 16) true rfl ((ci_lt (by omega) (by omega)).trans (decide_eq_true (by omega))) rfl ?_
    refine s_ildn (p' := 17) rfl rfl rfl ?_
    refine c_iret rfl rfl ?_
    refine c_iret rfl rfl ?_
    refine s_sp (p' := 9) (ls' := _) rfl rfl rfl ?_
    refine s_aldn (p' := 10) rfl rfl rfl ?_
    refine s_ildn (p' := 11) rfl rfl rfl ?_
    refine c_call (p' := 14) (kc := 3) (ls0 := [_, _]) rfl rfl rfl rfl rfl (mj_rcv_is hL) rfl rfl rfl ?_
    refine s_aldn (p' := 1) rfl rfl rfl ?_
    refine s_gf (p' := 4) rfl hL rfl rfl ?_
    refine s_ildn (p' := 5) rfl rfl rfl ?_
    refine s_aal (p' := 6) rfl hE (by decide) (inb_nI (by omega) (by omega)) rfl ?_
    rw [mI_cl (by omega), hg.1, show va_rf (some (1000138 + G k)) = .ref (1000138 + G k) from rfl]
    refine c_aret rfl ?_
    refine c_aret rfl ?_
    refine s_cco (p' := 56) rfl (k_int _ hg.2) rfl ?_
    refine c_call (p' := 59) (kc := 4) (ls0 := [_]) rfl rfl rfl rfl rfl (mj_rcv_is (k_int _ hg.2)) rfl rfl rfl ?_
    refine s_aldn (p' := 1) rfl rfl rfl ?_
    refine s_gf (p' := 4) rfl (k_int _ hg.2) rfl rfl ?_
    refine c_iret rfl rfl ?_
    refine s_callV (p' := 62) (ls0 := [_, _]) rfl rfl rfl rfl rfl rfl rfl (y_tur hg.2 hv) (by decide) rfl ?_
    refine s_istn (p' := 63) (ls' := [_, _, _, _]) rfl rfl rfl rfl ?_
    refine s_inc (p' := 66) (ls' := [_, _, _, _]) rfl rfl rfl rfl rfl ?_
    rw [mI_dec1]
    refine s_goto (p' := 38) rfl rfl ?_
    exact ih _ (by omega) (gt_lt hg.2 hv) hq
theorem w_32 {L i N : Nat} {xs : Nat → Int32} {h : mj_H} {l6 l7 l8 l9 : Option Value} {P : mj_H → Prop} (hL : L ≤ 2048) (hi : i + 4 ≤ L) (hN : N + 2000 < mj_CB) (hN0 : 414 ≤ N) (HL : h.length = N) (hk : xs i &&& nI 63 = nI 32) {gs pl ty wa nw nx dp ca mf : Value} {th : Int32} {sd be : Int64} {ou : Nat → Int64} {vf wf sf uf im jm : Nat → Int32} {k g : Nat} (hk20 : k ≤ 20) (hvw : ∀ j, j < 8 → wf j = vf j) (hsu : ∀ j, j < k → uf j = sf j) (him : ∀ j, j < 8 → jm j = im j) {pe pm ge gm : Value} {q : Nat} (hq6 : q ≤ 6) (hg24 : g ≤ 24) {rf : Nat → Int32} {E cap : Nat} {mc : Int32} {ef : Nat → Option Nat} {G : Nat → Nat} (hG1 : ∀ j, j < g → rf j = nI (G j) ∧ G j < 24) (hE0 : 414 ≤ E) (hEA : mj_rdA h E = some (6, (cap, .inr (.inr (.inr (.inr ef)))))) (hG2 : ∀ j, j < g → ef j = some (1000138 + G j) ∧ G j < 24) (hgc : g ≤ cap) (hc31 : cap < 1000) {v : Nat} (hv : v < 8) (hx1 : xs (i + 1) = nI v) (H0 : mj_rd h 0 = some (.inr (0, [.ref 1, .ref 38, .ref 299, .ref 336, .ref 373, .ref 375, .ref 378, .ref 381, .ref 387, .ref 393, gs, pl, .ref 397, .ref 398, .ref 399, .long sd, .long be]))) (H393 : mj_rd h 393 = some (.inr (9, [.ref 394, .ref 395, .ref 396, .int (nI g), mf]))) (H394 : mj_rd h 394 = some (.inl (0, (24, .inl (rf))))) (H400 : mj_rd h 400 = some (.inr (17, [.int th, .ref 401, .ref 402, ty, .long sd, .long be, .ref 410, wa, nw, nx, .ref 411]))) (H410 : mj_rd h 410 = some (.inr (18, [.ref E, .int (nI g), .int mc]))) (H412 : mj_rd h 412 = some (.inl (4, (1, .inr (.inl (ou)))))) (hn : ∀ (l6 l7 l8 l9 : Option Value) (h' : mj_H), mj_rd h' 400 = some (.inr (17, [.int (nI 0), .ref 401, .ref 402, ty, .long sd, .long be, .ref 410, wa, nw, nx, .ref 411])) ∧ mj_rd h' 412 = some (.inl (4, (1, .inr (.inl ((vp_updL ou 0 (Int32.toInt64 (nI (thr G g 0 v))))))))) ∧ mz_fr [400, 412] h h' ∧ h'.length ≤ N + 1 ∧ mj_sz h' ≤ mj_sz h + 4 → mj_lrun L xs (28, [some (.retAddr 1), some (.ref 0), some (.ref 400), some (.ref 412), some (.ref 413), some (.int (nI (i + 4))), l6, l7, l8, l9], [], h') P) : mj_lrun L xs (28, [some (.retAddr 1), some (.ref 0), some (.ref 400), some (.ref 412), some (.ref 413), some (.int (nI i)), l6, l7, l8, l9], [], h) P := by
  refine l_ild (p' := 30) rfl rfl rfl rfl ?_
  refine l_alds (p' := 31) rfl rfl rfl rfl ?_
  refine l_lens (p' := 32) rfl rfl rfl ?_
  refine l_con (p' := 33) rfl rfl rfl ?_
  refine l_bz (p' := 34) (z := (nI (L - 4))) rfl rfl rfl rfl rfl (mI_sub (by omega)) ?_
  refine l_icmp (p' := 37) false rfl rfl ((ci_gt (by omega) (by omega)).trans (decide_eq_false (by omega))) rfl ?_
  refine l_alds (p' := 38) rfl rfl rfl rfl ?_
  refine l_ild (p' := 40) rfl rfl rfl rfl ?_
  refine l_ialz (p' := 41) (m := i) (z := (xs i)) rfl rfl (inb_nI (by omega) (by omega)) (mI_cl (by omega)) rfl rfl ?_
  refine l_bip (p' := 43) rfl rfl rfl ?_
  refine l_bz (p' := 44) (z := (nI 32)) rfl rfl rfl rfl rfl hk ?_
  refine l_sp (p' := 1942) (ls' := _) rfl rfl rfl rfl rfl ?_
  refine l_aldn (p' := 1943) rfl rfl rfl rfl ?_
  refine l_alds (p' := 1944) rfl rfl rfl rfl ?_
  refine l_ild (p' := 1946) rfl rfl rfl rfl ?_
  refine l_con (p' := 1947) rfl rfl rfl ?_
  refine l_bz (p' := 1948) (z := (nI (i + 1))) rfl rfl rfl rfl rfl (mI_add _ _) ?_
  refine l_ialz (p' := 1949) (m := (i + 1)) (z := (nI v)) rfl rfl (inb_nI (by omega) (by omega)) (mI_cl (by omega)) hx1 rfl ?_
  refine l_aldn (p' := 1950) rfl rfl rfl rfl ?_
  refine l_call (p' := 1953) (kc := 99) (ls0 := [_, _, _, _]) rfl rfl rfl rfl rfl rfl rfl rfl rfl rfl ?_
  refine s_aldn (p' := 1) rfl rfl rfl ?_
  refine s_con (p' := 2) rfl rfl ?_
  refine s_aldn (p' := 3) rfl rfl rfl ?_
  refine s_ildn (p' := 4) rfl rfl rfl ?_
  refine c_call (p' := 7) (kc := 98) (ls0 := [_, _]) rfl rfl rfl rfl rfl (mj_rcv_is H0) rfl rfl rfl ?_
  refine s_ildn (p' := 1) rfl rfl rfl ?_
  refine c_call (p' := 4) (kc := 97) (ls0 := [_]) rfl rfl rfl rfl rfl rfl rfl rfl rfl ?_
  refine s_ildn (p' := 1) rfl rfl rfl ?_
  refine s_if (p' := 4) false rfl ((cg_lt (w := 0) (by decide +kernel)).trans (decide_eq_false (by rw [mI_ti (by omega)]; omega))) rfl ?_
  refine s_ildn (p' := 5) rfl rfl rfl ?_
  refine s_bip (p' := 7) rfl rfl ?_
  refine s_icmp (p' := 10) false rfl ((cg_ge (w := 8) (by decide +kernel)).trans (decide_eq_false (by rw [mI_ti (by omega)]; omega))) rfl ?_
  refine s_con (p' := 11) rfl rfl ?_
  refine s_goto (p' := 15) rfl rfl ?_
  refine c_iret rfl (by decide +kernel) ?_
  refine s_if (p' := 18) true rfl (by decide +kernel) rfl ?_
  refine s_aldn (p' := 19) rfl rfl rfl ?_
  refine s_gf (p' := 22) rfl H0 rfl rfl ?_
  refine s_ildn (p' := 23) rfl rfl rfl ?_
  refine s_callV (p' := 26) (kc := 1) (ls0 := [_, _, _, _]) rfl rfl rfl rfl rfl (mj_rcv_is H393) rfl (x_out H393 H394 hG1 (by omega) (by omega)) (by decide) rfl ?_
  refine c_iret rfl rfl ?_
  refine s_bzL (p' := 8) (z := (Int32.toInt64 (nI (thr G g 0 v)))) rfl rfl rfl rfl ?_
  refine s_lasz (p' := 9) (m := 0) rfl rfl H412 (by decide +kernel) rfl rfl rfl ?_
  refine s_goto (p' := 15) rfl rfl ?_
  refine s_con (p' := 16) rfl rfl ?_
  refine k_iret rfl rfl ?_
  refine l_ist (p' := 1955) (ls' := [_, _, _, _, _, _, _, _, _, _]) rfl rfl rfl rfl rfl ?_
  refine l_aldn (p' := 1956) rfl rfl rfl rfl ?_
  refine l_alds (p' := 1957) rfl rfl rfl rfl ?_
  refine l_ild (p' := 1959) rfl rfl rfl rfl ?_
  refine l_con (p' := 1960) rfl rfl rfl ?_
  refine l_bz (p' := 1961) (z := (nI (i + 1))) rfl rfl rfl rfl rfl (mI_add _ _) ?_
  refine l_ialz (p' := 1962) (m := (i + 1)) (z := (nI v)) rfl rfl (inb_nI (by omega) (by omega)) (mI_cl (by omega)) hx1 rfl ?_
  refine l_call (p' := 1965) (kc := 99) (ls0 := [_, _]) rfl rfl rfl rfl rfl rfl (mj_rcv_is (rd_sn rfl H400)) rfl rfl rfl ?_
  refine s_aldn (p' := 1) rfl rfl rfl ?_
  refine s_ildn (p' := 2) rfl rfl rfl ?_
  refine s_con (p' := 3) rfl rfl ?_
  refine s_bip (p' := 5) rfl rfl ?_
  refine c_call (p' := 8) (kc := 98) (ls0 := [_, _, _]) rfl rfl rfl rfl rfl rfl rfl rfl rfl ?_
  refine s_ildn (p' := 1) rfl rfl rfl ?_
  refine s_ildn (p' := 2) rfl rfl rfl ?_
  refine s_icmp (p' := 5) false rfl ((ch_gt (w := 0) (by decide +kernel)).trans (decide_eq_false (by rw [mI_ti (by omega)]; omega))) rfl ?_
  refine s_ildn (p' := 6) rfl rfl rfl ?_
  refine s_ildn (p' := 7) rfl rfl rfl ?_
  refine s_icmp (p' := 10) false rfl ((cg_gt (w := 7) (by decide +kernel)).trans (decide_eq_false (by rw [mI_ti (by omega)]; omega))) rfl ?_
  refine s_con (p' := 11) rfl rfl ?_
  refine s_goto (p' := 15) rfl rfl ?_
  refine c_iret rfl (by decide +kernel) ?_
  refine s_if (p' := 11) false rfl (by decide +kernel) rfl ?_
  refine s_con (p' := 12) rfl rfl ?_
  refine s_goto (p' := 16) rfl rfl ?_
  refine c_call (p' := 19) (kc := 98) (ls0 := [_, _]) rfl rfl rfl rfl rfl (mj_rcv_is (rd_sn rfl H400)) rfl rfl rfl ?_
  refine s_aldn (p' := 1) rfl rfl rfl ?_
  refine s_ildn (p' := 2) rfl rfl rfl ?_
  refine s_pfz (p' := 5) (fs' := [_, _, _, _, _, _, _, _, _, _, _]) rfl rfl (rd_sn rfl H400) rfl rfl rfl rfl ?_
  refine s_ildn (p' := 6) rfl rfl rfl ?_
  refine s_if (p' := 13) true rfl (by decide +kernel) rfl ?_
  refine s_con (p' := 14) rfl rfl ?_
  refine c_iret rfl (by decide +kernel) ?_
  refine s_if (p' := 26) true rfl (by decide +kernel) rfl ?_
  refine s_aldn (p' := 27) rfl rfl rfl ?_
  refine s_ildn (p' := 28) rfl rfl rfl ?_
  refine s_callEV (p' := 31) (ls0 := [_, _, _, _, _]) rfl rfl rfl rfl rfl (mj_rcv_is (rd_ss rfl (rd_sn rfl H400))) rfl (y_go (N := N) (len_s (len_s HL)) (by omega) (rd_sn rfl (rd_sn rfl H410)) (rdA_sn (beq_eq_false_iff_ne.mpr (by omega)) (rdA_sn (beq_eq_false_iff_ne.mpr (by omega)) hEA)) hG2 (by omega) hgc hc31 (rd_ss rfl (rd_sn rfl H400)) (by omega)) rfl rfl ?_
  rintro _ _ ⟨rfl, lr1, rfl⟩
  refine k_iret rfl rfl ?_
  refine l_ist (p' := 1967) (ls' := [_, _, _, _, _, _, _, _, _, _]) rfl rfl rfl rfl rfl ?_
  refine l_aldn (p' := 1968) rfl rfl rfl rfl ?_
  refine l_call (p' := 1971) (kc := 99) (ls0 := [_]) rfl rfl rfl rfl rfl rfl (mj_rcv_is (rd_app (rd_ss rfl (rd_sn rfl H400)))) rfl rfl rfl ?_
  refine s_aldn (p' := 1) rfl rfl rfl ?_
  refine s_gf (p' := 4) rfl (rd_app (rd_ss rfl (rd_sn rfl H400))) rfl rfl ?_
  refine k_iret rfl rfl ?_
  refine l_ild (p' := 1973) rfl rfl rfl rfl ?_
  refine l_icmp (p' := 1978) true rfl rfl (by decide +kernel) rfl ?_
  refine l_ild (p' := 1980) rfl rfl rfl rfl ?_
  refine l_if (p' := 1983) false rfl rfl (by decide +kernel) rfl ?_
  refine l_aldn (p' := 1984) rfl rfl rfl rfl ?_
  refine l_con (p' := 1985) rfl rfl rfl ?_
  refine l_lalz (p' := 1986) (m := 0) (v := (Int32.toInt64 (nI (thr G g 0 v)))) rfl rfl (rd_app (rd_sn rfl (rd_ss rfl H412))) (by decide +kernel) rfl rfl rfl ?_
  refine l_ild (p' := 1988) rfl rfl rfl rfl ?_
  refine l_bzL (p' := 1989) (z := (Int32.toInt64 (nI (thr G g 0 v)))) rfl rfl rfl rfl rfl rfl ?_
  refine l_bz (p' := 1990) (z := nI 0) rfl rfl rfl rfl rfl (lcmp_self _) ?_
  refine l_if (p' := 1995) true rfl rfl (by decide +kernel) rfl ?_
  refine l_goto (p' := 2541) rfl rfl rfl ?_
  refine l_incz (p' := 2544) (w := (nI (i + 4))) (ls' := [_, _, _, _, _, _, _, _, _, _]) rfl rfl rfl rfl (mI_add _ _) rfl rfl ?_
  refine l_goto (p' := 28) rfl rfl rfl ?_
  exact hn _ _ _ _ _ ⟨(rd_app (rd_ss rfl (rd_sn rfl H400))), (rd_app (rd_sn rfl (rd_ss rfl H412))), (mz_fr.a (mz_fr.s (by decide) (mz_fr.s (by decide) (mz_fr.rf _ h)))), (Nat.le_trans (Nat.le_of_eq (len_a (len_s (len_s HL)) rfl)) (by omega)), (Nat.le_trans (sz_aa (k := 4) (m := mj_sz h + 4) rfl (by omega) (sz_s rfl (rd_sn rfl H400) rfl (sz_sA rfl H412 (Nat.le_refl (mj_sz h))))) (by omega))⟩
theorem w_32_n {L i N : Nat} {xs : Nat → Int32} {h : mj_H} {l6 l7 l8 l9 : Option Value} {P : mj_H → Prop} (hL : L ≤ 2048) (hi : i + 4 ≤ L) (hN : N + 2000 < mj_CB) (hN0 : 414 ≤ N) (HL : h.length = N) (hk : xs i &&& nI 63 = nI 32) {gs pl ty wa nw nx dp ca mf : Value} {th : Int32} {sd be : Int64} {ou : Nat → Int64} {vf wf sf uf im jm : Nat → Int32} {k g : Nat} (hk20 : k ≤ 20) (hvw : ∀ j, j < 8 → wf j = vf j) (hsu : ∀ j, j < k → uf j = sf j) (him : ∀ j, j < 8 → jm j = im j) {pe pm ge gm : Value} {q : Nat} (hq6 : q ≤ 6) (hg24 : g ≤ 24) {rf : Nat → Int32} {E cap : Nat} {mc : Int32} {ef : Nat → Option Nat} {G : Nat → Nat} (hG1 : ∀ j, j < g → rf j = nI (G j) ∧ G j < 24) (hE0 : 414 ≤ E) (hEA : mj_rdA h E = some (6, (cap, .inr (.inr (.inr (.inr ef)))))) (hG2 : ∀ j, j < g → ef j = some (1000138 + G j) ∧ G j < 24) (hgc : g ≤ cap) (hc31 : cap < 1000) {p : Int32} (hp : p.toInt < 0) (hx1 : xs (i + 1) = p) (H0 : mj_rd h 0 = some (.inr (0, [.ref 1, .ref 38, .ref 299, .ref 336, .ref 373, .ref 375, .ref 378, .ref 381, .ref 387, .ref 393, gs, pl, .ref 397, .ref 398, .ref 399, .long sd, .long be]))) (H400 : mj_rd h 400 = some (.inr (17, [.int th, .ref 401, .ref 402, ty, .long sd, .long be, .ref 410, wa, nw, nx, .ref 411]))) (hn : ∀ (l6 l7 l8 l9 : Option Value) (h' : mj_H), mj_rd h' 400 = some (.inr (17, [.int (nI 1), .ref 401, .ref 402, ty, .long sd, .long be, .ref 410, wa, nw, nx, .ref 411])) ∧ mz_fr [400] h h' ∧ h'.length ≤ N + 1 ∧ mj_sz h' ≤ mj_sz h + 6 → mj_lrun L xs (28, [some (.retAddr 1), some (.ref 0), some (.ref 400), some (.ref 412), some (.ref 413), some (.int (nI (i + 4))), l6, l7, l8, l9], [], h') P) : mj_lrun L xs (28, [some (.retAddr 1), some (.ref 0), some (.ref 400), some (.ref 412), some (.ref 413), some (.int (nI i)), l6, l7, l8, l9], [], h) P := by
  refine l_ild (p' := 30) rfl rfl rfl rfl ?_
  refine l_alds (p' := 31) rfl rfl rfl rfl ?_
  refine l_lens (p' := 32) rfl rfl rfl ?_
  refine l_con (p' := 33) rfl rfl rfl ?_
  refine l_bz (p' := 34) (z := (nI (L - 4))) rfl rfl rfl rfl rfl (mI_sub (by omega)) ?_
  refine l_icmp (p' := 37) false rfl rfl ((ci_gt (by omega) (by omega)).trans (decide_eq_false (by omega))) rfl ?_
  refine l_alds (p' := 38) rfl rfl rfl rfl ?_
  refine l_ild (p' := 40) rfl rfl rfl rfl ?_
  refine l_ialz (p' := 41) (m := i) (z := (xs i)) rfl rfl (inb_nI (by omega) (by omega)) (mI_cl (by omega)) rfl rfl ?_
  refine l_bip (p' := 43) rfl rfl rfl ?_
  refine l_bz (p' := 44) (z := (nI 32)) rfl rfl rfl rfl rfl hk ?_
  refine l_sp (p' := 1942) (ls' := _) rfl rfl rfl rfl rfl ?_
  refine l_aldn (p' := 1943) rfl rfl rfl rfl ?_
  refine l_alds (p' := 1944) rfl rfl rfl rfl ?_
  refine l_ild (p' := 1946) rfl rfl rfl rfl ?_
  refine l_con (p' := 1947) rfl rfl rfl ?_
  refine l_bz (p' := 1948) (z := (nI (i + 1))) rfl rfl rfl rfl rfl (mI_add _ _) ?_
  refine l_ialz (p' := 1949) (m := (i + 1)) (z := p) rfl rfl (inb_nI (by omega) (by omega)) (mI_cl (by omega)) hx1 rfl ?_
  refine l_aldn (p' := 1950) rfl rfl rfl rfl ?_
  refine l_call (p' := 1953) (kc := 99) (ls0 := [_, _, _, _]) rfl rfl rfl rfl rfl rfl rfl rfl rfl rfl ?_
  refine s_aldn (p' := 1) rfl rfl rfl ?_
  refine s_con (p' := 2) rfl rfl ?_
  refine s_aldn (p' := 3) rfl rfl rfl ?_
  refine s_ildn (p' := 4) rfl rfl rfl ?_
  refine c_call (p' := 7) (kc := 98) (ls0 := [_, _]) rfl rfl rfl rfl rfl (mj_rcv_is H0) rfl rfl rfl ?_
  refine s_ildn (p' := 1) rfl rfl rfl ?_
  refine c_call (p' := 4) (kc := 97) (ls0 := [_]) rfl rfl rfl rfl rfl rfl rfl rfl rfl ?_
  refine s_ildn (p' := 1) rfl rfl rfl ?_
  refine s_if (p' := 14) true rfl ((cg_lt (w := 0) (by decide +kernel)).trans (decide_eq_true (by omega))) rfl ?_
  refine s_con (p' := 15) rfl rfl ?_
  refine c_iret rfl (by decide +kernel) ?_
  refine s_if (p' := 7) false rfl (by decide +kernel) rfl ?_
  refine s_thrz (q := N) rfl HL rfl ?_
  refine K_c (hp := 12) (Nat.blt_eq.mpr (by omega)) (mj_ocl_is (rd_nw (Nat.blt_eq.mpr (by omega)) HL)) rfl ?_
  refine s_astn (p' := 13) (ls' := [_, _, _, _]) rfl rfl rfl rfl ?_
  refine s_con (p' := 14) rfl rfl ?_
  refine k_iret rfl rfl ?_
  refine l_ist (p' := 1955) (ls' := [_, _, _, _, _, _, _, _, _, _]) rfl rfl rfl rfl rfl ?_
  refine l_aldn (p' := 1956) rfl rfl rfl rfl ?_
  refine l_alds (p' := 1957) rfl rfl rfl rfl ?_
  refine l_ild (p' := 1959) rfl rfl rfl rfl ?_
  refine l_con (p' := 1960) rfl rfl rfl ?_
  refine l_bz (p' := 1961) (z := (nI (i + 1))) rfl rfl rfl rfl rfl (mI_add _ _) ?_
  refine l_ialz (p' := 1962) (m := (i + 1)) (z := p) rfl rfl (inb_nI (by omega) (by omega)) (mI_cl (by omega)) hx1 rfl ?_
  refine l_call (p' := 1965) (kc := 99) (ls0 := [_, _]) rfl rfl rfl rfl rfl rfl (mj_rcv_is (rd_app H400)) rfl rfl rfl ?_
  refine s_aldn (p' := 1) rfl rfl rfl ?_
  refine s_ildn (p' := 2) rfl rfl rfl ?_
  refine s_con (p' := 3) rfl rfl ?_
  refine s_bip (p' := 5) rfl rfl ?_
  refine c_call (p' := 8) (kc := 98) (ls0 := [_, _, _]) rfl rfl rfl rfl rfl rfl rfl rfl rfl ?_
  refine s_ildn (p' := 1) rfl rfl rfl ?_
  refine s_ildn (p' := 2) rfl rfl rfl ?_
  refine s_icmp (p' := 14) true rfl ((ch_gt (w := 0) (by decide +kernel)).trans (decide_eq_true (by omega))) rfl ?_
  refine s_con (p' := 15) rfl rfl ?_
  refine c_iret rfl (by decide +kernel) ?_
  refine s_if (p' := 15) true rfl (by decide +kernel) rfl ?_
  refine s_con (p' := 16) rfl rfl ?_
  refine c_call (p' := 19) (kc := 98) (ls0 := [_, _]) rfl rfl rfl rfl rfl (mj_rcv_is (rd_app H400)) rfl rfl rfl ?_
  refine s_aldn (p' := 1) rfl rfl rfl ?_
  refine s_ildn (p' := 2) rfl rfl rfl ?_
  refine s_pfz (p' := 5) (fs' := [_, _, _, _, _, _, _, _, _, _, _]) rfl rfl (rd_app H400) rfl rfl rfl rfl ?_
  refine s_ildn (p' := 6) rfl rfl rfl ?_
  refine s_if (p' := 9) false rfl (by decide +kernel) rfl ?_
  refine s_con (p' := 10) rfl rfl ?_
  refine s_goto (p' := 14) rfl rfl ?_
  refine c_iret rfl (by decide +kernel) ?_
  refine s_if (p' := 22) false rfl (by decide +kernel) rfl ?_
  refine s_con (p' := 23) rfl rfl ?_
  refine s_goto (p' := 31) rfl rfl ?_
  refine k_iret rfl rfl ?_
  refine l_ist (p' := 1967) (ls' := [_, _, _, _, _, _, _, _, _, _]) rfl rfl rfl rfl rfl ?_
  refine l_aldn (p' := 1968) rfl rfl rfl rfl ?_
  refine l_call (p' := 1971) (kc := 99) (ls0 := [_]) rfl rfl rfl rfl rfl rfl (mj_rcv_is (rd_ss rfl (rd_app H400))) rfl rfl rfl ?_
  refine s_aldn (p' := 1) rfl rfl rfl ?_
  refine s_gf (p' := 4) rfl (rd_ss rfl (rd_app H400)) rfl rfl ?_
  refine k_iret rfl rfl ?_
  refine l_ild (p' := 1973) rfl rfl rfl rfl ?_
  refine l_icmp (p' := 1978) true rfl rfl (by decide +kernel) rfl ?_
  refine l_ild (p' := 1980) rfl rfl rfl rfl ?_
  refine l_if (p' := 1995) true rfl rfl (by decide +kernel) rfl ?_
  refine l_goto (p' := 2541) rfl rfl rfl ?_
  refine l_incz (p' := 2544) (w := (nI (i + 4))) (ls' := [_, _, _, _, _, _, _, _, _, _]) rfl rfl rfl rfl (mI_add _ _) rfl rfl ?_
  refine l_goto (p' := 28) rfl rfl rfl ?_
  exact hn _ _ _ _ _ ⟨(rd_ss rfl (rd_app H400)), (mz_fr.s (by decide) (mz_fr.a (mz_fr.rf _ h))), (Nat.le_trans (Nat.le_of_eq (len_s (len_a HL rfl))) (by omega)), (Nat.le_trans (sz_s rfl (rd_app H400) rfl (sz_aa (k := 6) (m := mj_sz h + 6) rfl (by omega) (Nat.le_refl (mj_sz h)))) (by omega))⟩
theorem w_32_m {L i N : Nat} {xs : Nat → Int32} {h : mj_H} {l6 l7 l8 l9 : Option Value} {P : mj_H → Prop} (hL : L ≤ 2048) (hi : i + 4 ≤ L) (hN : N + 2000 < mj_CB) (hN0 : 414 ≤ N) (HL : h.length = N) (hk : xs i &&& nI 63 = nI 32) {gs pl ty wa nw nx dp ca mf : Value} {th : Int32} {sd be : Int64} {ou : Nat → Int64} {vf wf sf uf im jm : Nat → Int32} {k g : Nat} (hk20 : k ≤ 20) (hvw : ∀ j, j < 8 → wf j = vf j) (hsu : ∀ j, j < k → uf j = sf j) (him : ∀ j, j < 8 → jm j = im j) {pe pm ge gm : Value} {q : Nat} (hq6 : q ≤ 6) (hg24 : g ≤ 24) {rf : Nat → Int32} {E cap : Nat} {mc : Int32} {ef : Nat → Option Nat} {G : Nat → Nat} (hG1 : ∀ j, j < g → rf j = nI (G j) ∧ G j < 24) (hE0 : 414 ≤ E) (hEA : mj_rdA h E = some (6, (cap, .inr (.inr (.inr (.inr ef)))))) (hG2 : ∀ j, j < g → ef j = some (1000138 + G j) ∧ G j < 24) (hgc : g ≤ cap) (hc31 : cap < 1000) {p : Int32} (hp : 7 < p.toInt) (hx1 : xs (i + 1) = p) (H0 : mj_rd h 0 = some (.inr (0, [.ref 1, .ref 38, .ref 299, .ref 336, .ref 373, .ref 375, .ref 378, .ref 381, .ref 387, .ref 393, gs, pl, .ref 397, .ref 398, .ref 399, .long sd, .long be]))) (H400 : mj_rd h 400 = some (.inr (17, [.int th, .ref 401, .ref 402, ty, .long sd, .long be, .ref 410, wa, nw, nx, .ref 411]))) (hn : ∀ (l6 l7 l8 l9 : Option Value) (h' : mj_H), mj_rd h' 400 = some (.inr (17, [.int (nI 1), .ref 401, .ref 402, ty, .long sd, .long be, .ref 410, wa, nw, nx, .ref 411])) ∧ mz_fr [400] h h' ∧ h'.length ≤ N + 1 ∧ mj_sz h' ≤ mj_sz h + 6 → mj_lrun L xs (28, [some (.retAddr 1), some (.ref 0), some (.ref 400), some (.ref 412), some (.ref 413), some (.int (nI (i + 4))), l6, l7, l8, l9], [], h') P) : mj_lrun L xs (28, [some (.retAddr 1), some (.ref 0), some (.ref 400), some (.ref 412), some (.ref 413), some (.int (nI i)), l6, l7, l8, l9], [], h) P := by
  refine l_ild (p' := 30) rfl rfl rfl rfl ?_
  refine l_alds (p' := 31) rfl rfl rfl rfl ?_
  refine l_lens (p' := 32) rfl rfl rfl ?_
  refine l_con (p' := 33) rfl rfl rfl ?_
  refine l_bz (p' := 34) (z := (nI (L - 4))) rfl rfl rfl rfl rfl (mI_sub (by omega)) ?_
  refine l_icmp (p' := 37) false rfl rfl ((ci_gt (by omega) (by omega)).trans (decide_eq_false (by omega))) rfl ?_
  refine l_alds (p' := 38) rfl rfl rfl rfl ?_
  refine l_ild (p' := 40) rfl rfl rfl rfl ?_
  refine l_ialz (p' := 41) (m := i) (z := (xs i)) rfl rfl (inb_nI (by omega) (by omega)) (mI_cl (by omega)) rfl rfl ?_
  refine l_bip (p' := 43) rfl rfl rfl ?_
  refine l_bz (p' := 44) (z := (nI 32)) rfl rfl rfl rfl rfl hk ?_
  refine l_sp (p' := 1942) (ls' := _) rfl rfl rfl rfl rfl ?_
  refine l_aldn (p' := 1943) rfl rfl rfl rfl ?_
  refine l_alds (p' := 1944) rfl rfl rfl rfl ?_
  refine l_ild (p' := 1946) rfl rfl rfl rfl ?_
  refine l_con (p' := 1947) rfl rfl rfl ?_
  refine l_bz (p' := 1948) (z := (nI (i + 1))) rfl rfl rfl rfl rfl (mI_add _ _) ?_
  refine l_ialz (p' := 1949) (m := (i + 1)) (z := p) rfl rfl (inb_nI (by omega) (by omega)) (mI_cl (by omega)) hx1 rfl ?_
  refine l_aldn (p' := 1950) rfl rfl rfl rfl ?_
  refine l_call (p' := 1953) (kc := 99) (ls0 := [_, _, _, _]) rfl rfl rfl rfl rfl rfl rfl rfl rfl rfl ?_
  refine s_aldn (p' := 1) rfl rfl rfl ?_
  refine s_con (p' := 2) rfl rfl ?_
  refine s_aldn (p' := 3) rfl rfl rfl ?_
  refine s_ildn (p' := 4) rfl rfl rfl ?_
  refine c_call (p' := 7) (kc := 98) (ls0 := [_, _]) rfl rfl rfl rfl rfl (mj_rcv_is H0) rfl rfl rfl ?_
  refine s_ildn (p' := 1) rfl rfl rfl ?_
  refine c_call (p' := 4) (kc := 97) (ls0 := [_]) rfl rfl rfl rfl rfl rfl rfl rfl rfl ?_
  refine s_ildn (p' := 1) rfl rfl rfl ?_
  refine s_if (p' := 4) false rfl ((cg_lt (w := 0) (by decide +kernel)).trans (decide_eq_false (by omega))) rfl ?_
  refine s_ildn (p' := 5) rfl rfl rfl ?_
  refine s_bip (p' := 7) rfl rfl ?_
  refine s_icmp (p' := 14) true rfl ((cg_ge (w := 8) (by decide +kernel)).trans (decide_eq_true (by omega))) rfl ?_
  refine s_con (p' := 15) rfl rfl ?_
  refine c_iret rfl (by decide +kernel) ?_
  refine s_if (p' := 7) false rfl (by decide +kernel) rfl ?_
  refine s_thrz (q := N) rfl HL rfl ?_
  refine K_c (hp := 12) (Nat.blt_eq.mpr (by omega)) (mj_ocl_is (rd_nw (Nat.blt_eq.mpr (by omega)) HL)) rfl ?_
  refine s_astn (p' := 13) (ls' := [_, _, _, _]) rfl rfl rfl rfl ?_
  refine s_con (p' := 14) rfl rfl ?_
  refine k_iret rfl rfl ?_
  refine l_ist (p' := 1955) (ls' := [_, _, _, _, _, _, _, _, _, _]) rfl rfl rfl rfl rfl ?_
  refine l_aldn (p' := 1956) rfl rfl rfl rfl ?_
  refine l_alds (p' := 1957) rfl rfl rfl rfl ?_
  refine l_ild (p' := 1959) rfl rfl rfl rfl ?_
  refine l_con (p' := 1960) rfl rfl rfl ?_
  refine l_bz (p' := 1961) (z := (nI (i + 1))) rfl rfl rfl rfl rfl (mI_add _ _) ?_
  refine l_ialz (p' := 1962) (m := (i + 1)) (z := p) rfl rfl (inb_nI (by omega) (by omega)) (mI_cl (by omega)) hx1 rfl ?_
  refine l_call (p' := 1965) (kc := 99) (ls0 := [_, _]) rfl rfl rfl rfl rfl rfl (mj_rcv_is (rd_app H400)) rfl rfl rfl ?_
  refine s_aldn (p' := 1) rfl rfl rfl ?_
  refine s_ildn (p' := 2) rfl rfl rfl ?_
  refine s_con (p' := 3) rfl rfl ?_
  refine s_bip (p' := 5) rfl rfl ?_
  refine c_call (p' := 8) (kc := 98) (ls0 := [_, _, _]) rfl rfl rfl rfl rfl rfl rfl rfl rfl ?_
  refine s_ildn (p' := 1) rfl rfl rfl ?_
  refine s_ildn (p' := 2) rfl rfl rfl ?_
  refine s_icmp (p' := 5) false rfl ((ch_gt (w := 0) (by decide +kernel)).trans (decide_eq_false (by omega))) rfl ?_
  refine s_ildn (p' := 6) rfl rfl rfl ?_
  refine s_ildn (p' := 7) rfl rfl rfl ?_
  refine s_icmp (p' := 14) true rfl ((cg_gt (w := 7) (by decide +kernel)).trans (decide_eq_true (by omega))) rfl ?_
  refine s_con (p' := 15) rfl rfl ?_
  refine c_iret rfl (by decide +kernel) ?_
  refine s_if (p' := 15) true rfl (by decide +kernel) rfl ?_
  refine s_con (p' := 16) rfl rfl ?_
  refine c_call (p' := 19) (kc := 98) (ls0 := [_, _]) rfl rfl rfl rfl rfl (mj_rcv_is (rd_app H400)) rfl rfl rfl ?_
  refine s_aldn (p' := 1) rfl rfl rfl ?_
  refine s_ildn (p' := 2) rfl rfl rfl ?_
  refine s_pfz (p' := 5) (fs' := [_, _, _, _, _, _, _, _, _, _, _]) rfl rfl (rd_app H400) rfl rfl rfl rfl ?_
  refine s_ildn (p' := 6) rfl rfl rfl ?_
  refine s_if (p' := 9) false rfl (by decide +kernel) rfl ?_
  refine s_con (p' := 10) rfl rfl ?_
  refine s_goto (p' := 14) rfl rfl ?_
  refine c_iret rfl (by decide +kernel) ?_
  refine s_if (p' := 22) false rfl (by decide +kernel) rfl ?_
  refine s_con (p' := 23) rfl rfl ?_
  refine s_goto (p' := 31) rfl rfl ?_
  refine k_iret rfl rfl ?_
  refine l_ist (p' := 1967) (ls' := [_, _, _, _, _, _, _, _, _, _]) rfl rfl rfl rfl rfl ?_
  refine l_aldn (p' := 1968) rfl rfl rfl rfl ?_
  refine l_call (p' := 1971) (kc := 99) (ls0 := [_]) rfl rfl rfl rfl rfl rfl (mj_rcv_is (rd_ss rfl (rd_app H400))) rfl rfl rfl ?_
  refine s_aldn (p' := 1) rfl rfl rfl ?_
  refine s_gf (p' := 4) rfl (rd_ss rfl (rd_app H400)) rfl rfl ?_
  refine k_iret rfl rfl ?_
  refine l_ild (p' := 1973) rfl rfl rfl rfl ?_
  refine l_icmp (p' := 1978) true rfl rfl (by decide +kernel) rfl ?_
  refine l_ild (p' := 1980) rfl rfl rfl rfl ?_
  refine l_if (p' := 1995) true rfl rfl (by decide +kernel) rfl ?_
  refine l_goto (p' := 2541) rfl rfl rfl ?_
  refine l_incz (p' := 2544) (w := (nI (i + 4))) (ls' := [_, _, _, _, _, _, _, _, _, _]) rfl rfl rfl rfl (mI_add _ _) rfl rfl ?_
  refine l_goto (p' := 28) rfl rfl rfl ?_
  exact hn _ _ _ _ _ ⟨(rd_ss rfl (rd_app H400)), (mz_fr.s (by decide) (mz_fr.a (mz_fr.rf _ h))), (Nat.le_trans (Nat.le_of_eq (len_s (len_a HL rfl))) (by omega)), (Nat.le_trans (sz_s rfl (rd_app H400) rfl (sz_aa (k := 6) (m := mj_sz h + 6) rfl (by omega) (Nat.le_refl (mj_sz h)))) (by omega))⟩
theorem w_33 {L i N : Nat} {xs : Nat → Int32} {h : mj_H} {l6 l7 l8 l9 : Option Value} {P : mj_H → Prop} (hL : L ≤ 2048) (hi : i + 4 ≤ L) (hN : N + 2000 < mj_CB) (hN0 : 414 ≤ N) (HL : h.length = N) (hk : xs i &&& nI 63 = nI 33) {gs pl ty wa nw nx dp ca mf : Value} {th : Int32} {sd be : Int64} {ou : Nat → Int64} {vf wf sf uf im jm : Nat → Int32} {k g : Nat} (hk20 : k ≤ 20) (hvw : ∀ j, j < 8 → wf j = vf j) (hsu : ∀ j, j < k → uf j = sf j) (him : ∀ j, j < 8 → jm j = im j) {pe pm ge gm : Value} {q : Nat} (hq6 : q ≤ 6) (hg24 : g ≤ 24) {rf : Nat → Int32} {E cap : Nat} {mc : Int32} {ef : Nat → Option Nat} {G : Nat → Nat} (hG1 : ∀ j, j < g → rf j = nI (G j) ∧ G j < 24) (hE0 : 414 ≤ E) (hEA : mj_rdA h E = some (6, (cap, .inr (.inr (.inr (.inr ef)))))) (hG2 : ∀ j, j < g → ef j = some (1000138 + G j) ∧ G j < 24) (hgc : g ≤ cap) (hc31 : cap < 1000) {v : Nat} (hv : v < 8) (hx1 : xs (i + 1) = nI v) (H0 : mj_rd h 0 = some (.inr (0, [.ref 1, .ref 38, .ref 299, .ref 336, .ref 373, .ref 375, .ref 378, .ref 381, .ref 387, .ref 393, gs, pl, .ref 397, .ref 398, .ref 399, .long sd, .long be]))) (H393 : mj_rd h 393 = some (.inr (9, [.ref 394, .ref 395, .ref 396, .int (nI g), mf]))) (H394 : mj_rd h 394 = some (.inl (0, (24, .inl (rf))))) (H400 : mj_rd h 400 = some (.inr (17, [.int th, .ref 401, .ref 402, ty, .long sd, .long be, .ref 410, wa, nw, nx, .ref 411]))) (H410 : mj_rd h 410 = some (.inr (18, [.ref E, .int (nI g), .int mc]))) (H412 : mj_rd h 412 = some (.inl (4, (1, .inr (.inl (ou)))))) (hn : ∀ (l6 l7 l8 l9 : Option Value) (h' : mj_H), mj_rd h' 400 = some (.inr (17, [.int (nI 0), .ref 401, .ref 402, ty, .long sd, .long be, .ref 410, wa, nw, nx, .ref 411])) ∧ mj_rd h' 412 = some (.inl (4, (1, .inr (.inl ((vp_updL ou 0 (Int32.toInt64 (nI (bthr G g v))))))))) ∧ mz_fr [400, 412] h h' ∧ h'.length ≤ N + 0 ∧ mj_sz h' ≤ mj_sz h + 0 → mj_lrun L xs (28, [some (.retAddr 1), some (.ref 0), some (.ref 400), some (.ref 412), some (.ref 413), some (.int (nI (i + 4))), l6, l7, l8, l9], [], h') P) : mj_lrun L xs (28, [some (.retAddr 1), some (.ref 0), some (.ref 400), some (.ref 412), some (.ref 413), some (.int (nI i)), l6, l7, l8, l9], [], h) P := by
  refine l_ild (p' := 30) rfl rfl rfl rfl ?_
  refine l_alds (p' := 31) rfl rfl rfl rfl ?_
  refine l_lens (p' := 32) rfl rfl rfl ?_
  refine l_con (p' := 33) rfl rfl rfl ?_
  refine l_bz (p' := 34) (z := (nI (L - 4))) rfl rfl rfl rfl rfl (mI_sub (by omega)) ?_
  refine l_icmp (p' := 37) false rfl rfl ((ci_gt (by omega) (by omega)).trans (decide_eq_false (by omega))) rfl ?_
  refine l_alds (p' := 38) rfl rfl rfl rfl ?_
  refine l_ild (p' := 40) rfl rfl rfl rfl ?_
  refine l_ialz (p' := 41) (m := i) (z := (xs i)) rfl rfl (inb_nI (by omega) (by omega)) (mI_cl (by omega)) rfl rfl ?_
  refine l_bip (p' := 43) rfl rfl rfl ?_
  refine l_bz (p' := 44) (z := (nI 33)) rfl rfl rfl rfl rfl hk ?_
  refine l_sp (p' := 1998) (ls' := _) rfl rfl rfl rfl rfl ?_
  refine l_aldn (p' := 1999) rfl rfl rfl rfl ?_
  refine l_alds (p' := 2000) rfl rfl rfl rfl ?_
  refine l_ild (p' := 2002) rfl rfl rfl rfl ?_
  refine l_con (p' := 2003) rfl rfl rfl ?_
  refine l_bz (p' := 2004) (z := (nI (i + 1))) rfl rfl rfl rfl rfl (mI_add _ _) ?_
  refine l_ialz (p' := 2005) (m := (i + 1)) (z := (nI v)) rfl rfl (inb_nI (by omega) (by omega)) (mI_cl (by omega)) hx1 rfl ?_
  refine l_aldn (p' := 2006) rfl rfl rfl rfl ?_
  refine l_call (p' := 2009) (kc := 99) (ls0 := [_, _, _, _]) rfl rfl rfl rfl rfl rfl rfl rfl rfl rfl ?_
  refine s_aldn (p' := 1) rfl rfl rfl ?_
  refine s_con (p' := 2) rfl rfl ?_
  refine s_aldn (p' := 3) rfl rfl rfl ?_
  refine s_ildn (p' := 4) rfl rfl rfl ?_
  refine c_call (p' := 7) (kc := 98) (ls0 := [_, _]) rfl rfl rfl rfl rfl (mj_rcv_is H0) rfl rfl rfl ?_
  refine s_ildn (p' := 1) rfl rfl rfl ?_
  refine c_call (p' := 4) (kc := 97) (ls0 := [_]) rfl rfl rfl rfl rfl rfl rfl rfl rfl ?_
  refine s_ildn (p' := 1) rfl rfl rfl ?_
  refine s_if (p' := 4) false rfl ((cg_lt (w := 0) (by decide +kernel)).trans (decide_eq_false (by rw [mI_ti (by omega)]; omega))) rfl ?_
  refine s_ildn (p' := 5) rfl rfl rfl ?_
  refine s_bip (p' := 7) rfl rfl ?_
  refine s_icmp (p' := 10) false rfl ((cg_ge (w := 8) (by decide +kernel)).trans (decide_eq_false (by rw [mI_ti (by omega)]; omega))) rfl ?_
  refine s_con (p' := 11) rfl rfl ?_
  refine s_goto (p' := 15) rfl rfl ?_
  refine c_iret rfl (by decide +kernel) ?_
  refine s_if (p' := 18) true rfl (by decide +kernel) rfl ?_
  refine s_aldn (p' := 19) rfl rfl rfl ?_
  refine s_gf (p' := 22) rfl H0 rfl rfl ?_
  refine s_ildn (p' := 23) rfl rfl rfl ?_
  refine s_callV (p' := 26) (kc := 1) (ls0 := [_, _, _, _]) rfl rfl rfl rfl rfl (mj_rcv_is H393) rfl (x_src H393 H394 hG1 (by omega) (by omega)) (by decide) rfl ?_
  refine c_iret rfl rfl ?_
  refine s_bzL (p' := 8) (z := (Int32.toInt64 (nI (bthr G g v)))) rfl rfl rfl rfl ?_
  refine s_lasz (p' := 9) (m := 0) rfl rfl H412 (by decide +kernel) rfl rfl rfl ?_
  refine s_goto (p' := 15) rfl rfl ?_
  refine s_con (p' := 16) rfl rfl ?_
  refine k_iret rfl rfl ?_
  refine l_ist (p' := 2011) (ls' := [_, _, _, _, _, _, _, _, _, _]) rfl rfl rfl rfl rfl ?_
  refine l_aldn (p' := 2012) rfl rfl rfl rfl ?_
  refine l_alds (p' := 2013) rfl rfl rfl rfl ?_
  refine l_ild (p' := 2015) rfl rfl rfl rfl ?_
  refine l_con (p' := 2016) rfl rfl rfl ?_
  refine l_bz (p' := 2017) (z := (nI (i + 1))) rfl rfl rfl rfl rfl (mI_add _ _) ?_
  refine l_ialz (p' := 2018) (m := (i + 1)) (z := (nI v)) rfl rfl (inb_nI (by omega) (by omega)) (mI_cl (by omega)) hx1 rfl ?_
  refine l_call (p' := 2021) (kc := 99) (ls0 := [_, _, _, _]) rfl rfl rfl rfl rfl rfl (mj_rcv_is (rd_sn rfl H400)) rfl rfl rfl ?_
  refine s_aldn (p' := 1) rfl rfl rfl ?_
  refine s_ildn (p' := 2) rfl rfl rfl ?_
  refine s_con (p' := 3) rfl rfl ?_
  refine s_bip (p' := 5) rfl rfl ?_
  refine c_call (p' := 8) (kc := 98) (ls0 := [_, _, _]) rfl rfl rfl rfl rfl rfl rfl rfl rfl ?_
  refine s_ildn (p' := 1) rfl rfl rfl ?_
  refine s_ildn (p' := 2) rfl rfl rfl ?_
  refine s_icmp (p' := 5) false rfl ((ch_gt (w := 0) (by decide +kernel)).trans (decide_eq_false (by rw [mI_ti (by omega)]; omega))) rfl ?_
  refine s_ildn (p' := 6) rfl rfl rfl ?_
  refine s_ildn (p' := 7) rfl rfl rfl ?_
  refine s_icmp (p' := 10) false rfl ((cg_gt (w := 7) (by decide +kernel)).trans (decide_eq_false (by rw [mI_ti (by omega)]; omega))) rfl ?_
  refine s_con (p' := 11) rfl rfl ?_
  refine s_goto (p' := 15) rfl rfl ?_
  refine c_iret rfl (by decide +kernel) ?_
  refine s_if (p' := 11) false rfl (by decide +kernel) rfl ?_
  refine s_con (p' := 12) rfl rfl ?_
  refine s_goto (p' := 16) rfl rfl ?_
  refine c_call (p' := 19) (kc := 98) (ls0 := [_, _]) rfl rfl rfl rfl rfl (mj_rcv_is (rd_sn rfl H400)) rfl rfl rfl ?_
  refine s_aldn (p' := 1) rfl rfl rfl ?_
  refine s_ildn (p' := 2) rfl rfl rfl ?_
  refine s_pfz (p' := 5) (fs' := [_, _, _, _, _, _, _, _, _, _, _]) rfl rfl (rd_sn rfl H400) rfl rfl rfl rfl ?_
  refine s_ildn (p' := 6) rfl rfl rfl ?_
  refine s_if (p' := 13) true rfl (by decide +kernel) rfl ?_
  refine s_con (p' := 14) rfl rfl ?_
  refine c_iret rfl (by decide +kernel) ?_
  refine s_if (p' := 24) true rfl (by decide +kernel) rfl ?_
  refine s_ildn (p' := 25) rfl rfl rfl ?_
  refine s_istn (p' := 26) (ls' := [_, _, _, _]) rfl rfl rfl rfl ?_
  refine s_aldn (p' := 27) rfl rfl rfl ?_
  refine s_gf (p' := 30) rfl (rd_ss rfl (rd_sn rfl H400)) rfl rfl ?_
  refine c_call (p' := 35) (kc := 98) (ls0 := [_]) rfl rfl rfl rfl rfl (mj_rcv_is (rd_sn rfl (rd_sn rfl H410))) rfl rfl rfl ?_
  refine s_aldn (p' := 1) rfl rfl rfl ?_
  refine s_gf (p' := 4) rfl (rd_sn rfl (rd_sn rfl H410)) rfl rfl ?_
  refine c_iret rfl rfl ?_
  refine s_con (p' := 36) rfl rfl ?_
  refine s_bz (p' := 37) (z := (nI g - nI 1)) rfl rfl rfl rfl ?_
  refine s_istn (p' := 38) (ls' := [_, _, _, _]) rfl rfl rfl rfl ?_
  refine mj_Wp.mono (k := 5) ?_ (by decide)
  refine y_bkL (rd_sn rfl (rd_sn rfl H410)) (rdA_sn (beq_eq_false_iff_ne.mpr (by omega)) (rdA_sn (beq_eq_false_iff_ne.mpr (by omega)) hEA)) hG2 (by omega) hgc hc31 (rd_ss rfl (rd_sn rfl H400)) g _ (Nat.le_refl g) (by omega) ?_
  refine s_ildn (p' := 70) rfl rfl rfl ?_
  refine k_iret rfl rfl ?_
  refine l_ist (p' := 2023) (ls' := [_, _, _, _, _, _, _, _, _, _]) rfl rfl rfl rfl rfl ?_
  refine l_aldn (p' := 2024) rfl rfl rfl rfl ?_
  refine l_call (p' := 2027) (kc := 99) (ls0 := [_]) rfl rfl rfl rfl rfl rfl (mj_rcv_is (rd_ss rfl (rd_sn rfl H400))) rfl rfl rfl ?_
  refine s_aldn (p' := 1) rfl rfl rfl ?_
  refine s_gf (p' := 4) rfl (rd_ss rfl (rd_sn rfl H400)) rfl rfl ?_
  refine k_iret rfl rfl ?_
  refine l_ild (p' := 2029) rfl rfl rfl rfl ?_
  refine l_icmp (p' := 2034) true rfl rfl (by decide +kernel) rfl ?_
  refine l_ild (p' := 2036) rfl rfl rfl rfl ?_
  refine l_if (p' := 2039) false rfl rfl (by decide +kernel) rfl ?_
  refine l_aldn (p' := 2040) rfl rfl rfl rfl ?_
  refine l_con (p' := 2041) rfl rfl rfl ?_
  refine l_lalz (p' := 2042) (m := 0) (v := (Int32.toInt64 (nI (bthr G g v)))) rfl rfl (rd_sn rfl (rd_ss rfl H412)) (by decide +kernel) rfl rfl rfl ?_
  refine l_ild (p' := 2044) rfl rfl rfl rfl ?_
  refine l_bzL (p' := 2045) (z := (Int32.toInt64 (nI (bthr G g v)))) rfl rfl rfl rfl rfl rfl ?_
  refine l_bz (p' := 2046) (z := nI 0) rfl rfl rfl rfl rfl (lcmp_self _) ?_
  refine l_if (p' := 2051) true rfl rfl (by decide +kernel) rfl ?_
  refine l_goto (p' := 2541) rfl rfl rfl ?_
  refine l_incz (p' := 2544) (w := (nI (i + 4))) (ls' := [_, _, _, _, _, _, _, _, _, _]) rfl rfl rfl rfl (mI_add _ _) rfl rfl ?_
  refine l_goto (p' := 28) rfl rfl rfl ?_
  exact hn _ _ _ _ _ ⟨(rd_ss rfl (rd_sn rfl H400)), (rd_sn rfl (rd_ss rfl H412)), (mz_fr.s (by decide) (mz_fr.s (by decide) (mz_fr.rf _ h))), (Nat.le_trans (Nat.le_of_eq (len_s (len_s HL))) (by omega)), (Nat.le_trans (sz_s rfl (rd_sn rfl H400) rfl (sz_sA rfl H412 (Nat.le_refl (mj_sz h)))) (by omega))⟩
theorem w_33_n {L i N : Nat} {xs : Nat → Int32} {h : mj_H} {l6 l7 l8 l9 : Option Value} {P : mj_H → Prop} (hL : L ≤ 2048) (hi : i + 4 ≤ L) (hN : N + 2000 < mj_CB) (hN0 : 414 ≤ N) (HL : h.length = N) (hk : xs i &&& nI 63 = nI 33) {gs pl ty wa nw nx dp ca mf : Value} {th : Int32} {sd be : Int64} {ou : Nat → Int64} {vf wf sf uf im jm : Nat → Int32} {k g : Nat} (hk20 : k ≤ 20) (hvw : ∀ j, j < 8 → wf j = vf j) (hsu : ∀ j, j < k → uf j = sf j) (him : ∀ j, j < 8 → jm j = im j) {pe pm ge gm : Value} {q : Nat} (hq6 : q ≤ 6) (hg24 : g ≤ 24) {rf : Nat → Int32} {E cap : Nat} {mc : Int32} {ef : Nat → Option Nat} {G : Nat → Nat} (hG1 : ∀ j, j < g → rf j = nI (G j) ∧ G j < 24) (hE0 : 414 ≤ E) (hEA : mj_rdA h E = some (6, (cap, .inr (.inr (.inr (.inr ef)))))) (hG2 : ∀ j, j < g → ef j = some (1000138 + G j) ∧ G j < 24) (hgc : g ≤ cap) (hc31 : cap < 1000) {p : Int32} (hp : p.toInt < 0) (hx1 : xs (i + 1) = p) (H0 : mj_rd h 0 = some (.inr (0, [.ref 1, .ref 38, .ref 299, .ref 336, .ref 373, .ref 375, .ref 378, .ref 381, .ref 387, .ref 393, gs, pl, .ref 397, .ref 398, .ref 399, .long sd, .long be]))) (H400 : mj_rd h 400 = some (.inr (17, [.int th, .ref 401, .ref 402, ty, .long sd, .long be, .ref 410, wa, nw, nx, .ref 411]))) (hn : ∀ (l6 l7 l8 l9 : Option Value) (h' : mj_H), mj_rd h' 400 = some (.inr (17, [.int (nI 1), .ref 401, .ref 402, ty, .long sd, .long be, .ref 410, wa, nw, nx, .ref 411])) ∧ mz_fr [400] h h' ∧ h'.length ≤ N + 1 ∧ mj_sz h' ≤ mj_sz h + 6 → mj_lrun L xs (28, [some (.retAddr 1), some (.ref 0), some (.ref 400), some (.ref 412), some (.ref 413), some (.int (nI (i + 4))), l6, l7, l8, l9], [], h') P) : mj_lrun L xs (28, [some (.retAddr 1), some (.ref 0), some (.ref 400), some (.ref 412), some (.ref 413), some (.int (nI i)), l6, l7, l8, l9], [], h) P := by
  refine l_ild (p' := 30) rfl rfl rfl rfl ?_
  refine l_alds (p' := 31) rfl rfl rfl rfl ?_
  refine l_lens (p' := 32) rfl rfl rfl ?_
  refine l_con (p' := 33) rfl rfl rfl ?_
  refine l_bz (p' := 34) (z := (nI (L - 4))) rfl rfl rfl rfl rfl (mI_sub (by omega)) ?_
  refine l_icmp (p' := 37) false rfl rfl ((ci_gt (by omega) (by omega)).trans (decide_eq_false (by omega))) rfl ?_
  refine l_alds (p' := 38) rfl rfl rfl rfl ?_
  refine l_ild (p' := 40) rfl rfl rfl rfl ?_
  refine l_ialz (p' := 41) (m := i) (z := (xs i)) rfl rfl (inb_nI (by omega) (by omega)) (mI_cl (by omega)) rfl rfl ?_
  refine l_bip (p' := 43) rfl rfl rfl ?_
  refine l_bz (p' := 44) (z := (nI 33)) rfl rfl rfl rfl rfl hk ?_
  refine l_sp (p' := 1998) (ls' := _) rfl rfl rfl rfl rfl ?_
  refine l_aldn (p' := 1999) rfl rfl rfl rfl ?_
  refine l_alds (p' := 2000) rfl rfl rfl rfl ?_
  refine l_ild (p' := 2002) rfl rfl rfl rfl ?_
  refine l_con (p' := 2003) rfl rfl rfl ?_
  refine l_bz (p' := 2004) (z := (nI (i + 1))) rfl rfl rfl rfl rfl (mI_add _ _) ?_
  refine l_ialz (p' := 2005) (m := (i + 1)) (z := p) rfl rfl (inb_nI (by omega) (by omega)) (mI_cl (by omega)) hx1 rfl ?_
  refine l_aldn (p' := 2006) rfl rfl rfl rfl ?_
  refine l_call (p' := 2009) (kc := 99) (ls0 := [_, _, _, _]) rfl rfl rfl rfl rfl rfl rfl rfl rfl rfl ?_
  refine s_aldn (p' := 1) rfl rfl rfl ?_
  refine s_con (p' := 2) rfl rfl ?_
  refine s_aldn (p' := 3) rfl rfl rfl ?_
  refine s_ildn (p' := 4) rfl rfl rfl ?_
  refine c_call (p' := 7) (kc := 98) (ls0 := [_, _]) rfl rfl rfl rfl rfl (mj_rcv_is H0) rfl rfl rfl ?_
  refine s_ildn (p' := 1) rfl rfl rfl ?_
  refine c_call (p' := 4) (kc := 97) (ls0 := [_]) rfl rfl rfl rfl rfl rfl rfl rfl rfl ?_
  refine s_ildn (p' := 1) rfl rfl rfl ?_
  refine s_if (p' := 14) true rfl ((cg_lt (w := 0) (by decide +kernel)).trans (decide_eq_true (by omega))) rfl ?_
  refine s_con (p' := 15) rfl rfl ?_
  refine c_iret rfl (by decide +kernel) ?_
  refine s_if (p' := 7) false rfl (by decide +kernel) rfl ?_
  refine s_thrz (q := N) rfl HL rfl ?_
  refine K_c (hp := 12) (Nat.blt_eq.mpr (by omega)) (mj_ocl_is (rd_nw (Nat.blt_eq.mpr (by omega)) HL)) rfl ?_
  refine s_astn (p' := 13) (ls' := [_, _, _, _]) rfl rfl rfl rfl ?_
  refine s_con (p' := 14) rfl rfl ?_
  refine k_iret rfl rfl ?_
  refine l_ist (p' := 2011) (ls' := [_, _, _, _, _, _, _, _, _, _]) rfl rfl rfl rfl rfl ?_
  refine l_aldn (p' := 2012) rfl rfl rfl rfl ?_
  refine l_alds (p' := 2013) rfl rfl rfl rfl ?_
  refine l_ild (p' := 2015) rfl rfl rfl rfl ?_
  refine l_con (p' := 2016) rfl rfl rfl ?_
  refine l_bz (p' := 2017) (z := (nI (i + 1))) rfl rfl rfl rfl rfl (mI_add _ _) ?_
  refine l_ialz (p' := 2018) (m := (i + 1)) (z := p) rfl rfl (inb_nI (by omega) (by omega)) (mI_cl (by omega)) hx1 rfl ?_
  refine l_call (p' := 2021) (kc := 99) (ls0 := [_, _, _, _]) rfl rfl rfl rfl rfl rfl (mj_rcv_is (rd_app H400)) rfl rfl rfl ?_
  refine s_aldn (p' := 1) rfl rfl rfl ?_
  refine s_ildn (p' := 2) rfl rfl rfl ?_
  refine s_con (p' := 3) rfl rfl ?_
  refine s_bip (p' := 5) rfl rfl ?_
  refine c_call (p' := 8) (kc := 98) (ls0 := [_, _, _]) rfl rfl rfl rfl rfl rfl rfl rfl rfl ?_
  refine s_ildn (p' := 1) rfl rfl rfl ?_
  refine s_ildn (p' := 2) rfl rfl rfl ?_
  refine s_icmp (p' := 14) true rfl ((ch_gt (w := 0) (by decide +kernel)).trans (decide_eq_true (by omega))) rfl ?_
  refine s_con (p' := 15) rfl rfl ?_
  refine c_iret rfl (by decide +kernel) ?_
  refine s_if (p' := 15) true rfl (by decide +kernel) rfl ?_
  refine s_con (p' := 16) rfl rfl ?_
  refine c_call (p' := 19) (kc := 98) (ls0 := [_, _]) rfl rfl rfl rfl rfl (mj_rcv_is (rd_app H400)) rfl rfl rfl ?_
  refine s_aldn (p' := 1) rfl rfl rfl ?_
  refine s_ildn (p' := 2) rfl rfl rfl ?_
  refine s_pfz (p' := 5) (fs' := [_, _, _, _, _, _, _, _, _, _, _]) rfl rfl (rd_app H400) rfl rfl rfl rfl ?_
  refine s_ildn (p' := 6) rfl rfl rfl ?_
  refine s_if (p' := 9) false rfl (by decide +kernel) rfl ?_
  refine s_con (p' := 10) rfl rfl ?_
  refine s_goto (p' := 14) rfl rfl ?_
  refine c_iret rfl (by decide +kernel) ?_
  refine s_if (p' := 22) false rfl (by decide +kernel) rfl ?_
  refine s_con (p' := 23) rfl rfl ?_
  refine k_iret rfl rfl ?_
  refine l_ist (p' := 2023) (ls' := [_, _, _, _, _, _, _, _, _, _]) rfl rfl rfl rfl rfl ?_
  refine l_aldn (p' := 2024) rfl rfl rfl rfl ?_
  refine l_call (p' := 2027) (kc := 99) (ls0 := [_]) rfl rfl rfl rfl rfl rfl (mj_rcv_is (rd_ss rfl (rd_app H400))) rfl rfl rfl ?_
  refine s_aldn (p' := 1) rfl rfl rfl ?_
  refine s_gf (p' := 4) rfl (rd_ss rfl (rd_app H400)) rfl rfl ?_
  refine k_iret rfl rfl ?_
  refine l_ild (p' := 2029) rfl rfl rfl rfl ?_
  refine l_icmp (p' := 2034) true rfl rfl (by decide +kernel) rfl ?_
  refine l_ild (p' := 2036) rfl rfl rfl rfl ?_
  refine l_if (p' := 2051) true rfl rfl (by decide +kernel) rfl ?_
  refine l_goto (p' := 2541) rfl rfl rfl ?_
  refine l_incz (p' := 2544) (w := (nI (i + 4))) (ls' := [_, _, _, _, _, _, _, _, _, _]) rfl rfl rfl rfl (mI_add _ _) rfl rfl ?_
  refine l_goto (p' := 28) rfl rfl rfl ?_
  exact hn _ _ _ _ _ ⟨(rd_ss rfl (rd_app H400)), (mz_fr.s (by decide) (mz_fr.a (mz_fr.rf _ h))), (Nat.le_trans (Nat.le_of_eq (len_s (len_a HL rfl))) (by omega)), (Nat.le_trans (sz_s rfl (rd_app H400) rfl (sz_aa (k := 6) (m := mj_sz h + 6) rfl (by omega) (Nat.le_refl (mj_sz h)))) (by omega))⟩
theorem w_33_m {L i N : Nat} {xs : Nat → Int32} {h : mj_H} {l6 l7 l8 l9 : Option Value} {P : mj_H → Prop} (hL : L ≤ 2048) (hi : i + 4 ≤ L) (hN : N + 2000 < mj_CB) (hN0 : 414 ≤ N) (HL : h.length = N) (hk : xs i &&& nI 63 = nI 33) {gs pl ty wa nw nx dp ca mf : Value} {th : Int32} {sd be : Int64} {ou : Nat → Int64} {vf wf sf uf im jm : Nat → Int32} {k g : Nat} (hk20 : k ≤ 20) (hvw : ∀ j, j < 8 → wf j = vf j) (hsu : ∀ j, j < k → uf j = sf j) (him : ∀ j, j < 8 → jm j = im j) {pe pm ge gm : Value} {q : Nat} (hq6 : q ≤ 6) (hg24 : g ≤ 24) {rf : Nat → Int32} {E cap : Nat} {mc : Int32} {ef : Nat → Option Nat} {G : Nat → Nat} (hG1 : ∀ j, j < g → rf j = nI (G j) ∧ G j < 24) (hE0 : 414 ≤ E) (hEA : mj_rdA h E = some (6, (cap, .inr (.inr (.inr (.inr ef)))))) (hG2 : ∀ j, j < g → ef j = some (1000138 + G j) ∧ G j < 24) (hgc : g ≤ cap) (hc31 : cap < 1000) {p : Int32} (hp : 7 < p.toInt) (hx1 : xs (i + 1) = p) (H0 : mj_rd h 0 = some (.inr (0, [.ref 1, .ref 38, .ref 299, .ref 336, .ref 373, .ref 375, .ref 378, .ref 381, .ref 387, .ref 393, gs, pl, .ref 397, .ref 398, .ref 399, .long sd, .long be]))) (H400 : mj_rd h 400 = some (.inr (17, [.int th, .ref 401, .ref 402, ty, .long sd, .long be, .ref 410, wa, nw, nx, .ref 411]))) (hn : ∀ (l6 l7 l8 l9 : Option Value) (h' : mj_H), mj_rd h' 400 = some (.inr (17, [.int (nI 1), .ref 401, .ref 402, ty, .long sd, .long be, .ref 410, wa, nw, nx, .ref 411])) ∧ mz_fr [400] h h' ∧ h'.length ≤ N + 1 ∧ mj_sz h' ≤ mj_sz h + 6 → mj_lrun L xs (28, [some (.retAddr 1), some (.ref 0), some (.ref 400), some (.ref 412), some (.ref 413), some (.int (nI (i + 4))), l6, l7, l8, l9], [], h') P) : mj_lrun L xs (28, [some (.retAddr 1), some (.ref 0), some (.ref 400), some (.ref 412), some (.ref 413), some (.int (nI i)), l6, l7, l8, l9], [], h) P := by
  refine l_ild (p' := 30) rfl rfl rfl rfl ?_
  refine l_alds (p' := 31) rfl rfl rfl rfl ?_
  refine l_lens (p' := 32) rfl rfl rfl ?_
  refine l_con (p' := 33) rfl rfl rfl ?_
  refine l_bz (p' := 34) (z := (nI (L - 4))) rfl rfl rfl rfl rfl (mI_sub (by omega)) ?_
  refine l_icmp (p' := 37) false rfl rfl ((ci_gt (by omega) (by omega)).trans (decide_eq_false (by omega))) rfl ?_
  refine l_alds (p' := 38) rfl rfl rfl rfl ?_
  refine l_ild (p' := 40) rfl rfl rfl rfl ?_
  refine l_ialz (p' := 41) (m := i) (z := (xs i)) rfl rfl (inb_nI (by omega) (by omega)) (mI_cl (by omega)) rfl rfl ?_
  refine l_bip (p' := 43) rfl rfl rfl ?_
  refine l_bz (p' := 44) (z := (nI 33)) rfl rfl rfl rfl rfl hk ?_
  refine l_sp (p' := 1998) (ls' := _) rfl rfl rfl rfl rfl ?_
  refine l_aldn (p' := 1999) rfl rfl rfl rfl ?_
  refine l_alds (p' := 2000) rfl rfl rfl rfl ?_
  refine l_ild (p' := 2002) rfl rfl rfl rfl ?_
  refine l_con (p' := 2003) rfl rfl rfl ?_
  refine l_bz (p' := 2004) (z := (nI (i + 1))) rfl rfl rfl rfl rfl (mI_add _ _) ?_
  refine l_ialz (p' := 2005) (m := (i + 1)) (z := p) rfl rfl (inb_nI (by omega) (by omega)) (mI_cl (by omega)) hx1 rfl ?_
  refine l_aldn (p' := 2006) rfl rfl rfl rfl ?_
  refine l_call (p' := 2009) (kc := 99) (ls0 := [_, _, _, _]) rfl rfl rfl rfl rfl rfl rfl rfl rfl rfl ?_
  refine s_aldn (p' := 1) rfl rfl rfl ?_
  refine s_con (p' := 2) rfl rfl ?_
  refine s_aldn (p' := 3) rfl rfl rfl ?_
  refine s_ildn (p' := 4) rfl rfl rfl ?_
  refine c_call (p' := 7) (kc := 98) (ls0 := [_, _]) rfl rfl rfl rfl rfl (mj_rcv_is H0) rfl rfl rfl ?_
  refine s_ildn (p' := 1) rfl rfl rfl ?_
  refine c_call (p' := 4) (kc := 97) (ls0 := [_]) rfl rfl rfl rfl rfl rfl rfl rfl rfl ?_
  refine s_ildn (p' := 1) rfl rfl rfl ?_
  refine s_if (p' := 4) false rfl ((cg_lt (w := 0) (by decide +kernel)).trans (decide_eq_false (by omega))) rfl ?_
  refine s_ildn (p' := 5) rfl rfl rfl ?_
  refine s_bip (p' := 7) rfl rfl ?_
  refine s_icmp (p' := 14) true rfl ((cg_ge (w := 8) (by decide +kernel)).trans (decide_eq_true (by omega))) rfl ?_
  refine s_con (p' := 15) rfl rfl ?_
  refine c_iret rfl (by decide +kernel) ?_
  refine s_if (p' := 7) false rfl (by decide +kernel) rfl ?_
  refine s_thrz (q := N) rfl HL rfl ?_
  refine K_c (hp := 12) (Nat.blt_eq.mpr (by omega)) (mj_ocl_is (rd_nw (Nat.blt_eq.mpr (by omega)) HL)) rfl ?_
  refine s_astn (p' := 13) (ls' := [_, _, _, _]) rfl rfl rfl rfl ?_
  refine s_con (p' := 14) rfl rfl ?_
  refine k_iret rfl rfl ?_
  refine l_ist (p' := 2011) (ls' := [_, _, _, _, _, _, _, _, _, _]) rfl rfl rfl rfl rfl ?_
  refine l_aldn (p' := 2012) rfl rfl rfl rfl ?_
  refine l_alds (p' := 2013) rfl rfl rfl rfl ?_
  refine l_ild (p' := 2015) rfl rfl rfl rfl ?_
  refine l_con (p' := 2016) rfl rfl rfl ?_
  refine l_bz (p' := 2017) (z := (nI (i + 1))) rfl rfl rfl rfl rfl (mI_add _ _) ?_
  refine l_ialz (p' := 2018) (m := (i + 1)) (z := p) rfl rfl (inb_nI (by omega) (by omega)) (mI_cl (by omega)) hx1 rfl ?_
  refine l_call (p' := 2021) (kc := 99) (ls0 := [_, _, _, _]) rfl rfl rfl rfl rfl rfl (mj_rcv_is (rd_app H400)) rfl rfl rfl ?_
  refine s_aldn (p' := 1) rfl rfl rfl ?_
  refine s_ildn (p' := 2) rfl rfl rfl ?_
  refine s_con (p' := 3) rfl rfl ?_
  refine s_bip (p' := 5) rfl rfl ?_
  refine c_call (p' := 8) (kc := 98) (ls0 := [_, _, _]) rfl rfl rfl rfl rfl rfl rfl rfl rfl ?_
  refine s_ildn (p' := 1) rfl rfl rfl ?_
  refine s_ildn (p' := 2) rfl rfl rfl ?_
  refine s_icmp (p' := 5) false rfl ((ch_gt (w := 0) (by decide +kernel)).trans (decide_eq_false (by omega))) rfl ?_
  refine s_ildn (p' := 6) rfl rfl rfl ?_
  refine s_ildn (p' := 7) rfl rfl rfl ?_
  refine s_icmp (p' := 14) true rfl ((cg_gt (w := 7) (by decide +kernel)).trans (decide_eq_true (by omega))) rfl ?_
  refine s_con (p' := 15) rfl rfl ?_
  refine c_iret rfl (by decide +kernel) ?_
  refine s_if (p' := 15) true rfl (by decide +kernel) rfl ?_
  refine s_con (p' := 16) rfl rfl ?_
  refine c_call (p' := 19) (kc := 98) (ls0 := [_, _]) rfl rfl rfl rfl rfl (mj_rcv_is (rd_app H400)) rfl rfl rfl ?_
  refine s_aldn (p' := 1) rfl rfl rfl ?_
  refine s_ildn (p' := 2) rfl rfl rfl ?_
  refine s_pfz (p' := 5) (fs' := [_, _, _, _, _, _, _, _, _, _, _]) rfl rfl (rd_app H400) rfl rfl rfl rfl ?_
  refine s_ildn (p' := 6) rfl rfl rfl ?_
  refine s_if (p' := 9) false rfl (by decide +kernel) rfl ?_
  refine s_con (p' := 10) rfl rfl ?_
  refine s_goto (p' := 14) rfl rfl ?_
  refine c_iret rfl (by decide +kernel) ?_
  refine s_if (p' := 22) false rfl (by decide +kernel) rfl ?_
  refine s_con (p' := 23) rfl rfl ?_
  refine k_iret rfl rfl ?_
  refine l_ist (p' := 2023) (ls' := [_, _, _, _, _, _, _, _, _, _]) rfl rfl rfl rfl rfl ?_
  refine l_aldn (p' := 2024) rfl rfl rfl rfl ?_
  refine l_call (p' := 2027) (kc := 99) (ls0 := [_]) rfl rfl rfl rfl rfl rfl (mj_rcv_is (rd_ss rfl (rd_app H400))) rfl rfl rfl ?_
  refine s_aldn (p' := 1) rfl rfl rfl ?_
  refine s_gf (p' := 4) rfl (rd_ss rfl (rd_app H400)) rfl rfl ?_
  refine k_iret rfl rfl ?_
  refine l_ild (p' := 2029) rfl rfl rfl rfl ?_
  refine l_icmp (p' := 2034) true rfl rfl (by decide +kernel) rfl ?_
  refine l_ild (p' := 2036) rfl rfl rfl rfl ?_
  refine l_if (p' := 2051) true rfl rfl (by decide +kernel) rfl ?_
  refine l_goto (p' := 2541) rfl rfl rfl ?_
  refine l_incz (p' := 2544) (w := (nI (i + 4))) (ls' := [_, _, _, _, _, _, _, _, _, _]) rfl rfl rfl rfl (mI_add _ _) rfl rfl ?_
  refine l_goto (p' := 28) rfl rfl rfl ?_
  exact hn _ _ _ _ _ ⟨(rd_ss rfl (rd_app H400)), (mz_fr.s (by decide) (mz_fr.a (mz_fr.rf _ h))), (Nat.le_trans (Nat.le_of_eq (len_s (len_a HL rfl))) (by omega)), (Nat.le_trans (sz_s rfl (rd_app H400) rfl (sz_aa (k := 6) (m := mj_sz h + 6) rfl (by omega) (Nat.le_refl (mj_sz h)))) (by omega))⟩
