/-! Rounds on any state. -/
/-! What stays. -/
/-- cells but those of a list stay -/
def mz_fr (L : List Nat) (h h' : mj_H) : Prop := ∀ a, a ∉ L → ∀ c, mj_rd h a = some c → mj_rd h' a = some c
theorem mz_fr.rf (L : List Nat) (h : mj_H) : mz_fr L h h := fun _ _ _ q => q
theorem mz_fr.tr {L : List Nat} {h g k : mj_H} (a : mz_fr L h g) (b : mz_fr L g k) : mz_fr L h k := fun x hx c q => b x hx c (a x hx c q)
theorem mz_fr.s {L : List Nat} {h g : mj_H} {a : Nat} {c : mj_C} (hm : a ∈ L) (f : mz_fr L h g) : mz_fr L h (g.set a c) := fun x hx d q => (rd_setn (fun e => hx (by rw [← e]; exact hm))).trans (f x hx d q)
theorem mz_fr.n {L : List Nat} {h g : mj_H} {a N : Nat} {c : mj_C} (hl : h.length = N) (ha : N ≤ a) (hb : a < mj_CB) (f : mz_fr L h g) : mz_fr L h (g.set a c) := fun x hx d q => by
  refine (rd_setn ?_).trans (f x hx d q)
  intro e
  have := rd_len (e ▸ hb) q
  omega
theorem mz_fr.a {L : List Nat} {h g : mj_H} {c : mj_C} (f : mz_fr L h g) : mz_fr L h (g ++ [c]) := fun x hx d q => rd_app (f x hx d q)

theorem w_12 {L i N : Nat} {xs : Nat → Int32} {h : mj_H} {l6 l7 l8 l9 : Option Value} {P : mj_H → Prop} (hL : L ≤ 2048) (hi : i + 4 ≤ L) (hN : N + 2000 < mj_CB) (hN0 : 414 ≤ N) (HL : h.length = N) (hk : xs i &&& nI 63 = nI 12) {gs pl ty wa nw nx dp ca mf : Value} {th : Int32} {sd be : Int64} {ou : Nat → Int64} {vf wf sf uf im jm : Nat → Int32} {k g : Nat} (hk20 : k ≤ 20) (hvw : ∀ j, j < 8 → wf j = vf j) (hsu : ∀ j, j < k → uf j = sf j) (him : ∀ j, j < 8 → jm j = im j) {pe pm ge gm : Value} {q : Nat} (hq6 : q ≤ 6) (hg24 : g ≤ 24)   (H0 : mj_rd h 0 = some (.inr (0, [.ref 1, .ref 38, .ref 299, .ref 336, .ref 373, .ref 375, .ref 378, .ref 381, .ref 387, .ref 393, gs, pl, .ref 397, .ref 398, .ref 399, .long sd, .long be]))) (H375 : mj_rd h 375 = some (.inr (7, [.ref 376, .ref 377, .int (nI k)]))) (H400 : mj_rd h 400 = some (.inr (17, [.int th, .ref 401, .ref 402, ty, .long sd, .long be, .ref 410, wa, nw, nx, .ref 411]))) (H402 : mj_rd h 402 = some (.inr (19, [.ref 403, .ref 404, .ref 405, .ref 406, .ref 407, .ref 408, .ref 409, .int (nI k), dp, ca, .ref 400]))) (hn : ∀ (l6 l7 l8 l9 : Option Value) (h' : mj_H), mj_rd h' 400 = some (.inr (17, [.int (nI 0), .ref 401, .ref 402, ty, .long sd, .long be, .ref 410, wa, nw, nx, .ref 411])) ∧ mz_fr [400] h h' ∧ h'.length ≤ N + 0 ∧ mj_sz h' ≤ mj_sz h + 0 → mj_lrun L xs (28, [some (.retAddr 1), some (.ref 0), some (.ref 400), some (.ref 412), some (.ref 413), some (.int (nI (i + 4))), l6, l7, l8, l9], [], h') P) : mj_lrun L xs (28, [some (.retAddr 1), some (.ref 0), some (.ref 400), some (.ref 412), some (.ref 413), some (.int (nI i)), l6, l7, l8, l9], [], h) P := by
  refine l_ild (p' := 30) rfl rfl rfl rfl ?_
  refine l_alds (p' := 31) rfl rfl rfl rfl ?_
  refine l_lens (p' := 32) rfl rfl rfl ?_
  refine l_con (p' := 33) rfl rfl rfl ?_
  refine l_bz (p' := 34) (z := (nI (L - 4))) rfl rfl rfl rfl rfl (mI_sub (by omega)) ?_
  refine l_icmp (p' := 37) false rfl rfl ((ci_gt (by omega) (by omega)).trans (decide_eq_false (by omega))) rfl ?_
  refine l_alds (p' := 38) rfl rfl rfl rfl ?_
  refine l_ild (p' := 40) rfl rfl rfl rfl ?_
  refine l_ialz (p' := 41) (m := i) (z := (xs i)) rfl rfl (inb_nI (by omega) (by omega)) (mI_cl (by omega)) rfl rfl ?_
  refine l_bip (p' := 43) rfl rfl rfl ?_
  refine l_bz (p' := 44) (z := (nI 12)) rfl rfl rfl rfl rfl hk ?_
  refine l_sp (p' := 895) (ls' := _) rfl rfl rfl rfl rfl ?_
  refine l_aldn (p' := 896) rfl rfl rfl rfl ?_
  refine l_call (p' := 899) (kc := 99) (ls0 := [_]) rfl rfl rfl rfl rfl rfl (mj_rcv_is H0) rfl rfl rfl ?_
  refine s_aldn (p' := 1) rfl rfl rfl ?_
  refine s_gf (p' := 4) rfl H0 rfl rfl ?_
  refine c_call (p' := 7) (kc := 98) (ls0 := [_]) rfl rfl rfl rfl rfl (mj_rcv_is H375) rfl rfl rfl ?_
  refine s_aldn (p' := 1) rfl rfl rfl ?_
  refine s_gf (p' := 4) rfl H375 rfl rfl ?_
  refine c_iret rfl rfl ?_
  refine k_iret rfl rfl ?_
  refine l_aldn (p' := 900) rfl rfl rfl rfl ?_
  refine l_call (p' := 903) (kc := 99) (ls0 := [_]) rfl rfl rfl rfl rfl rfl (mj_rcv_is H400) rfl rfl rfl ?_
  refine s_aldn (p' := 1) rfl rfl rfl ?_
  refine s_con (p' := 2) rfl rfl ?_
  refine s_pfz (p' := 5) (fs' := [_, _, _, _, _, _, _, _, _, _, _]) rfl rfl H400 rfl rfl rfl rfl ?_
  refine s_aldn (p' := 6) rfl rfl rfl ?_
  refine s_gf (p' := 9) rfl (rd_ss rfl H400) rfl rfl ?_
  refine s_gf (p' := 12) rfl (rd_sn rfl H402) rfl rfl ?_
  refine k_iret rfl rfl ?_
  refine l_icmp (p' := 2541) true rfl rfl ((ci_eq (by omega) (by omega)).trans (decide_eq_true (by omega))) rfl ?_
  refine l_incz (p' := 2544) (w := (nI (i + 4))) (ls' := [_, _, _, _, _, _, _, _, _, _]) rfl rfl rfl rfl (mI_add _ _) rfl rfl ?_
  refine l_goto (p' := 28) rfl rfl rfl ?_
  exact hn _ _ _ _ _ ⟨(rd_ss rfl H400), (mz_fr.s (by decide) (mz_fr.rf _ h)), (Nat.le_trans (Nat.le_of_eq (len_s HL)) (by omega)), (Nat.le_trans (sz_s rfl H400 rfl (Nat.le_refl (mj_sz h))) (by omega))⟩
theorem w_25 {L i N : Nat} {xs : Nat → Int32} {h : mj_H} {l6 l7 l8 l9 : Option Value} {P : mj_H → Prop} (hL : L ≤ 2048) (hi : i + 4 ≤ L) (hN : N + 2000 < mj_CB) (hN0 : 414 ≤ N) (HL : h.length = N) (hk : xs i &&& nI 63 = nI 25) {gs pl ty wa nw nx dp ca mf : Value} {th : Int32} {sd be : Int64} {ou : Nat → Int64} {vf wf sf uf im jm : Nat → Int32} {k g : Nat} (hk20 : k ≤ 20) (hvw : ∀ j, j < 8 → wf j = vf j) (hsu : ∀ j, j < k → uf j = sf j) (him : ∀ j, j < 8 → jm j = im j) {pe pm ge gm : Value} {q : Nat} (hq6 : q ≤ 6) (hg24 : g ≤ 24)   (H0 : mj_rd h 0 = some (.inr (0, [.ref 1, .ref 38, .ref 299, .ref 336, .ref 373, .ref 375, .ref 378, .ref 381, .ref 387, .ref 393, gs, pl, .ref 397, .ref 398, .ref 399, .long sd, .long be]))) (H400 : mj_rd h 400 = some (.inr (17, [.int th, .ref 401, .ref 402, ty, .long sd, .long be, .ref 410, wa, nw, nx, .ref 411]))) (hn : ∀ (l6 l7 l8 l9 : Option Value) (h' : mj_H), mj_rd h' 400 = some (.inr (17, [.int (nI 0), .ref 401, .ref 402, ty, .long sd, .long be, .ref 410, wa, nw, nx, .ref 411])) ∧ mz_fr [400] h h' ∧ h'.length ≤ N + 0 ∧ mj_sz h' ≤ mj_sz h + 0 → mj_lrun L xs (28, [some (.retAddr 1), some (.ref 0), some (.ref 400), some (.ref 412), some (.ref 413), some (.int (nI (i + 4))), l6, l7, l8, l9], [], h') P) : mj_lrun L xs (28, [some (.retAddr 1), some (.ref 0), some (.ref 400), some (.ref 412), some (.ref 413), some (.int (nI i)), l6, l7, l8, l9], [], h) P := by
  refine l_ild (p' := 30) rfl rfl rfl rfl ?_
  refine l_alds (p' := 31) rfl rfl rfl rfl ?_
  refine l_lens (p' := 32) rfl rfl rfl ?_
  refine l_con (p' := 33) rfl rfl rfl ?_
  refine l_bz (p' := 34) (z := (nI (L - 4))) rfl rfl rfl rfl rfl (mI_sub (by omega)) ?_
  refine l_icmp (p' := 37) false rfl rfl ((ci_gt (by omega) (by omega)).trans (decide_eq_false (by omega))) rfl ?_
  refine l_alds (p' := 38) rfl rfl rfl rfl ?_
  refine l_ild (p' := 40) rfl rfl rfl rfl ?_
  refine l_ialz (p' := 41) (m := i) (z := (xs i)) rfl rfl (inb_nI (by omega) (by omega)) (mI_cl (by omega)) rfl rfl ?_
  refine l_bip (p' := 43) rfl rfl rfl ?_
  refine l_bz (p' := 44) (z := (nI 25)) rfl rfl rfl rfl rfl hk ?_
  refine l_sp (p' := 1581) (ls' := _) rfl rfl rfl rfl rfl ?_
  refine l_aldn (p' := 1582) rfl rfl rfl rfl ?_
  refine l_call (p' := 1585) (kc := 99) (ls0 := [_]) rfl rfl rfl rfl rfl rfl (mj_rcv_is H0) rfl rfl rfl ?_
  refine s_aldn (p' := 1) rfl rfl rfl ?_
  refine s_gf (p' := 4) rfl H0 rfl rfl ?_
  refine k_lret rfl ?_
  refine l_aldn (p' := 1586) rfl rfl rfl rfl ?_
  refine l_call (p' := 1589) (kc := 99) (ls0 := [_]) rfl rfl rfl rfl rfl rfl (mj_rcv_is H400) rfl rfl rfl ?_
  refine s_aldn (p' := 1) rfl rfl rfl ?_
  refine s_con (p' := 2) rfl rfl ?_
  refine s_pfz (p' := 5) (fs' := [_, _, _, _, _, _, _, _, _, _, _]) rfl rfl H400 rfl rfl rfl rfl ?_
  refine s_aldn (p' := 6) rfl rfl rfl ?_
  refine s_gf (p' := 9) rfl (rd_ss rfl H400) rfl rfl ?_
  refine k_lret rfl ?_
  refine l_bz (p' := 1590) (z := nI 0) rfl rfl rfl rfl rfl (lcmp_self _) ?_
  refine l_if (p' := 2541) true rfl rfl (by decide +kernel) rfl ?_
  refine l_incz (p' := 2544) (w := (nI (i + 4))) (ls' := [_, _, _, _, _, _, _, _, _, _]) rfl rfl rfl rfl (mI_add _ _) rfl rfl ?_
  refine l_goto (p' := 28) rfl rfl rfl ?_
  exact hn _ _ _ _ _ ⟨(rd_ss rfl H400), (mz_fr.s (by decide) (mz_fr.rf _ h)), (Nat.le_trans (Nat.le_of_eq (len_s HL)) (by omega)), (Nat.le_trans (sz_s rfl H400 rfl (Nat.le_refl (mj_sz h))) (by omega))⟩
theorem w_31 {L i N : Nat} {xs : Nat → Int32} {h : mj_H} {l6 l7 l8 l9 : Option Value} {P : mj_H → Prop} (hL : L ≤ 2048) (hi : i + 4 ≤ L) (hN : N + 2000 < mj_CB) (hN0 : 414 ≤ N) (HL : h.length = N) (hk : xs i &&& nI 63 = nI 31) {gs pl ty wa nw nx dp ca mf : Value} {th : Int32} {sd be : Int64} {ou : Nat → Int64} {vf wf sf uf im jm : Nat → Int32} {k g : Nat} (hk20 : k ≤ 20) (hvw : ∀ j, j < 8 → wf j = vf j) (hsu : ∀ j, j < k → uf j = sf j) (him : ∀ j, j < 8 → jm j = im j) {pe pm ge gm : Value} {q : Nat} (hq6 : q ≤ 6) (hg24 : g ≤ 24)   (H0 : mj_rd h 0 = some (.inr (0, [.ref 1, .ref 38, .ref 299, .ref 336, .ref 373, .ref 375, .ref 378, .ref 381, .ref 387, .ref 393, gs, pl, .ref 397, .ref 398, .ref 399, .long sd, .long be]))) (H393 : mj_rd h 393 = some (.inr (9, [.ref 394, .ref 395, .ref 396, .int (nI g), mf]))) (H400 : mj_rd h 400 = some (.inr (17, [.int th, .ref 401, .ref 402, ty, .long sd, .long be, .ref 410, wa, nw, nx, .ref 411]))) (H410 : mj_rd h 410 = some (.inr (18, [ge, .int (nI g), gm]))) (hn : ∀ (l6 l7 l8 l9 : Option Value) (h' : mj_H), mj_rd h' 400 = some (.inr (17, [.int (nI 0), .ref 401, .ref 402, ty, .long sd, .long be, .ref 410, wa, nw, nx, .ref 411])) ∧ mz_fr [400] h h' ∧ h'.length ≤ N + 0 ∧ mj_sz h' ≤ mj_sz h + 0 → mj_lrun L xs (28, [some (.retAddr 1), some (.ref 0), some (.ref 400), some (.ref 412), some (.ref 413), some (.int (nI (i + 4))), l6, l7, l8, l9], [], h') P) : mj_lrun L xs (28, [some (.retAddr 1), some (.ref 0), some (.ref 400), some (.ref 412), some (.ref 413), some (.int (nI i)), l6, l7, l8, l9], [], h) P := by
  refine l_ild (p' := 30) rfl rfl rfl rfl ?_
  refine l_alds (p' := 31) rfl rfl rfl rfl ?_
  refine l_lens (p' := 32) rfl rfl rfl ?_
  refine l_con (p' := 33) rfl rfl rfl ?_
  refine l_bz (p' := 34) (z := (nI (L - 4))) rfl rfl rfl rfl rfl (mI_sub (by omega)) ?_
  refine l_icmp (p' := 37) false rfl rfl ((ci_gt (by omega) (by omega)).trans (decide_eq_false (by omega))) rfl ?_
  refine l_alds (p' := 38) rfl rfl rfl rfl ?_
  refine l_ild (p' := 40) rfl rfl rfl rfl ?_
  refine l_ialz (p' := 41) (m := i) (z := (xs i)) rfl rfl (inb_nI (by omega) (by omega)) (mI_cl (by omega)) rfl rfl ?_
  refine l_bip (p' := 43) rfl rfl rfl ?_
  refine l_bz (p' := 44) (z := (nI 31)) rfl rfl rfl rfl rfl hk ?_
  refine l_sp (p' := 1929) (ls' := _) rfl rfl rfl rfl rfl ?_
  refine l_aldn (p' := 1930) rfl rfl rfl rfl ?_
  refine l_call (p' := 1933) (kc := 99) (ls0 := [_]) rfl rfl rfl rfl rfl rfl (mj_rcv_is H0) rfl rfl rfl ?_
  refine s_aldn (p' := 1) rfl rfl rfl ?_
  refine s_gf (p' := 4) rfl H0 rfl rfl ?_
  refine c_call (p' := 7) (kc := 98) (ls0 := [_]) rfl rfl rfl rfl rfl (mj_rcv_is H393) rfl rfl rfl ?_
  refine s_aldn (p' := 1) rfl rfl rfl ?_
  refine s_gf (p' := 4) rfl H393 rfl rfl ?_
  refine c_iret rfl rfl ?_
  refine k_iret rfl rfl ?_
  refine l_aldn (p' := 1934) rfl rfl rfl rfl ?_
  refine l_call (p' := 1937) (kc := 99) (ls0 := [_]) rfl rfl rfl rfl rfl rfl (mj_rcv_is H400) rfl rfl rfl ?_
  refine s_aldn (p' := 1) rfl rfl rfl ?_
  refine s_con (p' := 2) rfl rfl ?_
  refine s_pfz (p' := 5) (fs' := [_, _, _, _, _, _, _, _, _, _, _]) rfl rfl H400 rfl rfl rfl rfl ?_
  refine s_aldn (p' := 6) rfl rfl rfl ?_
  refine s_gf (p' := 9) rfl (rd_ss rfl H400) rfl rfl ?_
  refine c_call (p' := 14) (kc := 98) (ls0 := [_]) rfl rfl rfl rfl rfl (mj_rcv_is (rd_sn rfl H410)) rfl rfl rfl ?_
  refine s_aldn (p' := 1) rfl rfl rfl ?_
  refine s_gf (p' := 4) rfl (rd_sn rfl H410) rfl rfl ?_
  refine c_iret rfl rfl ?_
  refine k_iret rfl rfl ?_
  refine l_icmp (p' := 2541) true rfl rfl ((ci_eq (by omega) (by omega)).trans (decide_eq_true (by omega))) rfl ?_
  refine l_incz (p' := 2544) (w := (nI (i + 4))) (ls' := [_, _, _, _, _, _, _, _, _, _]) rfl rfl rfl rfl (mI_add _ _) rfl rfl ?_
  refine l_goto (p' := 28) rfl rfl rfl ?_
  exact hn _ _ _ _ _ ⟨(rd_ss rfl H400), (mz_fr.s (by decide) (mz_fr.rf _ h)), (Nat.le_trans (Nat.le_of_eq (len_s HL)) (by omega)), (Nat.le_trans (sz_s rfl H400 rfl (Nat.le_refl (mj_sz h))) (by omega))⟩
theorem w_46 {L i N : Nat} {xs : Nat → Int32} {h : mj_H} {l6 l7 l8 l9 : Option Value} {P : mj_H → Prop} (hL : L ≤ 2048) (hi : i + 4 ≤ L) (hN : N + 2000 < mj_CB) (hN0 : 414 ≤ N) (HL : h.length = N) (hk : xs i &&& nI 63 = nI 46) {gs pl ty wa nw nx dp ca mf : Value} {th : Int32} {sd be : Int64} {ou : Nat → Int64} {vf wf sf uf im jm : Nat → Int32} {k g : Nat} (hk20 : k ≤ 20) (hvw : ∀ j, j < 8 → wf j = vf j) (hsu : ∀ j, j < k → uf j = sf j) (him : ∀ j, j < 8 → jm j = im j) {pe pm ge gm : Value} {q : Nat} (hq6 : q ≤ 6) (hg24 : g ≤ 24)   (H0 : mj_rd h 0 = some (.inr (0, [.ref 1, .ref 38, .ref 299, .ref 336, .ref 373, .ref 375, .ref 378, .ref 381, .ref 387, .ref 393, gs, pl, .ref 397, .ref 398, .ref 399, .long sd, .long be]))) (H38 : mj_rd h 38 = some (.inr (6, [.ref 39, .ref 40, .int (nI q)]))) (H400 : mj_rd h 400 = some (.inr (17, [.int th, .ref 401, .ref 402, ty, .long sd, .long be, .ref 410, wa, nw, nx, .ref 411]))) (H401 : mj_rd h 401 = some (.inr (18, [pe, .int (nI q), pm]))) (hn : ∀ (l6 l7 l8 l9 : Option Value) (h' : mj_H), mj_rd h' 400 = some (.inr (17, [.int (nI 0), .ref 401, .ref 402, ty, .long sd, .long be, .ref 410, wa, nw, nx, .ref 411])) ∧ mz_fr [400] h h' ∧ h'.length ≤ N + 0 ∧ mj_sz h' ≤ mj_sz h + 0 → mj_lrun L xs (28, [some (.retAddr 1), some (.ref 0), some (.ref 400), some (.ref 412), some (.ref 413), some (.int (nI (i + 4))), l6, l7, l8, l9], [], h') P) : mj_lrun L xs (28, [some (.retAddr 1), some (.ref 0), some (.ref 400), some (.ref 412), some (.ref 413), some (.int (nI i)), l6, l7, l8, l9], [], h) P := by
  refine l_ild (p' := 30) rfl rfl rfl rfl ?_
  refine l_alds (p' := 31) rfl rfl rfl rfl ?_
  refine l_lens (p' := 32) rfl rfl rfl ?_
  refine l_con (p' := 33) rfl rfl rfl ?_
  refine l_bz (p' := 34) (z := (nI (L - 4))) rfl rfl rfl rfl rfl (mI_sub (by omega)) ?_
  refine l_icmp (p' := 37) false rfl rfl ((ci_gt (by omega) (by omega)).trans (decide_eq_false (by omega))) rfl ?_
  refine l_alds (p' := 38) rfl rfl rfl rfl ?_
  refine l_ild (p' := 40) rfl rfl rfl rfl ?_
  refine l_ialz (p' := 41) (m := i) (z := (xs i)) rfl rfl (inb_nI (by omega) (by omega)) (mI_cl (by omega)) rfl rfl ?_
  refine l_bip (p' := 43) rfl rfl rfl ?_
  refine l_bz (p' := 44) (z := (nI 46)) rfl rfl rfl rfl rfl hk ?_
  refine l_sp (p' := 2436) (ls' := _) rfl rfl rfl rfl rfl ?_
  refine l_aldn (p' := 2437) rfl rfl rfl rfl ?_
  refine l_call (p' := 2440) (kc := 99) (ls0 := [_]) rfl rfl rfl rfl rfl rfl (mj_rcv_is H0) rfl rfl rfl ?_
  refine s_aldn (p' := 1) rfl rfl rfl ?_
  refine s_gf (p' := 4) rfl H0 rfl rfl ?_
  refine c_call (p' := 7) (kc := 98) (ls0 := [_]) rfl rfl rfl rfl rfl (mj_rcv_is H38) rfl rfl rfl ?_
  refine s_aldn (p' := 1) rfl rfl rfl ?_
  refine s_gf (p' := 4) rfl H38 rfl rfl ?_
  refine c_iret rfl rfl ?_
  refine k_iret rfl rfl ?_
  refine l_aldn (p' := 2441) rfl rfl rfl rfl ?_
  refine l_call (p' := 2444) (kc := 99) (ls0 := [_]) rfl rfl rfl rfl rfl rfl (mj_rcv_is H400) rfl rfl rfl ?_
  refine s_aldn (p' := 1) rfl rfl rfl ?_
  refine s_con (p' := 2) rfl rfl ?_
  refine s_pfz (p' := 5) (fs' := [_, _, _, _, _, _, _, _, _, _, _]) rfl rfl H400 rfl rfl rfl rfl ?_
  refine s_aldn (p' := 6) rfl rfl rfl ?_
  refine s_gf (p' := 9) rfl (rd_ss rfl H400) rfl rfl ?_
  refine c_call (p' := 14) (kc := 98) (ls0 := [_]) rfl rfl rfl rfl rfl (mj_rcv_is (rd_sn rfl H401)) rfl rfl rfl ?_
  refine s_aldn (p' := 1) rfl rfl rfl ?_
  refine s_gf (p' := 4) rfl (rd_sn rfl H401) rfl rfl ?_
  refine c_iret rfl rfl ?_
  refine k_iret rfl rfl ?_
  refine l_icmp (p' := 2541) true rfl rfl ((ci_eq (by omega) (by omega)).trans (decide_eq_true (by omega))) rfl ?_
  refine l_incz (p' := 2544) (w := (nI (i + 4))) (ls' := [_, _, _, _, _, _, _, _, _, _]) rfl rfl rfl rfl (mI_add _ _) rfl rfl ?_
  refine l_goto (p' := 28) rfl rfl rfl ?_
  exact hn _ _ _ _ _ ⟨(rd_ss rfl H400), (mz_fr.s (by decide) (mz_fr.rf _ h)), (Nat.le_trans (Nat.le_of_eq (len_s HL)) (by omega)), (Nat.le_trans (sz_s rfl H400 rfl (Nat.le_refl (mj_sz h))) (by omega))⟩
theorem w_10 {L i N : Nat} {xs : Nat → Int32} {h : mj_H} {l6 l7 l8 l9 : Option Value} {P : mj_H → Prop} (hL : L ≤ 2048) (hi : i + 4 ≤ L) (hN : N + 2000 < mj_CB) (hN0 : 414 ≤ N) (HL : h.length = N) (hk : xs i &&& nI 63 = nI 10) {gs pl ty wa nw nx dp ca mf : Value} {th : Int32} {sd be : Int64} {ou : Nat → Int64} {vf wf sf uf im jm : Nat → Int32} {k g : Nat} (hk20 : k ≤ 20) (hvw : ∀ j, j < 8 → wf j = vf j) (hsu : ∀ j, j < k → uf j = sf j) (him : ∀ j, j < 8 → jm j = im j) {pe pm ge gm : Value} {q : Nat} (hq6 : q ≤ 6) (hg24 : g ≤ 24) {v : Nat} (hv : v < 8) (hc : ((xs (i + 1)).toUInt32 % 65536).toInt32 = nI (97 + v))  (H0 : mj_rd h 0 = some (.inr (0, [.ref 1, .ref 38, .ref 299, .ref 336, .ref 373, .ref 375, .ref 378, .ref 381, .ref 387, .ref 393, gs, pl, .ref 397, .ref 398, .ref 399, .long sd, .long be]))) (H375 : mj_rd h 375 = some (.inr (7, [.ref 376, .ref 377, .int (nI k)]))) (H376 : mj_rd h 376 = some (.inl (0, (8, .inl (vf))))) (H400 : mj_rd h 400 = some (.inr (17, [.int th, .ref 401, .ref 402, ty, .long sd, .long be, .ref 410, wa, nw, nx, .ref 411]))) (H402 : mj_rd h 402 = some (.inr (19, [.ref 403, .ref 404, .ref 405, .ref 406, .ref 407, .ref 408, .ref 409, .int (nI k), dp, ca, .ref 400]))) (H403 : mj_rd h 403 = some (.inl (0, (8, .inl (wf))))) (H412 : mj_rd h 412 = some (.inl (4, (1, .inr (.inl (ou)))))) (hn : ∀ (l6 l7 l8 l9 : Option Value) (h' : mj_H), mj_rd h' 376 = some (.inl (0, (8, .inl ((upd vf v (xs (i + 2))))))) ∧ mj_rd h' 400 = some (.inr (17, [.int (nI 0), .ref 401, .ref 402, ty, .long sd, .long be, .ref 410, wa, nw, nx, .ref 411])) ∧ mj_rd h' 403 = some (.inl (0, (8, .inl ((upd wf v (xs (i + 2))))))) ∧ mj_rd h' 412 = some (.inl (4, (1, .inr (.inl ((vp_updL ou 0 (Int32.toInt64 (vf v)))))))) ∧ mz_fr [376, 400, 403, 412] h h' ∧ h'.length ≤ N + 0 ∧ mj_sz h' ≤ mj_sz h + 0 → mj_lrun L xs (28, [some (.retAddr 1), some (.ref 0), some (.ref 400), some (.ref 412), some (.ref 413), some (.int (nI (i + 4))), l6, l7, l8, l9], [], h') P) : mj_lrun L xs (28, [some (.retAddr 1), some (.ref 0), some (.ref 400), some (.ref 412), some (.ref 413), some (.int (nI i)), l6, l7, l8, l9], [], h) P := by
  refine l_ild (p' := 30) rfl rfl rfl rfl ?_
  refine l_alds (p' := 31) rfl rfl rfl rfl ?_
  refine l_lens (p' := 32) rfl rfl rfl ?_
  refine l_con (p' := 33) rfl rfl rfl ?_
  refine l_bz (p' := 34) (z := (nI (L - 4))) rfl rfl rfl rfl rfl (mI_sub (by omega)) ?_
  refine l_icmp (p' := 37) false rfl rfl ((ci_gt (by omega) (by omega)).trans (decide_eq_false (by omega))) rfl ?_
  refine l_alds (p' := 38) rfl rfl rfl rfl ?_
  refine l_ild (p' := 40) rfl rfl rfl rfl ?_
  refine l_ialz (p' := 41) (m := i) (z := (xs i)) rfl rfl (inb_nI (by omega) (by omega)) (mI_cl (by omega)) rfl rfl ?_
  refine l_bip (p' := 43) rfl rfl rfl ?_
  refine l_bz (p' := 44) (z := (nI 10)) rfl rfl rfl rfl rfl hk ?_
  refine l_sp (p' := 767) (ls' := _) rfl rfl rfl rfl rfl ?_
  refine l_aldn (p' := 768) rfl rfl rfl rfl ?_
  refine l_alds (p' := 769) rfl rfl rfl rfl ?_
  refine l_ild (p' := 771) rfl rfl rfl rfl ?_
  refine l_con (p' := 772) rfl rfl rfl ?_
  refine l_bz (p' := 773) (z := (nI (i + 1))) rfl rfl rfl rfl rfl (mI_add _ _) ?_
  refine l_ialz (p' := 774) (m := (i + 1)) (z := (xs (i + 1))) rfl rfl (inb_nI (by omega) (by omega)) (mI_cl (by omega)) rfl rfl ?_
  refine l_bz (p' := 775) (z := (nI (97 + v))) rfl rfl rfl rfl rfl hc ?_
  refine l_alds (p' := 776) rfl rfl rfl rfl ?_
  refine l_ild (p' := 778) rfl rfl rfl rfl ?_
  refine l_con (p' := 779) rfl rfl rfl ?_
  refine l_bz (p' := 780) (z := (nI (i + 2))) rfl rfl rfl rfl rfl (mI_add _ _) ?_
  refine l_ialz (p' := 781) (m := (i + 2)) (z := (xs (i + 2))) rfl rfl (inb_nI (by omega) (by omega)) (mI_cl (by omega)) rfl rfl ?_
  refine l_aldn (p' := 782) rfl rfl rfl rfl ?_
  refine l_call (p' := 785) (kc := 99) (ls0 := [_, _, _, _, _]) rfl rfl rfl rfl rfl rfl rfl rfl rfl rfl ?_
  refine s_aldn (p' := 1) rfl rfl rfl ?_
  refine s_con (p' := 2) rfl rfl ?_
  refine s_aldn (p' := 3) rfl rfl rfl ?_
  refine s_ildn (p' := 4) rfl rfl rfl ?_
  refine s_ildn (p' := 5) rfl rfl rfl ?_
  refine c_call (p' := 8) (kc := 98) (ls0 := [_, _, _, _]) rfl rfl rfl rfl rfl (mj_rcv_is H0) rfl rfl rfl ?_
  refine s_ildn (p' := 1) rfl rfl rfl ?_
  refine c_call (p' := 4) (kc := 97) (ls0 := [_]) rfl rfl rfl rfl rfl rfl rfl rfl rfl ?_
  refine s_ildn (p' := 1) rfl rfl rfl ?_
  refine s_bip (p' := 3) rfl rfl ?_
  refine s_icmp (p' := 6) false rfl ((cg_lt (w := 97) (by decide +kernel)).trans (decide_eq_false (by rw [mI_ti (by omega)]; omega))) rfl ?_
  refine s_ildn (p' := 7) rfl rfl rfl ?_
  refine s_bip (p' := 9) rfl rfl ?_
  refine s_icmp (p' := 12) false rfl ((cg_gt (w := 104) (by decide +kernel)).trans (decide_eq_false (by rw [mI_ti (by omega)]; omega))) rfl ?_
  refine s_con (p' := 13) rfl rfl ?_
  refine s_goto (p' := 17) rfl rfl ?_
  refine c_iret rfl (by decide +kernel) ?_
  refine s_if (p' := 17) true rfl (by decide +kernel) rfl ?_
  refine s_aldn (p' := 18) rfl rfl rfl ?_
  refine s_gf (p' := 21) rfl H0 rfl rfl ?_
  refine s_ildn (p' := 22) rfl rfl rfl ?_
  refine s_bip (p' := 24) rfl rfl ?_
  refine s_bz (p' := 25) (z := (nI v)) rfl rfl rfl (by rw [mI_sub (by omega), Nat.add_sub_cancel_left]) ?_
  refine c_call (p' := 28) (kc := 97) (ls0 := [_, _]) rfl rfl rfl rfl rfl (mj_rcv_is H375) rfl rfl rfl ?_
  refine s_ildn (p' := 1) rfl rfl rfl ?_
  refine s_if (p' := 4) false rfl ((cg_lt (w := 0) (by decide +kernel)).trans (decide_eq_false (by rw [mI_ti (by omega)]; omega))) rfl ?_
  refine s_ildn (p' := 5) rfl rfl rfl ?_
  refine s_aldn (p' := 6) rfl rfl rfl ?_
  refine s_gf (p' := 9) rfl H375 rfl rfl ?_
  refine s_lenz (p' := 10) rfl (mj_rdA_is H376 (by decide)) rfl rfl ?_
  refine s_icmp (p' := 13) false rfl ((cg_ge (w := 8) (by decide +kernel)).trans (decide_eq_false (by rw [mI_ti (by omega)]; omega))) rfl ?_
  refine s_aldn (p' := 14) rfl rfl rfl ?_
  refine s_gf (p' := 17) rfl H375 rfl rfl ?_
  refine s_ildn (p' := 18) rfl rfl rfl ?_
  refine s_ialz (p' := 19) (m := v) (v := (vf v)) rfl H376 (inb_nI (by omega) (by omega)) (mI_cl (by omega)) rfl rfl ?_
  refine s_goto (p' := 23) rfl rfl ?_
  refine c_iret rfl rfl ?_
  refine s_istn (p' := 29) (ls' := [_, _, _, _]) rfl rfl rfl rfl ?_
  refine s_aldn (p' := 30) rfl rfl rfl ?_
  refine s_gf (p' := 33) rfl H0 rfl rfl ?_
  refine s_ildn (p' := 34) rfl rfl rfl ?_
  refine s_bip (p' := 36) rfl rfl ?_
  refine s_bz (p' := 37) (z := (nI v)) rfl rfl rfl (by rw [mI_sub (by omega), Nat.add_sub_cancel_left]) ?_
  refine s_ildn (p' := 38) rfl rfl rfl ?_
  refine c_call (p' := 41) (kc := 97) (ls0 := [_, _, _]) rfl rfl rfl rfl rfl (mj_rcv_is H375) rfl rfl rfl ?_
  refine s_ildn (p' := 1) rfl rfl rfl ?_
  refine s_if (p' := 4) false rfl ((cg_lt (w := 0) (by decide +kernel)).trans (decide_eq_false (by rw [mI_ti (by omega)]; omega))) rfl ?_
  refine s_ildn (p' := 5) rfl rfl rfl ?_
  refine s_aldn (p' := 6) rfl rfl rfl ?_
  refine s_gf (p' := 9) rfl H375 rfl rfl ?_
  refine s_lenz (p' := 10) rfl (mj_rdA_is H376 (by decide)) rfl rfl ?_
  refine s_icmp (p' := 13) false rfl ((cg_ge (w := 8) (by decide +kernel)).trans (decide_eq_false (by rw [mI_ti (by omega)]; omega))) rfl ?_
  refine s_aldn (p' := 14) rfl rfl rfl ?_
  refine s_gf (p' := 17) rfl H375 rfl rfl ?_
  refine s_ildn (p' := 18) rfl rfl rfl ?_
  refine s_ildn (p' := 19) rfl rfl rfl ?_
  refine s_iasz (p' := 20) (m := v) rfl rfl H376 (inb_nI (by omega) (by omega)) (mI_cl (by omega)) rfl rfl ?_
  refine c_ret rfl ?_
  refine s_ildn (p' := 42) rfl rfl rfl ?_
  refine c_iret rfl rfl ?_
  refine s_bzL (p' := 9) (z := (Int32.toInt64 (vf v))) rfl rfl rfl rfl ?_
  refine s_lasz (p' := 10) (m := 0) rfl rfl (rd_sn rfl H412) (by decide +kernel) rfl rfl rfl ?_
  refine s_goto (p' := 17) rfl rfl ?_
  refine s_con (p' := 18) rfl rfl ?_
  refine k_iret rfl rfl ?_
  refine l_ist (p' := 787) (ls' := [_, _, _, _, _, _, _, _, _, _]) rfl rfl rfl rfl rfl ?_
  refine l_aldn (p' := 788) rfl rfl rfl rfl ?_
  refine l_alds (p' := 789) rfl rfl rfl rfl ?_
  refine l_ild (p' := 791) rfl rfl rfl rfl ?_
  refine l_con (p' := 792) rfl rfl rfl ?_
  refine l_bz (p' := 793) (z := (nI (i + 1))) rfl rfl rfl rfl rfl (mI_add _ _) ?_
  refine l_ialz (p' := 794) (m := (i + 1)) (z := (xs (i + 1))) rfl rfl (inb_nI (by omega) (by omega)) (mI_cl (by omega)) rfl rfl ?_
  refine l_bz (p' := 795) (z := (nI (97 + v))) rfl rfl rfl rfl rfl hc ?_
  refine l_alds (p' := 796) rfl rfl rfl rfl ?_
  refine l_ild (p' := 798) rfl rfl rfl rfl ?_
  refine l_con (p' := 799) rfl rfl rfl ?_
  refine l_bz (p' := 800) (z := (nI (i + 2))) rfl rfl rfl rfl rfl (mI_add _ _) ?_
  refine l_ialz (p' := 801) (m := (i + 2)) (z := (xs (i + 2))) rfl rfl (inb_nI (by omega) (by omega)) (mI_cl (by omega)) rfl rfl ?_
  refine l_call (p' := 804) (kc := 99) (ls0 := [_, _, _, _]) rfl rfl rfl rfl rfl rfl (mj_rcv_is (rd_sn rfl (rd_sn rfl H400))) rfl rfl rfl ?_
  refine s_aldn (p' := 1) rfl rfl rfl ?_
  refine s_ildn (p' := 2) rfl rfl rfl ?_
  refine c_call (p' := 5) (kc := 98) (ls0 := [_]) rfl rfl rfl rfl rfl rfl rfl rfl rfl ?_
  refine s_ildn (p' := 1) rfl rfl rfl ?_
  refine s_bip (p' := 3) rfl rfl ?_
  refine s_bip (p' := 5) rfl rfl ?_
  refine c_call (p' := 8) (kc := 97) (ls0 := [_, _, _]) rfl rfl rfl rfl rfl rfl rfl rfl rfl ?_
  refine s_ildn (p' := 1) rfl rfl rfl ?_
  refine s_ildn (p' := 2) rfl rfl rfl ?_
  refine s_icmp (p' := 5) false rfl ((ch_gt (w := 97) (by decide +kernel)).trans (decide_eq_false (by rw [mI_ti (by omega)]; omega))) rfl ?_
  refine s_ildn (p' := 6) rfl rfl rfl ?_
  refine s_ildn (p' := 7) rfl rfl rfl ?_
  refine s_icmp (p' := 10) false rfl ((cg_gt (w := 104) (by decide +kernel)).trans (decide_eq_false (by rw [mI_ti (by omega)]; omega))) rfl ?_
  refine s_con (p' := 11) rfl rfl ?_
  refine s_goto (p' := 15) rfl rfl ?_
  refine c_iret rfl (by decide +kernel) ?_
  refine c_iret rfl (by decide +kernel) ?_
  refine s_if (p' := 8) false rfl (by decide +kernel) rfl ?_
  refine s_con (p' := 9) rfl rfl ?_
  refine s_goto (p' := 13) rfl rfl ?_
  refine c_call (p' := 16) (kc := 98) (ls0 := [_, _]) rfl rfl rfl rfl rfl (mj_rcv_is (rd_sn rfl (rd_sn rfl H400))) rfl rfl rfl ?_
  refine s_aldn (p' := 1) rfl rfl rfl ?_
  refine s_ildn (p' := 2) rfl rfl rfl ?_
  refine s_pfz (p' := 5) (fs' := [_, _, _, _, _, _, _, _, _, _, _]) rfl rfl (rd_sn rfl (rd_sn rfl H400)) rfl rfl rfl rfl ?_
  refine s_ildn (p' := 6) rfl rfl rfl ?_
  refine s_if (p' := 13) true rfl (by decide +kernel) rfl ?_
  refine s_con (p' := 14) rfl rfl ?_
  refine c_iret rfl (by decide +kernel) ?_
  refine s_if (p' := 21) true rfl (by decide +kernel) rfl ?_
  refine s_aldn (p' := 22) rfl rfl rfl ?_
  refine s_gf (p' := 25) rfl (rd_ss rfl (rd_sn rfl (rd_sn rfl H400))) rfl rfl ?_
  refine s_gf (p' := 28) rfl (rd_sn rfl (rd_sn rfl (rd_sn rfl H402))) rfl rfl ?_
  refine s_ildn (p' := 29) rfl rfl rfl ?_
  refine s_bip (p' := 31) rfl rfl ?_
  refine s_bz (p' := 32) (z := (nI v)) rfl rfl rfl (by rw [mI_sub (by omega), Nat.add_sub_cancel_left]) ?_
  refine s_ialz (p' := 33) (m := v) (v := (vf v)) rfl (rd_sn rfl (rd_sn rfl (rd_sn rfl H403))) (inb_nI (by omega) (by omega)) (mI_cl (by omega)) (hvw v (by omega)) rfl ?_
  refine s_istn (p' := 34) (ls' := [_, _, _, _]) rfl rfl rfl rfl ?_
  refine s_aldn (p' := 35) rfl rfl rfl ?_
  refine s_gf (p' := 38) rfl (rd_ss rfl (rd_sn rfl (rd_sn rfl H400))) rfl rfl ?_
  refine s_gf (p' := 41) rfl (rd_sn rfl (rd_sn rfl (rd_sn rfl H402))) rfl rfl ?_
  refine s_ildn (p' := 42) rfl rfl rfl ?_
  refine s_bip (p' := 44) rfl rfl ?_
  refine s_bz (p' := 45) (z := (nI v)) rfl rfl rfl (by rw [mI_sub (by omega), Nat.add_sub_cancel_left]) ?_
  refine s_ildn (p' := 46) rfl rfl rfl ?_
  refine s_iasz (p' := 47) (m := v) rfl rfl (rd_sn rfl (rd_sn rfl (rd_sn rfl H403))) (inb_nI (by omega) (by omega)) (mI_cl (by omega)) rfl rfl ?_
  refine s_ildn (p' := 48) rfl rfl rfl ?_
  refine k_iret rfl rfl ?_
  refine l_ist (p' := 806) (ls' := [_, _, _, _, _, _, _, _, _, _]) rfl rfl rfl rfl rfl ?_
  refine l_aldn (p' := 807) rfl rfl rfl rfl ?_
  refine l_call (p' := 810) (kc := 99) (ls0 := [_]) rfl rfl rfl rfl rfl rfl (mj_rcv_is (rd_sn rfl (rd_ss rfl (rd_sn rfl (rd_sn rfl H400))))) rfl rfl rfl ?_
  refine s_aldn (p' := 1) rfl rfl rfl ?_
  refine s_gf (p' := 4) rfl (rd_sn rfl (rd_ss rfl (rd_sn rfl (rd_sn rfl H400)))) rfl rfl ?_
  refine k_iret rfl rfl ?_
  refine l_ild (p' := 812) rfl rfl rfl rfl ?_
  refine l_icmp (p' := 817) true rfl rfl (by decide +kernel) rfl ?_
  refine l_ild (p' := 819) rfl rfl rfl rfl ?_
  refine l_if (p' := 822) false rfl rfl (by decide +kernel) rfl ?_
  refine l_aldn (p' := 823) rfl rfl rfl rfl ?_
  refine l_con (p' := 824) rfl rfl rfl ?_
  refine l_lalz (p' := 825) (m := 0) (v := (Int32.toInt64 (vf v))) rfl rfl (rd_sn rfl (rd_sn rfl (rd_ss rfl (rd_sn rfl H412)))) (by decide +kernel) rfl rfl rfl ?_
  refine l_ild (p' := 827) rfl rfl rfl rfl ?_
  refine l_bzL (p' := 828) (z := (Int32.toInt64 (vf v))) rfl rfl rfl rfl rfl rfl ?_
  refine l_bz (p' := 829) (z := nI 0) rfl rfl rfl rfl rfl (lcmp_self _) ?_
  refine l_if (p' := 834) true rfl rfl (by decide +kernel) rfl ?_
  refine l_goto (p' := 2541) rfl rfl rfl ?_
  refine l_incz (p' := 2544) (w := (nI (i + 4))) (ls' := [_, _, _, _, _, _, _, _, _, _]) rfl rfl rfl rfl (mI_add _ _) rfl rfl ?_
  refine l_goto (p' := 28) rfl rfl rfl ?_
  exact hn _ _ _ _ _ ⟨(rd_sn rfl (rd_sn rfl (rd_sn rfl (rd_ss rfl H376)))), (rd_sn rfl (rd_ss rfl (rd_sn rfl (rd_sn rfl H400)))), (rd_ss rfl (rd_sn rfl (rd_sn rfl (rd_sn rfl H403)))), (rd_sn rfl (rd_sn rfl (rd_ss rfl (rd_sn rfl H412)))), (mz_fr.s (by decide) (mz_fr.s (by decide) (mz_fr.s (by decide) (mz_fr.s (by decide) (mz_fr.rf _ h))))), (Nat.le_trans (Nat.le_of_eq (len_s (len_s (len_s (len_s HL))))) (by omega)), (Nat.le_trans (sz_sA rfl (rd_sn rfl (rd_sn rfl (rd_sn rfl H403))) (sz_s rfl (rd_sn rfl (rd_sn rfl H400)) rfl (sz_sA rfl (rd_sn rfl H412) (sz_sA rfl H376 (Nat.le_refl (mj_sz h)))))) (by omega))⟩
theorem w_10_n {L i N : Nat} {xs : Nat → Int32} {h : mj_H} {l6 l7 l8 l9 : Option Value} {P : mj_H → Prop} (hL : L ≤ 2048) (hi : i + 4 ≤ L) (hN : N + 2000 < mj_CB) (hN0 : 414 ≤ N) (HL : h.length = N) (hk : xs i &&& nI 63 = nI 10) {gs pl ty wa nw nx dp ca mf : Value} {th : Int32} {sd be : Int64} {ou : Nat → Int64} {vf wf sf uf im jm : Nat → Int32} {k g : Nat} (hk20 : k ≤ 20) (hvw : ∀ j, j < 8 → wf j = vf j) (hsu : ∀ j, j < k → uf j = sf j) (him : ∀ j, j < 8 → jm j = im j) {pe pm ge gm : Value} {q : Nat} (hq6 : q ≤ 6) (hg24 : g ≤ 24) {c : Nat} (hc : ((xs (i + 1)).toUInt32 % 65536).toInt32 = nI c) (hcc : c < 97)  (H0 : mj_rd h 0 = some (.inr (0, [.ref 1, .ref 38, .ref 299, .ref 336, .ref 373, .ref 375, .ref 378, .ref 381, .ref 387, .ref 393, gs, pl, .ref 397, .ref 398, .ref 399, .long sd, .long be]))) (H400 : mj_rd h 400 = some (.inr (17, [.int th, .ref 401, .ref 402, ty, .long sd, .long be, .ref 410, wa, nw, nx, .ref 411]))) (hn : ∀ (l6 l7 l8 l9 : Option Value) (h' : mj_H), mj_rd h' 400 = some (.inr (17, [.int (nI 1), .ref 401, .ref 402, ty, .long sd, .long be, .ref 410, wa, nw, nx, .ref 411])) ∧ mz_fr [400] h h' ∧ h'.length ≤ N + 1 ∧ mj_sz h' ≤ mj_sz h + 6 → mj_lrun L xs (28, [some (.retAddr 1), some (.ref 0), some (.ref 400), some (.ref 412), some (.ref 413), some (.int (nI (i + 4))), l6, l7, l8, l9], [], h') P) : mj_lrun L xs (28, [some (.retAddr 1), some (.ref 0), some (.ref 400), some (.ref 412), some (.ref 413), some (.int (nI i)), l6, l7, l8, l9], [], h) P := by
  refine l_ild (p' := 30) rfl rfl rfl rfl ?_
  refine l_alds (p' := 31) rfl rfl rfl rfl ?_
  refine l_lens (p' := 32) rfl rfl rfl ?_
  refine l_con (p' := 33) rfl rfl rfl ?_
  refine l_bz (p' := 34) (z := (nI (L - 4))) rfl rfl rfl rfl rfl (mI_sub (by omega)) ?_
  refine l_icmp (p' := 37) false rfl rfl ((ci_gt (by omega) (by omega)).trans (decide_eq_false (by omega))) rfl ?_
  refine l_alds (p' := 38) rfl rfl rfl rfl ?_
  refine l_ild (p' := 40) rfl rfl rfl rfl ?_
  refine l_ialz (p' := 41) (m := i) (z := (xs i)) rfl rfl (inb_nI (by omega) (by omega)) (mI_cl (by omega)) rfl rfl ?_
  refine l_bip (p' := 43) rfl rfl rfl ?_
  refine l_bz (p' := 44) (z := (nI 10)) rfl rfl rfl rfl rfl hk ?_
  refine l_sp (p' := 767) (ls' := _) rfl rfl rfl rfl rfl ?_
  refine l_aldn (p' := 768) rfl rfl rfl rfl ?_
  refine l_alds (p' := 769) rfl rfl rfl rfl ?_
  refine l_ild (p' := 771) rfl rfl rfl rfl ?_
  refine l_con (p' := 772) rfl rfl rfl ?_
  refine l_bz (p' := 773) (z := (nI (i + 1))) rfl rfl rfl rfl rfl (mI_add _ _) ?_
  refine l_ialz (p' := 774) (m := (i + 1)) (z := (xs (i + 1))) rfl rfl (inb_nI (by omega) (by omega)) (mI_cl (by omega)) rfl rfl ?_
  refine l_bz (p' := 775) (z := (nI c)) rfl rfl rfl rfl rfl hc ?_
  refine l_alds (p' := 776) rfl rfl rfl rfl ?_
  refine l_ild (p' := 778) rfl rfl rfl rfl ?_
  refine l_con (p' := 779) rfl rfl rfl ?_
  refine l_bz (p' := 780) (z := (nI (i + 2))) rfl rfl rfl rfl rfl (mI_add _ _) ?_
  refine l_ialz (p' := 781) (m := (i + 2)) (z := (xs (i + 2))) rfl rfl (inb_nI (by omega) (by omega)) (mI_cl (by omega)) rfl rfl ?_
  refine l_aldn (p' := 782) rfl rfl rfl rfl ?_
  refine l_call (p' := 785) (kc := 99) (ls0 := [_, _, _, _, _]) rfl rfl rfl rfl rfl rfl rfl rfl rfl rfl ?_
  refine s_aldn (p' := 1) rfl rfl rfl ?_
  refine s_con (p' := 2) rfl rfl ?_
  refine s_aldn (p' := 3) rfl rfl rfl ?_
  refine s_ildn (p' := 4) rfl rfl rfl ?_
  refine s_ildn (p' := 5) rfl rfl rfl ?_
  refine c_call (p' := 8) (kc := 98) (ls0 := [_, _, _, _]) rfl rfl rfl rfl rfl (mj_rcv_is H0) rfl rfl rfl ?_
  refine s_ildn (p' := 1) rfl rfl rfl ?_
  refine c_call (p' := 4) (kc := 97) (ls0 := [_]) rfl rfl rfl rfl rfl rfl rfl rfl rfl ?_
  refine s_ildn (p' := 1) rfl rfl rfl ?_
  refine s_bip (p' := 3) rfl rfl ?_
  refine s_icmp (p' := 16) true rfl ((cg_lt (w := 97) (by decide +kernel)).trans (decide_eq_true (by rw [mI_ti (by omega)]; omega))) rfl ?_
  refine s_con (p' := 17) rfl rfl ?_
  refine c_iret rfl (by decide +kernel) ?_
  refine s_if (p' := 7) false rfl (by decide +kernel) rfl ?_
  refine s_thrz (q := N) rfl HL rfl ?_
  refine K_c (hp := 13) (Nat.blt_eq.mpr (by omega)) (mj_ocl_is (rd_nw (Nat.blt_eq.mpr (by omega)) HL)) rfl ?_
  refine s_ast (p' := 15) (ls' := [_, _, _, _, _]) rfl rfl rfl rfl ?_
  refine s_con (p' := 16) rfl rfl ?_
  refine k_iret rfl rfl ?_
  refine l_ist (p' := 787) (ls' := [_, _, _, _, _, _, _, _, _, _]) rfl rfl rfl rfl rfl ?_
  refine l_aldn (p' := 788) rfl rfl rfl rfl ?_
  refine l_alds (p' := 789) rfl rfl rfl rfl ?_
  refine l_ild (p' := 791) rfl rfl rfl rfl ?_
  refine l_con (p' := 792) rfl rfl rfl ?_
  refine l_bz (p' := 793) (z := (nI (i + 1))) rfl rfl rfl rfl rfl (mI_add _ _) ?_
  refine l_ialz (p' := 794) (m := (i + 1)) (z := (xs (i + 1))) rfl rfl (inb_nI (by omega) (by omega)) (mI_cl (by omega)) rfl rfl ?_
  refine l_bz (p' := 795) (z := (nI c)) rfl rfl rfl rfl rfl hc ?_
  refine l_alds (p' := 796) rfl rfl rfl rfl ?_
  refine l_ild (p' := 798) rfl rfl rfl rfl ?_
  refine l_con (p' := 799) rfl rfl rfl ?_
  refine l_bz (p' := 800) (z := (nI (i + 2))) rfl rfl rfl rfl rfl (mI_add _ _) ?_
  refine l_ialz (p' := 801) (m := (i + 2)) (z := (xs (i + 2))) rfl rfl (inb_nI (by omega) (by omega)) (mI_cl (by omega)) rfl rfl ?_
  refine l_call (p' := 804) (kc := 99) (ls0 := [_, _, _, _]) rfl rfl rfl rfl rfl rfl (mj_rcv_is (rd_app H400)) rfl rfl rfl ?_
  refine s_aldn (p' := 1) rfl rfl rfl ?_
  refine s_ildn (p' := 2) rfl rfl rfl ?_
  refine c_call (p' := 5) (kc := 98) (ls0 := [_]) rfl rfl rfl rfl rfl rfl rfl rfl rfl ?_
  refine s_ildn (p' := 1) rfl rfl rfl ?_
  refine s_bip (p' := 3) rfl rfl ?_
  refine s_bip (p' := 5) rfl rfl ?_
  refine c_call (p' := 8) (kc := 97) (ls0 := [_, _, _]) rfl rfl rfl rfl rfl rfl rfl rfl rfl ?_
  refine s_ildn (p' := 1) rfl rfl rfl ?_
  refine s_ildn (p' := 2) rfl rfl rfl ?_
  refine s_icmp (p' := 14) true rfl ((ch_gt (w := 97) (by decide +kernel)).trans (decide_eq_true (by rw [mI_ti (by omega)]; omega))) rfl ?_
  refine s_con (p' := 15) rfl rfl ?_
  refine c_iret rfl (by decide +kernel) ?_
  refine c_iret rfl (by decide +kernel) ?_
  refine s_if (p' := 12) true rfl (by decide +kernel) rfl ?_
  refine s_con (p' := 13) rfl rfl ?_
  refine c_call (p' := 16) (kc := 98) (ls0 := [_, _]) rfl rfl rfl rfl rfl (mj_rcv_is (rd_app H400)) rfl rfl rfl ?_
  refine s_aldn (p' := 1) rfl rfl rfl ?_
  refine s_ildn (p' := 2) rfl rfl rfl ?_
  refine s_pfz (p' := 5) (fs' := [_, _, _, _, _, _, _, _, _, _, _]) rfl rfl (rd_app H400) rfl rfl rfl rfl ?_
  refine s_ildn (p' := 6) rfl rfl rfl ?_
  refine s_if (p' := 9) false rfl (by decide +kernel) rfl ?_
  refine s_con (p' := 10) rfl rfl ?_
  refine s_goto (p' := 14) rfl rfl ?_
  refine c_iret rfl (by decide +kernel) ?_
  refine s_if (p' := 19) false rfl (by decide +kernel) rfl ?_
  refine s_con (p' := 20) rfl rfl ?_
  refine k_iret rfl rfl ?_
  refine l_ist (p' := 806) (ls' := [_, _, _, _, _, _, _, _, _, _]) rfl rfl rfl rfl rfl ?_
  refine l_aldn (p' := 807) rfl rfl rfl rfl ?_
  refine l_call (p' := 810) (kc := 99) (ls0 := [_]) rfl rfl rfl rfl rfl rfl (mj_rcv_is (rd_ss rfl (rd_app H400))) rfl rfl rfl ?_
  refine s_aldn (p' := 1) rfl rfl rfl ?_
  refine s_gf (p' := 4) rfl (rd_ss rfl (rd_app H400)) rfl rfl ?_
  refine k_iret rfl rfl ?_
  refine l_ild (p' := 812) rfl rfl rfl rfl ?_
  refine l_icmp (p' := 817) true rfl rfl (by decide +kernel) rfl ?_
  refine l_ild (p' := 819) rfl rfl rfl rfl ?_
  refine l_if (p' := 834) true rfl rfl (by decide +kernel) rfl ?_
  refine l_goto (p' := 2541) rfl rfl rfl ?_
  refine l_incz (p' := 2544) (w := (nI (i + 4))) (ls' := [_, _, _, _, _, _, _, _, _, _]) rfl rfl rfl rfl (mI_add _ _) rfl rfl ?_
  refine l_goto (p' := 28) rfl rfl rfl ?_
  exact hn _ _ _ _ _ ⟨(rd_ss rfl (rd_app H400)), (mz_fr.s (by decide) (mz_fr.a (mz_fr.rf _ h))), (Nat.le_trans (Nat.le_of_eq (len_s (len_a HL rfl))) (by omega)), (Nat.le_trans (sz_s rfl (rd_app H400) rfl (sz_aa (k := 6) (m := mj_sz h + 6) rfl (by omega) (Nat.le_refl (mj_sz h)))) (by omega))⟩
theorem w_10_m {L i N : Nat} {xs : Nat → Int32} {h : mj_H} {l6 l7 l8 l9 : Option Value} {P : mj_H → Prop} (hL : L ≤ 2048) (hi : i + 4 ≤ L) (hN : N + 2000 < mj_CB) (hN0 : 414 ≤ N) (HL : h.length = N) (hk : xs i &&& nI 63 = nI 10) {gs pl ty wa nw nx dp ca mf : Value} {th : Int32} {sd be : Int64} {ou : Nat → Int64} {vf wf sf uf im jm : Nat → Int32} {k g : Nat} (hk20 : k ≤ 20) (hvw : ∀ j, j < 8 → wf j = vf j) (hsu : ∀ j, j < k → uf j = sf j) (him : ∀ j, j < 8 → jm j = im j) {pe pm ge gm : Value} {q : Nat} (hq6 : q ≤ 6) (hg24 : g ≤ 24) {c : Nat} (hc : ((xs (i + 1)).toUInt32 % 65536).toInt32 = nI c) (hcc : 104 < c) (hc6 : c < 65536)  (H0 : mj_rd h 0 = some (.inr (0, [.ref 1, .ref 38, .ref 299, .ref 336, .ref 373, .ref 375, .ref 378, .ref 381, .ref 387, .ref 393, gs, pl, .ref 397, .ref 398, .ref 399, .long sd, .long be]))) (H400 : mj_rd h 400 = some (.inr (17, [.int th, .ref 401, .ref 402, ty, .long sd, .long be, .ref 410, wa, nw, nx, .ref 411]))) (hn : ∀ (l6 l7 l8 l9 : Option Value) (h' : mj_H), mj_rd h' 400 = some (.inr (17, [.int (nI 1), .ref 401, .ref 402, ty, .long sd, .long be, .ref 410, wa, nw, nx, .ref 411])) ∧ mz_fr [400] h h' ∧ h'.length ≤ N + 1 ∧ mj_sz h' ≤ mj_sz h + 6 → mj_lrun L xs (28, [some (.retAddr 1), some (.ref 0), some (.ref 400), some (.ref 412), some (.ref 413), some (.int (nI (i + 4))), l6, l7, l8, l9], [], h') P) : mj_lrun L xs (28, [some (.retAddr 1), some (.ref 0), some (.ref 400), some (.ref 412), some (.ref 413), some (.int (nI i)), l6, l7, l8, l9], [], h) P := by
  refine l_ild (p' := 30) rfl rfl rfl rfl ?_
  refine l_alds (p' := 31) rfl rfl rfl rfl ?_
  refine l_lens (p' := 32) rfl rfl rfl ?_
  refine l_con (p' := 33) rfl rfl rfl ?_
  refine l_bz (p' := 34) (z := (nI (L - 4))) rfl rfl rfl rfl rfl (mI_sub (by omega)) ?_
  refine l_icmp (p' := 37) false rfl rfl ((ci_gt (by omega) (by omega)).trans (decide_eq_false (by omega))) rfl ?_
  refine l_alds (p' := 38) rfl rfl rfl rfl ?_
  refine l_ild (p' := 40) rfl rfl rfl rfl ?_
  refine l_ialz (p' := 41) (m := i) (z := (xs i)) rfl rfl (inb_nI (by omega) (by omega)) (mI_cl (by omega)) rfl rfl ?_
  refine l_bip (p' := 43) rfl rfl rfl ?_
  refine l_bz (p' := 44) (z := (nI 10)) rfl rfl rfl rfl rfl hk ?_
  refine l_sp (p' := 767) (ls' := _) rfl rfl rfl rfl rfl ?_
  refine l_aldn (p' := 768) rfl rfl rfl rfl ?_
  refine l_alds (p' := 769) rfl rfl rfl rfl ?_
  refine l_ild (p' := 771) rfl rfl rfl rfl ?_
  refine l_con (p' := 772) rfl rfl rfl ?_
  refine l_bz (p' := 773) (z := (nI (i + 1))) rfl rfl rfl rfl rfl (mI_add _ _) ?_
  refine l_ialz (p' := 774) (m := (i + 1)) (z := (xs (i + 1))) rfl rfl (inb_nI (by omega) (by omega)) (mI_cl (by omega)) rfl rfl ?_
  refine l_bz (p' := 775) (z := (nI c)) rfl rfl rfl rfl rfl hc ?_
  refine l_alds (p' := 776) rfl rfl rfl rfl ?_
  refine l_ild (p' := 778) rfl rfl rfl rfl ?_
  refine l_con (p' := 779) rfl rfl rfl ?_
  refine l_bz (p' := 780) (z := (nI (i + 2))) rfl rfl rfl rfl rfl (mI_add _ _) ?_
  refine l_ialz (p' := 781) (m := (i + 2)) (z := (xs (i + 2))) rfl rfl (inb_nI (by omega) (by omega)) (mI_cl (by omega)) rfl rfl ?_
  refine l_aldn (p' := 782) rfl rfl rfl rfl ?_
  refine l_call (p' := 785) (kc := 99) (ls0 := [_, _, _, _, _]) rfl rfl rfl rfl rfl rfl rfl rfl rfl rfl ?_
  refine s_aldn (p' := 1) rfl rfl rfl ?_
  refine s_con (p' := 2) rfl rfl ?_
  refine s_aldn (p' := 3) rfl rfl rfl ?_
  refine s_ildn (p' := 4) rfl rfl rfl ?_
  refine s_ildn (p' := 5) rfl rfl rfl ?_
  refine c_call (p' := 8) (kc := 98) (ls0 := [_, _, _, _]) rfl rfl rfl rfl rfl (mj_rcv_is H0) rfl rfl rfl ?_
  refine s_ildn (p' := 1) rfl rfl rfl ?_
  refine c_call (p' := 4) (kc := 97) (ls0 := [_]) rfl rfl rfl rfl rfl rfl rfl rfl rfl ?_
  refine s_ildn (p' := 1) rfl rfl rfl ?_
  refine s_bip (p' := 3) rfl rfl ?_
  refine s_icmp (p' := 6) false rfl ((cg_lt (w := 97) (by decide +kernel)).trans (decide_eq_false (by rw [mI_ti (by omega)]; omega))) rfl ?_
  refine s_ildn (p' := 7) rfl rfl rfl ?_
  refine s_bip (p' := 9) rfl rfl ?_
  refine s_icmp (p' := 16) true rfl ((cg_gt (w := 104) (by decide +kernel)).trans (decide_eq_true (by rw [mI_ti (by omega)]; omega))) rfl ?_
  refine s_con (p' := 17) rfl rfl ?_
  refine c_iret rfl (by decide +kernel) ?_
  refine s_if (p' := 7) false rfl (by decide +kernel) rfl ?_
  refine s_thrz (q := N) rfl HL rfl ?_
  refine K_c (hp := 13) (Nat.blt_eq.mpr (by omega)) (mj_ocl_is (rd_nw (Nat.blt_eq.mpr (by omega)) HL)) rfl ?_
  refine s_ast (p' := 15) (ls' := [_, _, _, _, _]) rfl rfl rfl rfl ?_
  refine s_con (p' := 16) rfl rfl ?_
  refine k_iret rfl rfl ?_
  refine l_ist (p' := 787) (ls' := [_, _, _, _, _, _, _, _, _, _]) rfl rfl rfl rfl rfl ?_
  refine l_aldn (p' := 788) rfl rfl rfl rfl ?_
  refine l_alds (p' := 789) rfl rfl rfl rfl ?_
  refine l_ild (p' := 791) rfl rfl rfl rfl ?_
  refine l_con (p' := 792) rfl rfl rfl ?_
  refine l_bz (p' := 793) (z := (nI (i + 1))) rfl rfl rfl rfl rfl (mI_add _ _) ?_
  refine l_ialz (p' := 794) (m := (i + 1)) (z := (xs (i + 1))) rfl rfl (inb_nI (by omega) (by omega)) (mI_cl (by omega)) rfl rfl ?_
  refine l_bz (p' := 795) (z := (nI c)) rfl rfl rfl rfl rfl hc ?_
  refine l_alds (p' := 796) rfl rfl rfl rfl ?_
  refine l_ild (p' := 798) rfl rfl rfl rfl ?_
  refine l_con (p' := 799) rfl rfl rfl ?_
  refine l_bz (p' := 800) (z := (nI (i + 2))) rfl rfl rfl rfl rfl (mI_add _ _) ?_
  refine l_ialz (p' := 801) (m := (i + 2)) (z := (xs (i + 2))) rfl rfl (inb_nI (by omega) (by omega)) (mI_cl (by omega)) rfl rfl ?_
  refine l_call (p' := 804) (kc := 99) (ls0 := [_, _, _, _]) rfl rfl rfl rfl rfl rfl (mj_rcv_is (rd_app H400)) rfl rfl rfl ?_
  refine s_aldn (p' := 1) rfl rfl rfl ?_
  refine s_ildn (p' := 2) rfl rfl rfl ?_
  refine c_call (p' := 5) (kc := 98) (ls0 := [_]) rfl rfl rfl rfl rfl rfl rfl rfl rfl ?_
  refine s_ildn (p' := 1) rfl rfl rfl ?_
  refine s_bip (p' := 3) rfl rfl ?_
  refine s_bip (p' := 5) rfl rfl ?_
  refine c_call (p' := 8) (kc := 97) (ls0 := [_, _, _]) rfl rfl rfl rfl rfl rfl rfl rfl rfl ?_
  refine s_ildn (p' := 1) rfl rfl rfl ?_
  refine s_ildn (p' := 2) rfl rfl rfl ?_
  refine s_icmp (p' := 5) false rfl ((ch_gt (w := 97) (by decide +kernel)).trans (decide_eq_false (by rw [mI_ti (by omega)]; omega))) rfl ?_
  refine s_ildn (p' := 6) rfl rfl rfl ?_
  refine s_ildn (p' := 7) rfl rfl rfl ?_
  refine s_icmp (p' := 14) true rfl ((cg_gt (w := 104) (by decide +kernel)).trans (decide_eq_true (by rw [mI_ti (by omega)]; omega))) rfl ?_
  refine s_con (p' := 15) rfl rfl ?_
  refine c_iret rfl (by decide +kernel) ?_
  refine c_iret rfl (by decide +kernel) ?_
  refine s_if (p' := 12) true rfl (by decide +kernel) rfl ?_
  refine s_con (p' := 13) rfl rfl ?_
  refine c_call (p' := 16) (kc := 98) (ls0 := [_, _]) rfl rfl rfl rfl rfl (mj_rcv_is (rd_app H400)) rfl rfl rfl ?_
  refine s_aldn (p' := 1) rfl rfl rfl ?_
  refine s_ildn (p' := 2) rfl rfl rfl ?_
  refine s_pfz (p' := 5) (fs' := [_, _, _, _, _, _, _, _, _, _, _]) rfl rfl (rd_app H400) rfl rfl rfl rfl ?_
  refine s_ildn (p' := 6) rfl rfl rfl ?_
  refine s_if (p' := 9) false rfl (by decide +kernel) rfl ?_
  refine s_con (p' := 10) rfl rfl ?_
  refine s_goto (p' := 14) rfl rfl ?_
  refine c_iret rfl (by decide +kernel) ?_
  refine s_if (p' := 19) false rfl (by decide +kernel) rfl ?_
  refine s_con (p' := 20) rfl rfl ?_
  refine k_iret rfl rfl ?_
  refine l_ist (p' := 806) (ls' := [_, _, _, _, _, _, _, _, _, _]) rfl rfl rfl rfl rfl ?_
  refine l_aldn (p' := 807) rfl rfl rfl rfl ?_
  refine l_call (p' := 810) (kc := 99) (ls0 := [_]) rfl rfl rfl rfl rfl rfl (mj_rcv_is (rd_ss rfl (rd_app H400))) rfl rfl rfl ?_
  refine s_aldn (p' := 1) rfl rfl rfl ?_
  refine s_gf (p' := 4) rfl (rd_ss rfl (rd_app H400)) rfl rfl ?_
  refine k_iret rfl rfl ?_
  refine l_ild (p' := 812) rfl rfl rfl rfl ?_
  refine l_icmp (p' := 817) true rfl rfl (by decide +kernel) rfl ?_
  refine l_ild (p' := 819) rfl rfl rfl rfl ?_
  refine l_if (p' := 834) true rfl rfl (by decide +kernel) rfl ?_
  refine l_goto (p' := 2541) rfl rfl rfl ?_
  refine l_incz (p' := 2544) (w := (nI (i + 4))) (ls' := [_, _, _, _, _, _, _, _, _, _]) rfl rfl rfl rfl (mI_add _ _) rfl rfl ?_
  refine l_goto (p' := 28) rfl rfl rfl ?_
  exact hn _ _ _ _ _ ⟨(rd_ss rfl (rd_app H400)), (mz_fr.s (by decide) (mz_fr.a (mz_fr.rf _ h))), (Nat.le_trans (Nat.le_of_eq (len_s (len_a HL rfl))) (by omega)), (Nat.le_trans (sz_s rfl (rd_app H400) rfl (sz_aa (k := 6) (m := mj_sz h + 6) rfl (by omega) (Nat.le_refl (mj_sz h)))) (by omega))⟩
theorem w_11 {L i N : Nat} {xs : Nat → Int32} {h : mj_H} {l6 l7 l8 l9 : Option Value} {P : mj_H → Prop} (hL : L ≤ 2048) (hi : i + 4 ≤ L) (hN : N + 2000 < mj_CB) (hN0 : 414 ≤ N) (HL : h.length = N) (hk : xs i &&& nI 63 = nI 11) {gs pl ty wa nw nx dp ca mf : Value} {th : Int32} {sd be : Int64} {ou : Nat → Int64} {vf wf sf uf im jm : Nat → Int32} {k g : Nat} (hk20 : k ≤ 20) (hvw : ∀ j, j < 8 → wf j = vf j) (hsu : ∀ j, j < k → uf j = sf j) (him : ∀ j, j < 8 → jm j = im j) {pe pm ge gm : Value} {q : Nat} (hq6 : q ≤ 6) (hg24 : g ≤ 24) {v : Nat} (hv : v < 8) (hc : ((xs (i + 1)).toUInt32 % 65536).toInt32 = nI (97 + v))  (H0 : mj_rd h 0 = some (.inr (0, [.ref 1, .ref 38, .ref 299, .ref 336, .ref 373, .ref 375, .ref 378, .ref 381, .ref 387, .ref 393, gs, pl, .ref 397, .ref 398, .ref 399, .long sd, .long be]))) (H375 : mj_rd h 375 = some (.inr (7, [.ref 376, .ref 377, .int (nI k)]))) (H376 : mj_rd h 376 = some (.inl (0, (8, .inl (vf))))) (H400 : mj_rd h 400 = some (.inr (17, [.int th, .ref 401, .ref 402, ty, .long sd, .long be, .ref 410, wa, nw, nx, .ref 411]))) (H402 : mj_rd h 402 = some (.inr (19, [.ref 403, .ref 404, .ref 405, .ref 406, .ref 407, .ref 408, .ref 409, .int (nI k), dp, ca, .ref 400]))) (H403 : mj_rd h 403 = some (.inl (0, (8, .inl (wf))))) (H412 : mj_rd h 412 = some (.inl (4, (1, .inr (.inl (ou)))))) (hn : ∀ (l6 l7 l8 l9 : Option Value) (h' : mj_H), mj_rd h' 400 = some (.inr (17, [.int (nI 0), .ref 401, .ref 402, ty, .long sd, .long be, .ref 410, wa, nw, nx, .ref 411])) ∧ mj_rd h' 412 = some (.inl (4, (1, .inr (.inl ((vp_updL ou 0 (Int32.toInt64 (vf v)))))))) ∧ mz_fr [400, 412] h h' ∧ h'.length ≤ N + 0 ∧ mj_sz h' ≤ mj_sz h + 0 → mj_lrun L xs (28, [some (.retAddr 1), some (.ref 0), some (.ref 400), some (.ref 412), some (.ref 413), some (.int (nI (i + 4))), l6, l7, l8, l9], [], h') P) : mj_lrun L xs (28, [some (.retAddr 1), some (.ref 0), some (.ref 400), some (.ref 412), some (.ref 413), some (.int (nI i)), l6, l7, l8, l9], [], h) P := by
  refine l_ild (p' := 30) rfl rfl rfl rfl ?_
  refine l_alds (p' := 31) rfl rfl rfl rfl ?_
  refine l_lens (p' := 32) rfl rfl rfl ?_
  refine l_con (p' := 33) rfl rfl rfl ?_
  refine l_bz (p' := 34) (z := (nI (L - 4))) rfl rfl rfl rfl rfl (mI_sub (by omega)) ?_
  refine l_icmp (p' := 37) false rfl rfl ((ci_gt (by omega) (by omega)).trans (decide_eq_false (by omega))) rfl ?_
  refine l_alds (p' := 38) rfl rfl rfl rfl ?_
  refine l_ild (p' := 40) rfl rfl rfl rfl ?_
  refine l_ialz (p' := 41) (m := i) (z := (xs i)) rfl rfl (inb_nI (by omega) (by omega)) (mI_cl (by omega)) rfl rfl ?_
  refine l_bip (p' := 43) rfl rfl rfl ?_
  refine l_bz (p' := 44) (z := (nI 11)) rfl rfl rfl rfl rfl hk ?_
  refine l_sp (p' := 837) (ls' := _) rfl rfl rfl rfl rfl ?_
  refine l_aldn (p' := 838) rfl rfl rfl rfl ?_
  refine l_alds (p' := 839) rfl rfl rfl rfl ?_
  refine l_ild (p' := 841) rfl rfl rfl rfl ?_
  refine l_con (p' := 842) rfl rfl rfl ?_
  refine l_bz (p' := 843) (z := (nI (i + 1))) rfl rfl rfl rfl rfl (mI_add _ _) ?_
  refine l_ialz (p' := 844) (m := (i + 1)) (z := (xs (i + 1))) rfl rfl (inb_nI (by omega) (by omega)) (mI_cl (by omega)) rfl rfl ?_
  refine l_bz (p' := 845) (z := (nI (97 + v))) rfl rfl rfl rfl rfl hc ?_
  refine l_aldn (p' := 846) rfl rfl rfl rfl ?_
  refine l_call (p' := 849) (kc := 99) (ls0 := [_, _, _, _]) rfl rfl rfl rfl rfl rfl rfl rfl rfl rfl ?_
  refine s_aldn (p' := 1) rfl rfl rfl ?_
  refine s_con (p' := 2) rfl rfl ?_
  refine s_aldn (p' := 3) rfl rfl rfl ?_
  refine s_ildn (p' := 4) rfl rfl rfl ?_
  refine c_call (p' := 7) (kc := 98) (ls0 := [_, _]) rfl rfl rfl rfl rfl (mj_rcv_is H0) rfl rfl rfl ?_
  refine s_ildn (p' := 1) rfl rfl rfl ?_
  refine c_call (p' := 4) (kc := 97) (ls0 := [_]) rfl rfl rfl rfl rfl rfl rfl rfl rfl ?_
  refine s_ildn (p' := 1) rfl rfl rfl ?_
  refine s_bip (p' := 3) rfl rfl ?_
  refine s_icmp (p' := 6) false rfl ((cg_lt (w := 97) (by decide +kernel)).trans (decide_eq_false (by rw [mI_ti (by omega)]; omega))) rfl ?_
  refine s_ildn (p' := 7) rfl rfl rfl ?_
  refine s_bip (p' := 9) rfl rfl ?_
  refine s_icmp (p' := 12) false rfl ((cg_gt (w := 104) (by decide +kernel)).trans (decide_eq_false (by rw [mI_ti (by omega)]; omega))) rfl ?_
  refine s_con (p' := 13) rfl rfl ?_
  refine s_goto (p' := 17) rfl rfl ?_
  refine c_iret rfl (by decide +kernel) ?_
  refine s_if (p' := 17) true rfl (by decide +kernel) rfl ?_
  refine s_aldn (p' := 18) rfl rfl rfl ?_
  refine s_gf (p' := 21) rfl H0 rfl rfl ?_
  refine s_ildn (p' := 22) rfl rfl rfl ?_
  refine s_bip (p' := 24) rfl rfl ?_
  refine s_bz (p' := 25) (z := (nI v)) rfl rfl rfl (by rw [mI_sub (by omega), Nat.add_sub_cancel_left]) ?_
  refine c_call (p' := 28) (kc := 97) (ls0 := [_, _]) rfl rfl rfl rfl rfl (mj_rcv_is H375) rfl rfl rfl ?_
  refine s_ildn (p' := 1) rfl rfl rfl ?_
  refine s_if (p' := 4) false rfl ((cg_lt (w := 0) (by decide +kernel)).trans (decide_eq_false (by rw [mI_ti (by omega)]; omega))) rfl ?_
  refine s_ildn (p' := 5) rfl rfl rfl ?_
  refine s_aldn (p' := 6) rfl rfl rfl ?_
  refine s_gf (p' := 9) rfl H375 rfl rfl ?_
  refine s_lenz (p' := 10) rfl (mj_rdA_is H376 (by decide)) rfl rfl ?_
  refine s_icmp (p' := 13) false rfl ((cg_ge (w := 8) (by decide +kernel)).trans (decide_eq_false (by rw [mI_ti (by omega)]; omega))) rfl ?_
  refine s_aldn (p' := 14) rfl rfl rfl ?_
  refine s_gf (p' := 17) rfl H375 rfl rfl ?_
  refine s_ildn (p' := 18) rfl rfl rfl ?_
  refine s_ialz (p' := 19) (m := v) (v := (vf v)) rfl H376 (inb_nI (by omega) (by omega)) (mI_cl (by omega)) rfl rfl ?_
  refine s_goto (p' := 23) rfl rfl ?_
  refine c_iret rfl rfl ?_
  refine c_iret rfl rfl ?_
  refine s_bzL (p' := 8) (z := (Int32.toInt64 (vf v))) rfl rfl rfl rfl ?_
  refine s_lasz (p' := 9) (m := 0) rfl rfl H412 (by decide +kernel) rfl rfl rfl ?_
  refine s_goto (p' := 15) rfl rfl ?_
  refine s_con (p' := 16) rfl rfl ?_
  refine k_iret rfl rfl ?_
  refine l_ist (p' := 851) (ls' := [_, _, _, _, _, _, _, _, _, _]) rfl rfl rfl rfl rfl ?_
  refine l_aldn (p' := 852) rfl rfl rfl rfl ?_
  refine l_alds (p' := 853) rfl rfl rfl rfl ?_
  refine l_ild (p' := 855) rfl rfl rfl rfl ?_
  refine l_con (p' := 856) rfl rfl rfl ?_
  refine l_bz (p' := 857) (z := (nI (i + 1))) rfl rfl rfl rfl rfl (mI_add _ _) ?_
  refine l_ialz (p' := 858) (m := (i + 1)) (z := (xs (i + 1))) rfl rfl (inb_nI (by omega) (by omega)) (mI_cl (by omega)) rfl rfl ?_
  refine l_bz (p' := 859) (z := (nI (97 + v))) rfl rfl rfl rfl rfl hc ?_
  refine l_call (p' := 862) (kc := 99) (ls0 := [_, _]) rfl rfl rfl rfl rfl rfl (mj_rcv_is (rd_sn rfl H400)) rfl rfl rfl ?_
  refine s_aldn (p' := 1) rfl rfl rfl ?_
  refine s_ildn (p' := 2) rfl rfl rfl ?_
  refine c_call (p' := 5) (kc := 98) (ls0 := [_]) rfl rfl rfl rfl rfl rfl rfl rfl rfl ?_
  refine s_ildn (p' := 1) rfl rfl rfl ?_
  refine s_bip (p' := 3) rfl rfl ?_
  refine s_bip (p' := 5) rfl rfl ?_
  refine c_call (p' := 8) (kc := 97) (ls0 := [_, _, _]) rfl rfl rfl rfl rfl rfl rfl rfl rfl ?_
  refine s_ildn (p' := 1) rfl rfl rfl ?_
  refine s_ildn (p' := 2) rfl rfl rfl ?_
  refine s_icmp (p' := 5) false rfl ((ch_gt (w := 97) (by decide +kernel)).trans (decide_eq_false (by rw [mI_ti (by omega)]; omega))) rfl ?_
  refine s_ildn (p' := 6) rfl rfl rfl ?_
  refine s_ildn (p' := 7) rfl rfl rfl ?_
  refine s_icmp (p' := 10) false rfl ((cg_gt (w := 104) (by decide +kernel)).trans (decide_eq_false (by rw [mI_ti (by omega)]; omega))) rfl ?_
  refine s_con (p' := 11) rfl rfl ?_
  refine s_goto (p' := 15) rfl rfl ?_
  refine c_iret rfl (by decide +kernel) ?_
  refine c_iret rfl (by decide +kernel) ?_
  refine s_if (p' := 8) false rfl (by decide +kernel) rfl ?_
  refine s_con (p' := 9) rfl rfl ?_
  refine s_goto (p' := 13) rfl rfl ?_
  refine c_call (p' := 16) (kc := 98) (ls0 := [_, _]) rfl rfl rfl rfl rfl (mj_rcv_is (rd_sn rfl H400)) rfl rfl rfl ?_
  refine s_aldn (p' := 1) rfl rfl rfl ?_
  refine s_ildn (p' := 2) rfl rfl rfl ?_
  refine s_pfz (p' := 5) (fs' := [_, _, _, _, _, _, _, _, _, _, _]) rfl rfl (rd_sn rfl H400) rfl rfl rfl rfl ?_
  refine s_ildn (p' := 6) rfl rfl rfl ?_
  refine s_if (p' := 13) true rfl (by decide +kernel) rfl ?_
  refine s_con (p' := 14) rfl rfl ?_
  refine c_iret rfl (by decide +kernel) ?_
  refine s_if (p' := 23) true rfl (by decide +kernel) rfl ?_
  refine s_aldn (p' := 24) rfl rfl rfl ?_
  refine s_gf (p' := 27) rfl (rd_ss rfl (rd_sn rfl H400)) rfl rfl ?_
  refine s_gf (p' := 30) rfl (rd_sn rfl (rd_sn rfl H402)) rfl rfl ?_
  refine s_ildn (p' := 31) rfl rfl rfl ?_
  refine s_bip (p' := 33) rfl rfl ?_
  refine s_bz (p' := 34) (z := (nI v)) rfl rfl rfl (by rw [mI_sub (by omega), Nat.add_sub_cancel_left]) ?_
  refine s_ialz (p' := 35) (m := v) (v := (vf v)) rfl (rd_sn rfl (rd_sn rfl H403)) (inb_nI (by omega) (by omega)) (mI_cl (by omega)) (hvw v (by omega)) rfl ?_
  refine k_iret rfl rfl ?_
  refine l_ist (p' := 864) (ls' := [_, _, _, _, _, _, _, _, _, _]) rfl rfl rfl rfl rfl ?_
  refine l_aldn (p' := 865) rfl rfl rfl rfl ?_
  refine l_call (p' := 868) (kc := 99) (ls0 := [_]) rfl rfl rfl rfl rfl rfl (mj_rcv_is (rd_ss rfl (rd_sn rfl H400))) rfl rfl rfl ?_
  refine s_aldn (p' := 1) rfl rfl rfl ?_
  refine s_gf (p' := 4) rfl (rd_ss rfl (rd_sn rfl H400)) rfl rfl ?_
  refine k_iret rfl rfl ?_
  refine l_ild (p' := 870) rfl rfl rfl rfl ?_
  refine l_icmp (p' := 875) true rfl rfl (by decide +kernel) rfl ?_
  refine l_ild (p' := 877) rfl rfl rfl rfl ?_
  refine l_if (p' := 880) false rfl rfl (by decide +kernel) rfl ?_
  refine l_aldn (p' := 881) rfl rfl rfl rfl ?_
  refine l_con (p' := 882) rfl rfl rfl ?_
  refine l_lalz (p' := 883) (m := 0) (v := (Int32.toInt64 (vf v))) rfl rfl (rd_sn rfl (rd_ss rfl H412)) (by decide +kernel) rfl rfl rfl ?_
  refine l_ild (p' := 885) rfl rfl rfl rfl ?_
  refine l_bzL (p' := 886) (z := (Int32.toInt64 (vf v))) rfl rfl rfl rfl rfl rfl ?_
  refine l_bz (p' := 887) (z := nI 0) rfl rfl rfl rfl rfl (lcmp_self _) ?_
  refine l_if (p' := 892) true rfl rfl (by decide +kernel) rfl ?_
  refine l_goto (p' := 2541) rfl rfl rfl ?_
  refine l_incz (p' := 2544) (w := (nI (i + 4))) (ls' := [_, _, _, _, _, _, _, _, _, _]) rfl rfl rfl rfl (mI_add _ _) rfl rfl ?_
  refine l_goto (p' := 28) rfl rfl rfl ?_
  exact hn _ _ _ _ _ ⟨(rd_ss rfl (rd_sn rfl H400)), (rd_sn rfl (rd_ss rfl H412)), (mz_fr.s (by decide) (mz_fr.s (by decide) (mz_fr.rf _ h))), (Nat.le_trans (Nat.le_of_eq (len_s (len_s HL))) (by omega)), (Nat.le_trans (sz_s rfl (rd_sn rfl H400) rfl (sz_sA rfl H412 (Nat.le_refl (mj_sz h)))) (by omega))⟩
theorem w_11_n {L i N : Nat} {xs : Nat → Int32} {h : mj_H} {l6 l7 l8 l9 : Option Value} {P : mj_H → Prop} (hL : L ≤ 2048) (hi : i + 4 ≤ L) (hN : N + 2000 < mj_CB) (hN0 : 414 ≤ N) (HL : h.length = N) (hk : xs i &&& nI 63 = nI 11) {gs pl ty wa nw nx dp ca mf : Value} {th : Int32} {sd be : Int64} {ou : Nat → Int64} {vf wf sf uf im jm : Nat → Int32} {k g : Nat} (hk20 : k ≤ 20) (hvw : ∀ j, j < 8 → wf j = vf j) (hsu : ∀ j, j < k → uf j = sf j) (him : ∀ j, j < 8 → jm j = im j) {pe pm ge gm : Value} {q : Nat} (hq6 : q ≤ 6) (hg24 : g ≤ 24) {c : Nat} (hc : ((xs (i + 1)).toUInt32 % 65536).toInt32 = nI c) (hcc : c < 97)  (H0 : mj_rd h 0 = some (.inr (0, [.ref 1, .ref 38, .ref 299, .ref 336, .ref 373, .ref 375, .ref 378, .ref 381, .ref 387, .ref 393, gs, pl, .ref 397, .ref 398, .ref 399, .long sd, .long be]))) (H400 : mj_rd h 400 = some (.inr (17, [.int th, .ref 401, .ref 402, ty, .long sd, .long be, .ref 410, wa, nw, nx, .ref 411]))) (hn : ∀ (l6 l7 l8 l9 : Option Value) (h' : mj_H), mj_rd h' 400 = some (.inr (17, [.int (nI 1), .ref 401, .ref 402, ty, .long sd, .long be, .ref 410, wa, nw, nx, .ref 411])) ∧ mz_fr [400] h h' ∧ h'.length ≤ N + 1 ∧ mj_sz h' ≤ mj_sz h + 6 → mj_lrun L xs (28, [some (.retAddr 1), some (.ref 0), some (.ref 400), some (.ref 412), some (.ref 413), some (.int (nI (i + 4))), l6, l7, l8, l9], [], h') P) : mj_lrun L xs (28, [some (.retAddr 1), some (.ref 0), some (.ref 400), some (.ref 412), some (.ref 413), some (.int (nI i)), l6, l7, l8, l9], [], h) P := by
  refine l_ild (p' := 30) rfl rfl rfl rfl ?_
  refine l_alds (p' := 31) rfl rfl rfl rfl ?_
  refine l_lens (p' := 32) rfl rfl rfl ?_
  refine l_con (p' := 33) rfl rfl rfl ?_
  refine l_bz (p' := 34) (z := (nI (L - 4))) rfl rfl rfl rfl rfl (mI_sub (by omega)) ?_
  refine l_icmp (p' := 37) false rfl rfl ((ci_gt (by omega) (by omega)).trans (decide_eq_false (by omega))) rfl ?_
  refine l_alds (p' := 38) rfl rfl rfl rfl ?_
  refine l_ild (p' := 40) rfl rfl rfl rfl ?_
  refine l_ialz (p' := 41) (m := i) (z := (xs i)) rfl rfl (inb_nI (by omega) (by omega)) (mI_cl (by omega)) rfl rfl ?_
  refine l_bip (p' := 43) rfl rfl rfl ?_
  refine l_bz (p' := 44) (z := (nI 11)) rfl rfl rfl rfl rfl hk ?_
  refine l_sp (p' := 837) (ls' := _) rfl rfl rfl rfl rfl ?_
  refine l_aldn (p' := 838) rfl rfl rfl rfl ?_
  refine l_alds (p' := 839) rfl rfl rfl rfl ?_
  refine l_ild (p' := 841) rfl rfl rfl rfl ?_
  refine l_con (p' := 842) rfl rfl rfl ?_
  refine l_bz (p' := 843) (z := (nI (i + 1))) rfl rfl rfl rfl rfl (mI_add _ _) ?_
  refine l_ialz (p' := 844) (m := (i + 1)) (z := (xs (i + 1))) rfl rfl (inb_nI (by omega) (by omega)) (mI_cl (by omega)) rfl rfl ?_
  refine l_bz (p' := 845) (z := (nI c)) rfl rfl rfl rfl rfl hc ?_
  refine l_aldn (p' := 846) rfl rfl rfl rfl ?_
  refine l_call (p' := 849) (kc := 99) (ls0 := [_, _, _, _]) rfl rfl rfl rfl rfl rfl rfl rfl rfl rfl ?_
  refine s_aldn (p' := 1) rfl rfl rfl ?_
  refine s_con (p' := 2) rfl rfl ?_
  refine s_aldn (p' := 3) rfl rfl rfl ?_
  refine s_ildn (p' := 4) rfl rfl rfl ?_
  refine c_call (p' := 7) (kc := 98) (ls0 := [_, _]) rfl rfl rfl rfl rfl (mj_rcv_is H0) rfl rfl rfl ?_
  refine s_ildn (p' := 1) rfl rfl rfl ?_
  refine c_call (p' := 4) (kc := 97) (ls0 := [_]) rfl rfl rfl rfl rfl rfl rfl rfl rfl ?_
  refine s_ildn (p' := 1) rfl rfl rfl ?_
  refine s_bip (p' := 3) rfl rfl ?_
  refine s_icmp (p' := 16) true rfl ((cg_lt (w := 97) (by decide +kernel)).trans (decide_eq_true (by rw [mI_ti (by omega)]; omega))) rfl ?_
  refine s_con (p' := 17) rfl rfl ?_
  refine c_iret rfl (by decide +kernel) ?_
  refine s_if (p' := 7) false rfl (by decide +kernel) rfl ?_
  refine s_thrz (q := N) rfl HL rfl ?_
  refine K_c (hp := 12) (Nat.blt_eq.mpr (by omega)) (mj_ocl_is (rd_nw (Nat.blt_eq.mpr (by omega)) HL)) rfl ?_
  refine s_astn (p' := 13) (ls' := [_, _, _, _]) rfl rfl rfl rfl ?_
  refine s_con (p' := 14) rfl rfl ?_
  refine k_iret rfl rfl ?_
  refine l_ist (p' := 851) (ls' := [_, _, _, _, _, _, _, _, _, _]) rfl rfl rfl rfl rfl ?_
  refine l_aldn (p' := 852) rfl rfl rfl rfl ?_
  refine l_alds (p' := 853) rfl rfl rfl rfl ?_
  refine l_ild (p' := 855) rfl rfl rfl rfl ?_
  refine l_con (p' := 856) rfl rfl rfl ?_
  refine l_bz (p' := 857) (z := (nI (i + 1))) rfl rfl rfl rfl rfl (mI_add _ _) ?_
  refine l_ialz (p' := 858) (m := (i + 1)) (z := (xs (i + 1))) rfl rfl (inb_nI (by omega) (by omega)) (mI_cl (by omega)) rfl rfl ?_
  refine l_bz (p' := 859) (z := (nI c)) rfl rfl rfl rfl rfl hc ?_
  refine l_call (p' := 862) (kc := 99) (ls0 := [_, _]) rfl rfl rfl rfl rfl rfl (mj_rcv_is (rd_app H400)) rfl rfl rfl ?_
  refine s_aldn (p' := 1) rfl rfl rfl ?_
  refine s_ildn (p' := 2) rfl rfl rfl ?_
  refine c_call (p' := 5) (kc := 98) (ls0 := [_]) rfl rfl rfl rfl rfl rfl rfl rfl rfl ?_
  refine s_ildn (p' := 1) rfl rfl rfl ?_
  refine s_bip (p' := 3) rfl rfl ?_
  refine s_bip (p' := 5) rfl rfl ?_
  refine c_call (p' := 8) (kc := 97) (ls0 := [_, _, _]) rfl rfl rfl rfl rfl rfl rfl rfl rfl ?_
  refine s_ildn (p' := 1) rfl rfl rfl ?_
  refine s_ildn (p' := 2) rfl rfl rfl ?_
  refine s_icmp (p' := 14) true rfl ((ch_gt (w := 97) (by decide +kernel)).trans (decide_eq_true (by rw [mI_ti (by omega)]; omega))) rfl ?_
  refine s_con (p' := 15) rfl rfl ?_
  refine c_iret rfl (by decide +kernel) ?_
  refine c_iret rfl (by decide +kernel) ?_
  refine s_if (p' := 12) true rfl (by decide +kernel) rfl ?_
  refine s_con (p' := 13) rfl rfl ?_
  refine c_call (p' := 16) (kc := 98) (ls0 := [_, _]) rfl rfl rfl rfl rfl (mj_rcv_is (rd_app H400)) rfl rfl rfl ?_
  refine s_aldn (p' := 1) rfl rfl rfl ?_
  refine s_ildn (p' := 2) rfl rfl rfl ?_
  refine s_pfz (p' := 5) (fs' := [_, _, _, _, _, _, _, _, _, _, _]) rfl rfl (rd_app H400) rfl rfl rfl rfl ?_
  refine s_ildn (p' := 6) rfl rfl rfl ?_
  refine s_if (p' := 9) false rfl (by decide +kernel) rfl ?_
  refine s_con (p' := 10) rfl rfl ?_
  refine s_goto (p' := 14) rfl rfl ?_
  refine c_iret rfl (by decide +kernel) ?_
  refine s_if (p' := 19) false rfl (by decide +kernel) rfl ?_
  refine s_con (p' := 20) rfl rfl ?_
  refine s_goto (p' := 35) rfl rfl ?_
  refine k_iret rfl rfl ?_
  refine l_ist (p' := 864) (ls' := [_, _, _, _, _, _, _, _, _, _]) rfl rfl rfl rfl rfl ?_
  refine l_aldn (p' := 865) rfl rfl rfl rfl ?_
  refine l_call (p' := 868) (kc := 99) (ls0 := [_]) rfl rfl rfl rfl rfl rfl (mj_rcv_is (rd_ss rfl (rd_app H400))) rfl rfl rfl ?_
  refine s_aldn (p' := 1) rfl rfl rfl ?_
  refine s_gf (p' := 4) rfl (rd_ss rfl (rd_app H400)) rfl rfl ?_
  refine k_iret rfl rfl ?_
  refine l_ild (p' := 870) rfl rfl rfl rfl ?_
  refine l_icmp (p' := 875) true rfl rfl (by decide +kernel) rfl ?_
  refine l_ild (p' := 877) rfl rfl rfl rfl ?_
  refine l_if (p' := 892) true rfl rfl (by decide +kernel) rfl ?_
  refine l_goto (p' := 2541) rfl rfl rfl ?_
  refine l_incz (p' := 2544) (w := (nI (i + 4))) (ls' := [_, _, _, _, _, _, _, _, _, _]) rfl rfl rfl rfl (mI_add _ _) rfl rfl ?_
  refine l_goto (p' := 28) rfl rfl rfl ?_
  exact hn _ _ _ _ _ ⟨(rd_ss rfl (rd_app H400)), (mz_fr.s (by decide) (mz_fr.a (mz_fr.rf _ h))), (Nat.le_trans (Nat.le_of_eq (len_s (len_a HL rfl))) (by omega)), (Nat.le_trans (sz_s rfl (rd_app H400) rfl (sz_aa (k := 6) (m := mj_sz h + 6) rfl (by omega) (Nat.le_refl (mj_sz h)))) (by omega))⟩
theorem w_11_m {L i N : Nat} {xs : Nat → Int32} {h : mj_H} {l6 l7 l8 l9 : Option Value} {P : mj_H → Prop} (hL : L ≤ 2048) (hi : i + 4 ≤ L) (hN : N + 2000 < mj_CB) (hN0 : 414 ≤ N) (HL : h.length = N) (hk : xs i &&& nI 63 = nI 11) {gs pl ty wa nw nx dp ca mf : Value} {th : Int32} {sd be : Int64} {ou : Nat → Int64} {vf wf sf uf im jm : Nat → Int32} {k g : Nat} (hk20 : k ≤ 20) (hvw : ∀ j, j < 8 → wf j = vf j) (hsu : ∀ j, j < k → uf j = sf j) (him : ∀ j, j < 8 → jm j = im j) {pe pm ge gm : Value} {q : Nat} (hq6 : q ≤ 6) (hg24 : g ≤ 24) {c : Nat} (hc : ((xs (i + 1)).toUInt32 % 65536).toInt32 = nI c) (hcc : 104 < c) (hc6 : c < 65536)  (H0 : mj_rd h 0 = some (.inr (0, [.ref 1, .ref 38, .ref 299, .ref 336, .ref 373, .ref 375, .ref 378, .ref 381, .ref 387, .ref 393, gs, pl, .ref 397, .ref 398, .ref 399, .long sd, .long be]))) (H400 : mj_rd h 400 = some (.inr (17, [.int th, .ref 401, .ref 402, ty, .long sd, .long be, .ref 410, wa, nw, nx, .ref 411]))) (hn : ∀ (l6 l7 l8 l9 : Option Value) (h' : mj_H), mj_rd h' 400 = some (.inr (17, [.int (nI 1), .ref 401, .ref 402, ty, .long sd, .long be, .ref 410, wa, nw, nx, .ref 411])) ∧ mz_fr [400] h h' ∧ h'.length ≤ N + 1 ∧ mj_sz h' ≤ mj_sz h + 6 → mj_lrun L xs (28, [some (.retAddr 1), some (.ref 0), some (.ref 400), some (.ref 412), some (.ref 413), some (.int (nI (i + 4))), l6, l7, l8, l9], [], h') P) : mj_lrun L xs (28, [some (.retAddr 1), some (.ref 0), some (.ref 400), some (.ref 412), some (.ref 413), some (.int (nI i)), l6, l7, l8, l9], [], h) P := by
  refine l_ild (p' := 30) rfl rfl rfl rfl ?_
  refine l_alds (p' := 31) rfl rfl rfl rfl ?_
  refine l_lens (p' := 32) rfl rfl rfl ?_
  refine l_con (p' := 33) rfl rfl rfl ?_
  refine l_bz (p' := 34) (z := (nI (L - 4))) rfl rfl rfl rfl rfl (mI_sub (by omega)) ?_
  refine l_icmp (p' := 37) false rfl rfl ((ci_gt (by omega) (by omega)).trans (decide_eq_false (by omega))) rfl ?_
  refine l_alds (p' := 38) rfl rfl rfl rfl ?_
  refine l_ild (p' := 40) rfl rfl rfl rfl ?_
  refine l_ialz (p' := 41) (m := i) (z := (xs i)) rfl rfl (inb_nI (by omega) (by omega)) (mI_cl (by omega)) rfl rfl ?_
  refine l_bip (p' := 43) rfl rfl rfl ?_
  refine l_bz (p' := 44) (z := (nI 11)) rfl rfl rfl rfl rfl hk ?_
  refine l_sp (p' := 837) (ls' := _) rfl rfl rfl rfl rfl ?_
  refine l_aldn (p' := 838) rfl rfl rfl rfl ?_
  refine l_alds (p' := 839) rfl rfl rfl rfl ?_
  refine l_ild (p' := 841) rfl rfl rfl rfl ?_
  refine l_con (p' := 842) rfl rfl rfl ?_
  refine l_bz (p' := 843) (z := (nI (i + 1))) rfl rfl rfl rfl rfl (mI_add _ _) ?_
  refine l_ialz (p' := 844) (m := (i + 1)) (z := (xs (i + 1))) rfl rfl (inb_nI (by omega) (by omega)) (mI_cl (by omega)) rfl rfl ?_
  refine l_bz (p' := 845) (z := (nI c)) rfl rfl rfl rfl rfl hc ?_
  refine l_aldn (p' := 846) rfl rfl rfl rfl ?_
  refine l_call (p' := 849) (kc := 99) (ls0 := [_, _, _, _]) rfl rfl rfl rfl rfl rfl rfl rfl rfl rfl ?_
  refine s_aldn (p' := 1) rfl rfl rfl ?_
  refine s_con (p' := 2) rfl rfl ?_
  refine s_aldn (p' := 3) rfl rfl rfl ?_
  refine s_ildn (p' := 4) rfl rfl rfl ?_
  refine c_call (p' := 7) (kc := 98) (ls0 := [_, _]) rfl rfl rfl rfl rfl (mj_rcv_is H0) rfl rfl rfl ?_
  refine s_ildn (p' := 1) rfl rfl rfl ?_
  refine c_call (p' := 4) (kc := 97) (ls0 := [_]) rfl rfl rfl rfl rfl rfl rfl rfl rfl ?_
  refine s_ildn (p' := 1) rfl rfl rfl ?_
  refine s_bip (p' := 3) rfl rfl ?_
  refine s_icmp (p' := 6) false rfl ((cg_lt (w := 97) (by decide +kernel)).trans (decide_eq_false (by rw [mI_ti (by omega)]; omega))) rfl ?_
  refine s_ildn (p' := 7) rfl rfl rfl ?_
  refine s_bip (p' := 9) rfl rfl ?_
  refine s_icmp (p' := 16) true rfl ((cg_gt (w := 104) (by decide +kernel)).trans (decide_eq_true (by rw [mI_ti (by omega)]; omega))) rfl ?_
  refine s_con (p' := 17) rfl rfl ?_
  refine c_iret rfl (by decide +kernel) ?_
  refine s_if (p' := 7) false rfl (by decide +kernel) rfl ?_
  refine s_thrz (q := N) rfl HL rfl ?_
  refine K_c (hp := 12) (Nat.blt_eq.mpr (by omega)) (mj_ocl_is (rd_nw (Nat.blt_eq.mpr (by omega)) HL)) rfl ?_
  refine s_astn (p' := 13) (ls' := [_, _, _, _]) rfl rfl rfl rfl ?_
  refine s_con (p' := 14) rfl rfl ?_
  refine k_iret rfl rfl ?_
  refine l_ist (p' := 851) (ls' := [_, _, _, _, _, _, _, _, _, _]) rfl rfl rfl rfl rfl ?_
  refine l_aldn (p' := 852) rfl rfl rfl rfl ?_
  refine l_alds (p' := 853) rfl rfl rfl rfl ?_
  refine l_ild (p' := 855) rfl rfl rfl rfl ?_
  refine l_con (p' := 856) rfl rfl rfl ?_
  refine l_bz (p' := 857) (z := (nI (i + 1))) rfl rfl rfl rfl rfl (mI_add _ _) ?_
  refine l_ialz (p' := 858) (m := (i + 1)) (z := (xs (i + 1))) rfl rfl (inb_nI (by omega) (by omega)) (mI_cl (by omega)) rfl rfl ?_
  refine l_bz (p' := 859) (z := (nI c)) rfl rfl rfl rfl rfl hc ?_
  refine l_call (p' := 862) (kc := 99) (ls0 := [_, _]) rfl rfl rfl rfl rfl rfl (mj_rcv_is (rd_app H400)) rfl rfl rfl ?_
  refine s_aldn (p' := 1) rfl rfl rfl ?_
  refine s_ildn (p' := 2) rfl rfl rfl ?_
  refine c_call (p' := 5) (kc := 98) (ls0 := [_]) rfl rfl rfl rfl rfl rfl rfl rfl rfl ?_
  refine s_ildn (p' := 1) rfl rfl rfl ?_
  refine s_bip (p' := 3) rfl rfl ?_
  refine s_bip (p' := 5) rfl rfl ?_
  refine c_call (p' := 8) (kc := 97) (ls0 := [_, _, _]) rfl rfl rfl rfl rfl rfl rfl rfl rfl ?_
  refine s_ildn (p' := 1) rfl rfl rfl ?_
  refine s_ildn (p' := 2) rfl rfl rfl ?_
  refine s_icmp (p' := 5) false rfl ((ch_gt (w := 97) (by decide +kernel)).trans (decide_eq_false (by rw [mI_ti (by omega)]; omega))) rfl ?_
  refine s_ildn (p' := 6) rfl rfl rfl ?_
  refine s_ildn (p' := 7) rfl rfl rfl ?_
  refine s_icmp (p' := 14) true rfl ((cg_gt (w := 104) (by decide +kernel)).trans (decide_eq_true (by rw [mI_ti (by omega)]; omega))) rfl ?_
  refine s_con (p' := 15) rfl rfl ?_
  refine c_iret rfl (by decide +kernel) ?_
  refine c_iret rfl (by decide +kernel) ?_
  refine s_if (p' := 12) true rfl (by decide +kernel) rfl ?_
  refine s_con (p' := 13) rfl rfl ?_
  refine c_call (p' := 16) (kc := 98) (ls0 := [_, _]) rfl rfl rfl rfl rfl (mj_rcv_is (rd_app H400)) rfl rfl rfl ?_
  refine s_aldn (p' := 1) rfl rfl rfl ?_
  refine s_ildn (p' := 2) rfl rfl rfl ?_
  refine s_pfz (p' := 5) (fs' := [_, _, _, _, _, _, _, _, _, _, _]) rfl rfl (rd_app H400) rfl rfl rfl rfl ?_
  refine s_ildn (p' := 6) rfl rfl rfl ?_
  refine s_if (p' := 9) false rfl (by decide +kernel) rfl ?_
  refine s_con (p' := 10) rfl rfl ?_
  refine s_goto (p' := 14) rfl rfl ?_
  refine c_iret rfl (by decide +kernel) ?_
  refine s_if (p' := 19) false rfl (by decide +kernel) rfl ?_
  refine s_con (p' := 20) rfl rfl ?_
  refine s_goto (p' := 35) rfl rfl ?_
  refine k_iret rfl rfl ?_
  refine l_ist (p' := 864) (ls' := [_, _, _, _, _, _, _, _, _, _]) rfl rfl rfl rfl rfl ?_
  refine l_aldn (p' := 865) rfl rfl rfl rfl ?_
  refine l_call (p' := 868) (kc := 99) (ls0 := [_]) rfl rfl rfl rfl rfl rfl (mj_rcv_is (rd_ss rfl (rd_app H400))) rfl rfl rfl ?_
  refine s_aldn (p' := 1) rfl rfl rfl ?_
  refine s_gf (p' := 4) rfl (rd_ss rfl (rd_app H400)) rfl rfl ?_
  refine k_iret rfl rfl ?_
  refine l_ild (p' := 870) rfl rfl rfl rfl ?_
  refine l_icmp (p' := 875) true rfl rfl (by decide +kernel) rfl ?_
  refine l_ild (p' := 877) rfl rfl rfl rfl ?_
  refine l_if (p' := 892) true rfl rfl (by decide +kernel) rfl ?_
  refine l_goto (p' := 2541) rfl rfl rfl ?_
  refine l_incz (p' := 2544) (w := (nI (i + 4))) (ls' := [_, _, _, _, _, _, _, _, _, _]) rfl rfl rfl rfl (mI_add _ _) rfl rfl ?_
  refine l_goto (p' := 28) rfl rfl rfl ?_
  exact hn _ _ _ _ _ ⟨(rd_ss rfl (rd_app H400)), (mz_fr.s (by decide) (mz_fr.a (mz_fr.rf _ h))), (Nat.le_trans (Nat.le_of_eq (len_s (len_a HL rfl))) (by omega)), (Nat.le_trans (sz_s rfl (rd_app H400) rfl (sz_aa (k := 6) (m := mj_sz h + 6) rfl (by omega) (Nat.le_refl (mj_sz h)))) (by omega))⟩
theorem w_24 {L i N : Nat} {xs : Nat → Int32} {h : mj_H} {l6 l7 l8 l9 : Option Value} {P : mj_H → Prop} (hL : L ≤ 2048) (hi : i + 4 ≤ L) (hN : N + 2000 < mj_CB) (hN0 : 414 ≤ N) (HL : h.length = N) (hk : xs i &&& nI 63 = nI 24) {gs pl ty wa nw nx dp ca mf : Value} {th : Int32} {sd be : Int64} {ou : Nat → Int64} {vf wf sf uf im jm : Nat → Int32} {k g : Nat} (hk20 : k ≤ 20) (hvw : ∀ j, j < 8 → wf j = vf j) (hsu : ∀ j, j < k → uf j = sf j) (him : ∀ j, j < 8 → jm j = im j) {pe pm ge gm : Value} {q : Nat} (hq6 : q ≤ 6) (hg24 : g ≤ 24) {v : Nat} (hv : v < 8) (hc : ((xs (i + 1)).toUInt32 % 65536).toInt32 = nI (97 + v))  (H0 : mj_rd h 0 = some (.inr (0, [.ref 1, .ref 38, .ref 299, .ref 336, .ref 373, .ref 375, .ref 378, .ref 381, .ref 387, .ref 393, gs, pl, .ref 397, .ref 398, .ref 399, .long sd, .long be]))) (H375 : mj_rd h 375 = some (.inr (7, [.ref 376, .ref 377, .int (nI k)]))) (H376 : mj_rd h 376 = some (.inl (0, (8, .inl (vf))))) (H400 : mj_rd h 400 = some (.inr (17, [.int th, .ref 401, .ref 402, ty, .long sd, .long be, .ref 410, wa, nw, nx, .ref 411]))) (H402 : mj_rd h 402 = some (.inr (19, [.ref 403, .ref 404, .ref 405, .ref 406, .ref 407, .ref 408, .ref 409, .int (nI k), dp, ca, .ref 400]))) (H403 : mj_rd h 403 = some (.inl (0, (8, .inl (wf))))) (H412 : mj_rd h 412 = some (.inl (4, (1, .inr (.inl (ou)))))) (hn : ∀ (l6 l7 l8 l9 : Option Value) (h' : mj_H), mj_rd h' 0 = some (.inr (0, [.ref 1, .ref 38, .ref 299, .ref 336, .ref 373, .ref 375, .ref 378, .ref 381, .ref 387, .ref 393, gs, pl, .ref 397, .ref 398, .ref 399, .long sd, .long (be + (Int32.toInt64 (bc (vf v))))])) ∧ mj_rd h' 376 = some (.inl (0, (8, .inl ((upd vf v (nI 0)))))) ∧ mj_rd h' 400 = some (.inr (17, [.int (nI 0), .ref 401, .ref 402, ty, .long sd, .long (be + (Int32.toInt64 (bc (vf v)))), .ref 410, wa, nw, nx, .ref 411])) ∧ mj_rd h' 403 = some (.inl (0, (8, .inl ((upd wf v (nI 0)))))) ∧ mj_rd h' 412 = some (.inl (4, (1, .inr (.inl ((vp_updL ou 0 (be + (Int32.toInt64 (bc (vf v)))))))))) ∧ mz_fr [0, 376, 400, 403, 412] h h' ∧ h'.length ≤ N + 0 ∧ mj_sz h' ≤ mj_sz h + 0 → mj_lrun L xs (28, [some (.retAddr 1), some (.ref 0), some (.ref 400), some (.ref 412), some (.ref 413), some (.int (nI (i + 4))), l6, l7, l8, l9], [], h') P) : mj_lrun L xs (28, [some (.retAddr 1), some (.ref 0), some (.ref 400), some (.ref 412), some (.ref 413), some (.int (nI i)), l6, l7, l8, l9], [], h) P := by
  refine l_ild (p' := 30) rfl rfl rfl rfl ?_
  refine l_alds (p' := 31) rfl rfl rfl rfl ?_
  refine l_lens (p' := 32) rfl rfl rfl ?_
  refine l_con (p' := 33) rfl rfl rfl ?_
  refine l_bz (p' := 34) (z := (nI (L - 4))) rfl rfl rfl rfl rfl (mI_sub (by omega)) ?_
  refine l_icmp (p' := 37) false rfl rfl ((ci_gt (by omega) (by omega)).trans (decide_eq_false (by omega))) rfl ?_
  refine l_alds (p' := 38) rfl rfl rfl rfl ?_
  refine l_ild (p' := 40) rfl rfl rfl rfl ?_
  refine l_ialz (p' := 41) (m := i) (z := (xs i)) rfl rfl (inb_nI (by omega) (by omega)) (mI_cl (by omega)) rfl rfl ?_
  refine l_bip (p' := 43) rfl rfl rfl ?_
  refine l_bz (p' := 44) (z := (nI 24)) rfl rfl rfl rfl rfl hk ?_
  refine l_sp (p' := 1524) (ls' := _) rfl rfl rfl rfl rfl ?_
  refine l_aldn (p' := 1525) rfl rfl rfl rfl ?_
  refine l_alds (p' := 1526) rfl rfl rfl rfl ?_
  refine l_ild (p' := 1528) rfl rfl rfl rfl ?_
  refine l_con (p' := 1529) rfl rfl rfl ?_
  refine l_bz (p' := 1530) (z := (nI (i + 1))) rfl rfl rfl rfl rfl (mI_add _ _) ?_
  refine l_ialz (p' := 1531) (m := (i + 1)) (z := (xs (i + 1))) rfl rfl (inb_nI (by omega) (by omega)) (mI_cl (by omega)) rfl rfl ?_
  refine l_bz (p' := 1532) (z := (nI (97 + v))) rfl rfl rfl rfl rfl hc ?_
  refine l_aldn (p' := 1533) rfl rfl rfl rfl ?_
  refine l_call (p' := 1536) (kc := 99) (ls0 := [_, _, _, _]) rfl rfl rfl rfl rfl rfl rfl rfl rfl rfl ?_
  refine s_aldn (p' := 1) rfl rfl rfl ?_
  refine s_con (p' := 2) rfl rfl ?_
  refine s_aldn (p' := 3) rfl rfl rfl ?_
  refine s_ildn (p' := 4) rfl rfl rfl ?_
  refine c_call (p' := 7) (kc := 98) (ls0 := [_, _]) rfl rfl rfl rfl rfl (mj_rcv_is H0) rfl rfl rfl ?_
  refine s_ildn (p' := 1) rfl rfl rfl ?_
  refine c_call (p' := 4) (kc := 97) (ls0 := [_]) rfl rfl rfl rfl rfl rfl rfl rfl rfl ?_
  refine s_ildn (p' := 1) rfl rfl rfl ?_
  refine s_bip (p' := 3) rfl rfl ?_
  refine s_icmp (p' := 6) false rfl ((cg_lt (w := 97) (by decide +kernel)).trans (decide_eq_false (by rw [mI_ti (by omega)]; omega))) rfl ?_
  refine s_ildn (p' := 7) rfl rfl rfl ?_
  refine s_bip (p' := 9) rfl rfl ?_
  refine s_icmp (p' := 12) false rfl ((cg_gt (w := 104) (by decide +kernel)).trans (decide_eq_false (by rw [mI_ti (by omega)]; omega))) rfl ?_
  refine s_con (p' := 13) rfl rfl ?_
  refine s_goto (p' := 17) rfl rfl ?_
  refine c_iret rfl (by decide +kernel) ?_
  refine s_if (p' := 17) true rfl (by decide +kernel) rfl ?_
  refine s_aldn (p' := 18) rfl rfl rfl ?_
  refine s_dupr (p' := 19) rfl rfl ?_
  refine s_gf (p' := 22) rfl H0 rfl rfl ?_
  refine s_aldn (p' := 23) rfl rfl rfl ?_
  refine s_gf (p' := 26) rfl H0 rfl rfl ?_
  refine s_ildn (p' := 27) rfl rfl rfl ?_
  refine s_bip (p' := 29) rfl rfl ?_
  refine s_bz (p' := 30) (z := (nI v)) rfl rfl rfl (by rw [mI_sub (by omega), Nat.add_sub_cancel_left]) ?_
  refine c_call (p' := 33) (kc := 97) (ls0 := [_, _]) rfl rfl rfl rfl rfl (mj_rcv_is H375) rfl rfl rfl ?_
  refine s_ildn (p' := 1) rfl rfl rfl ?_
  refine s_if (p' := 4) false rfl ((cg_lt (w := 0) (by decide +kernel)).trans (decide_eq_false (by rw [mI_ti (by omega)]; omega))) rfl ?_
  refine s_ildn (p' := 5) rfl rfl rfl ?_
  refine s_aldn (p' := 6) rfl rfl rfl ?_
  refine s_gf (p' := 9) rfl H375 rfl rfl ?_
  refine s_lenz (p' := 10) rfl (mj_rdA_is H376 (by decide)) rfl rfl ?_
  refine s_icmp (p' := 13) false rfl ((cg_ge (w := 8) (by decide +kernel)).trans (decide_eq_false (by rw [mI_ti (by omega)]; omega))) rfl ?_
  refine s_aldn (p' := 14) rfl rfl rfl ?_
  refine s_gf (p' := 17) rfl H375 rfl rfl ?_
  refine s_ildn (p' := 18) rfl rfl rfl ?_
  refine s_ialz (p' := 19) (m := v) (v := (vf v)) rfl H376 (inb_nI (by omega) (by omega)) (mI_cl (by omega)) rfl rfl ?_
  refine s_goto (p' := 23) rfl rfl ?_
  refine c_iret rfl rfl ?_
  refine s_callV (p' := 36) (kc := 0) (ls0 := [_]) rfl rfl rfl rfl rfl rfl rfl x_bc (by decide) rfl ?_
  refine s_bzL (p' := 37) (z := (Int32.toInt64 (bc (vf v)))) rfl rfl rfl rfl ?_
  refine s_bzL (p' := 38) (z := (be + (Int32.toInt64 (bc (vf v))))) rfl rfl rfl rfl ?_
  refine s_pfz (p' := 41) (fs' := [_, _, _, _, _, _, _, _, _, _, _, _, _, _, _, _, _]) rfl rfl H0 rfl rfl rfl rfl ?_
  refine s_aldn (p' := 42) rfl rfl rfl ?_
  refine s_gf (p' := 45) rfl (rd_ss rfl H0) rfl rfl ?_
  refine s_ildn (p' := 46) rfl rfl rfl ?_
  refine s_bip (p' := 48) rfl rfl ?_
  refine s_bz (p' := 49) (z := (nI v)) rfl rfl rfl (by rw [mI_sub (by omega), Nat.add_sub_cancel_left]) ?_
  refine s_con (p' := 50) rfl rfl ?_
  refine c_call (p' := 53) (kc := 97) (ls0 := [_, _, _]) rfl rfl rfl rfl rfl (mj_rcv_is (rd_sn rfl H375)) rfl rfl rfl ?_
  refine s_ildn (p' := 1) rfl rfl rfl ?_
  refine s_if (p' := 4) false rfl ((cg_lt (w := 0) (by decide +kernel)).trans (decide_eq_false (by rw [mI_ti (by omega)]; omega))) rfl ?_
  refine s_ildn (p' := 5) rfl rfl rfl ?_
  refine s_aldn (p' := 6) rfl rfl rfl ?_
  refine s_gf (p' := 9) rfl (rd_sn rfl H375) rfl rfl ?_
  refine s_lenz (p' := 10) rfl (mj_rdA_is (rd_sn rfl H376) (by decide)) rfl rfl ?_
  refine s_icmp (p' := 13) false rfl ((cg_ge (w := 8) (by decide +kernel)).trans (decide_eq_false (by rw [mI_ti (by omega)]; omega))) rfl ?_
  refine s_aldn (p' := 14) rfl rfl rfl ?_
  refine s_gf (p' := 17) rfl (rd_sn rfl H375) rfl rfl ?_
  refine s_ildn (p' := 18) rfl rfl rfl ?_
  refine s_ildn (p' := 19) rfl rfl rfl ?_
  refine s_iasz (p' := 20) (m := v) rfl rfl (rd_sn rfl H376) (inb_nI (by omega) (by omega)) (mI_cl (by omega)) rfl rfl ?_
  refine c_ret rfl ?_
  refine s_aldn (p' := 54) rfl rfl rfl ?_
  refine s_gf (p' := 57) rfl (rd_sn rfl (rd_ss rfl H0)) rfl rfl ?_
  refine c_lret rfl ?_
  refine s_lasz (p' := 8) (m := 0) rfl rfl (rd_sn rfl (rd_sn rfl H412)) (by decide +kernel) rfl rfl rfl ?_
  refine s_goto (p' := 14) rfl rfl ?_
  refine s_con (p' := 15) rfl rfl ?_
  refine k_iret rfl rfl ?_
  refine l_ist (p' := 1538) (ls' := [_, _, _, _, _, _, _, _, _, _]) rfl rfl rfl rfl rfl ?_
  refine l_aldn (p' := 1539) rfl rfl rfl rfl ?_
  refine l_alds (p' := 1540) rfl rfl rfl rfl ?_
  refine l_ild (p' := 1542) rfl rfl rfl rfl ?_
  refine l_con (p' := 1543) rfl rfl rfl ?_
  refine l_bz (p' := 1544) (z := (nI (i + 1))) rfl rfl rfl rfl rfl (mI_add _ _) ?_
  refine l_ialz (p' := 1545) (m := (i + 1)) (z := (xs (i + 1))) rfl rfl (inb_nI (by omega) (by omega)) (mI_cl (by omega)) rfl rfl ?_
  refine l_bz (p' := 1546) (z := (nI (97 + v))) rfl rfl rfl rfl rfl hc ?_
  refine l_call (p' := 1549) (kc := 99) (ls0 := [_, _]) rfl rfl rfl rfl rfl rfl (mj_rcv_is (rd_sn rfl (rd_sn rfl (rd_sn rfl H400)))) rfl rfl rfl ?_
  refine s_aldn (p' := 1) rfl rfl rfl ?_
  refine s_ildn (p' := 2) rfl rfl rfl ?_
  refine c_call (p' := 5) (kc := 98) (ls0 := [_]) rfl rfl rfl rfl rfl rfl rfl rfl rfl ?_
  refine s_ildn (p' := 1) rfl rfl rfl ?_
  refine s_bip (p' := 3) rfl rfl ?_
  refine s_bip (p' := 5) rfl rfl ?_
  refine c_call (p' := 8) (kc := 97) (ls0 := [_, _, _]) rfl rfl rfl rfl rfl rfl rfl rfl rfl ?_
  refine s_ildn (p' := 1) rfl rfl rfl ?_
  refine s_ildn (p' := 2) rfl rfl rfl ?_
  refine s_icmp (p' := 5) false rfl ((ch_gt (w := 97) (by decide +kernel)).trans (decide_eq_false (by rw [mI_ti (by omega)]; omega))) rfl ?_
  refine s_ildn (p' := 6) rfl rfl rfl ?_
  refine s_ildn (p' := 7) rfl rfl rfl ?_
  refine s_icmp (p' := 10) false rfl ((cg_gt (w := 104) (by decide +kernel)).trans (decide_eq_false (by rw [mI_ti (by omega)]; omega))) rfl ?_
  refine s_con (p' := 11) rfl rfl ?_
  refine s_goto (p' := 15) rfl rfl ?_
  refine c_iret rfl (by decide +kernel) ?_
  refine c_iret rfl (by decide +kernel) ?_
  refine s_if (p' := 8) false rfl (by decide +kernel) rfl ?_
  refine s_con (p' := 9) rfl rfl ?_
  refine s_goto (p' := 13) rfl rfl ?_
  refine c_call (p' := 16) (kc := 98) (ls0 := [_, _]) rfl rfl rfl rfl rfl (mj_rcv_is (rd_sn rfl (rd_sn rfl (rd_sn rfl H400)))) rfl rfl rfl ?_
  refine s_aldn (p' := 1) rfl rfl rfl ?_
  refine s_ildn (p' := 2) rfl rfl rfl ?_
  refine s_pfz (p' := 5) (fs' := [_, _, _, _, _, _, _, _, _, _, _]) rfl rfl (rd_sn rfl (rd_sn rfl (rd_sn rfl H400))) rfl rfl rfl rfl ?_
  refine s_ildn (p' := 6) rfl rfl rfl ?_
  refine s_if (p' := 13) true rfl (by decide +kernel) rfl ?_
  refine s_con (p' := 14) rfl rfl ?_
  refine c_iret rfl (by decide +kernel) ?_
  refine s_if (p' := 21) true rfl (by decide +kernel) rfl ?_
  refine s_aldn (p' := 22) rfl rfl rfl ?_
  refine s_dupr (p' := 23) rfl rfl ?_
  refine s_gf (p' := 26) rfl (rd_ss rfl (rd_sn rfl (rd_sn rfl (rd_sn rfl H400)))) rfl rfl ?_
  refine s_aldn (p' := 27) rfl rfl rfl ?_
  refine s_gf (p' := 30) rfl (rd_ss rfl (rd_sn rfl (rd_sn rfl (rd_sn rfl H400)))) rfl rfl ?_
  refine s_gf (p' := 33) rfl (rd_sn rfl (rd_sn rfl (rd_sn rfl (rd_sn rfl H402)))) rfl rfl ?_
  refine s_ildn (p' := 34) rfl rfl rfl ?_
  refine s_bip (p' := 36) rfl rfl ?_
  refine s_bz (p' := 37) (z := (nI v)) rfl rfl rfl (by rw [mI_sub (by omega), Nat.add_sub_cancel_left]) ?_
  refine s_ialz (p' := 38) (m := v) (v := (vf v)) rfl (rd_sn rfl (rd_sn rfl (rd_sn rfl (rd_sn rfl H403)))) (inb_nI (by omega) (by omega)) (mI_cl (by omega)) (hvw v (by omega)) rfl ?_
  refine s_callV (p' := 41) (kc := 0) (ls0 := [_]) rfl rfl rfl rfl rfl rfl rfl x_bc (by decide) rfl ?_
  refine s_bzL (p' := 42) (z := (Int32.toInt64 (bc (vf v)))) rfl rfl rfl rfl ?_
  refine s_bzL (p' := 43) (z := (be + (Int32.toInt64 (bc (vf v))))) rfl rfl rfl rfl ?_
  refine s_pfz (p' := 46) (fs' := [_, _, _, _, _, _, _, _, _, _, _]) rfl rfl (rd_ss rfl (rd_sn rfl (rd_sn rfl (rd_sn rfl H400)))) rfl rfl rfl rfl ?_
  refine s_aldn (p' := 47) rfl rfl rfl ?_
  refine s_gf (p' := 50) rfl (rd_ss rfl (rd_ss rfl (rd_sn rfl (rd_sn rfl (rd_sn rfl H400))))) rfl rfl ?_
  refine s_gf (p' := 53) rfl (rd_sn rfl (rd_sn rfl (rd_sn rfl (rd_sn rfl (rd_sn rfl H402))))) rfl rfl ?_
  refine s_ildn (p' := 54) rfl rfl rfl ?_
  refine s_bip (p' := 56) rfl rfl ?_
  refine s_bz (p' := 57) (z := (nI v)) rfl rfl rfl (by rw [mI_sub (by omega), Nat.add_sub_cancel_left]) ?_
  refine s_con (p' := 58) rfl rfl ?_
  refine s_iasz (p' := 59) (m := v) rfl rfl (rd_sn rfl (rd_sn rfl (rd_sn rfl (rd_sn rfl (rd_sn rfl H403))))) (inb_nI (by omega) (by omega)) (mI_cl (by omega)) rfl rfl ?_
  refine s_aldn (p' := 60) rfl rfl rfl ?_
  refine s_gf (p' := 63) rfl (rd_sn rfl (rd_ss rfl (rd_ss rfl (rd_sn rfl (rd_sn rfl (rd_sn rfl H400)))))) rfl rfl ?_
  refine k_lret rfl ?_
  refine l_sp (p' := 1551) (ls' := [_, _, _, _, _, _, _, _, _, _]) rfl rfl rfl rfl rfl ?_
  refine l_aldn (p' := 1552) rfl rfl rfl rfl ?_
  refine l_call (p' := 1555) (kc := 99) (ls0 := [_]) rfl rfl rfl rfl rfl rfl (mj_rcv_is (rd_sn rfl (rd_ss rfl (rd_ss rfl (rd_sn rfl (rd_sn rfl (rd_sn rfl H400))))))) rfl rfl rfl ?_
  refine s_aldn (p' := 1) rfl rfl rfl ?_
  refine s_gf (p' := 4) rfl (rd_sn rfl (rd_ss rfl (rd_ss rfl (rd_sn rfl (rd_sn rfl (rd_sn rfl H400)))))) rfl rfl ?_
  refine k_iret rfl rfl ?_
  refine l_ild (p' := 1557) rfl rfl rfl rfl ?_
  refine l_icmp (p' := 1562) true rfl rfl (by decide +kernel) rfl ?_
  refine l_ild (p' := 1564) rfl rfl rfl rfl ?_
  refine l_if (p' := 1567) false rfl rfl (by decide +kernel) rfl ?_
  refine l_aldn (p' := 1568) rfl rfl rfl rfl ?_
  refine l_con (p' := 1569) rfl rfl rfl ?_
  refine l_lalz (p' := 1570) (m := 0) (v := (be + (Int32.toInt64 (bc (vf v))))) rfl rfl (rd_sn rfl (rd_sn rfl (rd_sn rfl (rd_ss rfl (rd_sn rfl (rd_sn rfl H412)))))) (by decide +kernel) rfl rfl rfl ?_
  refine l_sp (p' := 1572) (ls' := _) rfl rfl rfl rfl rfl ?_
  refine l_bz (p' := 1573) (z := nI 0) rfl rfl rfl rfl rfl (lcmp_self _) ?_
  refine l_if (p' := 1578) true rfl rfl (by decide +kernel) rfl ?_
  refine l_goto (p' := 2541) rfl rfl rfl ?_
  refine l_incz (p' := 2544) (w := (nI (i + 4))) (ls' := [_, _, _, _, _, _, _, _, _, _]) rfl rfl rfl rfl (mI_add _ _) rfl rfl ?_
  refine l_goto (p' := 28) rfl rfl rfl ?_
  exact hn _ _ _ _ _ ⟨(rd_sn rfl (rd_sn rfl (rd_sn rfl (rd_sn rfl (rd_sn rfl (rd_ss rfl H0)))))), (rd_sn rfl (rd_sn rfl (rd_sn rfl (rd_sn rfl (rd_ss rfl (rd_sn rfl H376)))))), (rd_sn rfl (rd_ss rfl (rd_ss rfl (rd_sn rfl (rd_sn rfl (rd_sn rfl H400)))))), (rd_ss rfl (rd_sn rfl (rd_sn rfl (rd_sn rfl (rd_sn rfl (rd_sn rfl H403)))))), (rd_sn rfl (rd_sn rfl (rd_sn rfl (rd_ss rfl (rd_sn rfl (rd_sn rfl H412)))))), (mz_fr.s (by decide) (mz_fr.s (by decide) (mz_fr.s (by decide) (mz_fr.s (by decide) (mz_fr.s (by decide) (mz_fr.s (by decide) (mz_fr.rf _ h))))))), (Nat.le_trans (Nat.le_of_eq (len_s (len_s (len_s (len_s (len_s (len_s HL))))))) (by omega)), (Nat.le_trans (sz_sA rfl (rd_sn rfl (rd_sn rfl (rd_sn rfl (rd_sn rfl (rd_sn rfl H403))))) (sz_s rfl (rd_ss rfl (rd_sn rfl (rd_sn rfl (rd_sn rfl H400)))) rfl (sz_s rfl (rd_sn rfl (rd_sn rfl (rd_sn rfl H400))) rfl (sz_sA rfl (rd_sn rfl (rd_sn rfl H412)) (sz_sA rfl (rd_sn rfl H376) (sz_s rfl H0 rfl (Nat.le_refl (mj_sz h)))))))) (by omega))⟩
theorem w_24_n {L i N : Nat} {xs : Nat → Int32} {h : mj_H} {l6 l7 l8 l9 : Option Value} {P : mj_H → Prop} (hL : L ≤ 2048) (hi : i + 4 ≤ L) (hN : N + 2000 < mj_CB) (hN0 : 414 ≤ N) (HL : h.length = N) (hk : xs i &&& nI 63 = nI 24) {gs pl ty wa nw nx dp ca mf : Value} {th : Int32} {sd be : Int64} {ou : Nat → Int64} {vf wf sf uf im jm : Nat → Int32} {k g : Nat} (hk20 : k ≤ 20) (hvw : ∀ j, j < 8 → wf j = vf j) (hsu : ∀ j, j < k → uf j = sf j) (him : ∀ j, j < 8 → jm j = im j) {pe pm ge gm : Value} {q : Nat} (hq6 : q ≤ 6) (hg24 : g ≤ 24) {c : Nat} (hc : ((xs (i + 1)).toUInt32 % 65536).toInt32 = nI c) (hcc : c < 97)  (H0 : mj_rd h 0 = some (.inr (0, [.ref 1, .ref 38, .ref 299, .ref 336, .ref 373, .ref 375, .ref 378, .ref 381, .ref 387, .ref 393, gs, pl, .ref 397, .ref 398, .ref 399, .long sd, .long be]))) (H400 : mj_rd h 400 = some (.inr (17, [.int th, .ref 401, .ref 402, ty, .long sd, .long be, .ref 410, wa, nw, nx, .ref 411]))) (hn : ∀ (l6 l7 l8 l9 : Option Value) (h' : mj_H), mj_rd h' 400 = some (.inr (17, [.int (nI 1), .ref 401, .ref 402, ty, .long sd, .long be, .ref 410, wa, nw, nx, .ref 411])) ∧ mz_fr [400] h h' ∧ h'.length ≤ N + 1 ∧ mj_sz h' ≤ mj_sz h + 6 → mj_lrun L xs (28, [some (.retAddr 1), some (.ref 0), some (.ref 400), some (.ref 412), some (.ref 413), some (.int (nI (i + 4))), l6, l7, l8, l9], [], h') P) : mj_lrun L xs (28, [some (.retAddr 1), some (.ref 0), some (.ref 400), some (.ref 412), some (.ref 413), some (.int (nI i)), l6, l7, l8, l9], [], h) P := by
  refine l_ild (p' := 30) rfl rfl rfl rfl ?_
  refine l_alds (p' := 31) rfl rfl rfl rfl ?_
  refine l_lens (p' := 32) rfl rfl rfl ?_
  refine l_con (p' := 33) rfl rfl rfl ?_
  refine l_bz (p' := 34) (z := (nI (L - 4))) rfl rfl rfl rfl rfl (mI_sub (by omega)) ?_
  refine l_icmp (p' := 37) false rfl rfl ((ci_gt (by omega) (by omega)).trans (decide_eq_false (by omega))) rfl ?_
  refine l_alds (p' := 38) rfl rfl rfl rfl ?_
  refine l_ild (p' := 40) rfl rfl rfl rfl ?_
  refine l_ialz (p' := 41) (m := i) (z := (xs i)) rfl rfl (inb_nI (by omega) (by omega)) (mI_cl (by omega)) rfl rfl ?_
  refine l_bip (p' := 43) rfl rfl rfl ?_
  refine l_bz (p' := 44) (z := (nI 24)) rfl rfl rfl rfl rfl hk ?_
  refine l_sp (p' := 1524) (ls' := _) rfl rfl rfl rfl rfl ?_
  refine l_aldn (p' := 1525) rfl rfl rfl rfl ?_
  refine l_alds (p' := 1526) rfl rfl rfl rfl ?_
  refine l_ild (p' := 1528) rfl rfl rfl rfl ?_
  refine l_con (p' := 1529) rfl rfl rfl ?_
  refine l_bz (p' := 1530) (z := (nI (i + 1))) rfl rfl rfl rfl rfl (mI_add _ _) ?_
  refine l_ialz (p' := 1531) (m := (i + 1)) (z := (xs (i + 1))) rfl rfl (inb_nI (by omega) (by omega)) (mI_cl (by omega)) rfl rfl ?_
  refine l_bz (p' := 1532) (z := (nI c)) rfl rfl rfl rfl rfl hc ?_
  refine l_aldn (p' := 1533) rfl rfl rfl rfl ?_
  refine l_call (p' := 1536) (kc := 99) (ls0 := [_, _, _, _]) rfl rfl rfl rfl rfl rfl rfl rfl rfl rfl ?_
  refine s_aldn (p' := 1) rfl rfl rfl ?_
  refine s_con (p' := 2) rfl rfl ?_
  refine s_aldn (p' := 3) rfl rfl rfl ?_
  refine s_ildn (p' := 4) rfl rfl rfl ?_
  refine c_call (p' := 7) (kc := 98) (ls0 := [_, _]) rfl rfl rfl rfl rfl (mj_rcv_is H0) rfl rfl rfl ?_
  refine s_ildn (p' := 1) rfl rfl rfl ?_
  refine c_call (p' := 4) (kc := 97) (ls0 := [_]) rfl rfl rfl rfl rfl rfl rfl rfl rfl ?_
  refine s_ildn (p' := 1) rfl rfl rfl ?_
  refine s_bip (p' := 3) rfl rfl ?_
  refine s_icmp (p' := 16) true rfl ((cg_lt (w := 97) (by decide +kernel)).trans (decide_eq_true (by rw [mI_ti (by omega)]; omega))) rfl ?_
  refine s_con (p' := 17) rfl rfl ?_
  refine c_iret rfl (by decide +kernel) ?_
  refine s_if (p' := 7) false rfl (by decide +kernel) rfl ?_
  refine s_thrz (q := N) rfl HL rfl ?_
  refine K_c (hp := 11) (Nat.blt_eq.mpr (by omega)) (mj_ocl_is (rd_nw (Nat.blt_eq.mpr (by omega)) HL)) rfl ?_
  refine s_astn (p' := 12) (ls' := [_, _, _, _]) rfl rfl rfl rfl ?_
  refine s_con (p' := 13) rfl rfl ?_
  refine k_iret rfl rfl ?_
  refine l_ist (p' := 1538) (ls' := [_, _, _, _, _, _, _, _, _, _]) rfl rfl rfl rfl rfl ?_
  refine l_aldn (p' := 1539) rfl rfl rfl rfl ?_
  refine l_alds (p' := 1540) rfl rfl rfl rfl ?_
  refine l_ild (p' := 1542) rfl rfl rfl rfl ?_
  refine l_con (p' := 1543) rfl rfl rfl ?_
  refine l_bz (p' := 1544) (z := (nI (i + 1))) rfl rfl rfl rfl rfl (mI_add _ _) ?_
  refine l_ialz (p' := 1545) (m := (i + 1)) (z := (xs (i + 1))) rfl rfl (inb_nI (by omega) (by omega)) (mI_cl (by omega)) rfl rfl ?_
  refine l_bz (p' := 1546) (z := (nI c)) rfl rfl rfl rfl rfl hc ?_
  refine l_call (p' := 1549) (kc := 99) (ls0 := [_, _]) rfl rfl rfl rfl rfl rfl (mj_rcv_is (rd_app H400)) rfl rfl rfl ?_
  refine s_aldn (p' := 1) rfl rfl rfl ?_
  refine s_ildn (p' := 2) rfl rfl rfl ?_
  refine c_call (p' := 5) (kc := 98) (ls0 := [_]) rfl rfl rfl rfl rfl rfl rfl rfl rfl ?_
  refine s_ildn (p' := 1) rfl rfl rfl ?_
  refine s_bip (p' := 3) rfl rfl ?_
  refine s_bip (p' := 5) rfl rfl ?_
  refine c_call (p' := 8) (kc := 97) (ls0 := [_, _, _]) rfl rfl rfl rfl rfl rfl rfl rfl rfl ?_
  refine s_ildn (p' := 1) rfl rfl rfl ?_
  refine s_ildn (p' := 2) rfl rfl rfl ?_
  refine s_icmp (p' := 14) true rfl ((ch_gt (w := 97) (by decide +kernel)).trans (decide_eq_true (by rw [mI_ti (by omega)]; omega))) rfl ?_
  refine s_con (p' := 15) rfl rfl ?_
  refine c_iret rfl (by decide +kernel) ?_
  refine c_iret rfl (by decide +kernel) ?_
  refine s_if (p' := 12) true rfl (by decide +kernel) rfl ?_
  refine s_con (p' := 13) rfl rfl ?_
  refine c_call (p' := 16) (kc := 98) (ls0 := [_, _]) rfl rfl rfl rfl rfl (mj_rcv_is (rd_app H400)) rfl rfl rfl ?_
  refine s_aldn (p' := 1) rfl rfl rfl ?_
  refine s_ildn (p' := 2) rfl rfl rfl ?_
  refine s_pfz (p' := 5) (fs' := [_, _, _, _, _, _, _, _, _, _, _]) rfl rfl (rd_app H400) rfl rfl rfl rfl ?_
  refine s_ildn (p' := 6) rfl rfl rfl ?_
  refine s_if (p' := 9) false rfl (by decide +kernel) rfl ?_
  refine s_con (p' := 10) rfl rfl ?_
  refine s_goto (p' := 14) rfl rfl ?_
  refine c_iret rfl (by decide +kernel) ?_
  refine s_if (p' := 19) false rfl (by decide +kernel) rfl ?_
  refine s_sp (p' := 20) (ls' := _) rfl rfl rfl ?_
  refine k_lret rfl ?_
  refine l_sp (p' := 1551) (ls' := [_, _, _, _, _, _, _, _, _, _]) rfl rfl rfl rfl rfl ?_
  refine l_aldn (p' := 1552) rfl rfl rfl rfl ?_
  refine l_call (p' := 1555) (kc := 99) (ls0 := [_]) rfl rfl rfl rfl rfl rfl (mj_rcv_is (rd_ss rfl (rd_app H400))) rfl rfl rfl ?_
  refine s_aldn (p' := 1) rfl rfl rfl ?_
  refine s_gf (p' := 4) rfl (rd_ss rfl (rd_app H400)) rfl rfl ?_
  refine k_iret rfl rfl ?_
  refine l_ild (p' := 1557) rfl rfl rfl rfl ?_
  refine l_icmp (p' := 1562) true rfl rfl (by decide +kernel) rfl ?_
  refine l_ild (p' := 1564) rfl rfl rfl rfl ?_
  refine l_if (p' := 1578) true rfl rfl (by decide +kernel) rfl ?_
  refine l_goto (p' := 2541) rfl rfl rfl ?_
  refine l_incz (p' := 2544) (w := (nI (i + 4))) (ls' := [_, _, _, _, _, _, _, _, _, _]) rfl rfl rfl rfl (mI_add _ _) rfl rfl ?_
  refine l_goto (p' := 28) rfl rfl rfl ?_
  exact hn _ _ _ _ _ ⟨(rd_ss rfl (rd_app H400)), (mz_fr.s (by decide) (mz_fr.a (mz_fr.rf _ h))), (Nat.le_trans (Nat.le_of_eq (len_s (len_a HL rfl))) (by omega)), (Nat.le_trans (sz_s rfl (rd_app H400) rfl (sz_aa (k := 6) (m := mj_sz h + 6) rfl (by omega) (Nat.le_refl (mj_sz h)))) (by omega))⟩
theorem w_24_m {L i N : Nat} {xs : Nat → Int32} {h : mj_H} {l6 l7 l8 l9 : Option Value} {P : mj_H → Prop} (hL : L ≤ 2048) (hi : i + 4 ≤ L) (hN : N + 2000 < mj_CB) (hN0 : 414 ≤ N) (HL : h.length = N) (hk : xs i &&& nI 63 = nI 24) {gs pl ty wa nw nx dp ca mf : Value} {th : Int32} {sd be : Int64} {ou : Nat → Int64} {vf wf sf uf im jm : Nat → Int32} {k g : Nat} (hk20 : k ≤ 20) (hvw : ∀ j, j < 8 → wf j = vf j) (hsu : ∀ j, j < k → uf j = sf j) (him : ∀ j, j < 8 → jm j = im j) {pe pm ge gm : Value} {q : Nat} (hq6 : q ≤ 6) (hg24 : g ≤ 24) {c : Nat} (hc : ((xs (i + 1)).toUInt32 % 65536).toInt32 = nI c) (hcc : 104 < c) (hc6 : c < 65536)  (H0 : mj_rd h 0 = some (.inr (0, [.ref 1, .ref 38, .ref 299, .ref 336, .ref 373, .ref 375, .ref 378, .ref 381, .ref 387, .ref 393, gs, pl, .ref 397, .ref 398, .ref 399, .long sd, .long be]))) (H400 : mj_rd h 400 = some (.inr (17, [.int th, .ref 401, .ref 402, ty, .long sd, .long be, .ref 410, wa, nw, nx, .ref 411]))) (hn : ∀ (l6 l7 l8 l9 : Option Value) (h' : mj_H), mj_rd h' 400 = some (.inr (17, [.int (nI 1), .ref 401, .ref 402, ty, .long sd, .long be, .ref 410, wa, nw, nx, .ref 411])) ∧ mz_fr [400] h h' ∧ h'.length ≤ N + 1 ∧ mj_sz h' ≤ mj_sz h + 6 → mj_lrun L xs (28, [some (.retAddr 1), some (.ref 0), some (.ref 400), some (.ref 412), some (.ref 413), some (.int (nI (i + 4))), l6, l7, l8, l9], [], h') P) : mj_lrun L xs (28, [some (.retAddr 1), some (.ref 0), some (.ref 400), some (.ref 412), some (.ref 413), some (.int (nI i)), l6, l7, l8, l9], [], h) P := by
  refine l_ild (p' := 30) rfl rfl rfl rfl ?_
  refine l_alds (p' := 31) rfl rfl rfl rfl ?_
  refine l_lens (p' := 32) rfl rfl rfl ?_
  refine l_con (p' := 33) rfl rfl rfl ?_
  refine l_bz (p' := 34) (z := (nI (L - 4))) rfl rfl rfl rfl rfl (mI_sub (by omega)) ?_
  refine l_icmp (p' := 37) false rfl rfl ((ci_gt (by omega) (by omega)).trans (decide_eq_false (by omega))) rfl ?_
  refine l_alds (p' := 38) rfl rfl rfl rfl ?_
  refine l_ild (p' := 40) rfl rfl rfl rfl ?_
  refine l_ialz (p' := 41) (m := i) (z := (xs i)) rfl rfl (inb_nI (by omega) (by omega)) (mI_cl (by omega)) rfl rfl ?_
  refine l_bip (p' := 43) rfl rfl rfl ?_
  refine l_bz (p' := 44) (z := (nI 24)) rfl rfl rfl rfl rfl hk ?_
  refine l_sp (p' := 1524) (ls' := _) rfl rfl rfl rfl rfl ?_
  refine l_aldn (p' := 1525) rfl rfl rfl rfl ?_
  refine l_alds (p' := 1526) rfl rfl rfl rfl ?_
  refine l_ild (p' := 1528) rfl rfl rfl rfl ?_
  refine l_con (p' := 1529) rfl rfl rfl ?_
  refine l_bz (p' := 1530) (z := (nI (i + 1))) rfl rfl rfl rfl rfl (mI_add _ _) ?_
  refine l_ialz (p' := 1531) (m := (i + 1)) (z := (xs (i + 1))) rfl rfl (inb_nI (by omega) (by omega)) (mI_cl (by omega)) rfl rfl ?_
  refine l_bz (p' := 1532) (z := (nI c)) rfl rfl rfl rfl rfl hc ?_
  refine l_aldn (p' := 1533) rfl rfl rfl rfl ?_
  refine l_call (p' := 1536) (kc := 99) (ls0 := [_, _, _, _]) rfl rfl rfl rfl rfl rfl rfl rfl rfl rfl ?_
  refine s_aldn (p' := 1) rfl rfl rfl ?_
  refine s_con (p' := 2) rfl rfl ?_
  refine s_aldn (p' := 3) rfl rfl rfl ?_
  refine s_ildn (p' := 4) rfl rfl rfl ?_
  refine c_call (p' := 7) (kc := 98) (ls0 := [_, _]) rfl rfl rfl rfl rfl (mj_rcv_is H0) rfl rfl rfl ?_
  refine s_ildn (p' := 1) rfl rfl rfl ?_
  refine c_call (p' := 4) (kc := 97) (ls0 := [_]) rfl rfl rfl rfl rfl rfl rfl rfl rfl ?_
  refine s_ildn (p' := 1) rfl rfl rfl ?_
  refine s_bip (p' := 3) rfl rfl ?_
  refine s_icmp (p' := 6) false rfl ((cg_lt (w := 97) (by decide +kernel)).trans (decide_eq_false (by rw [mI_ti (by omega)]; omega))) rfl ?_
  refine s_ildn (p' := 7) rfl rfl rfl ?_
  refine s_bip (p' := 9) rfl rfl ?_
  refine s_icmp (p' := 16) true rfl ((cg_gt (w := 104) (by decide +kernel)).trans (decide_eq_true (by rw [mI_ti (by omega)]; omega))) rfl ?_
  refine s_con (p' := 17) rfl rfl ?_
  refine c_iret rfl (by decide +kernel) ?_
  refine s_if (p' := 7) false rfl (by decide +kernel) rfl ?_
  refine s_thrz (q := N) rfl HL rfl ?_
  refine K_c (hp := 11) (Nat.blt_eq.mpr (by omega)) (mj_ocl_is (rd_nw (Nat.blt_eq.mpr (by omega)) HL)) rfl ?_
  refine s_astn (p' := 12) (ls' := [_, _, _, _]) rfl rfl rfl rfl ?_
  refine s_con (p' := 13) rfl rfl ?_
  refine k_iret rfl rfl ?_
  refine l_ist (p' := 1538) (ls' := [_, _, _, _, _, _, _, _, _, _]) rfl rfl rfl rfl rfl ?_
  refine l_aldn (p' := 1539) rfl rfl rfl rfl ?_
  refine l_alds (p' := 1540) rfl rfl rfl rfl ?_
  refine l_ild (p' := 1542) rfl rfl rfl rfl ?_
  refine l_con (p' := 1543) rfl rfl rfl ?_
  refine l_bz (p' := 1544) (z := (nI (i + 1))) rfl rfl rfl rfl rfl (mI_add _ _) ?_
  refine l_ialz (p' := 1545) (m := (i + 1)) (z := (xs (i + 1))) rfl rfl (inb_nI (by omega) (by omega)) (mI_cl (by omega)) rfl rfl ?_
  refine l_bz (p' := 1546) (z := (nI c)) rfl rfl rfl rfl rfl hc ?_
  refine l_call (p' := 1549) (kc := 99) (ls0 := [_, _]) rfl rfl rfl rfl rfl rfl (mj_rcv_is (rd_app H400)) rfl rfl rfl ?_
  refine s_aldn (p' := 1) rfl rfl rfl ?_
  refine s_ildn (p' := 2) rfl rfl rfl ?_
  refine c_call (p' := 5) (kc := 98) (ls0 := [_]) rfl rfl rfl rfl rfl rfl rfl rfl rfl ?_
  refine s_ildn (p' := 1) rfl rfl rfl ?_
  refine s_bip (p' := 3) rfl rfl ?_
  refine s_bip (p' := 5) rfl rfl ?_
  refine c_call (p' := 8) (kc := 97) (ls0 := [_, _, _]) rfl rfl rfl rfl rfl rfl rfl rfl rfl ?_
  refine s_ildn (p' := 1) rfl rfl rfl ?_
  refine s_ildn (p' := 2) rfl rfl rfl ?_
  refine s_icmp (p' := 5) false rfl ((ch_gt (w := 97) (by decide +kernel)).trans (decide_eq_false (by rw [mI_ti (by omega)]; omega))) rfl ?_
  refine s_ildn (p' := 6) rfl rfl rfl ?_
  refine s_ildn (p' := 7) rfl rfl rfl ?_
  refine s_icmp (p' := 14) true rfl ((cg_gt (w := 104) (by decide +kernel)).trans (decide_eq_true (by rw [mI_ti (by omega)]; omega))) rfl ?_
  refine s_con (p' := 15) rfl rfl ?_
  refine c_iret rfl (by decide +kernel) ?_
  refine c_iret rfl (by decide +kernel) ?_
  refine s_if (p' := 12) true rfl (by decide +kernel) rfl ?_
  refine s_con (p' := 13) rfl rfl ?_
  refine c_call (p' := 16) (kc := 98) (ls0 := [_, _]) rfl rfl rfl rfl rfl (mj_rcv_is (rd_app H400)) rfl rfl rfl ?_
  refine s_aldn (p' := 1) rfl rfl rfl ?_
  refine s_ildn (p' := 2) rfl rfl rfl ?_
  refine s_pfz (p' := 5) (fs' := [_, _, _, _, _, _, _, _, _, _, _]) rfl rfl (rd_app H400) rfl rfl rfl rfl ?_
  refine s_ildn (p' := 6) rfl rfl rfl ?_
  refine s_if (p' := 9) false rfl (by decide +kernel) rfl ?_
  refine s_con (p' := 10) rfl rfl ?_
  refine s_goto (p' := 14) rfl rfl ?_
  refine c_iret rfl (by decide +kernel) ?_
  refine s_if (p' := 19) false rfl (by decide +kernel) rfl ?_
  refine s_sp (p' := 20) (ls' := _) rfl rfl rfl ?_
  refine k_lret rfl ?_
  refine l_sp (p' := 1551) (ls' := [_, _, _, _, _, _, _, _, _, _]) rfl rfl rfl rfl rfl ?_
  refine l_aldn (p' := 1552) rfl rfl rfl rfl ?_
  refine l_call (p' := 1555) (kc := 99) (ls0 := [_]) rfl rfl rfl rfl rfl rfl (mj_rcv_is (rd_ss rfl (rd_app H400))) rfl rfl rfl ?_
  refine s_aldn (p' := 1) rfl rfl rfl ?_
  refine s_gf (p' := 4) rfl (rd_ss rfl (rd_app H400)) rfl rfl ?_
  refine k_iret rfl rfl ?_
  refine l_ild (p' := 1557) rfl rfl rfl rfl ?_
  refine l_icmp (p' := 1562) true rfl rfl (by decide +kernel) rfl ?_
  refine l_ild (p' := 1564) rfl rfl rfl rfl ?_
  refine l_if (p' := 1578) true rfl rfl (by decide +kernel) rfl ?_
  refine l_goto (p' := 2541) rfl rfl rfl ?_
  refine l_incz (p' := 2544) (w := (nI (i + 4))) (ls' := [_, _, _, _, _, _, _, _, _, _]) rfl rfl rfl rfl (mI_add _ _) rfl rfl ?_
  refine l_goto (p' := 28) rfl rfl rfl ?_
  exact hn _ _ _ _ _ ⟨(rd_ss rfl (rd_app H400)), (mz_fr.s (by decide) (mz_fr.a (mz_fr.rf _ h))), (Nat.le_trans (Nat.le_of_eq (len_s (len_a HL rfl))) (by omega)), (Nat.le_trans (sz_s rfl (rd_app H400) rfl (sz_aa (k := 6) (m := mj_sz h + 6) rfl (by omega) (Nat.le_refl (mj_sz h)))) (by omega))⟩
theorem w_41 {L i N : Nat} {xs : Nat → Int32} {h : mj_H} {l6 l7 l8 l9 : Option Value} {P : mj_H → Prop} (hL : L ≤ 2048) (hi : i + 4 ≤ L) (hN : N + 2000 < mj_CB) (hN0 : 414 ≤ N) (HL : h.length = N) (hk : xs i &&& nI 63 = nI 41) {gs pl ty wa nw nx dp ca mf : Value} {th : Int32} {sd be : Int64} {ou : Nat → Int64} {vf wf sf uf im jm : Nat → Int32} {k g : Nat} (hk20 : k ≤ 20) (hvw : ∀ j, j < 8 → wf j = vf j) (hsu : ∀ j, j < k → uf j = sf j) (him : ∀ j, j < 8 → jm j = im j) {pe pm ge gm : Value} {q : Nat} (hq6 : q ≤ 6) (hg24 : g ≤ 24) {v w : Nat} (hv : v < 8) (hw : w < 8) (hx1 : xs (i + 1) = nI v) (hx2 : xs (i + 2) = nI w) (H0 : mj_rd h 0 = some (.inr (0, [.ref 1, .ref 38, .ref 299, .ref 336, .ref 373, .ref 375, .ref 378, .ref 381, .ref 387, .ref 393, gs, pl, .ref 397, .ref 398, .ref 399, .long sd, .long be]))) (H397 : mj_rd h 397 = some (.inl (0, (8, .inl (im))))) (H400 : mj_rd h 400 = some (.inr (17, [.int th, .ref 401, .ref 402, ty, .long sd, .long be, .ref 410, wa, nw, nx, .ref 411]))) (H411 : mj_rd h 411 = some (.inl (0, (8, .inl (jm))))) (H412 : mj_rd h 412 = some (.inl (4, (1, .inr (.inl (ou)))))) (hn : ∀ (l6 l7 l8 l9 : Option Value) (h' : mj_H), mj_rd h' 397 = some (.inl (0, (8, .inl ((upd im v (nI w)))))) ∧ mj_rd h' 400 = some (.inr (17, [.int (nI 0), .ref 401, .ref 402, ty, .long sd, .long be, .ref 410, wa, nw, nx, .ref 411])) ∧ mj_rd h' 411 = some (.inl (0, (8, .inl ((upd jm v (nI w)))))) ∧ mj_rd h' 412 = some (.inl (4, (1, .inr (.inl ((vp_updL ou 0 (Int32.toInt64 (im v)))))))) ∧ mz_fr [397, 400, 411, 412] h h' ∧ h'.length ≤ N + 0 ∧ mj_sz h' ≤ mj_sz h + 0 → mj_lrun L xs (28, [some (.retAddr 1), some (.ref 0), some (.ref 400), some (.ref 412), some (.ref 413), some (.int (nI (i + 4))), l6, l7, l8, l9], [], h') P) : mj_lrun L xs (28, [some (.retAddr 1), some (.ref 0), some (.ref 400), some (.ref 412), some (.ref 413), some (.int (nI i)), l6, l7, l8, l9], [], h) P := by
  refine l_ild (p' := 30) rfl rfl rfl rfl ?_
  refine l_alds (p' := 31) rfl rfl rfl rfl ?_
  refine l_lens (p' := 32) rfl rfl rfl ?_
  refine l_con (p' := 33) rfl rfl rfl ?_
  refine l_bz (p' := 34) (z := (nI (L - 4))) rfl rfl rfl rfl rfl (mI_sub (by omega)) ?_
  refine l_icmp (p' := 37) false rfl rfl ((ci_gt (by omega) (by omega)).trans (decide_eq_false (by omega))) rfl ?_
  refine l_alds (p' := 38) rfl rfl rfl rfl ?_
  refine l_ild (p' := 40) rfl rfl rfl rfl ?_
  refine l_ialz (p' := 41) (m := i) (z := (xs i)) rfl rfl (inb_nI (by omega) (by omega)) (mI_cl (by omega)) rfl rfl ?_
  refine l_bip (p' := 43) rfl rfl rfl ?_
  refine l_bz (p' := 44) (z := (nI 41)) rfl rfl rfl rfl rfl hk ?_
  refine l_sp (p' := 2188) (ls' := _) rfl rfl rfl rfl rfl ?_
  refine l_aldn (p' := 2189) rfl rfl rfl rfl ?_
  refine l_alds (p' := 2190) rfl rfl rfl rfl ?_
  refine l_ild (p' := 2192) rfl rfl rfl rfl ?_
  refine l_con (p' := 2193) rfl rfl rfl ?_
  refine l_bz (p' := 2194) (z := (nI (i + 1))) rfl rfl rfl rfl rfl (mI_add _ _) ?_
  refine l_ialz (p' := 2195) (m := (i + 1)) (z := (nI v)) rfl rfl (inb_nI (by omega) (by omega)) (mI_cl (by omega)) hx1 rfl ?_
  refine l_alds (p' := 2196) rfl rfl rfl rfl ?_
  refine l_ild (p' := 2198) rfl rfl rfl rfl ?_
  refine l_con (p' := 2199) rfl rfl rfl ?_
  refine l_bz (p' := 2200) (z := (nI (i + 2))) rfl rfl rfl rfl rfl (mI_add _ _) ?_
  refine l_ialz (p' := 2201) (m := (i + 2)) (z := (nI w)) rfl rfl (inb_nI (by omega) (by omega)) (mI_cl (by omega)) hx2 rfl ?_
  refine l_aldn (p' := 2202) rfl rfl rfl rfl ?_
  refine l_call (p' := 2205) (kc := 99) (ls0 := [_, _, _, _, _]) rfl rfl rfl rfl rfl rfl rfl rfl rfl rfl ?_
  refine s_aldn (p' := 1) rfl rfl rfl ?_
  refine s_con (p' := 2) rfl rfl ?_
  refine s_aldn (p' := 3) rfl rfl rfl ?_
  refine s_ildn (p' := 4) rfl rfl rfl ?_
  refine s_ildn (p' := 5) rfl rfl rfl ?_
  refine c_call (p' := 8) (kc := 98) (ls0 := [_, _, _, _]) rfl rfl rfl rfl rfl (mj_rcv_is H0) rfl rfl rfl ?_
  refine s_ildn (p' := 1) rfl rfl rfl ?_
  refine c_call (p' := 4) (kc := 97) (ls0 := [_]) rfl rfl rfl rfl rfl rfl rfl rfl rfl ?_
  refine s_ildn (p' := 1) rfl rfl rfl ?_
  refine s_if (p' := 4) false rfl ((cg_lt (w := 0) (by decide +kernel)).trans (decide_eq_false (by rw [mI_ti (by omega)]; omega))) rfl ?_
  refine s_ildn (p' := 5) rfl rfl rfl ?_
  refine s_bip (p' := 7) rfl rfl ?_
  refine s_icmp (p' := 10) false rfl ((cg_ge (w := 8) (by decide +kernel)).trans (decide_eq_false (by rw [mI_ti (by omega)]; omega))) rfl ?_
  refine s_con (p' := 11) rfl rfl ?_
  refine s_goto (p' := 15) rfl rfl ?_
  refine c_iret rfl (by decide +kernel) ?_
  refine s_if (p' := 7) false rfl (by decide +kernel) rfl ?_
  refine s_ildn (p' := 8) rfl rfl rfl ?_
  refine c_call (p' := 11) (kc := 97) (ls0 := [_]) rfl rfl rfl rfl rfl rfl rfl rfl rfl ?_
  refine s_ildn (p' := 1) rfl rfl rfl ?_
  refine s_if (p' := 4) false rfl ((cg_lt (w := 0) (by decide +kernel)).trans (decide_eq_false (by rw [mI_ti (by omega)]; omega))) rfl ?_
  refine s_ildn (p' := 5) rfl rfl rfl ?_
  refine s_bip (p' := 7) rfl rfl ?_
  refine s_icmp (p' := 10) false rfl ((cg_ge (w := 8) (by decide +kernel)).trans (decide_eq_false (by rw [mI_ti (by omega)]; omega))) rfl ?_
  refine s_con (p' := 11) rfl rfl ?_
  refine s_goto (p' := 15) rfl rfl ?_
  refine c_iret rfl (by decide +kernel) ?_
  refine s_if (p' := 25) true rfl (by decide +kernel) rfl ?_
  refine s_aldn (p' := 26) rfl rfl rfl ?_
  refine s_gf (p' := 29) rfl H0 rfl rfl ?_
  refine s_ildn (p' := 30) rfl rfl rfl ?_
  refine s_ialz (p' := 31) (m := v) (v := (im v)) rfl H397 (inb_nI (by omega) (by omega)) (mI_cl (by omega)) rfl rfl ?_
  refine s_istn (p' := 32) (ls' := [_, _, _, _]) rfl rfl rfl rfl ?_
  refine s_aldn (p' := 33) rfl rfl rfl ?_
  refine s_gf (p' := 36) rfl H0 rfl rfl ?_
  refine s_ildn (p' := 37) rfl rfl rfl ?_
  refine s_ildn (p' := 38) rfl rfl rfl ?_
  refine s_iasz (p' := 39) (m := v) rfl rfl H397 (inb_nI (by omega) (by omega)) (mI_cl (by omega)) rfl rfl ?_
  refine s_ildn (p' := 40) rfl rfl rfl ?_
  refine c_iret rfl rfl ?_
  refine s_bzL (p' := 9) (z := (Int32.toInt64 (im v))) rfl rfl rfl rfl ?_
  refine s_lasz (p' := 10) (m := 0) rfl rfl (rd_sn rfl H412) (by decide +kernel) rfl rfl rfl ?_
  refine s_goto (p' := 17) rfl rfl ?_
  refine s_con (p' := 18) rfl rfl ?_
  refine k_iret rfl rfl ?_
  refine l_ist (p' := 2207) (ls' := [_, _, _, _, _, _, _, _, _, _]) rfl rfl rfl rfl rfl ?_
  refine l_aldn (p' := 2208) rfl rfl rfl rfl ?_
  refine l_alds (p' := 2209) rfl rfl rfl rfl ?_
  refine l_ild (p' := 2211) rfl rfl rfl rfl ?_
  refine l_con (p' := 2212) rfl rfl rfl ?_
  refine l_bz (p' := 2213) (z := (nI (i + 1))) rfl rfl rfl rfl rfl (mI_add _ _) ?_
  refine l_ialz (p' := 2214) (m := (i + 1)) (z := (nI v)) rfl rfl (inb_nI (by omega) (by omega)) (mI_cl (by omega)) hx1 rfl ?_
  refine l_alds (p' := 2215) rfl rfl rfl rfl ?_
  refine l_ild (p' := 2217) rfl rfl rfl rfl ?_
  refine l_con (p' := 2218) rfl rfl rfl ?_
  refine l_bz (p' := 2219) (z := (nI (i + 2))) rfl rfl rfl rfl rfl (mI_add _ _) ?_
  refine l_ialz (p' := 2220) (m := (i + 2)) (z := (nI w)) rfl rfl (inb_nI (by omega) (by omega)) (mI_cl (by omega)) hx2 rfl ?_
  refine l_call (p' := 2223) (kc := 99) (ls0 := [_, _, _, _]) rfl rfl rfl rfl rfl rfl (mj_rcv_is (rd_sn rfl (rd_sn rfl H400))) rfl rfl rfl ?_
  refine s_aldn (p' := 1) rfl rfl rfl ?_
  refine s_ildn (p' := 2) rfl rfl rfl ?_
  refine s_con (p' := 3) rfl rfl ?_
  refine s_bip (p' := 5) rfl rfl ?_
  refine c_call (p' := 8) (kc := 98) (ls0 := [_, _, _]) rfl rfl rfl rfl rfl rfl rfl rfl rfl ?_
  refine s_ildn (p' := 1) rfl rfl rfl ?_
  refine s_ildn (p' := 2) rfl rfl rfl ?_
  refine s_icmp (p' := 5) false rfl ((ch_gt (w := 0) (by decide +kernel)).trans (decide_eq_false (by rw [mI_ti (by omega)]; omega))) rfl ?_
  refine s_ildn (p' := 6) rfl rfl rfl ?_
  refine s_ildn (p' := 7) rfl rfl rfl ?_
  refine s_icmp (p' := 10) false rfl ((cg_gt (w := 7) (by decide +kernel)).trans (decide_eq_false (by rw [mI_ti (by omega)]; omega))) rfl ?_
  refine s_con (p' := 11) rfl rfl ?_
  refine s_goto (p' := 15) rfl rfl ?_
  refine c_iret rfl (by decide +kernel) ?_
  refine s_if (p' := 11) false rfl (by decide +kernel) rfl ?_
  refine s_ildn (p' := 12) rfl rfl rfl ?_
  refine s_con (p' := 13) rfl rfl ?_
  refine s_bip (p' := 15) rfl rfl ?_
  refine c_call (p' := 18) (kc := 98) (ls0 := [_, _, _]) rfl rfl rfl rfl rfl rfl rfl rfl rfl ?_
  refine s_ildn (p' := 1) rfl rfl rfl ?_
  refine s_ildn (p' := 2) rfl rfl rfl ?_
  refine s_icmp (p' := 5) false rfl ((ch_gt (w := 0) (by decide +kernel)).trans (decide_eq_false (by rw [mI_ti (by omega)]; omega))) rfl ?_
  refine s_ildn (p' := 6) rfl rfl rfl ?_
  refine s_ildn (p' := 7) rfl rfl rfl ?_
  refine s_icmp (p' := 10) false rfl ((cg_gt (w := 7) (by decide +kernel)).trans (decide_eq_false (by rw [mI_ti (by omega)]; omega))) rfl ?_
  refine s_con (p' := 11) rfl rfl ?_
  refine s_goto (p' := 15) rfl rfl ?_
  refine c_iret rfl (by decide +kernel) ?_
  refine s_if (p' := 21) false rfl (by decide +kernel) rfl ?_
  refine s_con (p' := 22) rfl rfl ?_
  refine s_goto (p' := 26) rfl rfl ?_
  refine c_call (p' := 29) (kc := 98) (ls0 := [_, _]) rfl rfl rfl rfl rfl (mj_rcv_is (rd_sn rfl (rd_sn rfl H400))) rfl rfl rfl ?_
  refine s_aldn (p' := 1) rfl rfl rfl ?_
  refine s_ildn (p' := 2) rfl rfl rfl ?_
  refine s_pfz (p' := 5) (fs' := [_, _, _, _, _, _, _, _, _, _, _]) rfl rfl (rd_sn rfl (rd_sn rfl H400)) rfl rfl rfl rfl ?_
  refine s_ildn (p' := 6) rfl rfl rfl ?_
  refine s_if (p' := 13) true rfl (by decide +kernel) rfl ?_
  refine s_con (p' := 14) rfl rfl ?_
  refine c_iret rfl (by decide +kernel) ?_
  refine s_if (p' := 34) true rfl (by decide +kernel) rfl ?_
  refine s_aldn (p' := 35) rfl rfl rfl ?_
  refine s_gf (p' := 38) rfl (rd_ss rfl (rd_sn rfl (rd_sn rfl H400))) rfl rfl ?_
  refine s_ildn (p' := 39) rfl rfl rfl ?_
  refine s_ialz (p' := 40) (m := v) (v := (im v)) rfl (rd_sn rfl (rd_sn rfl (rd_sn rfl H411))) (inb_nI (by omega) (by omega)) (mI_cl (by omega)) (him v (by omega)) rfl ?_
  refine s_istn (p' := 41) (ls' := [_, _, _, _]) rfl rfl rfl rfl ?_
  refine s_aldn (p' := 42) rfl rfl rfl ?_
  refine s_gf (p' := 45) rfl (rd_ss rfl (rd_sn rfl (rd_sn rfl H400))) rfl rfl ?_
  refine s_ildn (p' := 46) rfl rfl rfl ?_
  refine s_ildn (p' := 47) rfl rfl rfl ?_
  refine s_iasz (p' := 48) (m := v) rfl rfl (rd_sn rfl (rd_sn rfl (rd_sn rfl H411))) (inb_nI (by omega) (by omega)) (mI_cl (by omega)) rfl rfl ?_
  refine s_ildn (p' := 49) rfl rfl rfl ?_
  refine k_iret rfl rfl ?_
  refine l_ist (p' := 2225) (ls' := [_, _, _, _, _, _, _, _, _, _]) rfl rfl rfl rfl rfl ?_
  refine l_aldn (p' := 2226) rfl rfl rfl rfl ?_
  refine l_call (p' := 2229) (kc := 99) (ls0 := [_]) rfl rfl rfl rfl rfl rfl (mj_rcv_is (rd_sn rfl (rd_ss rfl (rd_sn rfl (rd_sn rfl H400))))) rfl rfl rfl ?_
  refine s_aldn (p' := 1) rfl rfl rfl ?_
  refine s_gf (p' := 4) rfl (rd_sn rfl (rd_ss rfl (rd_sn rfl (rd_sn rfl H400)))) rfl rfl ?_
  refine k_iret rfl rfl ?_
  refine l_ild (p' := 2231) rfl rfl rfl rfl ?_
  refine l_icmp (p' := 2236) true rfl rfl (by decide +kernel) rfl ?_
  refine l_ild (p' := 2238) rfl rfl rfl rfl ?_
  refine l_if (p' := 2241) false rfl rfl (by decide +kernel) rfl ?_
  refine l_aldn (p' := 2242) rfl rfl rfl rfl ?_
  refine l_con (p' := 2243) rfl rfl rfl ?_
  refine l_lalz (p' := 2244) (m := 0) (v := (Int32.toInt64 (im v))) rfl rfl (rd_sn rfl (rd_sn rfl (rd_ss rfl (rd_sn rfl H412)))) (by decide +kernel) rfl rfl rfl ?_
  refine l_ild (p' := 2246) rfl rfl rfl rfl ?_
  refine l_bzL (p' := 2247) (z := (Int32.toInt64 (im v))) rfl rfl rfl rfl rfl rfl ?_
  refine l_bz (p' := 2248) (z := nI 0) rfl rfl rfl rfl rfl (lcmp_self _) ?_
  refine l_if (p' := 2253) true rfl rfl (by decide +kernel) rfl ?_
  refine l_goto (p' := 2541) rfl rfl rfl ?_
  refine l_incz (p' := 2544) (w := (nI (i + 4))) (ls' := [_, _, _, _, _, _, _, _, _, _]) rfl rfl rfl rfl (mI_add _ _) rfl rfl ?_
  refine l_goto (p' := 28) rfl rfl rfl ?_
  exact hn _ _ _ _ _ ⟨(rd_sn rfl (rd_sn rfl (rd_sn rfl (rd_ss rfl H397)))), (rd_sn rfl (rd_ss rfl (rd_sn rfl (rd_sn rfl H400)))), (rd_ss rfl (rd_sn rfl (rd_sn rfl (rd_sn rfl H411)))), (rd_sn rfl (rd_sn rfl (rd_ss rfl (rd_sn rfl H412)))), (mz_fr.s (by decide) (mz_fr.s (by decide) (mz_fr.s (by decide) (mz_fr.s (by decide) (mz_fr.rf _ h))))), (Nat.le_trans (Nat.le_of_eq (len_s (len_s (len_s (len_s HL))))) (by omega)), (Nat.le_trans (sz_sA rfl (rd_sn rfl (rd_sn rfl (rd_sn rfl H411))) (sz_s rfl (rd_sn rfl (rd_sn rfl H400)) rfl (sz_sA rfl (rd_sn rfl H412) (sz_sA rfl H397 (Nat.le_refl (mj_sz h)))))) (by omega))⟩
theorem w_41_n {L i N : Nat} {xs : Nat → Int32} {h : mj_H} {l6 l7 l8 l9 : Option Value} {P : mj_H → Prop} (hL : L ≤ 2048) (hi : i + 4 ≤ L) (hN : N + 2000 < mj_CB) (hN0 : 414 ≤ N) (HL : h.length = N) (hk : xs i &&& nI 63 = nI 41) {gs pl ty wa nw nx dp ca mf : Value} {th : Int32} {sd be : Int64} {ou : Nat → Int64} {vf wf sf uf im jm : Nat → Int32} {k g : Nat} (hk20 : k ≤ 20) (hvw : ∀ j, j < 8 → wf j = vf j) (hsu : ∀ j, j < k → uf j = sf j) (him : ∀ j, j < 8 → jm j = im j) {pe pm ge gm : Value} {q : Nat} (hq6 : q ≤ 6) (hg24 : g ≤ 24) {p : Int32} (hp : p.toInt < 0) (hx1 : xs (i + 1) = p) (H0 : mj_rd h 0 = some (.inr (0, [.ref 1, .ref 38, .ref 299, .ref 336, .ref 373, .ref 375, .ref 378, .ref 381, .ref 387, .ref 393, gs, pl, .ref 397, .ref 398, .ref 399, .long sd, .long be]))) (H400 : mj_rd h 400 = some (.inr (17, [.int th, .ref 401, .ref 402, ty, .long sd, .long be, .ref 410, wa, nw, nx, .ref 411]))) (hn : ∀ (l6 l7 l8 l9 : Option Value) (h' : mj_H), mj_rd h' 400 = some (.inr (17, [.int (nI 1), .ref 401, .ref 402, ty, .long sd, .long be, .ref 410, wa, nw, nx, .ref 411])) ∧ mz_fr [400] h h' ∧ h'.length ≤ N + 1 ∧ mj_sz h' ≤ mj_sz h + 6 → mj_lrun L xs (28, [some (.retAddr 1), some (.ref 0), some (.ref 400), some (.ref 412), some (.ref 413), some (.int (nI (i + 4))), l6, l7, l8, l9], [], h') P) : mj_lrun L xs (28, [some (.retAddr 1), some (.ref 0), some (.ref 400), some (.ref 412), some (.ref 413), some (.int (nI i)), l6, l7, l8, l9], [], h) P := by
  refine l_ild (p' := 30) rfl rfl rfl rfl ?_
  refine l_alds (p' := 31) rfl rfl rfl rfl ?_
  refine l_lens (p' := 32) rfl rfl rfl ?_
  refine l_con (p' := 33) rfl rfl rfl ?_
  refine l_bz (p' := 34) (z := (nI (L - 4))) rfl rfl rfl rfl rfl (mI_sub (by omega)) ?_
  refine l_icmp (p' := 37) false rfl rfl ((ci_gt (by omega) (by omega)).trans (decide_eq_false (by omega))) rfl ?_
  refine l_alds (p' := 38) rfl rfl rfl rfl ?_
  refine l_ild (p' := 40) rfl rfl rfl rfl ?_
  refine l_ialz (p' := 41) (m := i) (z := (xs i)) rfl rfl (inb_nI (by omega) (by omega)) (mI_cl (by omega)) rfl rfl ?_
  refine l_bip (p' := 43) rfl rfl rfl ?_
  refine l_bz (p' := 44) (z := (nI 41)) rfl rfl rfl rfl rfl hk ?_
  refine l_sp (p' := 2188) (ls' := _) rfl rfl rfl rfl rfl ?_
  refine l_aldn (p' := 2189) rfl rfl rfl rfl ?_
  refine l_alds (p' := 2190) rfl rfl rfl rfl ?_
  refine l_ild (p' := 2192) rfl rfl rfl rfl ?_
  refine l_con (p' := 2193) rfl rfl rfl ?_
  refine l_bz (p' := 2194) (z := (nI (i + 1))) rfl rfl rfl rfl rfl (mI_add _ _) ?_
  refine l_ialz (p' := 2195) (m := (i + 1)) (z := p) rfl rfl (inb_nI (by omega) (by omega)) (mI_cl (by omega)) hx1 rfl ?_
  refine l_alds (p' := 2196) rfl rfl rfl rfl ?_
  refine l_ild (p' := 2198) rfl rfl rfl rfl ?_
  refine l_con (p' := 2199) rfl rfl rfl ?_
  refine l_bz (p' := 2200) (z := (nI (i + 2))) rfl rfl rfl rfl rfl (mI_add _ _) ?_
  refine l_ialz (p' := 2201) (m := (i + 2)) (z := (xs (i + 2))) rfl rfl (inb_nI (by omega) (by omega)) (mI_cl (by omega)) rfl rfl ?_
  refine l_aldn (p' := 2202) rfl rfl rfl rfl ?_
  refine l_call (p' := 2205) (kc := 99) (ls0 := [_, _, _, _, _]) rfl rfl rfl rfl rfl rfl rfl rfl rfl rfl ?_
  refine s_aldn (p' := 1) rfl rfl rfl ?_
  refine s_con (p' := 2) rfl rfl ?_
  refine s_aldn (p' := 3) rfl rfl rfl ?_
  refine s_ildn (p' := 4) rfl rfl rfl ?_
  refine s_ildn (p' := 5) rfl rfl rfl ?_
  refine c_call (p' := 8) (kc := 98) (ls0 := [_, _, _, _]) rfl rfl rfl rfl rfl (mj_rcv_is H0) rfl rfl rfl ?_
  refine s_ildn (p' := 1) rfl rfl rfl ?_
  refine c_call (p' := 4) (kc := 97) (ls0 := [_]) rfl rfl rfl rfl rfl rfl rfl rfl rfl ?_
  refine s_ildn (p' := 1) rfl rfl rfl ?_
  refine s_if (p' := 14) true rfl ((cg_lt (w := 0) (by decide +kernel)).trans (decide_eq_true (by omega))) rfl ?_
  refine s_con (p' := 15) rfl rfl ?_
  refine c_iret rfl (by decide +kernel) ?_
  refine s_if (p' := 14) true rfl (by decide +kernel) rfl ?_
  refine s_thrz (q := N) rfl HL rfl ?_
  refine K_c (hp := 13) (Nat.blt_eq.mpr (by omega)) (mj_ocl_is (rd_nw (Nat.blt_eq.mpr (by omega)) HL)) rfl ?_
  refine s_ast (p' := 15) (ls' := [_, _, _, _, _]) rfl rfl rfl rfl ?_
  refine s_con (p' := 16) rfl rfl ?_
  refine k_iret rfl rfl ?_
  refine l_ist (p' := 2207) (ls' := [_, _, _, _, _, _, _, _, _, _]) rfl rfl rfl rfl rfl ?_
  refine l_aldn (p' := 2208) rfl rfl rfl rfl ?_
  refine l_alds (p' := 2209) rfl rfl rfl rfl ?_
  refine l_ild (p' := 2211) rfl rfl rfl rfl ?_
  refine l_con (p' := 2212) rfl rfl rfl ?_
  refine l_bz (p' := 2213) (z := (nI (i + 1))) rfl rfl rfl rfl rfl (mI_add _ _) ?_
  refine l_ialz (p' := 2214) (m := (i + 1)) (z := p) rfl rfl (inb_nI (by omega) (by omega)) (mI_cl (by omega)) hx1 rfl ?_
  refine l_alds (p' := 2215) rfl rfl rfl rfl ?_
  refine l_ild (p' := 2217) rfl rfl rfl rfl ?_
  refine l_con (p' := 2218) rfl rfl rfl ?_
  refine l_bz (p' := 2219) (z := (nI (i + 2))) rfl rfl rfl rfl rfl (mI_add _ _) ?_
  refine l_ialz (p' := 2220) (m := (i + 2)) (z := (xs (i + 2))) rfl rfl (inb_nI (by omega) (by omega)) (mI_cl (by omega)) rfl rfl ?_
  refine l_call (p' := 2223) (kc := 99) (ls0 := [_, _, _, _]) rfl rfl rfl rfl rfl rfl (mj_rcv_is (rd_app H400)) rfl rfl rfl ?_
  refine s_aldn (p' := 1) rfl rfl rfl ?_
  refine s_ildn (p' := 2) rfl rfl rfl ?_
  refine s_con (p' := 3) rfl rfl ?_
  refine s_bip (p' := 5) rfl rfl ?_
  refine c_call (p' := 8) (kc := 98) (ls0 := [_, _, _]) rfl rfl rfl rfl rfl rfl rfl rfl rfl ?_
  refine s_ildn (p' := 1) rfl rfl rfl ?_
  refine s_ildn (p' := 2) rfl rfl rfl ?_
  refine s_icmp (p' := 14) true rfl ((ch_gt (w := 0) (by decide +kernel)).trans (decide_eq_true (by omega))) rfl ?_
  refine s_con (p' := 15) rfl rfl ?_
  refine c_iret rfl (by decide +kernel) ?_
  refine s_if (p' := 25) true rfl (by decide +kernel) rfl ?_
  refine s_con (p' := 26) rfl rfl ?_
  refine c_call (p' := 29) (kc := 98) (ls0 := [_, _]) rfl rfl rfl rfl rfl (mj_rcv_is (rd_app H400)) rfl rfl rfl ?_
  refine s_aldn (p' := 1) rfl rfl rfl ?_
  refine s_ildn (p' := 2) rfl rfl rfl ?_
  refine s_pfz (p' := 5) (fs' := [_, _, _, _, _, _, _, _, _, _, _]) rfl rfl (rd_app H400) rfl rfl rfl rfl ?_
  refine s_ildn (p' := 6) rfl rfl rfl ?_
  refine s_if (p' := 9) false rfl (by decide +kernel) rfl ?_
  refine s_con (p' := 10) rfl rfl ?_
  refine s_goto (p' := 14) rfl rfl ?_
  refine c_iret rfl (by decide +kernel) ?_
  refine s_if (p' := 32) false rfl (by decide +kernel) rfl ?_
  refine s_con (p' := 33) rfl rfl ?_
  refine k_iret rfl rfl ?_
  refine l_ist (p' := 2225) (ls' := [_, _, _, _, _, _, _, _, _, _]) rfl rfl rfl rfl rfl ?_
  refine l_aldn (p' := 2226) rfl rfl rfl rfl ?_
  refine l_call (p' := 2229) (kc := 99) (ls0 := [_]) rfl rfl rfl rfl rfl rfl (mj_rcv_is (rd_ss rfl (rd_app H400))) rfl rfl rfl ?_
  refine s_aldn (p' := 1) rfl rfl rfl ?_
  refine s_gf (p' := 4) rfl (rd_ss rfl (rd_app H400)) rfl rfl ?_
  refine k_iret rfl rfl ?_
  refine l_ild (p' := 2231) rfl rfl rfl rfl ?_
  refine l_icmp (p' := 2236) true rfl rfl (by decide +kernel) rfl ?_
  refine l_ild (p' := 2238) rfl rfl rfl rfl ?_
  refine l_if (p' := 2253) true rfl rfl (by decide +kernel) rfl ?_
  refine l_goto (p' := 2541) rfl rfl rfl ?_
  refine l_incz (p' := 2544) (w := (nI (i + 4))) (ls' := [_, _, _, _, _, _, _, _, _, _]) rfl rfl rfl rfl (mI_add _ _) rfl rfl ?_
  refine l_goto (p' := 28) rfl rfl rfl ?_
  exact hn _ _ _ _ _ ⟨(rd_ss rfl (rd_app H400)), (mz_fr.s (by decide) (mz_fr.a (mz_fr.rf _ h))), (Nat.le_trans (Nat.le_of_eq (len_s (len_a HL rfl))) (by omega)), (Nat.le_trans (sz_s rfl (rd_app H400) rfl (sz_aa (k := 6) (m := mj_sz h + 6) rfl (by omega) (Nat.le_refl (mj_sz h)))) (by omega))⟩
theorem w_41_m {L i N : Nat} {xs : Nat → Int32} {h : mj_H} {l6 l7 l8 l9 : Option Value} {P : mj_H → Prop} (hL : L ≤ 2048) (hi : i + 4 ≤ L) (hN : N + 2000 < mj_CB) (hN0 : 414 ≤ N) (HL : h.length = N) (hk : xs i &&& nI 63 = nI 41) {gs pl ty wa nw nx dp ca mf : Value} {th : Int32} {sd be : Int64} {ou : Nat → Int64} {vf wf sf uf im jm : Nat → Int32} {k g : Nat} (hk20 : k ≤ 20) (hvw : ∀ j, j < 8 → wf j = vf j) (hsu : ∀ j, j < k → uf j = sf j) (him : ∀ j, j < 8 → jm j = im j) {pe pm ge gm : Value} {q : Nat} (hq6 : q ≤ 6) (hg24 : g ≤ 24) {p : Int32} (hp : 7 < p.toInt) (hx1 : xs (i + 1) = p) (H0 : mj_rd h 0 = some (.inr (0, [.ref 1, .ref 38, .ref 299, .ref 336, .ref 373, .ref 375, .ref 378, .ref 381, .ref 387, .ref 393, gs, pl, .ref 397, .ref 398, .ref 399, .long sd, .long be]))) (H400 : mj_rd h 400 = some (.inr (17, [.int th, .ref 401, .ref 402, ty, .long sd, .long be, .ref 410, wa, nw, nx, .ref 411]))) (hn : ∀ (l6 l7 l8 l9 : Option Value) (h' : mj_H), mj_rd h' 400 = some (.inr (17, [.int (nI 1), .ref 401, .ref 402, ty, .long sd, .long be, .ref 410, wa, nw, nx, .ref 411])) ∧ mz_fr [400] h h' ∧ h'.length ≤ N + 1 ∧ mj_sz h' ≤ mj_sz h + 6 → mj_lrun L xs (28, [some (.retAddr 1), some (.ref 0), some (.ref 400), some (.ref 412), some (.ref 413), some (.int (nI (i + 4))), l6, l7, l8, l9], [], h') P) : mj_lrun L xs (28, [some (.retAddr 1), some (.ref 0), some (.ref 400), some (.ref 412), some (.ref 413), some (.int (nI i)), l6, l7, l8, l9], [], h) P := by
  refine l_ild (p' := 30) rfl rfl rfl rfl ?_
  refine l_alds (p' := 31) rfl rfl rfl rfl ?_
  refine l_lens (p' := 32) rfl rfl rfl ?_
  refine l_con (p' := 33) rfl rfl rfl ?_
  refine l_bz (p' := 34) (z := (nI (L - 4))) rfl rfl rfl rfl rfl (mI_sub (by omega)) ?_
  refine l_icmp (p' := 37) false rfl rfl ((ci_gt (by omega) (by omega)).trans (decide_eq_false (by omega))) rfl ?_
  refine l_alds (p' := 38) rfl rfl rfl rfl ?_
  refine l_ild (p' := 40) rfl rfl rfl rfl ?_
  refine l_ialz (p' := 41) (m := i) (z := (xs i)) rfl rfl (inb_nI (by omega) (by omega)) (mI_cl (by omega)) rfl rfl ?_
  refine l_bip (p' := 43) rfl rfl rfl ?_
  refine l_bz (p' := 44) (z := (nI 41)) rfl rfl rfl rfl rfl hk ?_
  refine l_sp (p' := 2188) (ls' := _) rfl rfl rfl rfl rfl ?_
  refine l_aldn (p' := 2189) rfl rfl rfl rfl ?_
  refine l_alds (p' := 2190) rfl rfl rfl rfl ?_
  refine l_ild (p' := 2192) rfl rfl rfl rfl ?_
  refine l_con (p' := 2193) rfl rfl rfl ?_
  refine l_bz (p' := 2194) (z := (nI (i + 1))) rfl rfl rfl rfl rfl (mI_add _ _) ?_
  refine l_ialz (p' := 2195) (m := (i + 1)) (z := p) rfl rfl (inb_nI (by omega) (by omega)) (mI_cl (by omega)) hx1 rfl ?_
  refine l_alds (p' := 2196) rfl rfl rfl rfl ?_
  refine l_ild (p' := 2198) rfl rfl rfl rfl ?_
  refine l_con (p' := 2199) rfl rfl rfl ?_
  refine l_bz (p' := 2200) (z := (nI (i + 2))) rfl rfl rfl rfl rfl (mI_add _ _) ?_
  refine l_ialz (p' := 2201) (m := (i + 2)) (z := (xs (i + 2))) rfl rfl (inb_nI (by omega) (by omega)) (mI_cl (by omega)) rfl rfl ?_
  refine l_aldn (p' := 2202) rfl rfl rfl rfl ?_
  refine l_call (p' := 2205) (kc := 99) (ls0 := [_, _, _, _, _]) rfl rfl rfl rfl rfl rfl rfl rfl rfl rfl ?_
  refine s_aldn (p' := 1) rfl rfl rfl ?_
  refine s_con (p' := 2) rfl rfl ?_
  refine s_aldn (p' := 3) rfl rfl rfl ?_
  refine s_ildn (p' := 4) rfl rfl rfl ?_
  refine s_ildn (p' := 5) rfl rfl rfl ?_
  refine c_call (p' := 8) (kc := 98) (ls0 := [_, _, _, _]) rfl rfl rfl rfl rfl (mj_rcv_is H0) rfl rfl rfl ?_
  refine s_ildn (p' := 1) rfl rfl rfl ?_
  refine c_call (p' := 4) (kc := 97) (ls0 := [_]) rfl rfl rfl rfl rfl rfl rfl rfl rfl ?_
  refine s_ildn (p' := 1) rfl rfl rfl ?_
  refine s_if (p' := 4) false rfl ((cg_lt (w := 0) (by decide +kernel)).trans (decide_eq_false (by omega))) rfl ?_
  refine s_ildn (p' := 5) rfl rfl rfl ?_
  refine s_bip (p' := 7) rfl rfl ?_
  refine s_icmp (p' := 14) true rfl ((cg_ge (w := 8) (by decide +kernel)).trans (decide_eq_true (by omega))) rfl ?_
  refine s_con (p' := 15) rfl rfl ?_
  refine c_iret rfl (by decide +kernel) ?_
  refine s_if (p' := 14) true rfl (by decide +kernel) rfl ?_
  refine s_thrz (q := N) rfl HL rfl ?_
  refine K_c (hp := 13) (Nat.blt_eq.mpr (by omega)) (mj_ocl_is (rd_nw (Nat.blt_eq.mpr (by omega)) HL)) rfl ?_
  refine s_ast (p' := 15) (ls' := [_, _, _, _, _]) rfl rfl rfl rfl ?_
  refine s_con (p' := 16) rfl rfl ?_
  refine k_iret rfl rfl ?_
  refine l_ist (p' := 2207) (ls' := [_, _, _, _, _, _, _, _, _, _]) rfl rfl rfl rfl rfl ?_
  refine l_aldn (p' := 2208) rfl rfl rfl rfl ?_
  refine l_alds (p' := 2209) rfl rfl rfl rfl ?_
  refine l_ild (p' := 2211) rfl rfl rfl rfl ?_
  refine l_con (p' := 2212) rfl rfl rfl ?_
  refine l_bz (p' := 2213) (z := (nI (i + 1))) rfl rfl rfl rfl rfl (mI_add _ _) ?_
  refine l_ialz (p' := 2214) (m := (i + 1)) (z := p) rfl rfl (inb_nI (by omega) (by omega)) (mI_cl (by omega)) hx1 rfl ?_
  refine l_alds (p' := 2215) rfl rfl rfl rfl ?_
  refine l_ild (p' := 2217) rfl rfl rfl rfl ?_
  refine l_con (p' := 2218) rfl rfl rfl ?_
  refine l_bz (p' := 2219) (z := (nI (i + 2))) rfl rfl rfl rfl rfl (mI_add _ _) ?_
  refine l_ialz (p' := 2220) (m := (i + 2)) (z := (xs (i + 2))) rfl rfl (inb_nI (by omega) (by omega)) (mI_cl (by omega)) rfl rfl ?_
  refine l_call (p' := 2223) (kc := 99) (ls0 := [_, _, _, _]) rfl rfl rfl rfl rfl rfl (mj_rcv_is (rd_app H400)) rfl rfl rfl ?_
  refine s_aldn (p' := 1) rfl rfl rfl ?_
  refine s_ildn (p' := 2) rfl rfl rfl ?_
  refine s_con (p' := 3) rfl rfl ?_
  refine s_bip (p' := 5) rfl rfl ?_
  refine c_call (p' := 8) (kc := 98) (ls0 := [_, _, _]) rfl rfl rfl rfl rfl rfl rfl rfl rfl ?_
  refine s_ildn (p' := 1) rfl rfl rfl ?_
  refine s_ildn (p' := 2) rfl rfl rfl ?_
  refine s_icmp (p' := 5) false rfl ((ch_gt (w := 0) (by decide +kernel)).trans (decide_eq_false (by omega))) rfl ?_
  refine s_ildn (p' := 6) rfl rfl rfl ?_
  refine s_ildn (p' := 7) rfl rfl rfl ?_
  refine s_icmp (p' := 14) true rfl ((cg_gt (w := 7) (by decide +kernel)).trans (decide_eq_true (by omega))) rfl ?_
  refine s_con (p' := 15) rfl rfl ?_
  refine c_iret rfl (by decide +kernel) ?_
  refine s_if (p' := 25) true rfl (by decide +kernel) rfl ?_
  refine s_con (p' := 26) rfl rfl ?_
  refine c_call (p' := 29) (kc := 98) (ls0 := [_, _]) rfl rfl rfl rfl rfl (mj_rcv_is (rd_app H400)) rfl rfl rfl ?_
  refine s_aldn (p' := 1) rfl rfl rfl ?_
  refine s_ildn (p' := 2) rfl rfl rfl ?_
  refine s_pfz (p' := 5) (fs' := [_, _, _, _, _, _, _, _, _, _, _]) rfl rfl (rd_app H400) rfl rfl rfl rfl ?_
  refine s_ildn (p' := 6) rfl rfl rfl ?_
  refine s_if (p' := 9) false rfl (by decide +kernel) rfl ?_
  refine s_con (p' := 10) rfl rfl ?_
  refine s_goto (p' := 14) rfl rfl ?_
  refine c_iret rfl (by decide +kernel) ?_
  refine s_if (p' := 32) false rfl (by decide +kernel) rfl ?_
  refine s_con (p' := 33) rfl rfl ?_
  refine k_iret rfl rfl ?_
  refine l_ist (p' := 2225) (ls' := [_, _, _, _, _, _, _, _, _, _]) rfl rfl rfl rfl rfl ?_
  refine l_aldn (p' := 2226) rfl rfl rfl rfl ?_
  refine l_call (p' := 2229) (kc := 99) (ls0 := [_]) rfl rfl rfl rfl rfl rfl (mj_rcv_is (rd_ss rfl (rd_app H400))) rfl rfl rfl ?_
  refine s_aldn (p' := 1) rfl rfl rfl ?_
  refine s_gf (p' := 4) rfl (rd_ss rfl (rd_app H400)) rfl rfl ?_
  refine k_iret rfl rfl ?_
  refine l_ild (p' := 2231) rfl rfl rfl rfl ?_
  refine l_icmp (p' := 2236) true rfl rfl (by decide +kernel) rfl ?_
  refine l_ild (p' := 2238) rfl rfl rfl rfl ?_
  refine l_if (p' := 2253) true rfl rfl (by decide +kernel) rfl ?_
  refine l_goto (p' := 2541) rfl rfl rfl ?_
  refine l_incz (p' := 2544) (w := (nI (i + 4))) (ls' := [_, _, _, _, _, _, _, _, _, _]) rfl rfl rfl rfl (mI_add _ _) rfl rfl ?_
  refine l_goto (p' := 28) rfl rfl rfl ?_
  exact hn _ _ _ _ _ ⟨(rd_ss rfl (rd_app H400)), (mz_fr.s (by decide) (mz_fr.a (mz_fr.rf _ h))), (Nat.le_trans (Nat.le_of_eq (len_s (len_a HL rfl))) (by omega)), (Nat.le_trans (sz_s rfl (rd_app H400) rfl (sz_aa (k := 6) (m := mj_sz h + 6) rfl (by omega) (Nat.le_refl (mj_sz h)))) (by omega))⟩
theorem w_41_vn {L i N : Nat} {xs : Nat → Int32} {h : mj_H} {l6 l7 l8 l9 : Option Value} {P : mj_H → Prop} (hL : L ≤ 2048) (hi : i + 4 ≤ L) (hN : N + 2000 < mj_CB) (hN0 : 414 ≤ N) (HL : h.length = N) (hk : xs i &&& nI 63 = nI 41) {gs pl ty wa nw nx dp ca mf : Value} {th : Int32} {sd be : Int64} {ou : Nat → Int64} {vf wf sf uf im jm : Nat → Int32} {k g : Nat} (hk20 : k ≤ 20) (hvw : ∀ j, j < 8 → wf j = vf j) (hsu : ∀ j, j < k → uf j = sf j) (him : ∀ j, j < 8 → jm j = im j) {pe pm ge gm : Value} {q : Nat} (hq6 : q ≤ 6) (hg24 : g ≤ 24) {v : Nat} {p : Int32} (hv : v < 8) (hp : p.toInt < 0) (hx1 : xs (i + 1) = nI v) (hx2 : xs (i + 2) = p) (H0 : mj_rd h 0 = some (.inr (0, [.ref 1, .ref 38, .ref 299, .ref 336, .ref 373, .ref 375, .ref 378, .ref 381, .ref 387, .ref 393, gs, pl, .ref 397, .ref 398, .ref 399, .long sd, .long be]))) (H400 : mj_rd h 400 = some (.inr (17, [.int th, .ref 401, .ref 402, ty, .long sd, .long be, .ref 410, wa, nw, nx, .ref 411]))) (hn : ∀ (l6 l7 l8 l9 : Option Value) (h' : mj_H), mj_rd h' 400 = some (.inr (17, [.int (nI 1), .ref 401, .ref 402, ty, .long sd, .long be, .ref 410, wa, nw, nx, .ref 411])) ∧ mz_fr [400] h h' ∧ h'.length ≤ N + 1 ∧ mj_sz h' ≤ mj_sz h + 6 → mj_lrun L xs (28, [some (.retAddr 1), some (.ref 0), some (.ref 400), some (.ref 412), some (.ref 413), some (.int (nI (i + 4))), l6, l7, l8, l9], [], h') P) : mj_lrun L xs (28, [some (.retAddr 1), some (.ref 0), some (.ref 400), some (.ref 412), some (.ref 413), some (.int (nI i)), l6, l7, l8, l9], [], h) P := by
  refine l_ild (p' := 30) rfl rfl rfl rfl ?_
  refine l_alds (p' := 31) rfl rfl rfl rfl ?_
  refine l_lens (p' := 32) rfl rfl rfl ?_
  refine l_con (p' := 33) rfl rfl rfl ?_
  refine l_bz (p' := 34) (z := (nI (L - 4))) rfl rfl rfl rfl rfl (mI_sub (by omega)) ?_
  refine l_icmp (p' := 37) false rfl rfl ((ci_gt (by omega) (by omega)).trans (decide_eq_false (by omega))) rfl ?_
  refine l_alds (p' := 38) rfl rfl rfl rfl ?_
  refine l_ild (p' := 40) rfl rfl rfl rfl ?_
  refine l_ialz (p' := 41) (m := i) (z := (xs i)) rfl rfl (inb_nI (by omega) (by omega)) (mI_cl (by omega)) rfl rfl ?_
  refine l_bip (p' := 43) rfl rfl rfl ?_
  refine l_bz (p' := 44) (z := (nI 41)) rfl rfl rfl rfl rfl hk ?_
  refine l_sp (p' := 2188) (ls' := _) rfl rfl rfl rfl rfl ?_
  refine l_aldn (p' := 2189) rfl rfl rfl rfl ?_
  refine l_alds (p' := 2190) rfl rfl rfl rfl ?_
  refine l_ild (p' := 2192) rfl rfl rfl rfl ?_
  refine l_con (p' := 2193) rfl rfl rfl ?_
  refine l_bz (p' := 2194) (z := (nI (i + 1))) rfl rfl rfl rfl rfl (mI_add _ _) ?_
  refine l_ialz (p' := 2195) (m := (i + 1)) (z := (nI v)) rfl rfl (inb_nI (by omega) (by omega)) (mI_cl (by omega)) hx1 rfl ?_
  refine l_alds (p' := 2196) rfl rfl rfl rfl ?_
  refine l_ild (p' := 2198) rfl rfl rfl rfl ?_
  refine l_con (p' := 2199) rfl rfl rfl ?_
  refine l_bz (p' := 2200) (z := (nI (i + 2))) rfl rfl rfl rfl rfl (mI_add _ _) ?_
  refine l_ialz (p' := 2201) (m := (i + 2)) (z := p) rfl rfl (inb_nI (by omega) (by omega)) (mI_cl (by omega)) hx2 rfl ?_
  refine l_aldn (p' := 2202) rfl rfl rfl rfl ?_
  refine l_call (p' := 2205) (kc := 99) (ls0 := [_, _, _, _, _]) rfl rfl rfl rfl rfl rfl rfl rfl rfl rfl ?_
  refine s_aldn (p' := 1) rfl rfl rfl ?_
  refine s_con (p' := 2) rfl rfl ?_
  refine s_aldn (p' := 3) rfl rfl rfl ?_
  refine s_ildn (p' := 4) rfl rfl rfl ?_
  refine s_ildn (p' := 5) rfl rfl rfl ?_
  refine c_call (p' := 8) (kc := 98) (ls0 := [_, _, _, _]) rfl rfl rfl rfl rfl (mj_rcv_is H0) rfl rfl rfl ?_
  refine s_ildn (p' := 1) rfl rfl rfl ?_
  refine c_call (p' := 4) (kc := 97) (ls0 := [_]) rfl rfl rfl rfl rfl rfl rfl rfl rfl ?_
  refine s_ildn (p' := 1) rfl rfl rfl ?_
  refine s_if (p' := 4) false rfl ((cg_lt (w := 0) (by decide +kernel)).trans (decide_eq_false (by rw [mI_ti (by omega)]; omega))) rfl ?_
  refine s_ildn (p' := 5) rfl rfl rfl ?_
  refine s_bip (p' := 7) rfl rfl ?_
  refine s_icmp (p' := 10) false rfl ((cg_ge (w := 8) (by decide +kernel)).trans (decide_eq_false (by rw [mI_ti (by omega)]; omega))) rfl ?_
  refine s_con (p' := 11) rfl rfl ?_
  refine s_goto (p' := 15) rfl rfl ?_
  refine c_iret rfl (by decide +kernel) ?_
  refine s_if (p' := 7) false rfl (by decide +kernel) rfl ?_
  refine s_ildn (p' := 8) rfl rfl rfl ?_
  refine c_call (p' := 11) (kc := 97) (ls0 := [_]) rfl rfl rfl rfl rfl rfl rfl rfl rfl ?_
  refine s_ildn (p' := 1) rfl rfl rfl ?_
  refine s_if (p' := 14) true rfl ((cg_lt (w := 0) (by decide +kernel)).trans (decide_eq_true (by omega))) rfl ?_
  refine s_con (p' := 15) rfl rfl ?_
  refine c_iret rfl (by decide +kernel) ?_
  refine s_if (p' := 14) false rfl (by decide +kernel) rfl ?_
  refine s_thrz (q := N) rfl HL rfl ?_
  refine K_c (hp := 13) (Nat.blt_eq.mpr (by omega)) (mj_ocl_is (rd_nw (Nat.blt_eq.mpr (by omega)) HL)) rfl ?_
  refine s_ast (p' := 15) (ls' := [_, _, _, _, _]) rfl rfl rfl rfl ?_
  refine s_con (p' := 16) rfl rfl ?_
  refine k_iret rfl rfl ?_
  refine l_ist (p' := 2207) (ls' := [_, _, _, _, _, _, _, _, _, _]) rfl rfl rfl rfl rfl ?_
  refine l_aldn (p' := 2208) rfl rfl rfl rfl ?_
  refine l_alds (p' := 2209) rfl rfl rfl rfl ?_
  refine l_ild (p' := 2211) rfl rfl rfl rfl ?_
  refine l_con (p' := 2212) rfl rfl rfl ?_
  refine l_bz (p' := 2213) (z := (nI (i + 1))) rfl rfl rfl rfl rfl (mI_add _ _) ?_
  refine l_ialz (p' := 2214) (m := (i + 1)) (z := (nI v)) rfl rfl (inb_nI (by omega) (by omega)) (mI_cl (by omega)) hx1 rfl ?_
  refine l_alds (p' := 2215) rfl rfl rfl rfl ?_
  refine l_ild (p' := 2217) rfl rfl rfl rfl ?_
  refine l_con (p' := 2218) rfl rfl rfl ?_
  refine l_bz (p' := 2219) (z := (nI (i + 2))) rfl rfl rfl rfl rfl (mI_add _ _) ?_
  refine l_ialz (p' := 2220) (m := (i + 2)) (z := p) rfl rfl (inb_nI (by omega) (by omega)) (mI_cl (by omega)) hx2 rfl ?_
  refine l_call (p' := 2223) (kc := 99) (ls0 := [_, _, _, _]) rfl rfl rfl rfl rfl rfl (mj_rcv_is (rd_app H400)) rfl rfl rfl ?_
  refine s_aldn (p' := 1) rfl rfl rfl ?_
  refine s_ildn (p' := 2) rfl rfl rfl ?_
  refine s_con (p' := 3) rfl rfl ?_
  refine s_bip (p' := 5) rfl rfl ?_
  refine c_call (p' := 8) (kc := 98) (ls0 := [_, _, _]) rfl rfl rfl rfl rfl rfl rfl rfl rfl ?_
  refine s_ildn (p' := 1) rfl rfl rfl ?_
  refine s_ildn (p' := 2) rfl rfl rfl ?_
  refine s_icmp (p' := 5) false rfl ((ch_gt (w := 0) (by decide +kernel)).trans (decide_eq_false (by rw [mI_ti (by omega)]; omega))) rfl ?_
  refine s_ildn (p' := 6) rfl rfl rfl ?_
  refine s_ildn (p' := 7) rfl rfl rfl ?_
  refine s_icmp (p' := 10) false rfl ((cg_gt (w := 7) (by decide +kernel)).trans (decide_eq_false (by rw [mI_ti (by omega)]; omega))) rfl ?_
  refine s_con (p' := 11) rfl rfl ?_
  refine s_goto (p' := 15) rfl rfl ?_
  refine c_iret rfl (by decide +kernel) ?_
  refine s_if (p' := 11) false rfl (by decide +kernel) rfl ?_
  refine s_ildn (p' := 12) rfl rfl rfl ?_
  refine s_con (p' := 13) rfl rfl ?_
  refine s_bip (p' := 15) rfl rfl ?_
  refine c_call (p' := 18) (kc := 98) (ls0 := [_, _, _]) rfl rfl rfl rfl rfl rfl rfl rfl rfl ?_
  refine s_ildn (p' := 1) rfl rfl rfl ?_
  refine s_ildn (p' := 2) rfl rfl rfl ?_
  refine s_icmp (p' := 14) true rfl ((ch_gt (w := 0) (by decide +kernel)).trans (decide_eq_true (by omega))) rfl ?_
  refine s_con (p' := 15) rfl rfl ?_
  refine c_iret rfl (by decide +kernel) ?_
  refine s_if (p' := 25) true rfl (by decide +kernel) rfl ?_
  refine s_con (p' := 26) rfl rfl ?_
  refine c_call (p' := 29) (kc := 98) (ls0 := [_, _]) rfl rfl rfl rfl rfl (mj_rcv_is (rd_app H400)) rfl rfl rfl ?_
  refine s_aldn (p' := 1) rfl rfl rfl ?_
  refine s_ildn (p' := 2) rfl rfl rfl ?_
  refine s_pfz (p' := 5) (fs' := [_, _, _, _, _, _, _, _, _, _, _]) rfl rfl (rd_app H400) rfl rfl rfl rfl ?_
  refine s_ildn (p' := 6) rfl rfl rfl ?_
  refine s_if (p' := 9) false rfl (by decide +kernel) rfl ?_
  refine s_con (p' := 10) rfl rfl ?_
  refine s_goto (p' := 14) rfl rfl ?_
  refine c_iret rfl (by decide +kernel) ?_
  refine s_if (p' := 32) false rfl (by decide +kernel) rfl ?_
  refine s_con (p' := 33) rfl rfl ?_
  refine k_iret rfl rfl ?_
  refine l_ist (p' := 2225) (ls' := [_, _, _, _, _, _, _, _, _, _]) rfl rfl rfl rfl rfl ?_
  refine l_aldn (p' := 2226) rfl rfl rfl rfl ?_
  refine l_call (p' := 2229) (kc := 99) (ls0 := [_]) rfl rfl rfl rfl rfl rfl (mj_rcv_is (rd_ss rfl (rd_app H400))) rfl rfl rfl ?_
  refine s_aldn (p' := 1) rfl rfl rfl ?_
  refine s_gf (p' := 4) rfl (rd_ss rfl (rd_app H400)) rfl rfl ?_
  refine k_iret rfl rfl ?_
  refine l_ild (p' := 2231) rfl rfl rfl rfl ?_
  refine l_icmp (p' := 2236) true rfl rfl (by decide +kernel) rfl ?_
  refine l_ild (p' := 2238) rfl rfl rfl rfl ?_
  refine l_if (p' := 2253) true rfl rfl (by decide +kernel) rfl ?_
  refine l_goto (p' := 2541) rfl rfl rfl ?_
  refine l_incz (p' := 2544) (w := (nI (i + 4))) (ls' := [_, _, _, _, _, _, _, _, _, _]) rfl rfl rfl rfl (mI_add _ _) rfl rfl ?_
  refine l_goto (p' := 28) rfl rfl rfl ?_
  exact hn _ _ _ _ _ ⟨(rd_ss rfl (rd_app H400)), (mz_fr.s (by decide) (mz_fr.a (mz_fr.rf _ h))), (Nat.le_trans (Nat.le_of_eq (len_s (len_a HL rfl))) (by omega)), (Nat.le_trans (sz_s rfl (rd_app H400) rfl (sz_aa (k := 6) (m := mj_sz h + 6) rfl (by omega) (Nat.le_refl (mj_sz h)))) (by omega))⟩
theorem w_41_vm {L i N : Nat} {xs : Nat → Int32} {h : mj_H} {l6 l7 l8 l9 : Option Value} {P : mj_H → Prop} (hL : L ≤ 2048) (hi : i + 4 ≤ L) (hN : N + 2000 < mj_CB) (hN0 : 414 ≤ N) (HL : h.length = N) (hk : xs i &&& nI 63 = nI 41) {gs pl ty wa nw nx dp ca mf : Value} {th : Int32} {sd be : Int64} {ou : Nat → Int64} {vf wf sf uf im jm : Nat → Int32} {k g : Nat} (hk20 : k ≤ 20) (hvw : ∀ j, j < 8 → wf j = vf j) (hsu : ∀ j, j < k → uf j = sf j) (him : ∀ j, j < 8 → jm j = im j) {pe pm ge gm : Value} {q : Nat} (hq6 : q ≤ 6) (hg24 : g ≤ 24) {v : Nat} {p : Int32} (hv : v < 8) (hp : 7 < p.toInt) (hx1 : xs (i + 1) = nI v) (hx2 : xs (i + 2) = p) (H0 : mj_rd h 0 = some (.inr (0, [.ref 1, .ref 38, .ref 299, .ref 336, .ref 373, .ref 375, .ref 378, .ref 381, .ref 387, .ref 393, gs, pl, .ref 397, .ref 398, .ref 399, .long sd, .long be]))) (H400 : mj_rd h 400 = some (.inr (17, [.int th, .ref 401, .ref 402, ty, .long sd, .long be, .ref 410, wa, nw, nx, .ref 411]))) (hn : ∀ (l6 l7 l8 l9 : Option Value) (h' : mj_H), mj_rd h' 400 = some (.inr (17, [.int (nI 1), .ref 401, .ref 402, ty, .long sd, .long be, .ref 410, wa, nw, nx, .ref 411])) ∧ mz_fr [400] h h' ∧ h'.length ≤ N + 1 ∧ mj_sz h' ≤ mj_sz h + 6 → mj_lrun L xs (28, [some (.retAddr 1), some (.ref 0), some (.ref 400), some (.ref 412), some (.ref 413), some (.int (nI (i + 4))), l6, l7, l8, l9], [], h') P) : mj_lrun L xs (28, [some (.retAddr 1), some (.ref 0), some (.ref 400), some (.ref 412), some (.ref 413), some (.int (nI i)), l6, l7, l8, l9], [], h) P := by
  refine l_ild (p' := 30) rfl rfl rfl rfl ?_
  refine l_alds (p' := 31) rfl rfl rfl rfl ?_
  refine l_lens (p' := 32) rfl rfl rfl ?_
  refine l_con (p' := 33) rfl rfl rfl ?_
  refine l_bz (p' := 34) (z := (nI (L - 4))) rfl rfl rfl rfl rfl (mI_sub (by omega)) ?_
  refine l_icmp (p' := 37) false rfl rfl ((ci_gt (by omega) (by omega)).trans (decide_eq_false (by omega))) rfl ?_
  refine l_alds (p' := 38) rfl rfl rfl rfl ?_
  refine l_ild (p' := 40) rfl rfl rfl rfl ?_
  refine l_ialz (p' := 41) (m := i) (z := (xs i)) rfl rfl (inb_nI (by omega) (by omega)) (mI_cl (by omega)) rfl rfl ?_
  refine l_bip (p' := 43) rfl rfl rfl ?_
  refine l_bz (p' := 44) (z := (nI 41)) rfl rfl rfl rfl rfl hk ?_
  refine l_sp (p' := 2188) (ls' := _) rfl rfl rfl rfl rfl ?_
  refine l_aldn (p' := 2189) rfl rfl rfl rfl ?_
  refine l_alds (p' := 2190) rfl rfl rfl rfl ?_
  refine l_ild (p' := 2192) rfl rfl rfl rfl ?_
  refine l_con (p' := 2193) rfl rfl rfl ?_
  refine l_bz (p' := 2194) (z := (nI (i + 1))) rfl rfl rfl rfl rfl (mI_add _ _) ?_
  refine l_ialz (p' := 2195) (m := (i + 1)) (z := (nI v)) rfl rfl (inb_nI (by omega) (by omega)) (mI_cl (by omega)) hx1 rfl ?_
  refine l_alds (p' := 2196) rfl rfl rfl rfl ?_
  refine l_ild (p' := 2198) rfl rfl rfl rfl ?_
  refine l_con (p' := 2199) rfl rfl rfl ?_
  refine l_bz (p' := 2200) (z := (nI (i + 2))) rfl rfl rfl rfl rfl (mI_add _ _) ?_
  refine l_ialz (p' := 2201) (m := (i + 2)) (z := p) rfl rfl (inb_nI (by omega) (by omega)) (mI_cl (by omega)) hx2 rfl ?_
  refine l_aldn (p' := 2202) rfl rfl rfl rfl ?_
  refine l_call (p' := 2205) (kc := 99) (ls0 := [_, _, _, _, _]) rfl rfl rfl rfl rfl rfl rfl rfl rfl rfl ?_
  refine s_aldn (p' := 1) rfl rfl rfl ?_
  refine s_con (p' := 2) rfl rfl ?_
  refine s_aldn (p' := 3) rfl rfl rfl ?_
  refine s_ildn (p' := 4) rfl rfl rfl ?_
  refine s_ildn (p' := 5) rfl rfl rfl ?_
  refine c_call (p' := 8) (kc := 98) (ls0 := [_, _, _, _]) rfl rfl rfl rfl rfl (mj_rcv_is H0) rfl rfl rfl ?_
  refine s_ildn (p' := 1) rfl rfl rfl ?_
  refine c_call (p' := 4) (kc := 97) (ls0 := [_]) rfl rfl rfl rfl rfl rfl rfl rfl rfl ?_
  refine s_ildn (p' := 1) rfl rfl rfl ?_
  refine s_if (p' := 4) false rfl ((cg_lt (w := 0) (by decide +kernel)).trans (decide_eq_false (by rw [mI_ti (by omega)]; omega))) rfl ?_
  refine s_ildn (p' := 5) rfl rfl rfl ?_
  refine s_bip (p' := 7) rfl rfl ?_
  refine s_icmp (p' := 10) false rfl ((cg_ge (w := 8) (by decide +kernel)).trans (decide_eq_false (by rw [mI_ti (by omega)]; omega))) rfl ?_
  refine s_con (p' := 11) rfl rfl ?_
  refine s_goto (p' := 15) rfl rfl ?_
  refine c_iret rfl (by decide +kernel) ?_
  refine s_if (p' := 7) false rfl (by decide +kernel) rfl ?_
  refine s_ildn (p' := 8) rfl rfl rfl ?_
  refine c_call (p' := 11) (kc := 97) (ls0 := [_]) rfl rfl rfl rfl rfl rfl rfl rfl rfl ?_
  refine s_ildn (p' := 1) rfl rfl rfl ?_
  refine s_if (p' := 4) false rfl ((cg_lt (w := 0) (by decide +kernel)).trans (decide_eq_false (by omega))) rfl ?_
  refine s_ildn (p' := 5) rfl rfl rfl ?_
  refine s_bip (p' := 7) rfl rfl ?_
  refine s_icmp (p' := 14) true rfl ((cg_ge (w := 8) (by decide +kernel)).trans (decide_eq_true (by omega))) rfl ?_
  refine s_con (p' := 15) rfl rfl ?_
  refine c_iret rfl (by decide +kernel) ?_
  refine s_if (p' := 14) false rfl (by decide +kernel) rfl ?_
  refine s_thrz (q := N) rfl HL rfl ?_
  refine K_c (hp := 13) (Nat.blt_eq.mpr (by omega)) (mj_ocl_is (rd_nw (Nat.blt_eq.mpr (by omega)) HL)) rfl ?_
  refine s_ast (p' := 15) (ls' := [_, _, _, _, _]) rfl rfl rfl rfl ?_
  refine s_con (p' := 16) rfl rfl ?_
  refine k_iret rfl rfl ?_
  refine l_ist (p' := 2207) (ls' := [_, _, _, _, _, _, _, _, _, _]) rfl rfl rfl rfl rfl ?_
  refine l_aldn (p' := 2208) rfl rfl rfl rfl ?_
  refine l_alds (p' := 2209) rfl rfl rfl rfl ?_
  refine l_ild (p' := 2211) rfl rfl rfl rfl ?_
  refine l_con (p' := 2212) rfl rfl rfl ?_
  refine l_bz (p' := 2213) (z := (nI (i + 1))) rfl rfl rfl rfl rfl (mI_add _ _) ?_
  refine l_ialz (p' := 2214) (m := (i + 1)) (z := (nI v)) rfl rfl (inb_nI (by omega) (by omega)) (mI_cl (by omega)) hx1 rfl ?_
  refine l_alds (p' := 2215) rfl rfl rfl rfl ?_
  refine l_ild (p' := 2217) rfl rfl rfl rfl ?_
  refine l_con (p' := 2218) rfl rfl rfl ?_
  refine l_bz (p' := 2219) (z := (nI (i + 2))) rfl rfl rfl rfl rfl (mI_add _ _) ?_
  refine l_ialz (p' := 2220) (m := (i + 2)) (z := p) rfl rfl (inb_nI (by omega) (by omega)) (mI_cl (by omega)) hx2 rfl ?_
  refine l_call (p' := 2223) (kc := 99) (ls0 := [_, _, _, _]) rfl rfl rfl rfl rfl rfl (mj_rcv_is (rd_app H400)) rfl rfl rfl ?_
  refine s_aldn (p' := 1) rfl rfl rfl ?_
  refine s_ildn (p' := 2) rfl rfl rfl ?_
  refine s_con (p' := 3) rfl rfl ?_
  refine s_bip (p' := 5) rfl rfl ?_
  refine c_call (p' := 8) (kc := 98) (ls0 := [_, _, _]) rfl rfl rfl rfl rfl rfl rfl rfl rfl ?_
  refine s_ildn (p' := 1) rfl rfl rfl ?_
  refine s_ildn (p' := 2) rfl rfl rfl ?_
  refine s_icmp (p' := 5) false rfl ((ch_gt (w := 0) (by decide +kernel)).trans (decide_eq_false (by rw [mI_ti (by omega)]; omega))) rfl ?_
  refine s_ildn (p' := 6) rfl rfl rfl ?_
  refine s_ildn (p' := 7) rfl rfl rfl ?_
  refine s_icmp (p' := 10) false rfl ((cg_gt (w := 7) (by decide +kernel)).trans (decide_eq_false (by rw [mI_ti (by omega)]; omega))) rfl ?_
  refine s_con (p' := 11) rfl rfl ?_
  refine s_goto (p' := 15) rfl rfl ?_
  refine c_iret rfl (by decide +kernel) ?_
  refine s_if (p' := 11) false rfl (by decide +kernel) rfl ?_
  refine s_ildn (p' := 12) rfl rfl rfl ?_
  refine s_con (p' := 13) rfl rfl ?_
  refine s_bip (p' := 15) rfl rfl ?_
  refine c_call (p' := 18) (kc := 98) (ls0 := [_, _, _]) rfl rfl rfl rfl rfl rfl rfl rfl rfl ?_
  refine s_ildn (p' := 1) rfl rfl rfl ?_
  refine s_ildn (p' := 2) rfl rfl rfl ?_
  refine s_icmp (p' := 5) false rfl ((ch_gt (w := 0) (by decide +kernel)).trans (decide_eq_false (by omega))) rfl ?_
  refine s_ildn (p' := 6) rfl rfl rfl ?_
  refine s_ildn (p' := 7) rfl rfl rfl ?_
  refine s_icmp (p' := 14) true rfl ((cg_gt (w := 7) (by decide +kernel)).trans (decide_eq_true (by omega))) rfl ?_
  refine s_con (p' := 15) rfl rfl ?_
  refine c_iret rfl (by decide +kernel) ?_
  refine s_if (p' := 25) true rfl (by decide +kernel) rfl ?_
  refine s_con (p' := 26) rfl rfl ?_
  refine c_call (p' := 29) (kc := 98) (ls0 := [_, _]) rfl rfl rfl rfl rfl (mj_rcv_is (rd_app H400)) rfl rfl rfl ?_
  refine s_aldn (p' := 1) rfl rfl rfl ?_
  refine s_ildn (p' := 2) rfl rfl rfl ?_
  refine s_pfz (p' := 5) (fs' := [_, _, _, _, _, _, _, _, _, _, _]) rfl rfl (rd_app H400) rfl rfl rfl rfl ?_
  refine s_ildn (p' := 6) rfl rfl rfl ?_
  refine s_if (p' := 9) false rfl (by decide +kernel) rfl ?_
  refine s_con (p' := 10) rfl rfl ?_
  refine s_goto (p' := 14) rfl rfl ?_
  refine c_iret rfl (by decide +kernel) ?_
  refine s_if (p' := 32) false rfl (by decide +kernel) rfl ?_
  refine s_con (p' := 33) rfl rfl ?_
  refine k_iret rfl rfl ?_
  refine l_ist (p' := 2225) (ls' := [_, _, _, _, _, _, _, _, _, _]) rfl rfl rfl rfl rfl ?_
  refine l_aldn (p' := 2226) rfl rfl rfl rfl ?_
  refine l_call (p' := 2229) (kc := 99) (ls0 := [_]) rfl rfl rfl rfl rfl rfl (mj_rcv_is (rd_ss rfl (rd_app H400))) rfl rfl rfl ?_
  refine s_aldn (p' := 1) rfl rfl rfl ?_
  refine s_gf (p' := 4) rfl (rd_ss rfl (rd_app H400)) rfl rfl ?_
  refine k_iret rfl rfl ?_
  refine l_ild (p' := 2231) rfl rfl rfl rfl ?_
  refine l_icmp (p' := 2236) true rfl rfl (by decide +kernel) rfl ?_
  refine l_ild (p' := 2238) rfl rfl rfl rfl ?_
  refine l_if (p' := 2253) true rfl rfl (by decide +kernel) rfl ?_
  refine l_goto (p' := 2541) rfl rfl rfl ?_
  refine l_incz (p' := 2544) (w := (nI (i + 4))) (ls' := [_, _, _, _, _, _, _, _, _, _]) rfl rfl rfl rfl (mI_add _ _) rfl rfl ?_
  refine l_goto (p' := 28) rfl rfl rfl ?_
  exact hn _ _ _ _ _ ⟨(rd_ss rfl (rd_app H400)), (mz_fr.s (by decide) (mz_fr.a (mz_fr.rf _ h))), (Nat.le_trans (Nat.le_of_eq (len_s (len_a HL rfl))) (by omega)), (Nat.le_trans (sz_s rfl (rd_app H400) rfl (sz_aa (k := 6) (m := mj_sz h + 6) rfl (by omega) (Nat.le_refl (mj_sz h)))) (by omega))⟩
theorem w_13 {L i N : Nat} {xs : Nat → Int32} {h : mj_H} {l6 l7 l8 l9 : Option Value} {P : mj_H → Prop} (hL : L ≤ 2048) (hi : i + 4 ≤ L) (hN : N + 2000 < mj_CB) (hN0 : 414 ≤ N) (HL : h.length = N) (hk : xs i &&& nI 63 = nI 13) {gs pl ty wa nw nx dp ca mf : Value} {th : Int32} {sd be : Int64} {ou : Nat → Int64} {vf wf sf uf im jm : Nat → Int32} {k g : Nat} (hk20 : k ≤ 20) (hvw : ∀ j, j < 8 → wf j = vf j) (hsu : ∀ j, j < k → uf j = sf j) (him : ∀ j, j < 8 → jm j = im j) {pe pm ge gm : Value} {q : Nat} (hq6 : q ≤ 6) (hg24 : g ≤ 24) {d : Nat} (hd : d < k) (hx1 : xs (i + 1) = nI d) (H0 : mj_rd h 0 = some (.inr (0, [.ref 1, .ref 38, .ref 299, .ref 336, .ref 373, .ref 375, .ref 378, .ref 381, .ref 387, .ref 393, gs, pl, .ref 397, .ref 398, .ref 399, .long sd, .long be]))) (H375 : mj_rd h 375 = some (.inr (7, [.ref 376, .ref 377, .int (nI k)]))) (H377 : mj_rd h 377 = some (.inl (0, (20, .inl (sf))))) (H400 : mj_rd h 400 = some (.inr (17, [.int th, .ref 401, .ref 402, ty, .long sd, .long be, .ref 410, wa, nw, nx, .ref 411]))) (H402 : mj_rd h 402 = some (.inr (19, [.ref 403, .ref 404, .ref 405, .ref 406, .ref 407, .ref 408, .ref 409, .int (nI k), dp, ca, .ref 400]))) (H404 : mj_rd h 404 = some (.inl (0, (20, .inl (uf))))) (H412 : mj_rd h 412 = some (.inl (4, (1, .inr (.inl (ou)))))) (hn : ∀ (l6 l7 l8 l9 : Option Value) (h' : mj_H), mj_rd h' 400 = some (.inr (17, [.int (nI 0), .ref 401, .ref 402, ty, .long sd, .long be, .ref 410, wa, nw, nx, .ref 411])) ∧ mj_rd h' 412 = some (.inl (4, (1, .inr (.inl ((vp_updL ou 0 (Int32.toInt64 (sf ((k - 1) - d))))))))) ∧ mz_fr [400, 412] h h' ∧ h'.length ≤ N + 0 ∧ mj_sz h' ≤ mj_sz h + 0 → mj_lrun L xs (28, [some (.retAddr 1), some (.ref 0), some (.ref 400), some (.ref 412), some (.ref 413), some (.int (nI (i + 4))), l6, l7, l8, l9], [], h') P) : mj_lrun L xs (28, [some (.retAddr 1), some (.ref 0), some (.ref 400), some (.ref 412), some (.ref 413), some (.int (nI i)), l6, l7, l8, l9], [], h) P := by
  refine l_ild (p' := 30) rfl rfl rfl rfl ?_
  refine l_alds (p' := 31) rfl rfl rfl rfl ?_
  refine l_lens (p' := 32) rfl rfl rfl ?_
  refine l_con (p' := 33) rfl rfl rfl ?_
  refine l_bz (p' := 34) (z := (nI (L - 4))) rfl rfl rfl rfl rfl (mI_sub (by omega)) ?_
  refine l_icmp (p' := 37) false rfl rfl ((ci_gt (by omega) (by omega)).trans (decide_eq_false (by omega))) rfl ?_
  refine l_alds (p' := 38) rfl rfl rfl rfl ?_
  refine l_ild (p' := 40) rfl rfl rfl rfl ?_
  refine l_ialz (p' := 41) (m := i) (z := (xs i)) rfl rfl (inb_nI (by omega) (by omega)) (mI_cl (by omega)) rfl rfl ?_
  refine l_bip (p' := 43) rfl rfl rfl ?_
  refine l_bz (p' := 44) (z := (nI 13)) rfl rfl rfl rfl rfl hk ?_
  refine l_sp (p' := 908) (ls' := _) rfl rfl rfl rfl rfl ?_
  refine l_aldn (p' := 909) rfl rfl rfl rfl ?_
  refine l_alds (p' := 910) rfl rfl rfl rfl ?_
  refine l_ild (p' := 912) rfl rfl rfl rfl ?_
  refine l_con (p' := 913) rfl rfl rfl ?_
  refine l_bz (p' := 914) (z := (nI (i + 1))) rfl rfl rfl rfl rfl (mI_add _ _) ?_
  refine l_ialz (p' := 915) (m := (i + 1)) (z := (nI d)) rfl rfl (inb_nI (by omega) (by omega)) (mI_cl (by omega)) hx1 rfl ?_
  refine l_aldn (p' := 916) rfl rfl rfl rfl ?_
  refine l_call (p' := 919) (kc := 99) (ls0 := [_, _, _, _]) rfl rfl rfl rfl rfl rfl rfl rfl rfl rfl ?_
  refine s_aldn (p' := 1) rfl rfl rfl ?_
  refine s_con (p' := 2) rfl rfl ?_
  refine s_aldn (p' := 3) rfl rfl rfl ?_
  refine s_ildn (p' := 4) rfl rfl rfl ?_
  refine c_call (p' := 7) (kc := 98) (ls0 := [_, _]) rfl rfl rfl rfl rfl (mj_rcv_is H0) rfl rfl rfl ?_
  refine s_ildn (p' := 1) rfl rfl rfl ?_
  refine s_if (p' := 4) false rfl ((cg_lt (w := 0) (by decide +kernel)).trans (decide_eq_false (by rw [mI_ti (by omega)]; omega))) rfl ?_
  refine s_ildn (p' := 5) rfl rfl rfl ?_
  refine s_aldn (p' := 6) rfl rfl rfl ?_
  refine s_gf (p' := 9) rfl H0 rfl rfl ?_
  refine c_call (p' := 12) (kc := 97) (ls0 := [_]) rfl rfl rfl rfl rfl (mj_rcv_is H375) rfl rfl rfl ?_
  refine s_aldn (p' := 1) rfl rfl rfl ?_
  refine s_gf (p' := 4) rfl H375 rfl rfl ?_
  refine c_iret rfl rfl ?_
  refine s_icmp (p' := 25) true rfl ((ci_lt (by omega) (by omega)).trans (decide_eq_true (by omega))) rfl ?_
  refine s_aldn (p' := 26) rfl rfl rfl ?_
  refine s_gf (p' := 29) rfl H0 rfl rfl ?_
  refine s_aldn (p' := 30) rfl rfl rfl ?_
  refine s_gf (p' := 33) rfl H0 rfl rfl ?_
  refine c_call (p' := 36) (kc := 97) (ls0 := [_]) rfl rfl rfl rfl rfl (mj_rcv_is H375) rfl rfl rfl ?_
  refine s_aldn (p' := 1) rfl rfl rfl ?_
  refine s_gf (p' := 4) rfl H375 rfl rfl ?_
  refine c_iret rfl rfl ?_
  refine s_con (p' := 37) rfl rfl ?_
  refine s_bz (p' := 38) (z := (nI (k - 1))) rfl rfl rfl (mI_sub (by omega)) ?_
  refine s_ildn (p' := 39) rfl rfl rfl ?_
  refine s_bz (p' := 40) (z := (nI ((k - 1) - d))) rfl rfl rfl (mI_sub (by omega)) ?_
  refine c_call (p' := 43) (kc := 97) (ls0 := [_, _]) rfl rfl rfl rfl rfl (mj_rcv_is H375) rfl rfl rfl ?_
  refine s_ildn (p' := 1) rfl rfl rfl ?_
  refine s_if (p' := 4) false rfl ((cg_lt (w := 0) (by decide +kernel)).trans (decide_eq_false (by rw [mI_ti (by omega)]; omega))) rfl ?_
  refine s_ildn (p' := 5) rfl rfl rfl ?_
  refine s_aldn (p' := 6) rfl rfl rfl ?_
  refine s_gf (p' := 9) rfl H375 rfl rfl ?_
  refine s_icmp (p' := 12) false rfl ((ci_ge (by omega) (by omega)).trans (decide_eq_false (by omega))) rfl ?_
  refine s_ildn (p' := 13) rfl rfl rfl ?_
  refine s_aldn (p' := 14) rfl rfl rfl ?_
  refine s_gf (p' := 17) rfl H375 rfl rfl ?_
  refine s_lenz (p' := 18) rfl (mj_rdA_is H377 (by decide)) rfl rfl ?_
  refine s_icmp (p' := 21) false rfl ((cg_ge (w := 20) (by decide +kernel)).trans (decide_eq_false (by rw [mI_ti (by omega)]; omega))) rfl ?_
  refine s_aldn (p' := 22) rfl rfl rfl ?_
  refine s_gf (p' := 25) rfl H375 rfl rfl ?_
  refine s_ildn (p' := 26) rfl rfl rfl ?_
  refine s_ialz (p' := 27) (m := ((k - 1) - d)) (v := (sf ((k - 1) - d))) rfl H377 (inb_nI (by omega) (by omega)) (mI_cl (by omega)) rfl rfl ?_
  refine s_goto (p' := 31) rfl rfl ?_
  refine c_iret rfl rfl ?_
  refine c_iret rfl rfl ?_
  refine s_bzL (p' := 8) (z := (Int32.toInt64 (sf ((k - 1) - d)))) rfl rfl rfl rfl ?_
  refine s_lasz (p' := 9) (m := 0) rfl rfl H412 (by decide +kernel) rfl rfl rfl ?_
  refine s_goto (p' := 15) rfl rfl ?_
  refine s_con (p' := 16) rfl rfl ?_
  refine k_iret rfl rfl ?_
  refine l_ist (p' := 921) (ls' := [_, _, _, _, _, _, _, _, _, _]) rfl rfl rfl rfl rfl ?_
  refine l_aldn (p' := 922) rfl rfl rfl rfl ?_
  refine l_alds (p' := 923) rfl rfl rfl rfl ?_
  refine l_ild (p' := 925) rfl rfl rfl rfl ?_
  refine l_con (p' := 926) rfl rfl rfl ?_
  refine l_bz (p' := 927) (z := (nI (i + 1))) rfl rfl rfl rfl rfl (mI_add _ _) ?_
  refine l_ialz (p' := 928) (m := (i + 1)) (z := (nI d)) rfl rfl (inb_nI (by omega) (by omega)) (mI_cl (by omega)) hx1 rfl ?_
  refine l_call (p' := 931) (kc := 99) (ls0 := [_, _]) rfl rfl rfl rfl rfl rfl (mj_rcv_is (rd_sn rfl H400)) rfl rfl rfl ?_
  refine s_aldn (p' := 1) rfl rfl rfl ?_
  refine s_ildn (p' := 2) rfl rfl rfl ?_
  refine s_con (p' := 3) rfl rfl ?_
  refine s_aldn (p' := 4) rfl rfl rfl ?_
  refine s_gf (p' := 7) rfl (rd_sn rfl H400) rfl rfl ?_
  refine s_gf (p' := 10) rfl (rd_sn rfl H402) rfl rfl ?_
  refine s_con (p' := 11) rfl rfl ?_
  refine s_bz (p' := 12) (z := (nI (k - 1))) rfl rfl rfl (mI_sub (by omega)) ?_
  refine c_call (p' := 15) (kc := 98) (ls0 := [_, _, _]) rfl rfl rfl rfl rfl rfl rfl rfl rfl ?_
  refine s_ildn (p' := 1) rfl rfl rfl ?_
  refine s_ildn (p' := 2) rfl rfl rfl ?_
  refine s_icmp (p' := 5) false rfl ((ch_gt (w := 0) (by decide +kernel)).trans (decide_eq_false (by rw [mI_ti (by omega)]; omega))) rfl ?_
  refine s_ildn (p' := 6) rfl rfl rfl ?_
  refine s_ildn (p' := 7) rfl rfl rfl ?_
  refine s_icmp (p' := 10) false rfl ((ci_gt (by omega) (by omega)).trans (decide_eq_false (by omega))) rfl ?_
  refine s_con (p' := 11) rfl rfl ?_
  refine s_goto (p' := 15) rfl rfl ?_
  refine c_iret rfl (by decide +kernel) ?_
  refine s_if (p' := 18) false rfl (by decide +kernel) rfl ?_
  refine s_con (p' := 19) rfl rfl ?_
  refine s_goto (p' := 23) rfl rfl ?_
  refine c_call (p' := 26) (kc := 98) (ls0 := [_, _]) rfl rfl rfl rfl rfl (mj_rcv_is (rd_sn rfl H400)) rfl rfl rfl ?_
  refine s_aldn (p' := 1) rfl rfl rfl ?_
  refine s_ildn (p' := 2) rfl rfl rfl ?_
  refine s_pfz (p' := 5) (fs' := [_, _, _, _, _, _, _, _, _, _, _]) rfl rfl (rd_sn rfl H400) rfl rfl rfl rfl ?_
  refine s_ildn (p' := 6) rfl rfl rfl ?_
  refine s_if (p' := 13) true rfl (by decide +kernel) rfl ?_
  refine s_con (p' := 14) rfl rfl ?_
  refine c_iret rfl (by decide +kernel) ?_
  refine s_if (p' := 33) true rfl (by decide +kernel) rfl ?_
  refine s_aldn (p' := 34) rfl rfl rfl ?_
  refine s_gf (p' := 37) rfl (rd_ss rfl (rd_sn rfl H400)) rfl rfl ?_
  refine s_gf (p' := 40) rfl (rd_sn rfl (rd_sn rfl H402)) rfl rfl ?_
  refine s_aldn (p' := 41) rfl rfl rfl ?_
  refine s_gf (p' := 44) rfl (rd_ss rfl (rd_sn rfl H400)) rfl rfl ?_
  refine s_gf (p' := 47) rfl (rd_sn rfl (rd_sn rfl H402)) rfl rfl ?_
  refine s_con (p' := 48) rfl rfl ?_
  refine s_bz (p' := 49) (z := (nI (k - 1))) rfl rfl rfl (mI_sub (by omega)) ?_
  refine s_ildn (p' := 50) rfl rfl rfl ?_
  refine s_bz (p' := 51) (z := (nI ((k - 1) - d))) rfl rfl rfl (mI_sub (by omega)) ?_
  refine s_ialz (p' := 52) (m := ((k - 1) - d)) (v := (sf ((k - 1) - d))) rfl (rd_sn rfl (rd_sn rfl H404)) (inb_nI (by omega) (by omega)) (mI_cl (by omega)) (hsu ((k - 1) - d) (by omega)) rfl ?_
  refine k_iret rfl rfl ?_
  refine l_ist (p' := 933) (ls' := [_, _, _, _, _, _, _, _, _, _]) rfl rfl rfl rfl rfl ?_
  refine l_aldn (p' := 934) rfl rfl rfl rfl ?_
  refine l_call (p' := 937) (kc := 99) (ls0 := [_]) rfl rfl rfl rfl rfl rfl (mj_rcv_is (rd_ss rfl (rd_sn rfl H400))) rfl rfl rfl ?_
  refine s_aldn (p' := 1) rfl rfl rfl ?_
  refine s_gf (p' := 4) rfl (rd_ss rfl (rd_sn rfl H400)) rfl rfl ?_
  refine k_iret rfl rfl ?_
  refine l_ild (p' := 939) rfl rfl rfl rfl ?_
  refine l_icmp (p' := 944) true rfl rfl (by decide +kernel) rfl ?_
  refine l_ild (p' := 946) rfl rfl rfl rfl ?_
  refine l_if (p' := 949) false rfl rfl (by decide +kernel) rfl ?_
  refine l_aldn (p' := 950) rfl rfl rfl rfl ?_
  refine l_con (p' := 951) rfl rfl rfl ?_
  refine l_lalz (p' := 952) (m := 0) (v := (Int32.toInt64 (sf ((k - 1) - d)))) rfl rfl (rd_sn rfl (rd_ss rfl H412)) (by decide +kernel) rfl rfl rfl ?_
  refine l_ild (p' := 954) rfl rfl rfl rfl ?_
  refine l_bzL (p' := 955) (z := (Int32.toInt64 (sf ((k - 1) - d)))) rfl rfl rfl rfl rfl rfl ?_
  refine l_bz (p' := 956) (z := nI 0) rfl rfl rfl rfl rfl (lcmp_self _) ?_
  refine l_if (p' := 961) true rfl rfl (by decide +kernel) rfl ?_
  refine l_goto (p' := 2541) rfl rfl rfl ?_
  refine l_incz (p' := 2544) (w := (nI (i + 4))) (ls' := [_, _, _, _, _, _, _, _, _, _]) rfl rfl rfl rfl (mI_add _ _) rfl rfl ?_
  refine l_goto (p' := 28) rfl rfl rfl ?_
  exact hn _ _ _ _ _ ⟨(rd_ss rfl (rd_sn rfl H400)), (rd_sn rfl (rd_ss rfl H412)), (mz_fr.s (by decide) (mz_fr.s (by decide) (mz_fr.rf _ h))), (Nat.le_trans (Nat.le_of_eq (len_s (len_s HL))) (by omega)), (Nat.le_trans (sz_s rfl (rd_sn rfl H400) rfl (sz_sA rfl H412 (Nat.le_refl (mj_sz h)))) (by omega))⟩
