/-! Rounds on any state: made and madeAt. -/
theorem w_36 {L i N : Nat} {xs : Nat → Int32} {h : mj_H} {l6 l7 l8 l9 : Option Value} {P : mj_H → Prop} (hL : L ≤ 2048) (hi : i + 4 ≤ L) (hN : N + 2000 < mj_CB) (hN0 : 414 ≤ N) (HL : h.length = N) (hk : xs i &&& nI 63 = nI 36) {gs pl ty wa nw nx dp ca mf : Value} {th : Int32} {sd be : Int64} {ou : Nat → Int64} {vf wf sf uf im jm : Nat → Int32} {k g : Nat} (hk20 : k ≤ 20) (hvw : ∀ j, j < 8 → wf j = vf j) (hsu : ∀ j, j < k → uf j = sf j) (him : ∀ j, j < 8 → jm j = im j) {pe pm ge gm : Value} {q : Nat} (hq6 : q ≤ 6) (hg24 : g ≤ 24) {rf : Nat → Int32} {E cap : Nat} {mc : Int32} {ef : Nat → Option Nat} {G : Nat → Nat} (hG1 : ∀ j, j < g → rf j = nI (G j) ∧ G j < 24) (hE0 : 414 ≤ E) (hEN : E < N ∨ E = 1000000) (hEA : mj_rdA h E = some (6, (cap, objs ef))) (hG2 : ∀ j, j < g → ef j = some (1000138 + G j) ∧ G j < 24) (hgc : g ≤ cap) (hc31 : cap < 1000) (hE3 : E < mj_CB ∧ 0 < cap ∨ E = 1000000 ∧ cap = 0) {oof dmf : Nat → Int32}   (H0 : mj_rd h 0 = some (.inr (0, [.ref 1, .ref 38, .ref 299, .ref 336, .ref 373, .ref 375, .ref 378, .ref 381, .ref 387, .ref 393, gs, pl, .ref 397, .ref 398, .ref 399, .long sd, .long be]))) (H393 : mj_rd h 393 = some (.inr (9, [.ref 394, .ref 395, .ref 396, .int (nI g), mf]))) (H394 : mj_rd h 394 = some (.inl (0, (24, .inl (rf))))) (H395 : mj_rd h 395 = some (.inl (0, (8, .inl (oof))))) (H396 : mj_rd h 396 = some (.inl (0, (24, .inl (dmf))))) (H400 : mj_rd h 400 = some (.inr (17, [.int th, .ref 401, .ref 402, ty, .long sd, .long be, .ref 410, wa, nw, nx, .ref 411]))) (H410 : mj_rd h 410 = some (.inr (18, [.ref E, .int (nI g), .int mc]))) (hn : ∀ (l6 l7 l8 l9 : Option Value) (h' : mj_H), mj_rd h' 400 = some (.inr (17, [.int (nI 0), .ref 401, .ref 402, ty, .long sd, .long be, .ref 410, wa, nw, nx, .ref 411])) ∧ (∃ of1 df1 : Nat → Int32, mj_rd h' 393 = some (.inr (9, [.ref 394, .ref 395, .ref 396, .int (nI g), .int (nI (mkG G g).2.2)])) ∧ mj_rd h' 395 = some (.inl (0, (8, .inl of1))) ∧ mj_rd h' 396 = some (.inl (0, (24, .inl df1)))) ∧ mz_fr [393, 395, 396, 400] h h' ∧ h'.length ≤ N + 36 ∧ mj_sz h' ≤ mj_sz h + 1500 → mj_lrun L xs (28, [some (.retAddr 1), some (.ref 0), some (.ref 400), some (.ref 412), some (.ref 413), some (.int (nI (i + 4))), l6, l7, l8, l9], [], h') P) : mj_lrun L xs (28, [some (.retAddr 1), some (.ref 0), some (.ref 400), some (.ref 412), some (.ref 413), some (.int (nI i)), l6, l7, l8, l9], [], h) P := by
  have hmk := mkG_ok (G := G) (n := g) (fun j hj => (hG1 j hj).2)
  refine l_ild (p' := 30) rfl rfl rfl rfl ?_
  refine l_alds (p' := 31) rfl rfl rfl rfl ?_
  refine l_lens (p' := 32) rfl rfl rfl ?_
  refine l_con (p' := 33) rfl rfl rfl ?_
  refine l_bz (p' := 34) (z := (nI (L - 4))) rfl rfl rfl rfl rfl (mI_sub (by omega)) ?_
  refine l_icmp (p' := 37) false rfl rfl ((ci_gt (by omega) (by omega)).trans (decide_eq_false (by omega))) rfl ?_
  refine l_alds (p' := 38) rfl rfl rfl rfl ?_
  refine l_ild (p' := 40) rfl rfl rfl rfl ?_
  refine l_ialz (p' := 41) (m := i) (z := (xs i)) rfl rfl (inb_nI (by omega) (by omega)) (mI_cl (by omega)) rfl rfl ?_
  refine l_bip (p' := 43) rfl rfl rfl ?_
  refine l_bz (p' := 44) (z := (nI 36)) rfl rfl rfl rfl rfl hk ?_
  refine l_sp (p' := 2080) (ls' := _) rfl rfl rfl rfl rfl ?_
  refine l_aldn (p' := 2081) rfl rfl rfl rfl ?_
  refine l_call (p' := 2084) (kc := 99) (ls0 := [_]) rfl rfl rfl rfl rfl rfl (mj_rcv_is H0) rfl rfl rfl ?_
  refine s_aldn (p' := 1) rfl rfl rfl ?_
  refine s_gf (p' := 4) rfl H0 rfl rfl ?_
  refine s_callEV (p' := 7) (ls0 := [_, _, _]) rfl rfl rfl rfl rfl (mj_rcv_is H393) rfl (x_mk (by decide) (by decide) (by decide) (by decide) (by decide) H393 H394 H395 H396 hG1 hg24) rfl rfl ?_
  rintro _ h1 ⟨rfl, ⟨of1, df1, k1, k2, k3, k4, k5⟩, k6⟩
  refine k_iret rfl rfl ?_
  refine l_aldn (p' := 2085) rfl rfl rfl rfl ?_
  refine l_call (p' := 2088) (kc := 99) (ls0 := [_]) rfl rfl rfl rfl rfl rfl (mj_rcv_is (k6.1 400 (by simp <;> omega) _ H400)) rfl rfl rfl ?_
  refine s_aldn (p' := 1) rfl rfl rfl ?_
  refine s_con (p' := 2) rfl rfl ?_
  refine s_pfz (p' := 5) (fs' := [_, _, _, _, _, _, _, _, _, _, _]) rfl rfl (k6.1 400 (by simp <;> omega) _ H400) rfl rfl rfl rfl ?_
  refine s_aldn (p' := 6) rfl rfl rfl ?_
  refine s_callEV (p' := 9) (ls0 := [_, _, _, _, _, _, _, _]) rfl rfl rfl rfl rfl (mj_rcv_is (rd_ss rfl (k6.1 400 (by simp <;> omega) _ H400))) rfl (y_mks (len_s (k6.leq HL)) (by omega) (rd_ss rfl (k6.1 400 (by simp <;> omega) _ H400)) (rd_sn rfl (k6.1 410 (by simp <;> omega) _ H410)) (rdA_sn (beq_eq_false_iff_ne.mpr (by omega)) (k6.1.A (by simp <;> omega) hEA)) hG2 hg24 hgc hc31) rfl rfl ?_
  rintro _ h2 ⟨B, EB, rfl, kN, kL, k24, kok, kmo⟩
  have kL0 := kL
  obtain ⟨capB, mcB, efB, kB, _⟩ := kL0
  refine c_call (p' := 14) (kc := 98) (ls0 := [_]) rfl rfl rfl rfl rfl (mj_rcv_is kB) rfl rfl rfl ?_
  refine s_aldn (p' := 1) rfl rfl rfl ?_
  refine s_gf (p' := 4) rfl kB rfl rfl ?_
  refine c_iret rfl rfl ?_
  refine k_iret rfl rfl ?_
  refine l_icmp (p' := 2541) true rfl rfl (decide_eq_true rfl) rfl ?_
  refine l_incz (p' := 2544) (w := (nI (i + 4))) (ls' := [_, _, _, _, _, _, _, _, _, _]) rfl rfl rfl rfl (mI_add _ _) rfl rfl ?_
  refine l_goto (p' := 28) rfl rfl rfl ?_
  exact hn _ _ _ _ _ ⟨(kmo.1 400 (by simp <;> omega) _ (rd_ss rfl (k6.1 400 (by simp <;> omega) _ H400))), ⟨of1, df1, (kmo.1 393 (by simp <;> omega) _ (rd_sn rfl k1)), (kmo.1 395 (by simp <;> omega) _ (rd_sn rfl k2)), (kmo.1 396 (by simp <;> omega) _ (rd_sn rfl k3))⟩, ((mz_fr.s (by decide) ((mz_fr.rf _ h).tr2 k6.1 (fun y hy => Or.inl (by simp at hy ⊢ <;> omega)))).tr2 kmo.1 (fun y hy => Or.inl (by simp at hy ⊢ <;> omega))), (Nat.le_trans (kmo.len (Nat.le_of_eq (len_s (k6.leq HL))) rfl) (by omega)), (Nat.le_trans (kmo.sz (K := 1500) (sz_s rfl (k6.1 400 (by simp <;> omega) _ H400) rfl (k6.sz (K := 0) (Nat.le_refl (mj_sz h)) (by omega) rfl)) (by omega) rfl) (by omega))⟩
