/-! Rounds on any state: turnRound and simplify. -/
theorem mz_mo.len {L : List Nat} {k z N m : Nat} {g l : mj_H} (hg : mz_mo L k z g l) (h : g.length ≤ N) (hm : N + k = m) : l.length ≤ m := by
  have := hg.2.2.1
  omega
theorem mz_mo.leq {L : List Nat} {z N : Nat} {g l : mj_H} (hg : mz_mo L 0 z g l) (h : g.length = N) : l.length = N := by
  have := hg.2.1
  have := hg.2.2.1
  omega
theorem mz_mo.sz {L : List Nat} {k z K n m : Nat} {g l : mj_H} (hg : mz_mo L k z g l) (h : mj_sz g ≤ n) (hk : z ≤ K) (hm : n + K = m) : mj_sz l ≤ m := by
  have := hg.2.2.2
  omega
theorem w_34 {L i N : Nat} {xs : Nat → Int32} {h : mj_H} {l6 l7 l8 l9 : Option Value} {P : mj_H → Prop} (hL : L ≤ 2048) (hi : i + 4 ≤ L) (hN : N + 2000 < mj_CB) (hN0 : 414 ≤ N) (HL : h.length = N) (hk : xs i &&& nI 63 = nI 34) {gs pl ty wa nw nx dp ca mf : Value} {th : Int32} {sd be : Int64} {ou : Nat → Int64} {vf wf sf uf im jm : Nat → Int32} {k g : Nat} (hk20 : k ≤ 20) (hvw : ∀ j, j < 8 → wf j = vf j) (hsu : ∀ j, j < k → uf j = sf j) (him : ∀ j, j < 8 → jm j = im j) {pe pm ge gm : Value} {q : Nat} (hq6 : q ≤ 6) (hg24 : g ≤ 24) {rf : Nat → Int32} {E cap : Nat} {mc : Int32} {ef : Nat → Option Nat} {G : Nat → Nat} (hG1 : ∀ j, j < g → rf j = nI (G j) ∧ G j < 24) (hE0 : 414 ≤ E) (hEN : E < N ∨ E = 1000000) (hEA : mj_rdA h E = some (6, (cap, objs ef))) (hG2 : ∀ j, j < g → ef j = some (1000138 + G j) ∧ G j < 24) (hgc : g ≤ cap) (hc31 : cap < 1000) (hE3 : E < mj_CB ∧ 0 < cap ∨ E = 1000000 ∧ cap = 0)   (H0 : mj_rd h 0 = some (.inr (0, [.ref 1, .ref 38, .ref 299, .ref 336, .ref 373, .ref 375, .ref 378, .ref 381, .ref 387, .ref 393, gs, pl, .ref 397, .ref 398, .ref 399, .long sd, .long be]))) (H393 : mj_rd h 393 = some (.inr (9, [.ref 394, .ref 395, .ref 396, .int (nI g), mf]))) (H394 : mj_rd h 394 = some (.inl (0, (24, .inl (rf))))) (H400 : mj_rd h 400 = some (.inr (17, [.int th, .ref 401, .ref 402, ty, .long sd, .long be, .ref 410, wa, nw, nx, .ref 411]))) (H410 : mj_rd h 410 = some (.inr (18, [.ref E, .int (nI g), .int mc]))) (hn : ∀ (l6 l7 l8 l9 : Option Value) (h' : mj_H), mj_rd h' 394 = some (.inl (0, (24, .inl ((rvF rf g))))) ∧ mj_rd h' 400 = some (.inr (17, [.int (nI 0), .ref 401, .ref 402, ty, .long sd, .long be, .ref 410, wa, nw, nx, .ref 411])) ∧ (∃ (mc' : Int32) (ef' : Nat → Option Nat), mj_rd h' 410 = some (alC E g mc') ∧ mj_rdA h' E = some (6, (cap, objs ef')) ∧ ∀ j, j < g → ef' j = some (1000138 + G (g - 1 - j))) ∧ mz_fr [394, 400, 410, E] h h' ∧ h'.length ≤ N + 27 ∧ mj_sz h' ≤ mj_sz h + 1504 → mj_lrun L xs (28, [some (.retAddr 1), some (.ref 0), some (.ref 400), some (.ref 412), some (.ref 413), some (.int (nI (i + 4))), l6, l7, l8, l9], [], h') P) : mj_lrun L xs (28, [some (.retAddr 1), some (.ref 0), some (.ref 400), some (.ref 412), some (.ref 413), some (.int (nI i)), l6, l7, l8, l9], [], h) P := by
  refine l_ild (p' := 30) rfl rfl rfl rfl ?_
  refine l_alds (p' := 31) rfl rfl rfl rfl ?_
  refine l_lens (p' := 32) rfl rfl rfl ?_
  refine l_con (p' := 33) rfl rfl rfl ?_
  refine l_bz (p' := 34) (z := (nI (L - 4))) rfl rfl rfl rfl rfl (mI_sub (by omega)) ?_
  refine l_icmp (p' := 37) false rfl rfl ((ci_gt (by omega) (by omega)).trans (decide_eq_false (by omega))) rfl ?_
  refine l_alds (p' := 38) rfl rfl rfl rfl ?_
  refine l_ild (p' := 40) rfl rfl rfl rfl ?_
  refine l_ialz (p' := 41) (m := i) (z := (xs i)) rfl rfl (inb_nI (by omega) (by omega)) (mI_cl (by omega)) rfl rfl ?_
  refine l_bip (p' := 43) rfl rfl rfl ?_
  refine l_bz (p' := 44) (z := (nI 34)) rfl rfl rfl rfl rfl hk ?_
  refine l_sp (p' := 2054) (ls' := _) rfl rfl rfl rfl rfl ?_
  refine l_aldn (p' := 2055) rfl rfl rfl rfl ?_
  refine l_call (p' := 2058) (kc := 99) (ls0 := [_]) rfl rfl rfl rfl rfl rfl (mj_rcv_is H0) rfl rfl rfl ?_
  refine s_aldn (p' := 1) rfl rfl rfl ?_
  refine s_gf (p' := 4) rfl H0 rfl rfl ?_
  refine s_callN (p' := 7) (kc := 1) (ls0 := [_, _, _, _]) rfl rfl rfl rfl rfl (mj_rcv_is H393) rfl (x_rv (by decide) H393 H394 hg24) (by decide) rfl ?_
  refine s_aldn (p' := 8) rfl rfl rfl ?_
  refine s_gf (p' := 11) rfl (rd_sn rfl H0) rfl rfl ?_
  refine c_call (p' := 14) (kc := 98) (ls0 := [_]) rfl rfl rfl rfl rfl (mj_rcv_is (rd_sn rfl H393)) rfl rfl rfl ?_
  refine s_aldn (p' := 1) rfl rfl rfl ?_
  refine s_gf (p' := 4) rfl (rd_sn rfl H393) rfl rfl ?_
  refine c_iret rfl rfl ?_
  refine k_iret rfl rfl ?_
  refine l_aldn (p' := 2059) rfl rfl rfl rfl ?_
  refine l_call (p' := 2062) (kc := 99) (ls0 := [_, _, _, _]) rfl rfl rfl rfl rfl rfl (mj_rcv_is (rd_sn rfl H400)) rfl rfl rfl ?_
  refine s_aldn (p' := 1) rfl rfl rfl ?_
  refine s_con (p' := 2) rfl rfl ?_
  refine s_pfz (p' := 5) (fs' := [_, _, _, _, _, _, _, _, _, _, _]) rfl rfl (rd_sn rfl H400) rfl rfl rfl rfl ?_
  refine mj_Wp.mono (k := 9) ?_ (by decide)
  refine y_tr (len_s (len_s HL)) (by omega) (rd_ss rfl (rd_sn rfl H400)) (rd_sn rfl (rd_sn rfl H410)) (rdA_sn (beq_eq_false_iff_ne.mpr (by omega)) (rdA_sn (beq_eq_false_iff_ne.mpr (by omega)) hEA)) hG2 hg24 hgc hc31 ?_
  intro mc' ef' l1 l2 l3 hz k1 k2 k3 k4
  replace k4 : mz_mo [410, E] 27 1504 _ hz := k4.wk (fun _ hy => Or.inl hy) (by omega) (by omega)
  refine s_aldn (p' := 80) rfl rfl rfl ?_
  refine s_gf (p' := 83) rfl (k4.1 400 (by simp <;> omega) _ (rd_ss rfl (rd_sn rfl H400))) rfl rfl ?_
  refine c_call (p' := 88) (kc := 8) (ls0 := [_]) rfl rfl rfl rfl rfl (mj_rcv_is k1) rfl rfl rfl ?_
  refine s_aldn (p' := 1) rfl rfl rfl ?_
  refine s_gf (p' := 4) rfl k1 rfl rfl ?_
  refine c_iret rfl rfl ?_
  refine k_iret rfl rfl ?_
  refine l_icmp (p' := 2541) true rfl rfl (decide_eq_true rfl) rfl ?_
  refine l_incz (p' := 2544) (w := (nI (i + 4))) (ls' := [_, _, _, _, _, _, _, _, _, _]) rfl rfl rfl rfl (mI_add _ _) rfl rfl ?_
  refine l_goto (p' := 28) rfl rfl rfl ?_
  exact hn _ _ _ _ _ ⟨(k4.1 394 (by simp <;> omega) _ (rd_sn rfl (rd_ss rfl H394))), (k4.1 400 (by simp <;> omega) _ (rd_ss rfl (rd_sn rfl H400))), ⟨mc', ef', k1, k2, k3⟩, ((mz_fr.s (by simp) (mz_fr.s (by simp) (mz_fr.rf _ h))).tr2 k4.1 (fun y hy => Or.inl (by simp at hy ⊢ <;> omega))), (Nat.le_trans (k4.len (Nat.le_of_eq (len_s (len_s HL))) rfl) (by omega)), (Nat.le_trans (k4.sz (K := 1504) (sz_s rfl (rd_sn rfl H400) rfl (sz_sA rfl H394 (Nat.le_refl (mj_sz h)))) (by omega) rfl) (by omega))⟩
theorem w_35 {L i N : Nat} {xs : Nat → Int32} {h : mj_H} {l6 l7 l8 l9 : Option Value} {P : mj_H → Prop} (hL : L ≤ 2048) (hi : i + 4 ≤ L) (hN : N + 2000 < mj_CB) (hN0 : 414 ≤ N) (HL : h.length = N) (hk : xs i &&& nI 63 = nI 35) {gs pl ty wa nw nx dp ca mf : Value} {th : Int32} {sd be : Int64} {ou : Nat → Int64} {vf wf sf uf im jm : Nat → Int32} {k g : Nat} (hk20 : k ≤ 20) (hvw : ∀ j, j < 8 → wf j = vf j) (hsu : ∀ j, j < k → uf j = sf j) (him : ∀ j, j < 8 → jm j = im j) {pe pm ge gm : Value} {q : Nat} (hq6 : q ≤ 6) (hg24 : g ≤ 24) {rf : Nat → Int32} {E cap : Nat} {mc : Int32} {ef : Nat → Option Nat} {G : Nat → Nat} (hG1 : ∀ j, j < g → rf j = nI (G j) ∧ G j < 24) (hE0 : 414 ≤ E) (hEN : E < N ∨ E = 1000000) (hEA : mj_rdA h E = some (6, (cap, objs ef))) (hG2 : ∀ j, j < g → ef j = some (1000138 + G j) ∧ G j < 24) (hgc : g ≤ cap) (hc31 : cap < 1000) (hE3 : E < mj_CB ∧ 0 < cap ∨ E = 1000000 ∧ cap = 0)   (H0 : mj_rd h 0 = some (.inr (0, [.ref 1, .ref 38, .ref 299, .ref 336, .ref 373, .ref 375, .ref 378, .ref 381, .ref 387, .ref 393, gs, pl, .ref 397, .ref 398, .ref 399, .long sd, .long be]))) (H393 : mj_rd h 393 = some (.inr (9, [.ref 394, .ref 395, .ref 396, .int (nI g), mf]))) (H394 : mj_rd h 394 = some (.inl (0, (24, .inl (rf))))) (H400 : mj_rd h 400 = some (.inr (17, [.int th, .ref 401, .ref 402, ty, .long sd, .long be, .ref 410, wa, nw, nx, .ref 411]))) (H410 : mj_rd h 410 = some (.inr (18, [.ref E, .int (nI g), .int mc]))) (hn : ∀ (l6 l7 l8 l9 : Option Value) (h' : mj_H), mj_rd h' 393 = some (.inr (9, [.ref 394, .ref 395, .ref 396, .int (nI (smp 12 G g).2), mf])) ∧ mj_rd h' 400 = some (.inr (17, [.int (nI 0), .ref 401, .ref 402, ty, .long sd, .long be, .ref 410, wa, nw, nx, .ref 411])) ∧ (∃ rf2 : Nat → Int32, mj_rd h' 394 = some (.inl (0, (24, .inl rf2))) ∧ ∀ j, j < (smp 12 G g).2 → rf2 j = nI ((smp 12 G g).1 j) ∧ (smp 12 G g).1 j < 24) ∧ yLs h' 410 E (smp 12 G g).2 (gI (smp 12 G g).1) ∧ mz_fr [393, 394, 400, 410, E] h h' ∧ h'.length ≤ N + 0 ∧ mj_sz h' ≤ mj_sz h + 0 → mj_lrun L xs (28, [some (.retAddr 1), some (.ref 0), some (.ref 400), some (.ref 412), some (.ref 413), some (.int (nI (i + 4))), l6, l7, l8, l9], [], h') P) : mj_lrun L xs (28, [some (.retAddr 1), some (.ref 0), some (.ref 400), some (.ref 412), some (.ref 413), some (.int (nI i)), l6, l7, l8, l9], [], h) P := by
  have hsm := smp_in (T := fun x => x < 24) 12 G g (fun j hj => (hG1 j hj).2)
  refine l_ild (p' := 30) rfl rfl rfl rfl ?_
  refine l_alds (p' := 31) rfl rfl rfl rfl ?_
  refine l_lens (p' := 32) rfl rfl rfl ?_
  refine l_con (p' := 33) rfl rfl rfl ?_
  refine l_bz (p' := 34) (z := (nI (L - 4))) rfl rfl rfl rfl rfl (mI_sub (by omega)) ?_
  refine l_icmp (p' := 37) false rfl rfl ((ci_gt (by omega) (by omega)).trans (decide_eq_false (by omega))) rfl ?_
  refine l_alds (p' := 38) rfl rfl rfl rfl ?_
  refine l_ild (p' := 40) rfl rfl rfl rfl ?_
  refine l_ialz (p' := 41) (m := i) (z := (xs i)) rfl rfl (inb_nI (by omega) (by omega)) (mI_cl (by omega)) rfl rfl ?_
  refine l_bip (p' := 43) rfl rfl rfl ?_
  refine l_bz (p' := 44) (z := (nI 35)) rfl rfl rfl rfl rfl hk ?_
  refine l_sp (p' := 2067) (ls' := _) rfl rfl rfl rfl rfl ?_
  refine l_aldn (p' := 2068) rfl rfl rfl rfl ?_
  refine l_call (p' := 2071) (kc := 99) (ls0 := [_]) rfl rfl rfl rfl rfl rfl (mj_rcv_is H0) rfl rfl rfl ?_
  refine s_aldn (p' := 1) rfl rfl rfl ?_
  refine s_gf (p' := 4) rfl H0 rfl rfl ?_
  refine s_callEV (p' := 7) (ls0 := [_, _, _]) rfl rfl rfl rfl rfl (mj_rcv_is H393) rfl (x_dp (by decide) (by decide) H393 H394 hG1 hg24) rfl rfl ?_
  rintro _ h1 ⟨rfl, rf2, hf2, rfl⟩
  refine k_iret rfl rfl ?_
  refine l_aldn (p' := 2072) rfl rfl rfl rfl ?_
  refine l_call (p' := 2075) (kc := 99) (ls0 := [_, _, _, _]) rfl rfl rfl rfl rfl rfl (mj_rcv_is (rd_sn rfl (rd_sn rfl H400))) rfl rfl rfl ?_
  refine s_aldn (p' := 1) rfl rfl rfl ?_
  refine s_con (p' := 2) rfl rfl ?_
  refine s_pfz (p' := 5) (fs' := [_, _, _, _, _, _, _, _, _, _, _]) rfl rfl (rd_sn rfl (rd_sn rfl H400)) rfl rfl rfl rfl ?_
  refine s_aldn (p' := 6) rfl rfl rfl ?_
  refine s_gf (p' := 9) rfl (rd_ss rfl (rd_sn rfl (rd_sn rfl H400))) rfl rfl ?_
  refine c_call (p' := 14) (kc := 98) (ls0 := [_]) rfl rfl rfl rfl rfl (mj_rcv_is (rd_sn rfl (rd_sn rfl (rd_sn rfl H410)))) rfl rfl rfl ?_
  refine s_aldn (p' := 1) rfl rfl rfl ?_
  refine s_gf (p' := 4) rfl (rd_sn rfl (rd_sn rfl (rd_sn rfl H410))) rfl rfl ?_
  refine c_iret rfl rfl ?_
  refine s_istn (p' := 15) (ls' := [_, _, _, _]) rfl rfl rfl rfl ?_
  refine s_con (p' := 16) rfl rfl ?_
  refine s_istn (p' := 17) (ls' := [_, _, _, _]) rfl rfl rfl rfl ?_
  refine mj_Wp.mono (k := 6) ?_ (by decide)
  refine y_smL (by decide) (by omega) 12 g G _ (by omega) hg24 (rd_ss rfl (rd_sn rfl (rd_sn rfl H400))) ⟨cap, mc, ef, (rd_sn rfl (rd_sn rfl (rd_sn rfl H410))), (rdA_sn (beq_eq_false_iff_ne.mpr (by omega)) (rdA_sn (beq_eq_false_iff_ne.mpr (by omega)) (rdA_sn (beq_eq_false_iff_ne.mpr (by omega)) hEA))), hgc, hc31, hE3, fun j hj => ⟨(hG2 j hj).1, gE_k _ (hG2 j hj).2⟩⟩ (fun j hj => (hG2 j hj).2) (fun l3 hz N1 hN1 k0 k4 => ?_) g 0 none (by omega) rfl
  subst hN1
  obtain ⟨cap1, mc1, ef1, k1, k2, k3⟩ := k0
  refine s_ildn (p' := 75) rfl rfl rfl ?_
  refine s_aldn (p' := 76) rfl rfl rfl ?_
  refine s_gf (p' := 79) rfl (k4.1 400 (by simp <;> omega) _ (rd_ss rfl (rd_sn rfl (rd_sn rfl H400)))) rfl rfl ?_
  refine c_call (p' := 84) (kc := 5) (ls0 := [_]) rfl rfl rfl rfl rfl (mj_rcv_is k1) rfl rfl rfl ?_
  refine s_aldn (p' := 1) rfl rfl rfl ?_
  refine s_gf (p' := 4) rfl k1 rfl rfl ?_
  refine c_iret rfl rfl ?_
  refine s_bz (p' := 85) (z := (nI (g - (smp 12 G g).2))) rfl rfl rfl (mI_sub (by omega)) ?_
  refine k_iret rfl rfl ?_
  refine l_icmp (p' := 2541) true rfl rfl (decide_eq_true rfl) rfl ?_
  refine l_incz (p' := 2544) (w := (nI (i + 4))) (ls' := [_, _, _, _, _, _, _, _, _, _]) rfl rfl rfl rfl (mI_add _ _) rfl rfl ?_
  refine l_goto (p' := 28) rfl rfl rfl ?_
  exact hn _ _ _ _ _ ⟨(k4.1 393 (by simp <;> omega) _ (rd_sn rfl (rd_ss rfl (rd_sn rfl H393)))), (k4.1 400 (by simp <;> omega) _ (rd_ss rfl (rd_sn rfl (rd_sn rfl H400)))), ⟨rf2, (k4.1 394 (by simp <;> omega) _ (rd_sn rfl (rd_sn rfl (rd_ss rfl H394)))), hf2⟩, ⟨cap1, mc1, ef1, k1, k2, k3.1, k3.2.1, k3.2.2.1, k3.2.2.2⟩, ((mz_fr.s (by simp) (mz_fr.s (by simp) (mz_fr.s (by simp) (mz_fr.rf _ h)))).tr2 k4.1 (fun y hy => Or.inl (by simp at hy ⊢ <;> omega))), (Nat.le_trans (Nat.le_of_eq (k4.leq (len_s (len_s (len_s HL))))) (by omega)), (Nat.le_trans (k4.sz (K := 0) (sz_s rfl (rd_sn rfl (rd_sn rfl H400)) rfl (sz_s rfl (rd_sn rfl H393) rfl (sz_sA rfl H394 (Nat.le_refl (mj_sz h))))) (by omega) rfl) (by omega))⟩
