/-! Rounds on any state: cycles and orders. -/
theorem mz_fr.g {L : List Nat} {h g l : mj_H} {k z : Nat} (hg : mz_gr k z g l) (f : mz_fr L h g) : mz_fr L h l := fun x hx c q => hg.1 x c (f x hx c q)
theorem mz_gr.len {k z N m : Nat} {g l : mj_H} (hg : mz_gr k z g l) (h : g.length ≤ N) (hm : N + k = m) : l.length ≤ m := by
  have := hg.2.2.1
  omega
theorem mz_gr.sz {k z K n m : Nat} {g l : mj_H} (hg : mz_gr k z g l) (h : mj_sz g ≤ n) (hk : z ≤ K) (hm : n + K = m) : mj_sz l ≤ m := by
  have := hg.2.2.2
  omega
theorem lecd (P : Nat → Nat) : ∃ bf : Nat → Nat, ∀ v, v < 8 → bf v = 1 ∧ lec P v ∨ bf v = 0 ∧ ¬ lec P v := by
  refine ⟨fun v => if (List.range (cy P v)).all (fun i => decide (1 ≤ i → v < it P i v)) = true then 1 else 0, fun v _ => ?_⟩
  dsimp only
  by_cases q : lec P v
  · refine Or.inl ⟨if_pos ?_, q⟩
    rw [List.all_eq_true]
    exact fun i hi => decide_eq_true (fun h1 => q i h1 (List.mem_range.mp hi))
  · refine Or.inr ⟨if_neg (fun e => q fun i h1 h2 => ?_), q⟩
    rw [List.all_eq_true] at e
    exact of_decide_eq_true (e i (List.mem_range.mpr h2)) h1
theorem w_39 {L i N : Nat} {xs : Nat → Int32} {h : mj_H} {l6 l7 l8 l9 : Option Value} {P : mj_H → Prop} (hL : L ≤ 2048) (hi : i + 4 ≤ L) (hN : N + 2000 < mj_CB) (hN0 : 414 ≤ N) (HL : h.length = N) (hk : xs i &&& nI 63 = nI 39) {gs pl ty wa nw nx dp ca mf : Value} {th : Int32} {sd be : Int64} {ou : Nat → Int64} {vf wf sf uf im jm : Nat → Int32} {k g : Nat} (hk20 : k ≤ 20) (hvw : ∀ j, j < 8 → wf j = vf j) (hsu : ∀ j, j < k → uf j = sf j) (him : ∀ j, j < 8 → jm j = im j) {pe pm ge gm : Value} {q : Nat} (hq6 : q ≤ 6) (hg24 : g ≤ 24) {rf : Nat → Int32} {E cap : Nat} {mc : Int32} {ef : Nat → Option Nat} {G : Nat → Nat} (hG1 : ∀ j, j < g → rf j = nI (G j)) (hG : ∀ j, j < g → isG (G j)) (hE0 : 414 ≤ E) (hEA : mj_rdA h E = some (6, (cap, .inr (.inr (.inr (.inr ef)))))) (hG2 : ∀ j, j < g → ef j = some (1000138 + G j)) (hgc : g ≤ cap) (hc31 : cap < 1000)   (H0 : mj_rd h 0 = some (.inr (0, [.ref 1, .ref 38, .ref 299, .ref 336, .ref 373, .ref 375, .ref 378, .ref 381, .ref 387, .ref 393, gs, pl, .ref 397, .ref 398, .ref 399, .long sd, .long be]))) (H393 : mj_rd h 393 = some (.inr (9, [.ref 394, .ref 395, .ref 396, .int (nI g), mf]))) (H394 : mj_rd h 394 = some (.inl (0, (24, .inl (rf))))) (H400 : mj_rd h 400 = some (.inr (17, [.int th, .ref 401, .ref 402, ty, .long sd, .long be, .ref 410, wa, nw, nx, .ref 411]))) (H410 : mj_rd h 410 = some (.inr (18, [.ref E, .int (nI g), .int mc]))) (hn : ∀ (l6 l7 l8 l9 : Option Value) (h' : mj_H), mj_rd h' 400 = some (.inr (17, [.int (nI 0), .ref 401, .ref 402, ty, .long sd, .long be, .ref 410, wa, nw, nx, .ref 411])) ∧ mz_fr [400] h h' ∧ h'.length ≤ N + 64 ∧ mj_sz h' ≤ mj_sz h + 256 → mj_lrun L xs (28, [some (.retAddr 1), some (.ref 0), some (.ref 400), some (.ref 412), some (.ref 413), some (.int (nI (i + 4))), l6, l7, l8, l9], [], h') P) : mj_lrun L xs (28, [some (.retAddr 1), some (.ref 0), some (.ref 400), some (.ref 412), some (.ref 413), some (.int (nI i)), l6, l7, l8, l9], [], h) P := by
  obtain ⟨bf, hbf⟩ := lecd (thr G g 0)
  refine l_ild (p' := 30) rfl rfl rfl rfl ?_
  refine l_alds (p' := 31) rfl rfl rfl rfl ?_
  refine l_lens (p' := 32) rfl rfl rfl ?_
  refine l_con (p' := 33) rfl rfl rfl ?_
  refine l_bz (p' := 34) (z := (nI (L - 4))) rfl rfl rfl rfl rfl (mI_sub (by omega)) ?_
  refine l_icmp (p' := 37) false rfl rfl ((ci_gt (by omega) (by omega)).trans (decide_eq_false (by omega))) rfl ?_
  refine l_alds (p' := 38) rfl rfl rfl rfl ?_
  refine l_ild (p' := 40) rfl rfl rfl rfl ?_
  refine l_ialz (p' := 41) (m := i) (z := (xs i)) rfl rfl (inb_nI (by omega) (by omega)) (mI_cl (by omega)) rfl rfl ?_
  refine l_bip (p' := 43) rfl rfl rfl ?_
  refine l_bz (p' := 44) (z := (nI 39)) rfl rfl rfl rfl rfl hk ?_
  refine l_sp (p' := 2162) (ls' := _) rfl rfl rfl rfl rfl ?_
  refine l_aldn (p' := 2163) rfl rfl rfl rfl ?_
  refine l_callV (p' := 2166) (kc := 3) (ls0 := [_, _, _]) rfl rfl rfl rfl rfl rfl (mj_rcv_is H0) rfl (x_cs H393 H394 hG1 hG hg24 hbf H0) (by decide) rfl ?_
  refine l_aldn (p' := 2167) rfl rfl rfl rfl ?_
  refine l_call (p' := 2170) (kc := 99) (ls0 := [_, _, _]) rfl rfl rfl rfl rfl rfl (mj_rcv_is H400) rfl rfl rfl ?_
  refine s_aldn (p' := 1) rfl rfl rfl ?_
  refine s_con (p' := 2) rfl rfl ?_
  refine s_pfz (p' := 5) (fs' := [_, _, _, _, _, _, _, _, _, _, _]) rfl rfl H400 rfl rfl rfl rfl ?_
  refine s_con (p' := 6) rfl rfl ?_
  refine s_istn (p' := 7) (ls' := [_, _, _]) rfl rfl rfl rfl ?_
  refine s_con (p' := 8) rfl rfl ?_
  refine s_istn (p' := 9) (ls' := [_, _, _]) rfl rfl rfl rfl ?_
  refine mj_Wp.mono (k := 5) ?_ (by decide)
  refine y_csL hG hg24 hbf 8 0 0 _ rfl (Nat.le_refl 0) ⟨E, cap, mc, ef, _, _, _, _, _, _, _, _, _, _, (rd_ss rfl H400), (rd_sn rfl H410), (rdA_sn (beq_eq_false_iff_ne.mpr (by omega)) hEA), hgc, hc31, hG2⟩ (by rw [(len_s HL)]; omega) ?_
  intro hz hg
  rw [Nat.zero_add]
  refine s_ildn (p' := 38) rfl rfl rfl ?_
  refine k_iret rfl rfl ?_
  refine l_icmp (p' := 2541) true rfl rfl (decide_eq_true rfl) rfl ?_
  refine l_incz (p' := 2544) (w := (nI (i + 4))) (ls' := [_, _, _, _, _, _, _, _, _, _]) rfl rfl rfl rfl (mI_add _ _) rfl rfl ?_
  refine l_goto (p' := 28) rfl rfl rfl ?_
  exact hn _ _ _ _ _ ⟨(hg.1 _ _ (rd_ss rfl H400)), (mz_fr.g hg (mz_fr.s (by decide) (mz_fr.rf _ h))), (Nat.le_trans (hg.len (Nat.le_of_eq (len_s HL)) rfl) (by omega)), (Nat.le_trans (hg.sz (K := 256) (sz_s rfl H400 rfl (Nat.le_refl (mj_sz h))) (by omega) rfl) (by omega))⟩
theorem w_40 {L i N : Nat} {xs : Nat → Int32} {h : mj_H} {l6 l7 l8 l9 : Option Value} {P : mj_H → Prop} (hL : L ≤ 2048) (hi : i + 4 ≤ L) (hN : N + 2000 < mj_CB) (hN0 : 414 ≤ N) (HL : h.length = N) (hk : xs i &&& nI 63 = nI 40) {gs pl ty wa nw nx dp ca mf : Value} {th : Int32} {sd be : Int64} {ou : Nat → Int64} {vf wf sf uf im jm : Nat → Int32} {k g : Nat} (hk20 : k ≤ 20) (hvw : ∀ j, j < 8 → wf j = vf j) (hsu : ∀ j, j < k → uf j = sf j) (him : ∀ j, j < 8 → jm j = im j) {pe pm ge gm : Value} {q : Nat} (hq6 : q ≤ 6) (hg24 : g ≤ 24) {rf : Nat → Int32} {E cap : Nat} {mc : Int32} {ef : Nat → Option Nat} {G : Nat → Nat} (hG1 : ∀ j, j < g → rf j = nI (G j)) (hG : ∀ j, j < g → isG (G j)) (hE0 : 414 ≤ E) (hEA : mj_rdA h E = some (6, (cap, .inr (.inr (.inr (.inr ef)))))) (hG2 : ∀ j, j < g → ef j = some (1000138 + G j)) (hgc : g ≤ cap) (hc31 : cap < 1000)   (H0 : mj_rd h 0 = some (.inr (0, [.ref 1, .ref 38, .ref 299, .ref 336, .ref 373, .ref 375, .ref 378, .ref 381, .ref 387, .ref 393, gs, pl, .ref 397, .ref 398, .ref 399, .long sd, .long be]))) (H393 : mj_rd h 393 = some (.inr (9, [.ref 394, .ref 395, .ref 396, .int (nI g), mf]))) (H394 : mj_rd h 394 = some (.inl (0, (24, .inl (rf))))) (H400 : mj_rd h 400 = some (.inr (17, [.int th, .ref 401, .ref 402, ty, .long sd, .long be, .ref 410, wa, nw, nx, .ref 411]))) (H410 : mj_rd h 410 = some (.inr (18, [.ref E, .int (nI g), .int mc]))) (hn : ∀ (l6 l7 l8 l9 : Option Value) (h' : mj_H), mj_rd h' 400 = some (.inr (17, [.int (nI 0), .ref 401, .ref 402, ty, .long sd, .long be, .ref 410, wa, nw, nx, .ref 411])) ∧ mz_fr [400] h h' ∧ h'.length ≤ N + 960 ∧ mj_sz h' ≤ mj_sz h + 3840 → mj_lrun L xs (28, [some (.retAddr 1), some (.ref 0), some (.ref 400), some (.ref 412), some (.ref 413), some (.int (nI (i + 4))), l6, l7, l8, l9], [], h') P) : mj_lrun L xs (28, [some (.retAddr 1), some (.ref 0), some (.ref 400), some (.ref 412), some (.ref 413), some (.int (nI i)), l6, l7, l8, l9], [], h) P := by
  have ho1 := oc_pos (P := thr G g 0) (fun v hv => P_lt hG hv) (fun v w hv hw => P_inj hG hv hw)
  have ho2 := oc_le (P := thr G g 0) (fun v hv => P_lt hG hv) (fun v w hv hw => P_inj hG hv hw)
  refine l_ild (p' := 30) rfl rfl rfl rfl ?_
  refine l_alds (p' := 31) rfl rfl rfl rfl ?_
  refine l_lens (p' := 32) rfl rfl rfl ?_
  refine l_con (p' := 33) rfl rfl rfl ?_
  refine l_bz (p' := 34) (z := (nI (L - 4))) rfl rfl rfl rfl rfl (mI_sub (by omega)) ?_
  refine l_icmp (p' := 37) false rfl rfl ((ci_gt (by omega) (by omega)).trans (decide_eq_false (by omega))) rfl ?_
  refine l_alds (p' := 38) rfl rfl rfl rfl ?_
  refine l_ild (p' := 40) rfl rfl rfl rfl ?_
  refine l_ialz (p' := 41) (m := i) (z := (xs i)) rfl rfl (inb_nI (by omega) (by omega)) (mI_cl (by omega)) rfl rfl ?_
  refine l_bip (p' := 43) rfl rfl rfl ?_
  refine l_bz (p' := 44) (z := (nI 40)) rfl rfl rfl rfl rfl hk ?_
  refine l_sp (p' := 2175) (ls' := _) rfl rfl rfl rfl rfl ?_
  refine l_aldn (p' := 2176) rfl rfl rfl rfl ?_
  refine l_callV (p' := 2179) (kc := 4) (ls0 := [_, _, _]) rfl rfl rfl rfl rfl rfl (mj_rcv_is H0) rfl (x_or H393 H394 hG1 hG hg24 H0) (by decide) rfl ?_
  refine l_aldn (p' := 2180) rfl rfl rfl rfl ?_
  refine l_call (p' := 2183) (kc := 99) (ls0 := [_, _, _, _]) rfl rfl rfl rfl rfl rfl (mj_rcv_is H400) rfl rfl rfl ?_
  refine s_aldn (p' := 1) rfl rfl rfl ?_
  refine s_con (p' := 2) rfl rfl ?_
  refine s_pfz (p' := 5) (fs' := [_, _, _, _, _, _, _, _, _, _, _]) rfl rfl H400 rfl rfl rfl rfl ?_
  refine s_con (p' := 6) rfl rfl ?_
  refine s_istn (p' := 7) (ls' := [_, _, _, _]) rfl rfl rfl rfl ?_
  refine s_con (p' := 8) rfl rfl ?_
  refine s_istn (p' := 9) (ls' := [_, _, _, _]) rfl rfl rfl rfl ?_
  refine mj_Wp.mono (k := 5) ?_ (by decide)
  refine y_orL hG hg24 (oc (thr G g 0) - 1) 1 _ _ (by omega) (by omega) ⟨E, cap, mc, ef, _, _, _, _, _, _, _, _, _, _, (rd_ss rfl H400), (rd_sn rfl H410), (rdA_sn (beq_eq_false_iff_ne.mpr (by omega)) hEA), hgc, hc31, hG2⟩ (by rw [(len_s HL)]; omega) ?_
  intro hz hg
  replace hg : mz_gr 960 3840 _ hz := hg.tr (mz_gr.rf 0 0 _) (by omega) (by omega)
  refine s_ildn (p' := 63) rfl rfl rfl ?_
  refine k_iret rfl rfl ?_
  refine l_icmp (p' := 2541) true rfl rfl (decide_eq_true rfl) rfl ?_
  refine l_incz (p' := 2544) (w := (nI (i + 4))) (ls' := [_, _, _, _, _, _, _, _, _, _]) rfl rfl rfl rfl (mI_add _ _) rfl rfl ?_
  refine l_goto (p' := 28) rfl rfl rfl ?_
  exact hn _ _ _ _ _ ⟨(hg.1 _ _ (rd_ss rfl H400)), (mz_fr.g hg (mz_fr.s (by decide) (mz_fr.rf _ h))), (Nat.le_trans (hg.len (Nat.le_of_eq (len_s HL)) rfl) (by omega)), (Nat.le_trans (hg.sz (K := 3840) (sz_s rfl H400 rfl (Nat.le_refl (mj_sz h))) (by omega) rfl) (by omega))⟩
