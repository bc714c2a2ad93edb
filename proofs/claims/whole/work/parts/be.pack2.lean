/-! Rows of values packed, joined. -/
theorem x_pkL {h : mj_H} {C R : Nat} {o1 o2 mf : Value} {rf : Nat → Int32} {G : Nat → Nat} {n : Nat} (hC : mj_rd h C = some (.inr (9, [.ref R, o1, o2, .int (nI n), mf]))) (hR : mj_rd h R = some (.inl (0, (24, .inl rf)))) (hG : ∀ j, j < n → rf j = nI (G j) ∧ G j < 24) (hn : n ≤ 24) : ∀ (m i : Nat), i + m = 8 → mj_run 2 43 (4, [some (.ref C), some (.int (nI (wS (fun v => thr G n 0 v) i))), some (.int (nI i))], [], h) (.inl (some (.int (nI (wS (fun v => thr G n 0 v) 8)))), h)
  | 0, i, he => by
    obtain rfl : i = 8 := by omega
    refine s_ildn (p' := 5) rfl rfl rfl ?_
    refine s_bip (p' := 7) rfl rfl ?_
    refine s_icmp (p' := 28) true rfl ((ci_ge (by omega) (by omega)).trans (decide_eq_true (by omega))) rfl ?_
    refine s_ildn (p' := 29) rfl rfl rfl ?_
    exact s_iret rfl rfl rfl
  | m + 1, i, he => by
    have hi : i < 8 := by omega
    have ht : ∀ v, v < 8 → thr G n 0 v < 8 := fun v hv => thr_lt (fun j hj => (hG j hj).2) n 0 v (Nat.zero_add n) hv
    refine s_ildn (p' := 5) rfl rfl rfl ?_
    refine s_bip (p' := 7) rfl rfl ?_
    refine s_icmp (p' := 10) false rfl ((ci_ge (by omega) (by omega)).trans (decide_eq_false (by omega))) rfl ?_
    refine s_ildn (p' := 11) rfl rfl rfl ?_
    refine s_aldn (p' := 12) rfl rfl rfl ?_
    refine s_ildn (p' := 13) rfl rfl rfl ?_
    refine s_callV (p' := 16) (ls0 := [_, _, _, _]) rfl rfl rfl rfl rfl (mj_rcv_is hC) rfl (x_out hC hR hG hn hi) (by first | decide | omega) rfl ?_
    refine s_con (p' := 17) rfl rfl ?_
    refine s_ildn (p' := 18) rfl rfl rfl ?_
    refine s_sp (p' := 19) (ls' := _) rfl rfl rfl ?_
    refine s_sp (p' := 20) (ls' := _) rfl rfl rfl ?_
    rw [shl3 (ht i hi) hi]
    refine s_sp (p' := 21) (ls' := _) rfl rfl rfl ?_
    rw [nor, wS_or (F := (fun v => thr G n 0 v)) (fun j hj => ht j (by omega))]
    refine s_istn (p' := 22) (ls' := [_, _, _]) rfl rfl rfl rfl ?_
    refine s_inc (p' := 25) (ls' := [_, _, _]) rfl rfl rfl rfl rfl ?_
    rw [mI_add]
    refine s_goto (p' := 4) rfl rfl ?_
    exact x_pkL hC hR hG hn m (i + 1) (by omega)
theorem x_pko {h : mj_H} {C R : Nat} {o1 o2 mf : Value} {rf : Nat → Int32} {G : Nat → Nat} {n : Nat} (hC : mj_rd h C = some (.inr (9, [.ref R, o1, o2, .int (nI n), mf]))) (hR : mj_rd h R = some (.inl (0, (24, .inl rf)))) (hG : ∀ j, j < n → rf j = nI (G j) ∧ G j < 24) (hn : n ≤ 24) : mj_run 2 43 (0, [some (.ref C), none, none], [], h) (.inl (some (.int (nI (wS (fun v => thr G n 0 v) 8)))), h) := by
  refine s_con (p' := 1) rfl rfl ?_
  refine s_istn (p' := 2) (ls' := [_, _, _]) rfl rfl rfl rfl ?_
  refine s_con (p' := 3) rfl rfl ?_
  refine s_istn (p' := 4) (ls' := [_, _, _]) rfl rfl rfl rfl ?_
  exact x_pkL hC hR hG hn 8 0 rfl
theorem x_jnL {h : mj_H} {o p : Nat} (ho : o < 16777216) (hp : p < 16777216) : ∀ (m i : Nat) (l4 : Option Value), i + m = 8 → mj_run 0 53 (4, [some (.int (nI o)), some (.int (nI p)), some (.int (nI (wS (fun j => vP p (vP o j)) i))), some (.int (nI i)), l4], [], h) (.inl (some (.int (nI (wS (fun j => vP p (vP o j)) 8)))), h)
  | 0, i, l4, he => by
    obtain rfl : i = 8 := by omega
    refine s_ildn (p' := 5) rfl rfl rfl ?_
    refine s_bip (p' := 7) rfl rfl ?_
    refine s_icmp (p' := 42) true rfl ((ci_ge (by omega) (by omega)).trans (decide_eq_true (by omega))) rfl ?_
    refine s_ildn (p' := 43) rfl rfl rfl ?_
    exact s_iret rfl rfl rfl
  | m + 1, i, l4, he => by
    have hi : i < 8 := by omega
    refine s_ildn (p' := 5) rfl rfl rfl ?_
    refine s_bip (p' := 7) rfl rfl ?_
    refine s_icmp (p' := 10) false rfl ((ci_ge (by omega) (by omega)).trans (decide_eq_false (by omega))) rfl ?_
    refine s_ildn (p' := 11) rfl rfl rfl ?_
    refine s_con (p' := 12) rfl rfl ?_
    refine s_ildn (p' := 13) rfl rfl rfl ?_
    refine s_sp (p' := 14) (ls' := _) rfl rfl rfl ?_
    refine s_sp (p' := 15) (ls' := _) rfl rfl rfl ?_
    refine s_bip (p' := 17) rfl rfl ?_
    refine s_sp (p' := 18) (ls' := _) rfl rfl rfl ?_
    rw [vP_I ho hi]
    refine s_ist (p' := 20) (ls' := [_, _, _, _, _]) rfl rfl rfl rfl ?_
    refine s_ildn (p' := 21) rfl rfl rfl ?_
    refine s_ildn (p' := 22) rfl rfl rfl ?_
    refine s_con (p' := 23) rfl rfl ?_
    refine s_ild (p' := 25) rfl rfl rfl ?_
    refine s_sp (p' := 26) (ls' := _) rfl rfl rfl ?_
    refine s_sp (p' := 27) (ls' := _) rfl rfl rfl ?_
    refine s_bip (p' := 29) rfl rfl ?_
    refine s_sp (p' := 30) (ls' := _) rfl rfl rfl ?_
    rw [vP_I hp (vP_lt o i)]
    refine s_con (p' := 31) rfl rfl ?_
    refine s_ildn (p' := 32) rfl rfl rfl ?_
    refine s_sp (p' := 33) (ls' := _) rfl rfl rfl ?_
    refine s_sp (p' := 34) (ls' := _) rfl rfl rfl ?_
    rw [shl3 (vP_lt p (vP o i)) hi]
    refine s_sp (p' := 35) (ls' := _) rfl rfl rfl ?_
    rw [nor, wS_or (F := (fun j => vP p (vP o j))) (fun j _ => vP_lt _ _)]
    refine s_istn (p' := 36) (ls' := [_, _, _, _, _]) rfl rfl rfl rfl ?_
    refine s_inc (p' := 39) (ls' := [_, _, _, _, _]) rfl rfl rfl rfl rfl ?_
    rw [mI_add]
    refine s_goto (p' := 4) rfl rfl ?_
    exact x_jnL ho hp m (i + 1) _ (by omega)
theorem x_jnd {h : mj_H} {o p : Nat} (ho : o < 16777216) (hp : p < 16777216) : mj_run 0 53 (0, [some (.int (nI o)), some (.int (nI p)), none, none, none], [], h) (.inl (some (.int (nI (wS (fun j => vP p (vP o j)) 8)))), h) := by
  refine s_con (p' := 1) rfl rfl ?_
  refine s_istn (p' := 2) (ls' := [_, _, _, _, _]) rfl rfl rfl rfl ?_
  refine s_con (p' := 3) rfl rfl ?_
  refine s_istn (p' := 4) (ls' := [_, _, _, _, _]) rfl rfl rfl rfl ?_
  exact x_jnL ho hp 8 0 none rfl
theorem y_pkL {h0 : mj_H} {x Lr E cap : Nat} {mc : Int32} {ef : Nat → Option Nat} {G : Nat → Nat} {n : Nat} (hb : h0.length + 20 < mj_CB) (hL : mj_rd h0 Lr = some (.inr (18, [.ref E, .int (nI n), .int mc]))) (hE : mj_rdA h0 E = some (6, (cap, .inr (.inr (.inr (.inr ef)))))) (hG : ∀ j, j < n → ef j = some (1000138 + G j) ∧ G j < 24) (hn : n ≤ 24) (hcap : n ≤ cap) (hc31 : cap < 1000) {a0 a1 a2 a3 a4 a5 a7 a8 a9 a10 : Value} (hX : mj_rd h0 x = some (.inr (17, [a0, a1, a2, a3, a4, a5, .ref Lr, a7, a8, a9, a10]))) : ∀ (m i : Nat) (g : mj_H), i + m = 8 → mz_mo [] i (4 * i) h0 g → mj_Wp 4 445 (4, [some (.ref x), some (.int (nI (wS (fun v => thr G n 0 v) i))), some (.int (nI i))], [], g) (mz_V fun r g' => r = .int (nI (wS (fun v => thr G n 0 v) 8)) ∧ mz_mo [] 8 32 h0 g')
  | 0, i, g, he, M => by
    obtain rfl : i = 8 := by omega
    refine s_ildn (p' := 5) rfl rfl rfl ?_
    refine s_bip (p' := 7) rfl rfl ?_
    refine s_icmp (p' := 28) true rfl ((ci_ge (by omega) (by omega)).trans (decide_eq_true (by omega))) rfl ?_
    refine s_ildn (p' := 29) rfl rfl rfl ?_
    refine s_iret rfl rfl ?_
    exact ⟨_, _, rfl, rfl, M⟩
  | m + 1, i, g, he, M => by
    have hi : i < 8 := by omega
    have u := mo_le M
    have ht : ∀ v, v < 8 → thr G n 0 v < 8 := fun v hv => thr_lt (fun j hj => (hG j hj).2) n 0 v (Nat.zero_add n) hv
    refine s_ildn (p' := 5) rfl rfl rfl ?_
    refine s_bip (p' := 7) rfl rfl ?_
    refine s_icmp (p' := 10) false rfl ((ci_ge (by omega) (by omega)).trans (decide_eq_false (by omega))) rfl ?_
    refine s_ildn (p' := 11) rfl rfl rfl ?_
    refine s_aldn (p' := 12) rfl rfl rfl ?_
    refine s_ildn (p' := 13) rfl rfl rfl ?_
    refine s_callEV (p' := 16) (ls0 := [_, _, _, _, _]) rfl rfl rfl rfl rfl (mj_rcv_is (M.1 _ List.not_mem_nil _ hX)) rfl (y_go rfl (by omega) (M.1 _ List.not_mem_nil _ hL) (mz_fr.A M.1 List.not_mem_nil hE) hG hn hcap hc31 (M.1 _ List.not_mem_nil _ hX) hi) rfl rfl ?_
    rintro _ g1 ⟨rfl, lr, hg1⟩
    have M1 : mz_mo [] (i + 1) (4 * (i + 1)) h0 g1 := M.tr (by rw [hg1]; exact mz_mo.ap [] _ _) (fun y hy => by cases hy) (by omega) (by show 4 * i + 4 ≤ _; omega)
    refine s_con (p' := 17) rfl rfl ?_
    refine s_ildn (p' := 18) rfl rfl rfl ?_
    refine s_sp (p' := 19) (ls' := _) rfl rfl rfl ?_
    refine s_sp (p' := 20) (ls' := _) rfl rfl rfl ?_
    rw [shl3 (ht i hi) hi]
    refine s_sp (p' := 21) (ls' := _) rfl rfl rfl ?_
    rw [nor, wS_or (F := (fun v => thr G n 0 v)) (fun j hj => ht j (by omega))]
    refine s_istn (p' := 22) (ls' := [_, _, _]) rfl rfl rfl rfl ?_
    refine s_inc (p' := 25) (ls' := [_, _, _]) rfl rfl rfl rfl rfl ?_
    rw [mI_add]
    refine s_goto (p' := 4) rfl rfl ?_
    exact y_pkL hb hL hE hG hn hcap hc31 hX m (i + 1) g1 (by omega) M1
theorem y_pck {h : mj_H} {x Lr E cap : Nat} {mc : Int32} {ef : Nat → Option Nat} {G : Nat → Nat} {n : Nat} (hb : h.length + 20 < mj_CB) (hL : mj_rd h Lr = some (.inr (18, [.ref E, .int (nI n), .int mc]))) (hE : mj_rdA h E = some (6, (cap, .inr (.inr (.inr (.inr ef)))))) (hG : ∀ j, j < n → ef j = some (1000138 + G j) ∧ G j < 24) (hn : n ≤ 24) (hcap : n ≤ cap) (hc31 : cap < 1000) {a0 a1 a2 a3 a4 a5 a7 a8 a9 a10 : Value} (hX : mj_rd h x = some (.inr (17, [a0, a1, a2, a3, a4, a5, .ref Lr, a7, a8, a9, a10]))) : mj_Wp 4 445 (0, [some (.ref x), none, none], [], h) (mz_V fun r g' => r = .int (nI (wS (fun v => thr G n 0 v) 8)) ∧ mz_mo [] 8 32 h g') := by
  refine s_con (p' := 1) rfl rfl ?_
  refine s_istn (p' := 2) (ls' := [_, _, _]) rfl rfl rfl rfl ?_
  refine s_con (p' := 3) rfl rfl ?_
  refine s_istn (p' := 4) (ls' := [_, _, _]) rfl rfl rfl rfl ?_
  exact y_pkL hb hL hE hG hn hcap hc31 hX 8 0 h rfl (mz_mo.rf _ _ _ _)
