/-! Images: bits, what is missing. -/
theorem bt_34 {a b : Nat} (ha : a ≤ 8) (hb : b ≤ 3) : bti a 3 b = bti a 4 b := by
  have h := bt_of (P := fun a b => decide (3 < b) || decide (bti a 3 b = bti a 4 b)) (by decide +kernel) ha (show b ≤ 8 by omega)
  rw [Bool.or_eq_true] at h
  rcases h with h | h
  · have := of_decide_eq_true h
    omega
  · exact of_decide_eq_true h
theorem bt_44 {a : Nat} (ha : a ≤ 8) : bti a 4 3 = 3 :=
  of_decide_eq_true (bt_of (P := fun a _ => decide (bti a 4 3 = 3)) (by decide +kernel) ha (Nat.zero_le 8))
theorem bti_k (m k b : Nat) : bti m (k + 1) b = if 2 ^ b < m then bti m k (b + 1) else b := by rw [bti]
theorem rbi_k (c : Nat → Nat) (i : Nat) : rbi c (i + 1) = bti (c i) 4 (rbi c i) := by rw [rbi]
theorem y_gbL {h : mj_H} {x A : Nat} {im : Nat → Int32} {IM : Nat → Nat} {a0 a1 a2 a3 a4 a5 a6 a7 a8 a9 : Value} (him : ∀ j, j < 8 → im j = nI (IM j) ∧ IM j < 8) (hX : mj_rd h x = some (.inr (17, [a0, a1, a2, a3, a4, a5, a6, a7, a8, a9, .ref A]))) (hA : mj_rd h A = some (.inl (0, (8, .inl im)))) {v : Nat} (hv : v < 8) {Q : mj_O × mj_H → Prop} : ∀ (k b : Nat), b + k = 3 → mj_Wp 5 455 (32, [some (.ref x), some (.int (nI (bti (cti IM 8 v) 4 b))), some (.int (nI v))], [], h) Q → mj_Wp 5 455 (15, [some (.ref x), some (.int (nI b)), some (.int (nI v))], [], h) Q
  | 0, b, hb, hq => by
    obtain rfl : b = 3 := by omega
    have hm8 := cti_le IM 8 v
    rw [bt_44 hm8] at hq
    refine s_con (p' := 16) rfl rfl ?_
    refine s_ildn (p' := 17) rfl rfl rfl ?_
    refine s_sp (p' := 18) (ls' := _) rfl rfl rfl ?_
    rw [pb_p (by omega)]
    refine s_aldn (p' := 19) rfl rfl rfl ?_
    refine s_ildn (p' := 20) rfl rfl rfl ?_
    refine s_callV (p' := 23) (ls0 := [_, _, _, _, _, _, _]) rfl rfl rfl rfl rfl (mj_rcv_is hX) rfl (y_cf him hX hA hv) (by decide) rfl ?_
    refine s_icmp (p' := 32) true rfl ((ci_ge (by omega) (by omega)).trans (decide_eq_true (by omega))) rfl ?_
    exact hq
  | k + 1, b, hb, hq => by
    have ih := y_gbL him hX hA hv (Q := Q) k
    have hm8 := cti_le IM 8 v
    have hpw : 2 ^ b ≤ 8 := Nat.pow_le_pow_right (n := 2) (j := 3) (by decide) (by omega)
    rw [bti_k] at hq
    refine s_con (p' := 16) rfl rfl ?_
    refine s_ildn (p' := 17) rfl rfl rfl ?_
    refine s_sp (p' := 18) (ls' := _) rfl rfl rfl ?_
    rw [pb_p (by omega)]
    refine s_aldn (p' := 19) rfl rfl rfl ?_
    refine s_ildn (p' := 20) rfl rfl rfl ?_
    refine s_callV (p' := 23) (ls0 := [_, _, _, _, _, _, _]) rfl rfl rfl rfl rfl (mj_rcv_is hX) rfl (y_cf him hX hA hv) (by decide) rfl ?_
    by_cases q : 2 ^ b < cti IM 8 v
    · refine s_icmp (p' := 26) false rfl ((ci_ge (by omega) (by omega)).trans (decide_eq_false (by omega))) rfl ?_
      refine s_inc (p' := 29) (ls' := [_, _, _]) rfl rfl rfl rfl rfl ?_
      rw [mI_add]
      refine s_goto (p' := 15) rfl rfl ?_
      rw [if_pos q, bt_34 hm8 (by omega)] at hq
      exact ih (b + 1) (by omega) hq
    · refine s_icmp (p' := 32) true rfl ((ci_ge (by omega) (by omega)).trans (decide_eq_true (by omega))) rfl ?_
      rw [if_neg q] at hq
      exact hq
theorem y_gaL {h : mj_H} {x A : Nat} {im : Nat → Int32} {IM : Nat → Nat} {a0 a1 a2 a3 a4 a5 a6 a7 a8 a9 : Value} (him : ∀ j, j < 8 → im j = nI (IM j) ∧ IM j < 8) (hX : mj_rd h x = some (.inr (17, [a0, a1, a2, a3, a4, a5, a6, a7, a8, a9, .ref A]))) (hA : mj_rd h A = some (.inl (0, (8, .inl im)))) {Q : mj_O × mj_H → Prop} : ∀ (k i : Nat), i + k = 8 → mj_Wp 5 455 (38, [some (.ref x), some (.int (nI (rbi (cti IM 8) 8))), some (.int (nI 8))], [], h) Q → mj_Wp 5 455 (9, [some (.ref x), some (.int (nI (rbi (cti IM 8) i))), some (.int (nI i))], [], h) Q
  | 0, i, hi, hq => by
    obtain rfl : i = 8 := by omega
    refine s_ildn (p' := 10) rfl rfl rfl ?_
    refine s_bip (p' := 12) rfl rfl ?_
    refine s_icmp (p' := 38) true rfl ((ci_ge (by omega) (by omega)).trans (decide_eq_true (by omega))) rfl ?_
    exact hq
  | k + 1, i, hi, hq => by
    have ih := y_gaL him hX hA (Q := Q) k
    have hb3 : rbi (cti IM 8) i ≤ 3 := by
      rw [rbi_is (fun v => cti_le IM 8 v) i]
      exact bt_3 (mxi_le (fun v => cti_le IM 8 v) i)
    refine s_ildn (p' := 10) rfl rfl rfl ?_
    refine s_bip (p' := 12) rfl rfl ?_
    refine s_icmp (p' := 15) false rfl ((ci_ge (by omega) (by omega)).trans (decide_eq_false (by omega))) rfl ?_
    refine y_gbL him hX hA (show i < 8 by omega) (3 - rbi (cti IM 8) i) _ (by omega) ?_
    rw [← rbi_k]
    refine s_inc (p' := 35) (ls' := [_, _, _]) rfl rfl rfl rfl rfl ?_
    rw [mI_add]
    refine s_goto (p' := 9) rfl rfl ?_
    exact ih (i + 1) (by omega) hq
theorem mis_k (c : Nat → Nat) (i : Nat) : mis c (i + 1) = mis c i + if c i = 0 then 1 else 0 := by rw [mis]
theorem x_foL {h : mj_H} {x T : Nat} {t : Nat → Int32} {c : Nat → Nat} {v0 v1 v2 v3 v4 v5 v6 v7 v8 v9 v10 v11 v12 v13 v15 v16 : Value} (hc : ∀ v, c v ≤ 8) (ht : ∀ v, v < 8 → t v = nI (c v)) (hX : mj_rd h x = some (.inr (0, [v0, v1, v2, v3, v4, v5, v6, v7, v8, v9, v10, v11, v12, v13, .ref T, v15, v16]))) (hT : mj_rd h T = some (.inl (0, (8, .inl t)))) {Q : mj_O × mj_H → Prop} : ∀ (k i : Nat), i + k = 8 → mj_Wp 5 64 (35, [some (.ref x), some (.int (nI (mis c 8))), some (.int (nI 8))], [], h) Q → mj_Wp 5 64 (8, [some (.ref x), some (.int (nI (mis c i))), some (.int (nI i))], [], h) Q
  | 0, i, hi, hq => by
    obtain rfl : i = 8 := by omega
    refine s_ildn (p' := 9) rfl rfl rfl ?_
    refine s_aldn (p' := 10) rfl rfl rfl ?_
    refine s_gf (p' := 13) rfl hX rfl rfl ?_
    refine s_len (p' := 14) rfl (mj_rdA_is hT (by decide)) (by decide) rfl ?_
    refine s_icmp (p' := 35) true rfl ((ci_ge (by omega) (by omega)).trans (decide_eq_true (by omega))) rfl ?_
    exact hq
  | k + 1, i, hi, hq => by
    have ih := x_foL hc ht hX hT (Q := Q) k
    have h1 := mis_le c i
    have h2 := hc i
    refine s_ildn (p' := 9) rfl rfl rfl ?_
    refine s_aldn (p' := 10) rfl rfl rfl ?_
    refine s_gf (p' := 13) rfl hX rfl rfl ?_
    refine s_len (p' := 14) rfl (mj_rdA_is hT (by decide)) (by decide) rfl ?_
    refine s_icmp (p' := 17) false rfl ((ci_ge (by omega) (by omega)).trans (decide_eq_false (by omega))) rfl ?_
    refine s_aldn (p' := 18) rfl rfl rfl ?_
    refine s_gf (p' := 21) rfl hX rfl rfl ?_
    refine s_ildn (p' := 22) rfl rfl rfl ?_
    refine s_ial (p' := 23) rfl hT (inb_nI (by omega) (by omega)) rfl ?_
    rw [mI_cl (by omega), ht i (by omega)]
    by_cases q : c i = 0
    · refine s_if (p' := 26) false rfl ((cz_ne (by omega)).trans (decide_eq_false (by omega))) rfl ?_
      refine s_inc (p' := 29) (ls' := [_, _, _]) rfl rfl rfl rfl rfl ?_
      rw [mI_add, show mis c i + 1 = mis c (i + 1) from by rw [mis_k, if_pos q]]
      refine s_inc (p' := 32) (ls' := [_, _, _]) rfl rfl rfl rfl rfl ?_
      rw [mI_add]
      refine s_goto (p' := 8) rfl rfl ?_
      exact ih (i + 1) (by omega) hq
    · refine s_if (p' := 29) true rfl ((cz_ne (by omega)).trans (decide_eq_true (by omega))) rfl ?_
      rw [show mis c i = mis c (i + 1) from by rw [mis_k, if_neg q, Nat.add_zero]]
      refine s_inc (p' := 32) (ls' := [_, _, _]) rfl rfl rfl rfl rfl ?_
      rw [mI_add]
      refine s_goto (p' := 8) rfl rfl ?_
      exact ih (i + 1) (by omega) hq
theorem y_foL {h : mj_H} {x A : Nat} {im : Nat → Int32} {IM : Nat → Nat} {a0 a1 a2 a3 a4 a5 a6 a7 a8 a9 : Value} (him : ∀ j, j < 8 → im j = nI (IM j) ∧ IM j < 8) (hX : mj_rd h x = some (.inr (17, [a0, a1, a2, a3, a4, a5, a6, a7, a8, a9, .ref A]))) (hA : mj_rd h A = some (.inl (0, (8, .inl im)))) {Q : mj_O × mj_H → Prop} : ∀ (k i : Nat), i + k = 8 → mj_Wp 5 457 (37, [some (.ref x), some (.int (nI (mis (cti IM 8) 8))), some (.int (nI 8))], [], h) Q → mj_Wp 5 457 (9, [some (.ref x), some (.int (nI (mis (cti IM 8) i))), some (.int (nI i))], [], h) Q
  | 0, i, hi, hq => by
    obtain rfl : i = 8 := by omega
    refine s_ildn (p' := 10) rfl rfl rfl ?_
    refine s_bip (p' := 12) rfl rfl ?_
    refine s_icmp (p' := 37) true rfl ((ci_ge (by omega) (by omega)).trans (decide_eq_true (by omega))) rfl ?_
    exact hq
  | k + 1, i, hi, hq => by
    have ih := y_foL him hX hA (Q := Q) k
    have h1 := mis_le (cti IM 8) i
    have h2 := cti_le IM 8 i
    refine s_ildn (p' := 10) rfl rfl rfl ?_
    refine s_bip (p' := 12) rfl rfl ?_
    refine s_icmp (p' := 15) false rfl ((ci_ge (by omega) (by omega)).trans (decide_eq_false (by omega))) rfl ?_
    refine s_ildn (p' := 16) rfl rfl rfl ?_
    refine s_aldn (p' := 17) rfl rfl rfl ?_
    refine s_ildn (p' := 18) rfl rfl rfl ?_
    refine s_callV (p' := 21) (ls0 := [_, _, _, _, _, _, _]) rfl rfl rfl rfl rfl (mj_rcv_is hX) rfl (y_cf him hX hA (show i < 8 by omega)) (by decide) rfl ?_
    by_cases q : cti IM 8 i = 0
    · refine s_if (p' := 24) false rfl ((cz_ne (by omega)).trans (decide_eq_false (by omega))) rfl ?_
      refine s_con (p' := 25) rfl rfl ?_
      refine s_goto (p' := 29) rfl rfl ?_
      refine s_sp (p' := 30) (ls' := _) rfl rfl rfl ?_
      rw [mI_add, show mis (cti IM 8) i + 1 = mis (cti IM 8) (i + 1) from by rw [mis_k, if_pos q]]
      refine s_istn (p' := 31) (ls' := [_, _, _]) rfl rfl rfl rfl ?_
      refine s_inc (p' := 34) (ls' := [_, _, _]) rfl rfl rfl rfl rfl ?_
      rw [mI_add]
      refine s_goto (p' := 9) rfl rfl ?_
      exact ih (i + 1) (by omega) hq
    · refine s_if (p' := 28) true rfl ((cz_ne (by omega)).trans (decide_eq_true (by omega))) rfl ?_
      refine s_con (p' := 29) rfl rfl ?_
      refine s_sp (p' := 30) (ls' := _) rfl rfl rfl ?_
      rw [mI_add, show mis (cti IM 8) i + 0 = mis (cti IM 8) (i + 1) from by rw [mis_k, if_neg q]]
      refine s_istn (p' := 31) (ls' := [_, _, _]) rfl rfl rfl rfl ?_
      refine s_inc (p' := 34) (ls' := [_, _, _]) rfl rfl rfl rfl rfl ?_
      rw [mI_add]
      refine s_goto (p' := 9) rfl rfl ?_
      exact ih (i + 1) (by omega) hq
