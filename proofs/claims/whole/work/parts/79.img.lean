/-! Images: counts. -/
/-- how many of the first i come to v -/
def cti (IM : Nat → Nat) : Nat → Nat → Nat
  | 0, _ => 0
  | i + 1, v => cti IM i v + if IM i = v then 1 else 0
theorem cti_le (IM : Nat → Nat) : ∀ i v, cti IM i v ≤ i
  | 0, _ => Nat.le_refl 0
  | i + 1, v => by
    have := cti_le IM i v
    rw [cti]
    split <;> omega
def mxi (c : Nat → Nat) : Nat → Nat
  | 0 => 1
  | i + 1 => if mxi c i < c i then c i else mxi c i
def bti (m : Nat) : Nat → Nat → Nat
  | 0, b => b
  | k + 1, b => if 2 ^ b < m then bti m k (b + 1) else b
def rbi (c : Nat → Nat) : Nat → Nat
  | 0 => 0
  | i + 1 => bti (c i) 4 (rbi c i)
def mis (c : Nat → Nat) : Nat → Nat
  | 0 => 0
  | i + 1 => mis c i + if c i = 0 then 1 else 0
theorem mxi_le {c : Nat → Nat} (hc : ∀ v, c v ≤ 8) : ∀ i, mxi c i ≤ 8
  | 0 => show 1 ≤ 8 by decide
  | i + 1 => by
    have h1 := mxi_le hc i
    have h2 := hc i
    rw [mxi]
    split <;> omega
theorem mis_le (c : Nat → Nat) : ∀ i, mis c i ≤ i
  | 0 => Nat.le_refl 0
  | i + 1 => by
    have := mis_le c i
    rw [mis]
    split <;> omega
def bt_all (P : Nat → Nat → Bool) : Bool := (List.range 9).all fun a => (List.range 9).all fun b => P a b
theorem bt_of {P : Nat → Nat → Bool} (h : bt_all P = true) {a b : Nat} (ha : a ≤ 8) (hb : b ≤ 8) : P a b = true :=
  List.all_eq_true.mp (List.all_eq_true.mp h a (List.mem_range.mpr (by omega))) b (List.mem_range.mpr (by omega))
theorem bt_max {a b : Nat} (ha : a ≤ 8) (hb : b ≤ 8) : bti b 4 (bti a 3 0) = bti (if a < b then b else a) 3 0 :=
  of_decide_eq_true (bt_of (P := fun a b => decide (bti b 4 (bti a 3 0) = bti (if a < b then b else a) 3 0)) (by decide +kernel) ha hb)
theorem bt_3 {a : Nat} (ha : a ≤ 8) : bti a 3 0 ≤ 3 :=
  of_decide_eq_true (bt_of (P := fun a _ => decide (bti a 3 0 ≤ 3)) (by decide +kernel) ha (Nat.zero_le 8))
theorem rbi_is {c : Nat → Nat} (hc : ∀ v, c v ≤ 8) : ∀ i, rbi c i = bti (mxi c i) 3 0
  | 0 => show 0 = bti 1 3 0 by decide
  | i + 1 => by
    rw [rbi, rbi_is hc i, mxi]
    exact bt_max (mxi_le hc i) (hc i)
theorem x_cnL {h : mj_H} {t0 : Nat → Int32} {x A T : Nat} {im : Nat → Int32} {IM : Nat → Nat} {v0 v1 v2 v3 v4 v5 v6 v7 v8 v9 v10 v11 v13 v15 v16 : Value} (bT : T < mj_CB) (hAT : A ≠ T) (hxT : x ≠ T) (him : ∀ j, j < 8 → im j = nI (IM j) ∧ IM j < 8) (hX : mj_rd h x = some (.inr (0, [v0, v1, v2, v3, v4, v5, v6, v7, v8, v9, v10, v11, .ref A, v13, .ref T, v15, v16]))) (hA : mj_rd h A = some (.inl (0, (8, .inl im)))) (hT : mj_rd h T = some (.inl (0, (8, .inl t0)))) : ∀ (k i : Nat) (t : Nat → Int32) (l2 : Option Value), i + k = 8 → (∀ v, v < 8 → t v = nI (cti IM i v)) → mj_Wp 2 61 (10, [some (.ref x), some (.int (nI i)), l2], [], h.set T (.inl (0, (8, .inl t)))) (mz_N fun h' => ∃ t, (∀ v, v < 8 → t v = nI (cti IM 8 v)) ∧ h' = h.set T (.inl (0, (8, .inl t))))
  | 0, i, t, l2, hi, ht => by
    obtain rfl : i = 8 := by omega
    refine s_ildn (p' := 11) rfl rfl rfl ?_
    refine s_aldn (p' := 12) rfl rfl rfl ?_
    refine s_gf (p' := 15) rfl ((rd_setn (Ne.symm hxT)).trans hX) rfl rfl ?_
    refine s_len (p' := 16) rfl (mj_rdA_is ((rd_setn (Ne.symm hAT)).trans hA) (by decide)) (by decide) rfl ?_
    refine s_icmp (p' := 49) true rfl ((ci_ge (by omega) (by omega)).trans (decide_eq_true (by omega))) rfl ?_
    refine s_ret rfl ?_
    exact ⟨_, rfl, t, ht, rfl⟩
  | k + 1, i, t, l2, hi, ht => by
    have ih := x_cnL bT hAT hxT him hX hA hT k
    have hm := him i (by omega)
    have hc8 := cti_le IM i (IM i)
    refine s_ildn (p' := 11) rfl rfl rfl ?_
    refine s_aldn (p' := 12) rfl rfl rfl ?_
    refine s_gf (p' := 15) rfl ((rd_setn (Ne.symm hxT)).trans hX) rfl rfl ?_
    refine s_len (p' := 16) rfl (mj_rdA_is ((rd_setn (Ne.symm hAT)).trans hA) (by decide)) (by decide) rfl ?_
    refine s_icmp (p' := 19) false rfl ((ci_ge (by omega) (by omega)).trans (decide_eq_false (by omega))) rfl ?_
    refine s_aldn (p' := 20) rfl rfl rfl ?_
    refine s_gf (p' := 23) rfl ((rd_setn (Ne.symm hxT)).trans hX) rfl rfl ?_
    refine s_ildn (p' := 24) rfl rfl rfl ?_
    refine s_ial (p' := 25) rfl ((rd_setn (Ne.symm hAT)).trans hA) (inb_nI (by omega) (by omega)) rfl ?_
    rw [mI_cl (by omega), hm.1]
    refine s_istn (p' := 26) (ls' := [_, _, _]) rfl rfl rfl rfl ?_
    refine s_ildn (p' := 27) rfl rfl rfl ?_
    refine c_call (p' := 30) (kc := 1) (ls0 := [_]) rfl rfl rfl rfl rfl rfl rfl rfl rfl ?_
    refine s_ildn (p' := 1) rfl rfl rfl ?_
    refine s_if (p' := 4) false rfl (cz_lt (by omega)) rfl ?_
    refine s_ildn (p' := 5) rfl rfl rfl ?_
    refine s_bip (p' := 7) rfl rfl ?_
    refine s_icmp (p' := 10) false rfl ((ci_ge (by omega) (by omega)).trans (decide_eq_false (by omega))) rfl ?_
    refine s_con (p' := 11) rfl rfl ?_
    refine s_goto (p' := 15) rfl rfl ?_
    refine c_iret rfl rfl ?_
    refine s_if (p' := 33) false rfl rfl rfl ?_
    refine s_aldn (p' := 34) rfl rfl rfl ?_
    refine s_gf (p' := 37) rfl ((rd_setn (Ne.symm hxT)).trans hX) rfl rfl ?_
    refine s_ildn (p' := 38) rfl rfl rfl ?_
    refine s_sp (p' := 39) (ls' := _) rfl rfl rfl ?_
    refine s_ial (p' := 40) rfl (rd_set bT hT) (inb_nI (by omega) (by omega)) rfl ?_
    rw [mI_cl (by omega), ht _ hm.2]
    refine s_con (p' := 41) rfl rfl ?_
    refine s_sp (p' := 42) (ls' := _) rfl rfl rfl ?_
    rw [mI_add]
    refine s_ias (p' := 43) rfl bT (rd_set bT hT) (inb_nI (by omega) (by omega)) rfl ?_
    rw [List.set_set, mI_cl (by omega)]
    refine s_inc (p' := 46) (ls' := [_, _, _]) rfl rfl rfl rfl rfl ?_
    rw [mI_add]
    refine s_goto (p' := 10) rfl rfl ?_
    refine ih (i + 1) _ _ (by omega) (fun v hv => ?_)
    unfold upd
    rw [cti]
    by_cases q : v = IM i
    · rw [if_pos q, if_pos q.symm, q]
    · rw [if_neg q, if_neg (fun z => q z.symm), Nat.add_zero]
      exact ht v hv
theorem x_cnt {h : mj_H} {t0 : Nat → Int32} {x A T : Nat} {im : Nat → Int32} {IM : Nat → Nat} {v0 v1 v2 v3 v4 v5 v6 v7 v8 v9 v10 v11 v13 v15 v16 : Value} (bT : T < mj_CB) (hAT : A ≠ T) (hxT : x ≠ T) (him : ∀ j, j < 8 → im j = nI (IM j) ∧ IM j < 8) (hX : mj_rd h x = some (.inr (0, [v0, v1, v2, v3, v4, v5, v6, v7, v8, v9, v10, v11, .ref A, v13, .ref T, v15, v16]))) (hA : mj_rd h A = some (.inl (0, (8, .inl im)))) (hT : mj_rd h T = some (.inl (0, (8, .inl t0)))) : mj_Wp 2 61 (0, [some (.ref x), none, none], [], h) (mz_N fun h' => ∃ t, (∀ v, v < 8 → t v = nI (cti IM 8 v)) ∧ h' = h.set T (.inl (0, (8, .inl t)))) := by
  refine s_aldn (p' := 1) rfl rfl rfl ?_
  refine s_gf (p' := 4) rfl hX rfl rfl ?_
  refine s_con (p' := 5) rfl rfl ?_
  refine s_callN (p' := 8) (ls0 := [_, _, _, _]) rfl rfl rfl rfl rfl rfl rfl (x_fill bT hT (by omega)) (by decide) rfl ?_
  refine s_con (p' := 9) rfl rfl ?_
  refine s_istn (p' := 10) (ls' := [_, _, _]) rfl rfl rfl rfl ?_
  exact x_cnL bT hAT hxT him hX hA hT 8 0 _ _ rfl (fun v hv => if_pos hv)
theorem y_cfL {h : mj_H} {x A : Nat} {im : Nat → Int32} {IM : Nat → Nat} {a0 a1 a2 a3 a4 a5 a6 a7 a8 a9 : Value} (him : ∀ j, j < 8 → im j = nI (IM j) ∧ IM j < 8) (hX : mj_rd h x = some (.inr (17, [a0, a1, a2, a3, a4, a5, a6, a7, a8, a9, .ref A]))) (hA : mj_rd h A = some (.inl (0, (8, .inl im)))) {v : Nat} (hv : v < 8) : ∀ (k i : Nat) (l6 : Option Value), i + k = 8 → mj_run 1 456 (14, [some (.ref x), some (.int (nI v)), some (.int (nI (cti IM i v))), some (.ref A), some (.int (nI 8)), some (.int (nI i)), l6], [], h) (.inl (some (.int (nI (cti IM 8 v)))), h)
  | 0, i, l6, hi => by
    obtain rfl : i = 8 := by omega
    refine s_ild (p' := 16) rfl rfl rfl ?_
    refine s_ild (p' := 18) rfl rfl rfl ?_
    refine s_icmp (p' := 47) true rfl ((ci_ge (by omega) (by omega)).trans (decide_eq_true (by omega))) rfl ?_
    refine s_ildn (p' := 48) rfl rfl rfl ?_
    exact s_iret rfl rfl rfl
  | k + 1, i, l6, hi => by
    have ih := y_cfL him hX hA hv k
    have hm := him i (by omega)
    have hc8 := cti_le IM i v
    refine s_ild (p' := 16) rfl rfl rfl ?_
    refine s_ild (p' := 18) rfl rfl rfl ?_
    refine s_icmp (p' := 21) false rfl ((ci_ge (by omega) (by omega)).trans (decide_eq_false (by omega))) rfl ?_
    refine s_aldn (p' := 22) rfl rfl rfl ?_
    refine s_ild (p' := 24) rfl rfl rfl ?_
    refine s_ial (p' := 25) rfl hA (inb_nI (by omega) (by omega)) rfl ?_
    rw [mI_cl (by omega), hm.1]
    refine s_ist (p' := 27) (ls' := [_, _, _, _, _, _, _]) rfl rfl rfl rfl ?_
    refine s_ildn (p' := 28) rfl rfl rfl ?_
    refine s_ild (p' := 30) rfl rfl rfl ?_
    refine s_ildn (p' := 31) rfl rfl rfl ?_
    by_cases q : IM i = v
    · refine s_icmp (p' := 34) false rfl ((ci_ne (by omega) (by omega)).trans (decide_eq_false (by omega))) rfl ?_
      refine s_con (p' := 35) rfl rfl ?_
      refine s_goto (p' := 39) rfl rfl ?_
      refine s_sp (p' := 40) (ls' := _) rfl rfl rfl ?_
      rw [mI_add, show cti IM i v + 1 = cti IM (i + 1) v from by rw [cti, if_pos q]]
      refine s_istn (p' := 41) (ls' := [_, _, _, _, _, _, _]) rfl rfl rfl rfl ?_
      refine s_inc (p' := 44) (ls' := [_, _, _, _, _, _, _]) rfl rfl rfl rfl rfl ?_
      rw [mI_add]
      refine s_goto (p' := 14) rfl rfl ?_
      exact ih (i + 1) _ (by omega)
    · refine s_icmp (p' := 38) true rfl ((ci_ne (by omega) (by omega)).trans (decide_eq_true (by omega))) rfl ?_
      refine s_con (p' := 39) rfl rfl ?_
      refine s_sp (p' := 40) (ls' := _) rfl rfl rfl ?_
      rw [mI_add, show cti IM i v + 0 = cti IM (i + 1) v from by rw [cti, if_neg q]]
      refine s_istn (p' := 41) (ls' := [_, _, _, _, _, _, _]) rfl rfl rfl rfl ?_
      refine s_inc (p' := 44) (ls' := [_, _, _, _, _, _, _]) rfl rfl rfl rfl rfl ?_
      rw [mI_add]
      refine s_goto (p' := 14) rfl rfl ?_
      exact ih (i + 1) _ (by omega)
theorem y_cf {h : mj_H} {x A : Nat} {im : Nat → Int32} {IM : Nat → Nat} {a0 a1 a2 a3 a4 a5 a6 a7 a8 a9 : Value} (him : ∀ j, j < 8 → im j = nI (IM j) ∧ IM j < 8) (hX : mj_rd h x = some (.inr (17, [a0, a1, a2, a3, a4, a5, a6, a7, a8, a9, .ref A]))) (hA : mj_rd h A = some (.inl (0, (8, .inl im)))) {v : Nat} (hv : v < 8) : mj_run 1 456 (0, [some (.ref x), some (.int (nI v)), none, none, none, none, none], [], h) (.inl (some (.int (nI (cti IM 8 v)))), h) := by
  refine s_con (p' := 1) rfl rfl ?_
  refine s_istn (p' := 2) (ls' := [_, _, _, _, _, _, _]) rfl rfl rfl rfl ?_
  refine s_aldn (p' := 3) rfl rfl rfl ?_
  refine s_gf (p' := 6) rfl hX rfl rfl ?_
  refine s_astn (p' := 7) (ls' := [_, _, _, _, _, _, _]) rfl rfl rfl rfl ?_
  refine s_aldn (p' := 8) rfl rfl rfl ?_
  refine s_len (p' := 9) rfl (mj_rdA_is hA (by decide)) (by decide) rfl ?_
  refine s_ist (p' := 11) (ls' := [_, _, _, _, _, _, _]) rfl rfl rfl rfl ?_
  refine s_con (p' := 12) rfl rfl ?_
  refine s_ist (p' := 14) (ls' := [_, _, _, _, _, _, _]) rfl rfl rfl rfl ?_
  exact y_cfL him hX hA hv 8 0 _ rfl
theorem x_gaL {h : mj_H} {x T : Nat} {t : Nat → Int32} {c : Nat → Nat} {v0 v1 v2 v3 v4 v5 v6 v7 v8 v9 v10 v11 v12 v13 v15 v16 : Value} (hc : ∀ v, c v ≤ 8) (ht : ∀ v, v < 8 → t v = nI (c v)) (hX : mj_rd h x = some (.inr (0, [v0, v1, v2, v3, v4, v5, v6, v7, v8, v9, v10, v11, v12, v13, .ref T, v15, v16]))) (hT : mj_rd h T = some (.inl (0, (8, .inl t)))) {Q : mj_O × mj_H → Prop} : ∀ (k i : Nat), i + k = 8 → mj_Wp 5 60 (34, [some (.ref x), some (.int (nI (mxi c 8))), some (.int (nI 8))], [], h) Q → mj_Wp 5 60 (8, [some (.ref x), some (.int (nI (mxi c i))), some (.int (nI i))], [], h) Q
  | 0, i, hi, hq => by
    obtain rfl : i = 8 := by omega
    refine s_ildn (p' := 9) rfl rfl rfl ?_
    refine s_aldn (p' := 10) rfl rfl rfl ?_
    refine s_gf (p' := 13) rfl hX rfl rfl ?_
    refine s_len (p' := 14) rfl (mj_rdA_is hT (by decide)) (by decide) rfl ?_
    refine s_icmp (p' := 34) true rfl ((ci_ge (by omega) (by omega)).trans (decide_eq_true (by omega))) rfl ?_
    exact hq
  | k + 1, i, hi, hq => by
    have ih := x_gaL hc ht hX hT (Q := Q) k
    have h1 := mxi_le hc i
    have h2 := hc i
    refine s_ildn (p' := 9) rfl rfl rfl ?_
    refine s_aldn (p' := 10) rfl rfl rfl ?_
    refine s_gf (p' := 13) rfl hX rfl rfl ?_
    refine s_len (p' := 14) rfl (mj_rdA_is hT (by decide)) (by decide) rfl ?_
    refine s_icmp (p' := 17) false rfl ((ci_ge (by omega) (by omega)).trans (decide_eq_false (by omega))) rfl ?_
    refine s_ildn (p' := 18) rfl rfl rfl ?_
    refine s_aldn (p' := 19) rfl rfl rfl ?_
    refine s_gf (p' := 22) rfl hX rfl rfl ?_
    refine s_ildn (p' := 23) rfl rfl rfl ?_
    refine s_ial (p' := 24) rfl hT (inb_nI (by omega) (by omega)) rfl ?_
    rw [mI_cl (by omega), ht i (by omega)]
    refine s_primV (p' := 27) (q := 4) rfl rfl rfl rfl rfl rfl (p_max (x := nI (mxi c i)) (y := nI (c i)) (z := nI (mxi c (i + 1))) (by rw [mxi]; by_cases q : mxi c i < c i <;> simp only [mI_lt (show mxi c i < 2147483648 by omega) (show c i < 2147483648 by omega), q, if_true, if_false])) rfl ?_
    refine s_istn (p' := 28) (ls' := [_, _, _]) rfl rfl rfl rfl ?_
    refine s_inc (p' := 31) (ls' := [_, _, _]) rfl rfl rfl rfl rfl ?_
    rw [mI_add]
    refine s_goto (p' := 8) rfl rfl ?_
    exact ih (i + 1) (by omega) hq
theorem x_gbL {h : mj_H} {x m : Nat} (hm : m ≤ 8) {Q : mj_O × mj_H → Prop} : ∀ (k b : Nat), b + k = 3 → mj_Wp 5 60 (54, [some (.ref x), some (.int (nI m)), some (.int (nI (bti m k b)))], [], h) Q → mj_Wp 5 60 (36, [some (.ref x), some (.int (nI m)), some (.int (nI b))], [], h) Q
  | 0, b, hb, hq => by
    obtain rfl : b = 3 := by omega
    refine s_ildn (p' := 37) rfl rfl rfl ?_
    refine s_con (p' := 38) rfl rfl ?_
    refine s_icmp (p' := 54) true rfl ((ci_ge (by omega) (by omega)).trans (decide_eq_true (by omega))) rfl ?_
    exact hq
  | k + 1, b, hb, hq => by
    have ih := x_gbL hm (h := h) (x := x) (Q := Q) k
    have hpw : 2 ^ b ≤ 8 := Nat.pow_le_pow_right (n := 2) (j := 3) (by decide) (by omega)
    rw [bti] at hq
    refine s_ildn (p' := 37) rfl rfl rfl ?_
    refine s_con (p' := 38) rfl rfl ?_
    refine s_icmp (p' := 41) false rfl ((ci_ge (by omega) (by omega)).trans (decide_eq_false (by omega))) rfl ?_
    refine s_con (p' := 42) rfl rfl ?_
    refine s_ildn (p' := 43) rfl rfl rfl ?_
    refine s_sp (p' := 44) (ls' := _) rfl rfl rfl ?_
    rw [pb_p (by omega)]
    refine s_ildn (p' := 45) rfl rfl rfl ?_
    by_cases q : 2 ^ b < m
    · refine s_icmp (p' := 48) false rfl ((ci_ge (by omega) (by omega)).trans (decide_eq_false (by omega))) rfl ?_
      refine s_inc (p' := 51) (ls' := [_, _, _]) rfl rfl rfl rfl rfl ?_
      rw [mI_add]
      refine s_goto (p' := 36) rfl rfl ?_
      rw [if_pos q] at hq
      exact ih (b + 1) (by omega) hq
    · refine s_icmp (p' := 54) true rfl ((ci_ge (by omega) (by omega)).trans (decide_eq_true (by omega))) rfl ?_
      rw [if_neg q] at hq
      exact hq
