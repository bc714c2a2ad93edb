/-! Made circuits: the reference. -/
theorem y_ntz1 {h : mj_H} : mj_run 0 442 (0, [some (.int (nI 1)), none], [], h) (.inl (some (.int (nI 0))), h) := by
  refine s_ildn (p' := 1) rfl rfl rfl ?_
  refine s_con (p' := 2) rfl rfl ?_
  refine s_bz (p' := 3) (z := (nI 4294967294)) rfl rfl rfl (by decide +kernel) ?_
  refine s_ildn (p' := 4) rfl rfl rfl ?_
  refine s_con (p' := 5) rfl rfl ?_
  refine s_bz (p' := 6) (z := (nI 0)) rfl rfl rfl (by decide +kernel) ?_
  refine s_bz (p' := 7) (z := (nI 0)) rfl rfl rfl (by decide +kernel) ?_
  refine s_istn (p' := 8) (ls' := [_, _]) rfl rfl rfl rfl ?_
  refine s_ildn (p' := 9) rfl rfl rfl ?_
  refine s_if (p' := 12) false rfl (by decide +kernel) rfl ?_
  refine s_ildn (p' := 13) rfl rfl rfl ?_
  refine s_bip (p' := 15) rfl rfl ?_
  refine s_bz (p' := 16) (z := (nI 0)) rfl rfl rfl (by decide +kernel) ?_
  refine s_iret rfl rfl ?_
  rfl
theorem y_ntz2 {h : mj_H} : mj_run 0 442 (0, [some (.int (nI 2)), none], [], h) (.inl (some (.int (nI 1))), h) := by
  refine s_ildn (p' := 1) rfl rfl rfl ?_
  refine s_con (p' := 2) rfl rfl ?_
  refine s_bz (p' := 3) (z := (nI 4294967293)) rfl rfl rfl (by decide +kernel) ?_
  refine s_ildn (p' := 4) rfl rfl rfl ?_
  refine s_con (p' := 5) rfl rfl ?_
  refine s_bz (p' := 6) (z := (nI 1)) rfl rfl rfl (by decide +kernel) ?_
  refine s_bz (p' := 7) (z := (nI 1)) rfl rfl rfl (by decide +kernel) ?_
  refine s_istn (p' := 8) (ls' := [_, _]) rfl rfl rfl rfl ?_
  refine s_ildn (p' := 9) rfl rfl rfl ?_
  refine s_if (p' := 17) true rfl (by decide +kernel) rfl ?_
  refine s_con (p' := 18) rfl rfl ?_
  refine s_istn (p' := 19) (ls' := [_, _]) rfl rfl rfl rfl ?_
  refine s_ildn (p' := 20) rfl rfl rfl ?_
  refine s_sh (p' := 23) (ls' := _) (st' := .int (nI 65536) :: _) (h' := _) rfl rfl rfl rfl ?_
  refine s_icmp (p' := 34) true rfl (by decide +kernel) rfl ?_
  refine s_ildn (p' := 35) rfl rfl rfl ?_
  refine s_sip (p' := 38) rfl rfl ?_
  refine s_icmp (p' := 49) true rfl (by decide +kernel) rfl ?_
  refine s_ildn (p' := 50) rfl rfl rfl ?_
  refine s_bip (p' := 52) rfl rfl ?_
  refine s_icmp (p' := 62) true rfl (by decide +kernel) rfl ?_
  refine s_ildn (p' := 63) rfl rfl rfl ?_
  refine s_con (p' := 64) rfl rfl ?_
  refine s_icmp (p' := 74) true rfl (by decide +kernel) rfl ?_
  refine s_ildn (p' := 75) rfl rfl rfl ?_
  refine s_ildn (p' := 76) rfl rfl rfl ?_
  refine s_con (p' := 77) rfl rfl ?_
  refine s_bz (p' := 78) (z := (nI 0)) rfl rfl rfl (by decide +kernel) ?_
  refine s_bz (p' := 79) (z := (nI 1)) rfl rfl rfl (by decide +kernel) ?_
  refine s_iret rfl rfl ?_
  rfl
theorem y_ntz3 {h : mj_H} : mj_run 0 442 (0, [some (.int (nI 3)), none], [], h) (.inl (some (.int (nI 0))), h) := by
  refine s_ildn (p' := 1) rfl rfl rfl ?_
  refine s_con (p' := 2) rfl rfl ?_
  refine s_bz (p' := 3) (z := (nI 4294967292)) rfl rfl rfl (by decide +kernel) ?_
  refine s_ildn (p' := 4) rfl rfl rfl ?_
  refine s_con (p' := 5) rfl rfl ?_
  refine s_bz (p' := 6) (z := (nI 2)) rfl rfl rfl (by decide +kernel) ?_
  refine s_bz (p' := 7) (z := (nI 0)) rfl rfl rfl (by decide +kernel) ?_
  refine s_istn (p' := 8) (ls' := [_, _]) rfl rfl rfl rfl ?_
  refine s_ildn (p' := 9) rfl rfl rfl ?_
  refine s_if (p' := 12) false rfl (by decide +kernel) rfl ?_
  refine s_ildn (p' := 13) rfl rfl rfl ?_
  refine s_bip (p' := 15) rfl rfl ?_
  refine s_bz (p' := 16) (z := (nI 0)) rfl rfl rfl (by decide +kernel) ?_
  refine s_iret rfl rfl ?_
  rfl
theorem y_ntz4 {h : mj_H} : mj_run 0 442 (0, [some (.int (nI 4)), none], [], h) (.inl (some (.int (nI 2))), h) := by
  refine s_ildn (p' := 1) rfl rfl rfl ?_
  refine s_con (p' := 2) rfl rfl ?_
  refine s_bz (p' := 3) (z := (nI 4294967291)) rfl rfl rfl (by decide +kernel) ?_
  refine s_ildn (p' := 4) rfl rfl rfl ?_
  refine s_con (p' := 5) rfl rfl ?_
  refine s_bz (p' := 6) (z := (nI 3)) rfl rfl rfl (by decide +kernel) ?_
  refine s_bz (p' := 7) (z := (nI 3)) rfl rfl rfl (by decide +kernel) ?_
  refine s_istn (p' := 8) (ls' := [_, _]) rfl rfl rfl rfl ?_
  refine s_ildn (p' := 9) rfl rfl rfl ?_
  refine s_if (p' := 17) true rfl (by decide +kernel) rfl ?_
  refine s_con (p' := 18) rfl rfl ?_
  refine s_istn (p' := 19) (ls' := [_, _]) rfl rfl rfl rfl ?_
  refine s_ildn (p' := 20) rfl rfl rfl ?_
  refine s_sh (p' := 23) (ls' := _) (st' := .int (nI 65536) :: _) (h' := _) rfl rfl rfl rfl ?_
  refine s_icmp (p' := 34) true rfl (by decide +kernel) rfl ?_
  refine s_ildn (p' := 35) rfl rfl rfl ?_
  refine s_sip (p' := 38) rfl rfl ?_
  refine s_icmp (p' := 49) true rfl (by decide +kernel) rfl ?_
  refine s_ildn (p' := 50) rfl rfl rfl ?_
  refine s_bip (p' := 52) rfl rfl ?_
  refine s_icmp (p' := 62) true rfl (by decide +kernel) rfl ?_
  refine s_ildn (p' := 63) rfl rfl rfl ?_
  refine s_con (p' := 64) rfl rfl ?_
  refine s_icmp (p' := 74) true rfl (by decide +kernel) rfl ?_
  refine s_ildn (p' := 75) rfl rfl rfl ?_
  refine s_ildn (p' := 76) rfl rfl rfl ?_
  refine s_con (p' := 77) rfl rfl ?_
  refine s_bz (p' := 78) (z := (nI 1)) rfl rfl rfl (by decide +kernel) ?_
  refine s_bz (p' := 79) (z := (nI 2)) rfl rfl rfl (by decide +kernel) ?_
  refine s_iret rfl rfl ?_
  rfl
theorem y_ntz5 {h : mj_H} : mj_run 0 442 (0, [some (.int (nI 5)), none], [], h) (.inl (some (.int (nI 0))), h) := by
  refine s_ildn (p' := 1) rfl rfl rfl ?_
  refine s_con (p' := 2) rfl rfl ?_
  refine s_bz (p' := 3) (z := (nI 4294967290)) rfl rfl rfl (by decide +kernel) ?_
  refine s_ildn (p' := 4) rfl rfl rfl ?_
  refine s_con (p' := 5) rfl rfl ?_
  refine s_bz (p' := 6) (z := (nI 4)) rfl rfl rfl (by decide +kernel) ?_
  refine s_bz (p' := 7) (z := (nI 0)) rfl rfl rfl (by decide +kernel) ?_
  refine s_istn (p' := 8) (ls' := [_, _]) rfl rfl rfl rfl ?_
  refine s_ildn (p' := 9) rfl rfl rfl ?_
  refine s_if (p' := 12) false rfl (by decide +kernel) rfl ?_
  refine s_ildn (p' := 13) rfl rfl rfl ?_
  refine s_bip (p' := 15) rfl rfl ?_
  refine s_bz (p' := 16) (z := (nI 0)) rfl rfl rfl (by decide +kernel) ?_
  refine s_iret rfl rfl ?_
  rfl
theorem y_ntz6 {h : mj_H} : mj_run 0 442 (0, [some (.int (nI 6)), none], [], h) (.inl (some (.int (nI 1))), h) := by
  refine s_ildn (p' := 1) rfl rfl rfl ?_
  refine s_con (p' := 2) rfl rfl ?_
  refine s_bz (p' := 3) (z := (nI 4294967289)) rfl rfl rfl (by decide +kernel) ?_
  refine s_ildn (p' := 4) rfl rfl rfl ?_
  refine s_con (p' := 5) rfl rfl ?_
  refine s_bz (p' := 6) (z := (nI 5)) rfl rfl rfl (by decide +kernel) ?_
  refine s_bz (p' := 7) (z := (nI 1)) rfl rfl rfl (by decide +kernel) ?_
  refine s_istn (p' := 8) (ls' := [_, _]) rfl rfl rfl rfl ?_
  refine s_ildn (p' := 9) rfl rfl rfl ?_
  refine s_if (p' := 17) true rfl (by decide +kernel) rfl ?_
  refine s_con (p' := 18) rfl rfl ?_
  refine s_istn (p' := 19) (ls' := [_, _]) rfl rfl rfl rfl ?_
  refine s_ildn (p' := 20) rfl rfl rfl ?_
  refine s_sh (p' := 23) (ls' := _) (st' := .int (nI 65536) :: _) (h' := _) rfl rfl rfl rfl ?_
  refine s_icmp (p' := 34) true rfl (by decide +kernel) rfl ?_
  refine s_ildn (p' := 35) rfl rfl rfl ?_
  refine s_sip (p' := 38) rfl rfl ?_
  refine s_icmp (p' := 49) true rfl (by decide +kernel) rfl ?_
  refine s_ildn (p' := 50) rfl rfl rfl ?_
  refine s_bip (p' := 52) rfl rfl ?_
  refine s_icmp (p' := 62) true rfl (by decide +kernel) rfl ?_
  refine s_ildn (p' := 63) rfl rfl rfl ?_
  refine s_con (p' := 64) rfl rfl ?_
  refine s_icmp (p' := 74) true rfl (by decide +kernel) rfl ?_
  refine s_ildn (p' := 75) rfl rfl rfl ?_
  refine s_ildn (p' := 76) rfl rfl rfl ?_
  refine s_con (p' := 77) rfl rfl ?_
  refine s_bz (p' := 78) (z := (nI 0)) rfl rfl rfl (by decide +kernel) ?_
  refine s_bz (p' := 79) (z := (nI 1)) rfl rfl rfl (by decide +kernel) ?_
  refine s_iret rfl rfl ?_
  rfl
theorem y_ntz7 {h : mj_H} : mj_run 0 442 (0, [some (.int (nI 7)), none], [], h) (.inl (some (.int (nI 0))), h) := by
  refine s_ildn (p' := 1) rfl rfl rfl ?_
  refine s_con (p' := 2) rfl rfl ?_
  refine s_bz (p' := 3) (z := (nI 4294967288)) rfl rfl rfl (by decide +kernel) ?_
  refine s_ildn (p' := 4) rfl rfl rfl ?_
  refine s_con (p' := 5) rfl rfl ?_
  refine s_bz (p' := 6) (z := (nI 6)) rfl rfl rfl (by decide +kernel) ?_
  refine s_bz (p' := 7) (z := (nI 0)) rfl rfl rfl (by decide +kernel) ?_
  refine s_istn (p' := 8) (ls' := [_, _]) rfl rfl rfl rfl ?_
  refine s_ildn (p' := 9) rfl rfl rfl ?_
  refine s_if (p' := 12) false rfl (by decide +kernel) rfl ?_
  refine s_ildn (p' := 13) rfl rfl rfl ?_
  refine s_bip (p' := 15) rfl rfl ?_
  refine s_bz (p' := 16) (z := (nI 0)) rfl rfl rfl (by decide +kernel) ?_
  refine s_iret rfl rfl ?_
  rfl
theorem y_ntz {h : mj_H} {m : Nat} (h0 : 0 < m) (hm : m < 8) : mj_run 0 442 (0, [some (.int (nI m)), none], [], h) (.inl (some (.int (nI (tzb m)))), h) := by
  obtain rfl | rfl | rfl | rfl | rfl | rfl | rfl : m = 1 ∨ m = 2 ∨ m = 3 ∨ m = 4 ∨ m = 5 ∨ m = 6 ∨ m = 7 := by omega
  · exact y_ntz1
  · exact y_ntz2
  · exact y_ntz3
  · exact y_ntz4
  · exact y_ntz5
  · exact y_ntz6
  · exact y_ntz7
theorem lk_y {v x : Nat} (hv : v < 8) (hx : x < 8) : nI v &&& (nI x ^^^ nI 4294967295) = nI (lkb v x) :=
  of_decide_eq_true (a88_of (P := fun v x => decide (nI v &&& (nI x ^^^ nI 4294967295) = nI (lkb v x))) (by decide +kernel) hv hx)
theorem ex_y {v x : Nat} (hv : v < 8) (hx : x < 8) : nI x &&& (nI v ^^^ nI 4294967295) = nI (exb v x) :=
  of_decide_eq_true (a88_of (P := fun v x => decide (nI x &&& (nI v ^^^ nI 4294967295) = nI (exb v x))) (by decide +kernel) hv hx)
theorem lkex {v x : Nat} (hv : v < 8) (hx : x < 8) : lkb v x < 8 ∧ exb v x < 8 ∧ (x ≠ v → lkb v x = 0 → 0 < exb v x) :=
  of_decide_eq_true (a88_of (P := fun v x => decide (lkb v x < 8 ∧ exb v x < 8 ∧ (x ≠ v → lkb v x = 0 → 0 < exb v x))) (by decide +kernel) hv hx)
/-- the row of values at A, the list of gates at B, the last one first -/
def sK (g : mj_H) (A B EB : Nat) (s : (Nat → Nat) × (Nat → Nat) × Nat) : Prop := (∃ of : Nat → Int32, mj_rd g A = some (.inl (0, (8, .inl of))) ∧ ∀ w, w < 8 → of w = nI (s.1 w)) ∧ yLs g B EB s.2.2 (fun j => 1000138 + s.2.1 (s.2.2 - 1 - j))
theorem y_tnL {h : mj_H} {x A B v g : Nat} {r : Nat → Nat} (bA : A < mj_CB) (hg : g < 24) (hr : ∀ w, w < 8 → r w < 8) {o0 : Nat → Int32} (hA0 : mj_rd h A = some (.inl (0, (8, .inl (o0))))) {l4 l5 : Option Value} {Q : mj_O × mj_H → Prop} (hq : ∀ of, (∀ w, w < 8 → of w = nI (gt g (r w))) → mj_Wp 9 441 (130, [some (.ref x), some (.ref A), some (.ref B), some (.int (nI v)), l4, l5, some (.int (nI g)), some (.int (nI 8))], [], h.set A (.inl (0, (8, .inl (of))))) Q) : ∀ (k i : Nat) (of : Nat → Int32), i + k = 8 → (∀ w, w < 8 → of w = nI (paF g i r w)) → mj_Wp 9 441 (104, [some (.ref x), some (.ref A), some (.ref B), some (.int (nI v)), l4, l5, some (.int (nI g)), some (.int (nI i))], [], h.set A (.inl (0, (8, .inl (of))))) Q
  | 0, i, of, hi, hf => by
    obtain rfl : i = 8 := by omega
    refine s_ild (p' := 106) rfl rfl rfl ?_
    refine s_bip (p' := 108) rfl rfl ?_
    refine s_icmp (p' := 130) true rfl ((ci_ge (by omega) (by omega)).trans (decide_eq_true (by omega))) rfl ?_
    exact hq of (fun w hw => by rw [hf w hw]; unfold paF; rw [if_pos hw])
  | k + 1, i, of, hi, hf => by
    have ih := y_tnL (x := x) (B := B) (v := v) bA hg hr hA0 (l4 := l4) (l5 := l5) hq k (i + 1)
    have hw := hf i (by omega)
    have hp : paF g i r i < 8 := by
      unfold paF
      rw [if_neg (Nat.lt_irrefl i)]
      exact hr i (by omega)
    refine s_ild (p' := 106) rfl rfl rfl ?_
    refine s_bip (p' := 108) rfl rfl ?_
    refine s_icmp (p' := 111) false rfl ((ci_ge (by omega) (by omega)).trans (decide_eq_false (by omega))) rfl ?_
    refine s_aldn (p' := 112) rfl rfl rfl ?_
    refine s_ild (p' := 114) rfl rfl rfl ?_
    refine s_aldn (p' := 115) rfl rfl rfl ?_
    refine s_ild (p' := 117) rfl rfl rfl ?_
    refine s_ial (p' := 118) rfl (rd_set bA hA0) (inb_nI (by omega) (by omega)) rfl ?_
    rw [mI_cl (by omega), hw]
    refine s_ild (p' := 120) rfl rfl rfl ?_
    refine s_callV (p' := 123) (ls0 := [_, _]) rfl rfl rfl rfl rfl rfl rfl (y_tur hg hp) (by decide) rfl ?_
    refine s_ias (p' := 124) rfl bA (rd_set bA hA0) (inb_nI (by omega) (by omega)) rfl ?_
    rw [List.set_set, mI_cl (by omega)]
    refine s_inc (p' := 127) (ls' := [_, _, _, _, _, _, _, _]) rfl rfl rfl rfl rfl ?_
    rw [mI_add]
    refine s_goto (p' := 104) rfl rfl ?_
    exact ih _ (by omega) (paF_s g i r hf)
theorem y_whL {h0 : mj_H} {N x A B : Nat} (hN : h0.length = N) (hb : N + 200 < mj_CB) (hAN : N ≤ A) (hAB : A < B) (hB : B < N + 12) {Q : mj_O × mj_H → Prop} {v : Nat} (hv : v < 8) : ∀ (d : Nat) (s : (Nat → Nat) × (Nat → Nat) × Nat) (EB : Nat) (l4 l5 l6 l7 : Option Value) (g : mj_H), okS s → dst v (s.1 v) ≤ d → s.2.2 + dst v (s.1 v) ≤ 24 → sK g A B EB s → (B < EB ∧ EB < g.length ∨ EB = 1000000) → B < g.length → mz_mo [] (12 + s.2.2) (60 + 60 * s.2.2) h0 g → (∀ (s' : (Nat → Nat) × (Nat → Nat) × Nat) (EB : Nat) (l4 l5 l6 l7 : Option Value) (g : mj_H), s' = mkS v d s → sK g A B EB s' → (B < EB ∧ EB < g.length ∨ EB = 1000000) → B < g.length → mz_mo [] (12 + s'.2.2) (60 + 60 * s'.2.2) h0 g → mj_Wp 9 441 (145, [some (.ref x), some (.ref A), some (.ref B), some (.int (nI v)), l4, l5, l6, l7], [], g) Q) → mj_Wp 9 441 (43, [some (.ref x), some (.ref A), some (.ref B), some (.int (nI v)), l4, l5, l6, l7], [], g) Q
  | 0, s, EB, l4, l5, l6, l7, g, hs, hd, hm24, hK, hEB, hBg, hm, hq => by
    have hCB : mj_CB = 1000000 := rfl
    have hx : s.1 v < 8 := hs.1 v hv
    obtain ⟨⟨of, hA, hw⟩, hL⟩ := hK
    have hwv := hw v hv
    have hgl := hm.2.2.1
    have e := (dst_3 hv hx).2.mp (by omega)
    refine s_aldn (p' := 44) rfl rfl rfl ?_
    refine s_ildn (p' := 45) rfl rfl rfl ?_
    refine s_ial (p' := 46) rfl hA (inb_nI (by omega) (by omega)) rfl ?_
    rw [mI_cl (by omega), hwv]
    refine s_ildn (p' := 47) rfl rfl rfl ?_
    refine s_icmp (p' := 145) true rfl ((ci_eq (by omega) (by omega)).trans (decide_eq_true (by omega))) rfl ?_
    exact hq s EB l4 l5 l6 l7 g rfl ⟨⟨of, hA, hw⟩, hL⟩ hEB hBg hm
  | d + 1, s, EB, l4, l5, l6, l7, g, hs, hd, hm24, hK, hEB, hBg, hm, hq => by
    have hCB : mj_CB = 1000000 := rfl
    have hx : s.1 v < 8 := hs.1 v hv
    obtain ⟨⟨of, hA, hw⟩, hL⟩ := hK
    have hwv := hw v hv
    have hgl := hm.2.2.1
    by_cases e : s.1 v = v
    · rw [mkS_v e] at hq
      refine s_aldn (p' := 44) rfl rfl rfl ?_
      refine s_ildn (p' := 45) rfl rfl rfl ?_
      refine s_ial (p' := 46) rfl hA (inb_nI (by omega) (by omega)) rfl ?_
      rw [mI_cl (by omega), hwv]
      refine s_ildn (p' := 47) rfl rfl rfl ?_
      refine s_icmp (p' := 145) true rfl ((ci_eq (by omega) (by omega)).trans (decide_eq_true (by omega))) rfl ?_
      exact hq s EB l4 l5 l6 l7 g rfl ⟨⟨of, hA, hw⟩, hL⟩ hEB hBg hm
    · have hn := ngt_ok hv hx e
      have hle := lkex hv hx
      have hst := okS_st hv hs e
      have hd2 : dst v ((stG v s).1 v) + 1 = dst v (s.1 v) := hn.2
      have h24 : ngt v (s.1 v) < 24 := hn.1.1
      have h3 := dst_3 hv hx
      rw [show mkS v (d + 1) s = mkS v d (stG v s) from if_neg e] at hq
      have ih := y_whL hN hb hAN hAB hB hv d (stG v s) (x := x) (Q := Q)
      refine s_aldn (p' := 44) rfl rfl rfl ?_
      refine s_ildn (p' := 45) rfl rfl rfl ?_
      refine s_ial (p' := 46) rfl hA (inb_nI (by omega) (by omega)) rfl ?_
      rw [mI_cl (by omega), hwv]
      refine s_ildn (p' := 47) rfl rfl rfl ?_
      refine s_icmp (p' := 50) false rfl ((ci_eq (by omega) (by omega)).trans (decide_eq_false (by omega))) rfl ?_
      refine s_ildn (p' := 51) rfl rfl rfl ?_
      refine s_aldn (p' := 52) rfl rfl rfl ?_
      refine s_ildn (p' := 53) rfl rfl rfl ?_
      refine s_ial (p' := 54) rfl hA (inb_nI (by omega) (by omega)) rfl ?_
      rw [mI_cl (by omega), hwv]
      refine s_con (p' := 55) rfl rfl ?_
      refine s_sp (p' := 56) (ls' := _) rfl rfl rfl ?_
      refine s_sp (p' := 57) (ls' := _) rfl rfl rfl ?_
      rw [lk_y hv hx]
      refine s_ist (p' := 59) (ls' := [_, _, _, _, _, _, _, _]) rfl rfl rfl rfl ?_
      refine s_ild (p' := 61) rfl rfl rfl ?_
      by_cases q : lkb v (s.1 v) = 0
      · refine s_if (p' := 69) true rfl ((cz_eq (by omega)).trans (decide_eq_true (by omega))) rfl ?_
        refine s_aldn (p' := 70) rfl rfl rfl ?_
        refine s_ildn (p' := 71) rfl rfl rfl ?_
        refine s_ial (p' := 72) rfl hA (inb_nI (by omega) (by omega)) rfl ?_
        rw [mI_cl (by omega), hwv]
        refine s_ildn (p' := 73) rfl rfl rfl ?_
        refine s_con (p' := 74) rfl rfl ?_
        refine s_sp (p' := 75) (ls' := _) rfl rfl rfl ?_
        refine s_sp (p' := 76) (ls' := _) rfl rfl rfl ?_
        rw [ex_y hv hx]
        refine s_callV (p' := 79) (ls0 := [_, _]) rfl rfl rfl rfl rfl rfl rfl (y_ntz (hle.2.2 e q) hle.2.1) (by decide) rfl ?_
        refine s_ist (p' := 81) (ls' := [_, _, _, _, _, _, _, _]) rfl rfl rfl rfl ?_
        refine s_bip (p' := 83) rfl rfl ?_
        refine s_ild (p' := 85) rfl rfl rfl ?_
        refine s_sp (p' := 86) (ls' := _) rfl rfl rfl ?_
        rw [mI_mul]
        refine s_ild (p' := 88) rfl rfl rfl ?_
        refine s_if (p' := 97) true rfl ((cz_eq (by omega)).trans (decide_eq_true (by omega))) rfl ?_
        refine s_ildn (p' := 98) rfl rfl rfl ?_
        refine s_sp (p' := 99) (ls' := _) rfl rfl rfl ?_
        rw [mI_add, show 8 * tzb (exb v (s.1 v)) + v = ngt v (s.1 v) from by unfold ngt; rw [if_neg (fun z => z q)]]
        refine s_ist (p' := 101) (ls' := [_, _, _, _, _, _, _, _]) rfl rfl rfl rfl ?_
        refine s_con (p' := 102) rfl rfl ?_
        refine s_ist (p' := 104) (ls' := [_, _, _, _, _, _, _, _]) rfl rfl rfl rfl ?_
        have := y_tnL (x := x) (B := B) (v := v) (g := ngt v (s.1 v)) (r := s.1) (l4 := some (.int (nI (lkb v (s.1 v))))) (l5 := some (.int (nI (tzb (exb v (s.1 v)))))) (Q := Q) (by omega) h24 hs.1 hA (fun of2 ho2 => ?_) 8 0 of (by omega) (fun w hw2 => (hw w hw2).trans (by unfold paF; rw [if_neg (Nat.not_lt_zero w)]))
        · rw [set_id (by omega) hA] at this
          exact this
        have m1 : mz_mo [A] 0 0 g (g.set A (.inl (0, (8, .inl of2)))) := mz_mo.s (mz_mo.rf _ _ _ _) (by omega) hA rfl (Or.inl (by simp))
        have hL1 := hL.fr m1.1 (by simp; omega) (by simp; omega) (fun i hi => by have := (hs.2 (s.2.2 - 1 - i) (by omega)).1; simp; omega)
        have hl1 : (g.set A (.inl (0, (8, .inl of2)))).length = g.length := List.length_set
        have hA1 : mj_rd (g.set A (.inl (0, (8, .inl of2)))) A = some (.inl (0, (8, .inl of2))) := rd_set (by omega) hA
        refine s_aldn (p' := 131) rfl rfl rfl ?_
        refine s_con (p' := 132) rfl rfl ?_
        refine s_ild (p' := 134) rfl rfl rfl ?_
        refine s_callV (p' := 137) (ls0 := [_]) rfl rfl rfl rfl rfl rfl rfl (y_vo h24) (by decide) rfl ?_
        refine s_callEN (p' := 142) (ls0 := [_, _, _, _, _]) rfl rfl rfl rfl rfl (by obtain ⟨_, _, _, q, _⟩ := hL1; exact mj_rcv_is q) rfl (y_adz (by omega) (by omega) (by omega) hL1 (gE_k _ h24)) rfl rfl ?_
        rintro g2 ⟨EB2, k1, k2, k3, k4⟩
        refine s_goto (p' := 43) rfl rfl ?_
        have g2l := k4.2.1
        have g2u := k4.2.2.1
        refine ih EB2 _ _ _ _ g2 hst (by omega) (by show s.2.2 + 1 + _ ≤ 24; omega) ⟨⟨of2, k4.1 A (by simp; omega) _ hA1, ho2⟩, k1.cg rfl (fun i hi => ?_)⟩ ?_ (by omega) ?_ hq
        · show ups (fun j => 1000138 + s.2.1 (s.2.2 - 1 - j)) (1000138 + ngt v (s.1 v)) i = 1000138 + upN s.2.1 s.2.2 (ngt v (s.1 v)) (s.2.2 + 1 - 1 - i)
          unfold ups upN
          by_cases q : i = 0
          · rw [if_pos q, if_pos (by omega)]
          · have hi : i < s.2.2 + 1 := hi
            rw [if_neg q, if_neg (by omega)]
            show 1000138 + s.2.1 (s.2.2 - 1 - (i - 1)) = _
            rw [show s.2.2 - 1 - (i - 1) = s.2.2 + 1 - 1 - i by omega]
        · rcases k2 with rfl | rfl
          · omega
          · obtain ⟨cp, _, _, _, q, _⟩ := k1
            have := rd_len (by omega) (rdA_lt q)
            omega
        · refine (hm.tr m1 (k := 12 + s.2.2) (z := 60 + 60 * s.2.2) (fun y hy => Or.inr ?_) (by omega) (by omega)).tr k4 (fun y hy => Or.inr ?_) (by show 12 + s.2.2 + 1 ≤ 12 + (s.2.2 + 1); omega) (by show 60 + 60 * s.2.2 + (2 * s.2.2 + 10) ≤ 60 + 60 * (s.2.2 + 1); omega)
          · have := List.mem_singleton.mp hy
            omega
          · simp at hy
            rcases hy with rfl | rfl <;> omega
      · refine s_if (p' := 64) false rfl ((cz_eq (by omega)).trans (decide_eq_false (by omega))) rfl ?_
        refine s_ild (p' := 66) rfl rfl rfl ?_
        refine s_goto (p' := 76) rfl rfl ?_
        refine s_callV (p' := 79) (ls0 := [_, _]) rfl rfl rfl rfl rfl rfl rfl (y_ntz (by omega) hle.1) (by decide) rfl ?_
        refine s_ist (p' := 81) (ls' := [_, _, _, _, _, _, _, _]) rfl rfl rfl rfl ?_
        refine s_bip (p' := 83) rfl rfl ?_
        refine s_ild (p' := 85) rfl rfl rfl ?_
        refine s_sp (p' := 86) (ls' := _) rfl rfl rfl ?_
        rw [mI_mul]
        refine s_ild (p' := 88) rfl rfl rfl ?_
        refine s_if (p' := 91) false rfl ((cz_eq (by omega)).trans (decide_eq_false (by omega))) rfl ?_
        refine s_aldn (p' := 92) rfl rfl rfl ?_
        refine s_ildn (p' := 93) rfl rfl rfl ?_
        refine s_ial (p' := 94) rfl hA (inb_nI (by omega) (by omega)) rfl ?_
        rw [mI_cl (by omega), hwv]
        refine s_goto (p' := 98) rfl rfl ?_
        refine s_sp (p' := 99) (ls' := _) rfl rfl rfl ?_
        rw [mI_add, show 8 * tzb (lkb v (s.1 v)) + s.1 v = ngt v (s.1 v) from by unfold ngt; rw [if_pos q]]
        refine s_ist (p' := 101) (ls' := [_, _, _, _, _, _, _, _]) rfl rfl rfl rfl ?_
        refine s_con (p' := 102) rfl rfl ?_
        refine s_ist (p' := 104) (ls' := [_, _, _, _, _, _, _, _]) rfl rfl rfl rfl ?_
        have := y_tnL (x := x) (B := B) (v := v) (g := ngt v (s.1 v)) (r := s.1) (l4 := some (.int (nI (lkb v (s.1 v))))) (l5 := some (.int (nI (tzb (lkb v (s.1 v)))))) (Q := Q) (by omega) h24 hs.1 hA (fun of2 ho2 => ?_) 8 0 of (by omega) (fun w hw2 => (hw w hw2).trans (by unfold paF; rw [if_neg (Nat.not_lt_zero w)]))
        · rw [set_id (by omega) hA] at this
          exact this
        have m1 : mz_mo [A] 0 0 g (g.set A (.inl (0, (8, .inl of2)))) := mz_mo.s (mz_mo.rf _ _ _ _) (by omega) hA rfl (Or.inl (by simp))
        have hL1 := hL.fr m1.1 (by simp; omega) (by simp; omega) (fun i hi => by have := (hs.2 (s.2.2 - 1 - i) (by omega)).1; simp; omega)
        have hl1 : (g.set A (.inl (0, (8, .inl of2)))).length = g.length := List.length_set
        have hA1 : mj_rd (g.set A (.inl (0, (8, .inl of2)))) A = some (.inl (0, (8, .inl of2))) := rd_set (by omega) hA
        refine s_aldn (p' := 131) rfl rfl rfl ?_
        refine s_con (p' := 132) rfl rfl ?_
        refine s_ild (p' := 134) rfl rfl rfl ?_
        refine s_callV (p' := 137) (ls0 := [_]) rfl rfl rfl rfl rfl rfl rfl (y_vo h24) (by decide) rfl ?_
        refine s_callEN (p' := 142) (ls0 := [_, _, _, _, _]) rfl rfl rfl rfl rfl (by obtain ⟨_, _, _, q, _⟩ := hL1; exact mj_rcv_is q) rfl (y_adz (by omega) (by omega) (by omega) hL1 (gE_k _ h24)) rfl rfl ?_
        rintro g2 ⟨EB2, k1, k2, k3, k4⟩
        refine s_goto (p' := 43) rfl rfl ?_
        have g2l := k4.2.1
        have g2u := k4.2.2.1
        refine ih EB2 _ _ _ _ g2 hst (by omega) (by show s.2.2 + 1 + _ ≤ 24; omega) ⟨⟨of2, k4.1 A (by simp; omega) _ hA1, ho2⟩, k1.cg rfl (fun i hi => ?_)⟩ ?_ (by omega) ?_ hq
        · show ups (fun j => 1000138 + s.2.1 (s.2.2 - 1 - j)) (1000138 + ngt v (s.1 v)) i = 1000138 + upN s.2.1 s.2.2 (ngt v (s.1 v)) (s.2.2 + 1 - 1 - i)
          unfold ups upN
          by_cases q : i = 0
          · rw [if_pos q, if_pos (by omega)]
          · have hi : i < s.2.2 + 1 := hi
            rw [if_neg q, if_neg (by omega)]
            show 1000138 + s.2.1 (s.2.2 - 1 - (i - 1)) = _
            rw [show s.2.2 - 1 - (i - 1) = s.2.2 + 1 - 1 - i by omega]
        · rcases k2 with rfl | rfl
          · omega
          · obtain ⟨cp, _, _, _, q, _⟩ := k1
            have := rd_len (by omega) (rdA_lt q)
            omega
        · refine (hm.tr m1 (k := 12 + s.2.2) (z := 60 + 60 * s.2.2) (fun y hy => Or.inr ?_) (by omega) (by omega)).tr k4 (fun y hy => Or.inr ?_) (by show 12 + s.2.2 + 1 ≤ 12 + (s.2.2 + 1); omega) (by show 60 + 60 * s.2.2 + (2 * s.2.2 + 10) ≤ 60 + 60 * (s.2.2 + 1); omega)
          · have := List.mem_singleton.mp hy
            omega
          · simp at hy
            rcases hy with rfl | rfl <;> omega
theorem y_msL {h0 : mj_H} {N x A B : Nat} (hN : h0.length = N) (hb : N + 200 < mj_CB) (hAN : N ≤ A) (hAB : A < B) (hB : B < N + 12) : ∀ (k v : Nat) (s : (Nat → Nat) × (Nat → Nat) × Nat) (EB : Nat) (l4 l5 l6 l7 : Option Value) (g : mj_H), v + k = 8 → okS s → s.2.2 ≤ 3 * v → sK g A B EB s → (B < EB ∧ EB < g.length ∨ EB = 1000000) → B < g.length → mz_mo [] (12 + s.2.2) (60 + 60 * s.2.2) h0 g → mj_Wp 9 441 (37, [some (.ref x), some (.ref A), some (.ref B), some (.int (nI v)), l4, l5, l6, l7], [], g) (mz_V fun r h' => ∃ (s' : (Nat → Nat) × (Nat → Nat) × Nat) (EB : Nat), s' = mkA k v s ∧ r = .ref B ∧ sK h' A B EB s' ∧ s'.2.2 ≤ 24 ∧ B < EB ∧ mz_mo [] (12 + s'.2.2) (60 + 60 * s'.2.2) h0 h')
  | 0, v, s, EB, l4, l5, l6, l7, g, hv, hs, hm3, hK, hEB, hBg, hm => by
    obtain rfl : v = 8 := by omega
    refine s_ildn (p' := 38) rfl rfl rfl ?_
    refine s_bip (p' := 40) rfl rfl ?_
    refine s_icmp (p' := 151) true rfl ((ci_ge (by omega) (by omega)).trans (decide_eq_true (by omega))) rfl ?_
    refine s_aldn (p' := 152) rfl rfl rfl ?_
    refine s_aret rfl ?_
    have hCB : mj_CB = 1000000 := rfl
    exact ⟨_, _, rfl, s, EB, rfl, rfl, hK, by omega, by omega, hm⟩
  | k + 1, v, s, EB, l4, l5, l6, l7, g, hv, hs, hm3, hK, hEB, hBg, hm => by
    have hv8 : v < 8 := by omega
    have h3 := dst_3 hv8 (hs.1 v hv8)
    have hok := mkS_ok hv8 3 s hs h3.1
    refine s_ildn (p' := 38) rfl rfl rfl ?_
    refine s_bip (p' := 40) rfl rfl ?_
    refine s_icmp (p' := 43) false rfl ((ci_ge (by omega) (by omega)).trans (decide_eq_false (by omega))) rfl ?_
    refine y_whL hN hb hAN hAB hB hv8 3 s EB l4 l5 l6 l7 g hs h3.1 (by omega) hK hEB hBg hm (fun s' EB2 l4 l5 l6 l7 g2 e0 k1 k2 k3 k4 => ?_)
    rw [← e0] at hok
    refine s_inc (p' := 148) (ls' := [_, _, _, _, _, _, _, _]) rfl rfl rfl rfl rfl ?_
    rw [mI_add]
    refine s_goto (p' := 37) rfl rfl ?_
    refine (y_msL hN hb hAN hAB hB k (v + 1) s' EB2 _ _ _ _ g2 (by omega) hok.1 (by omega) k1 k2 k3 k4).imp ?_
    rintro o ⟨r, h2, rfl, s2, E3, e, q1, q2, q3, q4, q5⟩
    exact ⟨_, _, rfl, s2, E3, e.trans (by rw [e0]; rfl), q1, q2, q3, q4, q5⟩
theorem y_rwL {h0 : mj_H} {N x Lr E n cap : Nat} {mc : Int32} {ef : Nat → Option Nat} {G : Nat → Nat} {a0 a1 a2 a3 a4 a5 a7 a8 a9 a10 : Value} (hN : h0.length = N) (hb : N + 200 < mj_CB) (hX : mj_rd h0 x = some (.inr (17, [a0, a1, a2, a3, a4, a5, .ref Lr, a7, a8, a9, a10]))) (hL : mj_rd h0 Lr = some (alC E n mc)) (hE : mj_rdA h0 E = some (6, (cap, objs ef))) (hG : ∀ j, j < n → ef j = some (1000138 + G j) ∧ G j < 24) (hn : n ≤ 24) (h1 : n ≤ cap) (h2 : cap < 1000) {Q : mj_O × mj_H → Prop} (hq : ∀ (of : Nat → Int32) (g : mj_H), g.length = N + 9 → mj_rd g N = some (.inl (0, (8, .inl (of)))) → (∀ w, w < 8 → of w = nI (thr G n 0 w)) → mz_mo [] 9 40 h0 g → mj_Wp 9 441 (27, [some (.ref x), some (.ref N), some (.int (nI 8)), none, none, none, none, none], [], g) Q) : ∀ (k v : Nat) (of : Nat → Int32) (g : mj_H), v + k = 8 → g.length = N + 1 + v → mj_rd g N = some (.inl (0, (8, .inl (of)))) → (∀ w, w < v → of w = nI (thr G n 0 w)) → mz_mo [] (1 + v) (8 + 4 * v) h0 g → mj_Wp 9 441 (7, [some (.ref x), some (.ref N), some (.int (nI v)), none, none, none, none, none], [], g) Q
  | 0, v, of, g, hv, hl, hA, hw, hm => by
    obtain rfl : v = 8 := by omega
    refine s_ildn (p' := 8) rfl rfl rfl ?_
    refine s_bip (p' := 10) rfl rfl ?_
    refine s_icmp (p' := 27) true rfl ((ci_ge (by omega) (by omega)).trans (decide_eq_true (by omega))) rfl ?_
    exact hq of g hl hA hw hm
  | k + 1, v, of, g, hv, hl, hA, hw, hm => by
    have gL := hm.1 Lr (by simp) _ hL
    have gX := hm.1 x (by simp) _ hX
    have gE2 := hm.1.A (by simp) hE
    have ih := y_rwL hN hb hX hL hE hG hn h1 h2 hq k (v + 1)
    refine s_ildn (p' := 8) rfl rfl rfl ?_
    refine s_bip (p' := 10) rfl rfl ?_
    refine s_icmp (p' := 13) false rfl ((ci_ge (by omega) (by omega)).trans (decide_eq_false (by omega))) rfl ?_
    refine s_aldn (p' := 14) rfl rfl rfl ?_
    refine s_ildn (p' := 15) rfl rfl rfl ?_
    refine s_aldn (p' := 16) rfl rfl rfl ?_
    refine s_ildn (p' := 17) rfl rfl rfl ?_
    refine s_callEV (p' := 20) (ls0 := [_, _, _, _, _]) rfl rfl rfl rfl rfl (mj_rcv_is gX) rfl (y_go (N := N + 1 + v) hl (by omega) gL gE2 hG hn h1 h2 gX (show v < 8 by omega)) rfl rfl ?_
    rintro _ g2 ⟨rfl, lr, rfl⟩
    refine s_ias (p' := 21) rfl (by omega) (rd_app hA) (inb_nI (by omega) (by omega)) rfl ?_
    rw [mI_cl (by omega)]
    refine s_inc (p' := 24) (ls' := [_, _, _, _, _, _, _, _]) rfl rfl rfl rfl rfl ?_
    rw [mI_add]
    refine s_goto (p' := 7) rfl rfl ?_
    refine ih _ _ (by omega) (by rw [List.length_set, List.length_append, hl]; rfl) (rd_set (by omega) (rd_app hA)) (fun w hw2 => ?_) ?_
    · unfold upd
      by_cases q : w = v
      · rw [if_pos q, q]
      · rw [if_neg q]
        exact hw w (by omega)
    · exact mz_mo.s (hm.tr (mz_mo.ap [] g (.inr (27, [.int (nI n), .int lr, .int mc, .ref Lr]))) (fun y hy => Or.inl hy) (by omega) (by show 8 + 4 * v + 4 ≤ 8 + 4 * (v + 1); omega)) (by omega) (rd_app hA) rfl (Or.inr (by omega))
theorem mkA_ok : ∀ (k v : Nat) (s : (Nat → Nat) × (Nat → Nat) × Nat), v + k = 8 → okS s → s.2.2 ≤ 3 * v → okS (mkA k v s) ∧ (mkA k v s).2.2 ≤ 24
  | 0, v, s, hv, hs, hm => ⟨hs, by show s.2.2 ≤ 24; omega⟩
  | k + 1, v, s, hv, hs, hm => by
    have h3 := dst_3 (show v < 8 by omega) (hs.1 v (by omega))
    have h := mkS_ok (show v < 8 by omega) 3 s hs h3.1
    exact mkA_ok k (v + 1) _ (by omega) h.1 (by omega)
theorem mkG_ok {G : Nat → Nat} {n : Nat} (hG : ∀ j, j < n → G j < 24) : okS (mkG G n) ∧ (mkG G n).2.2 ≤ 24 :=
  mkA_ok 8 0 _ rfl ⟨fun w hw => thr_lt hG n 0 w (by omega) hw, fun j hj => absurd hj (Nat.not_lt_zero j)⟩ (Nat.le_refl 0)
theorem y_mks {h0 : mj_H} {N x Lr E n cap : Nat} {mc : Int32} {ef : Nat → Option Nat} {G : Nat → Nat} {a0 a1 a2 a3 a4 a5 a7 a8 a9 a10 : Value} (hN : h0.length = N) (hb : N + 200 < mj_CB) (hX : mj_rd h0 x = some (.inr (17, [a0, a1, a2, a3, a4, a5, .ref Lr, a7, a8, a9, a10]))) (hL : mj_rd h0 Lr = some (alC E n mc)) (hE : mj_rdA h0 E = some (6, (cap, objs ef))) (hG : ∀ j, j < n → ef j = some (1000138 + G j) ∧ G j < 24) (hn : n ≤ 24) (h1 : n ≤ cap) (h2 : cap < 1000) : mj_Wp 9 441 (0, [some (.ref x), none, none, none, none, none, none, none], [], h0) (mz_V fun r h' => ∃ B EB, r = .ref B ∧ N ≤ B ∧ N ≤ EB ∧ yLs h' B EB (mkG G n).2.2 (fun j => 1000138 + (mkG G n).2.1 ((mkG G n).2.2 - 1 - j)) ∧ (mkG G n).2.2 ≤ 24 ∧ okS (mkG G n) ∧ mz_mo [] 36 1500 h0 h') := by
  have hCB : mj_CB = 1000000 := rfl
  refine s_bip (p' := 2) rfl rfl ?_
  refine s_naz (p' := 4) (a := N) (n := 8) rfl hN (Nat.ble_eq.mpr (by decide)) rfl ?_
  refine s_astn (p' := 5) (ls' := [_, _, _, _, _, _, _, _]) rfl rfl rfl rfl ?_
  refine s_con (p' := 6) rfl rfl ?_
  refine s_istn (p' := 7) (ls' := [_, _, _, _, _, _, _, _]) rfl rfl rfl rfl ?_
  refine y_rwL hN hb hX hL hE hG hn h1 h2 (fun of g gl gA gw gm => ?_) 8 0 (fun _ => 0) _ (by omega) (by rw [List.length_append, hN]; rfl) (rd_nw (Nat.blt_eq.mpr (by omega)) hN) (fun w hw => absurd hw (Nat.not_lt_zero w)) (mz_mo.ap [] h0 _)
  refine s_newz (p' := 30) (a := (N + 9)) rfl gl rfl rfl ?_
  refine s_sp (p' := 31) (ls' := _) rfl rfl rfl ?_
  refine s_callN (p' := 34) (ls0 := [_]) rfl rfl rfl rfl rfl (mj_rcv_is (rd_nw (Nat.blt_eq.mpr (by omega)) gl)) rfl (y_ini (by omega) (rd_nw (Nat.blt_eq.mpr (by omega)) gl)) (by decide) rfl ?_
  rw [set_a0 gl]
  refine s_astn (p' := 35) (ls' := [_, _, _, _, _, _, _, _]) rfl rfl rfl rfl ?_
  refine s_con (p' := 36) rfl rfl ?_
  refine s_istn (p' := 37) (ls' := [_, _, _, _, _, _, _, _]) rfl rfl rfl rfl ?_
  have hgB : (g ++ [(.inr (18, [.ref 1000000, .int (nI 0), .int (nI 0)]) : mj_C)]).length = N + 10 := by rw [List.length_append, gl]; rfl
  refine (y_msL hN hb (A := N) (B := N + 9) (Nat.le_refl N) (by omega) (by omega) 8 0 (fun w => thr G n 0 w, fun _ => 0, 0) 1000000 _ _ _ _ _ (by omega) ⟨fun w hw => thr_lt (fun j hj => (hG j hj).2) n 0 w (by omega) hw, fun j hj => absurd hj (Nat.not_lt_zero j)⟩ (Nat.le_refl 0) ⟨⟨of, rd_app gA, gw⟩, ⟨0, nI 0, fun _ => none, rd_nw (Nat.blt_eq.mpr (by omega)) gl, mj_rdA_cst (k_0 _) (by decide), Nat.le_refl 0, by decide, Or.inr ⟨rfl, rfl⟩, fun i hi => absurd hi (Nat.not_lt_zero i)⟩⟩ (Or.inr rfl) (by rw [hgB]; omega) ?_).imp ?_
  · exact gm.tr (mz_mo.ap [] g _) (fun y hy => Or.inl hy) (by omega) (show 40 + 3 ≤ 60 + 60 * 0 by omega)
  rintro o ⟨r, h3, rfl, s', E3, rfl, rfl, ⟨_, q1⟩, q2, q4, q3⟩
  have hG24 := mkG_ok (G := G) (n := n) (fun j hj => (hG j hj).2)
  exact ⟨_, _, rfl, N + 9, E3, rfl, by omega, by omega, q1, hG24.2, hG24.1, q3.wk (fun y hy => Or.inl hy) (by have := hG24.2; show 12 + (mkG G n).2.2 ≤ 36; omega) (by have := hG24.2; show 60 + 60 * (mkG G n).2.2 ≤ 1500; omega)⟩
