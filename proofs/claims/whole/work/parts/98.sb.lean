/-! StringBuilders. -/
theorem sub_ti {a b : Nat} (ha : a < 1073741824) (hb : b < 1073741824) : (nI a - nI b).toInt = (a : Int) - b := by
  rw [Int32.toInt_sub, mI_ti (by omega), mI_ti (by omega)]
  refine Int.bmod_eq_of_le ?_ ?_ <;> omega
theorem cz_sub {a b : Nat} (ha : a < 1073741824) (hb : b < 1073741824) : mj_ci .le (nI a - nI b) 0 = decide (a ≤ b) := by
  show decide (_ ≤ _) = _
  refine decide_eq_decide.mpr ?_
  rw [Int32.le_iff_toInt_le, sub_ti ha hb, show (0 : Int32).toInt = 0 from rfl]
  omega
abbrev sbC (B c n : Nat) : mj_C := .inr (20, [.ref B, .int (nI c), .int (nI 0), .int (nI n)])
def catF (f : Nat → Nat) (n : Nat) (g : Nat → Nat) : Nat → Nat := fun j => if j < n then f j else g (j - n)
theorem y_ncp0 {h : mj_H} {S B L n m : Nat} (bS : S < mj_CB) (hb : h.length + 10 < mj_CB) (hS : mj_rd h S = some (sbC B 0 n)) {bf : Nat → Int32} (hB : mj_rd h B = some (.inl (1, (L, .inl bf)))) (hL : L < m) (hm : m ≤ 150) : mj_run 2 252 (0, [some (.ref S), some (.int (nI m)), none, none, none, none], [], h) (.inl (some (.int (nI ((L + max (m - L) (L + 2)))))), h) := by
  refine s_aldn (p' := 1) rfl rfl rfl ?_
  refine s_gf (p' := 4) rfl hS rfl rfl ?_
  refine s_len (p' := 5) rfl (mj_rdA_is hB (by decide)) (by decide) rfl ?_
  refine s_istn (p' := 6) (ls' := [_, _, _, _, _, _]) rfl rfl rfl rfl ?_
  refine s_ildn (p' := 7) rfl rfl rfl ?_
  refine s_aldn (p' := 8) rfl rfl rfl ?_
  refine s_gf (p' := 11) rfl hS rfl rfl ?_
  refine s_sp (p' := 12) (ls' := _) rfl rfl rfl ?_
  rw [shl0 (by omega)]
  refine s_istn (p' := 13) (ls' := [_, _, _, _, _, _]) rfl rfl rfl rfl ?_
  refine s_ildn (p' := 14) rfl rfl rfl ?_
  refine s_ildn (p' := 15) rfl rfl rfl ?_
  refine s_sp (p' := 16) (ls' := _) rfl rfl rfl ?_
  rw [mI_sub (by omega)]
  refine s_ist (p' := 18) (ls' := [_, _, _, _, _, _]) rfl rfl rfl rfl ?_
  refine s_ildn (p' := 19) rfl rfl rfl ?_
  refine s_ild (p' := 21) rfl rfl rfl ?_
  refine s_ildn (p' := 22) rfl rfl rfl ?_
  refine s_con (p' := 23) rfl rfl ?_
  refine s_aldn (p' := 24) rfl rfl rfl ?_
  refine s_gf (p' := 27) rfl hS rfl rfl ?_
  refine s_sp (p' := 28) (ls' := _) rfl rfl rfl ?_
  rw [show (nI 2) <<< (nI 0 &&& 31) = nI 2 from by decide +kernel]
  refine s_sp (p' := 29) (ls' := _) rfl rfl rfl ?_
  rw [mI_add]
  refine s_callV (p' := 32) (ls0 := [_, _, _, _]) rfl rfl rfl rfl rfl rfl rfl (y_nwl (by omega) (by omega) (by omega) (by omega)) (by decide) rfl ?_
  refine s_ist (p' := 34) (ls' := [_, _, _, _, _, _]) rfl rfl rfl rfl ?_
  refine s_ild (p' := 36) rfl rfl rfl ?_
  refine s_sh (p' := 38) (ls' := _) (st' := .int (nI 2147483647) :: _) (h' := _) rfl rfl rfl rfl ?_
  refine s_icmp (p' := 51) true rfl ((ci_ne (by omega) (by decide)).trans (decide_eq_true (by omega))) rfl ?_
  refine s_ild (p' := 53) rfl rfl rfl ?_
  refine s_aldn (p' := 54) rfl rfl rfl ?_
  refine s_gf (p' := 57) rfl hS rfl rfl ?_
  refine s_sp (p' := 58) (ls' := _) rfl rfl rfl ?_
  rw [mI_shr0 (by omega)]
  exact s_iret rfl rfl rfl
theorem y_ens0 {h : mj_H} {S B L n m : Nat} {f : Nat → Nat} (bS : S < mj_CB) (hb : h.length + 10 < mj_CB) (hS : mj_rd h S = some (sbC B 0 n)) (hy : yBy h B L 0 n f) (bB : B < mj_CB) (hL : L < 900) (hm : m ≤ 150) : mj_Wp 3 251 (0, [some (.ref S), some (.int (nI m)), none], [], h) (mz_N fun h' => ∃ B' L', mj_rd h' S = some (sbC B' 0 n) ∧ yBy h' B' L' 0 n f ∧ B' < mj_CB ∧ m * (0 + 1) ≤ L' ∧ (L' = L ∨ L' ≤ (2 * m + 2) * (0 + 1)) ∧ (B' = B ∨ B' = h.length) ∧ mz_mo [S] 1 ((2 * m + 2) * (0 + 1)) h h') := by
  obtain ⟨bf, hB, hl, hf, hv⟩ := hy
  refine s_aldn (p' := 1) rfl rfl rfl ?_
  refine s_gf (p' := 4) rfl hS rfl rfl ?_
  refine s_len (p' := 5) rfl (mj_rdA_is hB (by decide)) (by decide) rfl ?_
  refine s_aldn (p' := 6) rfl rfl rfl ?_
  refine s_gf (p' := 9) rfl hS rfl rfl ?_
  refine s_sp (p' := 10) (ls' := _) rfl rfl rfl ?_
  rw [mI_shr0 (by omega)]
  refine s_istn (p' := 11) (ls' := [_, _, _]) rfl rfl rfl rfl ?_
  refine s_ildn (p' := 12) rfl rfl rfl ?_
  refine s_ildn (p' := 13) rfl rfl rfl ?_
  refine s_sp (p' := 14) (ls' := _) rfl rfl rfl ?_
  by_cases q : m ≤ L
  · refine s_if (p' := 38) true rfl ((cz_sub (by omega) (by omega)).trans (decide_eq_true (by omega))) rfl ?_
    refine s_ret rfl ?_
    exact ⟨_, rfl, B, L, hS, ⟨bf, hB, hl, hf, hv⟩, bB, by omega, Or.inl rfl, Or.inl rfl, mz_mo.rf _ _ _ _⟩
  · refine s_if (p' := 17) false rfl ((cz_sub (by omega) (by omega)).trans (decide_eq_false (by omega))) rfl ?_
    refine s_aldn (p' := 18) rfl rfl rfl ?_
    refine s_aldn (p' := 19) rfl rfl rfl ?_
    refine s_gf (p' := 22) rfl hS rfl rfl ?_
    refine s_aldn (p' := 23) rfl rfl rfl ?_
    refine s_ildn (p' := 24) rfl rfl rfl ?_
    refine s_callV (p' := 27) (ls0 := [_, _, _, _, _, _]) rfl rfl rfl rfl rfl (mj_rcv_is hS) rfl (y_ncp0 bS hb hS hB (by omega) hm) (by decide) rfl ?_
    refine s_aldn (p' := 28) rfl rfl rfl ?_
    refine s_gf (p' := 31) rfl hS rfl rfl ?_
    refine s_sp (p' := 32) (ls' := _) rfl rfl rfl ?_
    rw [shl0 (by omega)]
    refine s_callEV (p' := 35) (ls0 := [_, _, _]) rfl rfl rfl rfl rfl rfl rfl (y_cpo rfl hb hB hf (by omega) (by omega) bB) rfl rfl ?_
    rintro _ g ⟨rfl, bf', k1, k2, k3, k4⟩
    have hSN : S ≠ h.length := by have := rd_len bS hS; omega
    have gS := k4.1 S (by simp) _ hS
    refine s_pf (p' := 38) (fs' := [_, _, _, _]) rfl bS gS (Nat.blt_eq.mp rfl) rfl rfl rfl ?_
    refine s_ret rfl ?_
    exact ⟨_, rfl, h.length, (L + max (m - L) (L + 2)), rd_set bS gS, ⟨bf', (rd_setn hSN).trans k1, by omega, k2, fun j hj => (k3 j (by omega)).trans (hv j hj)⟩, by omega, by omega, Or.inr (by omega), Or.inr rfl, mz_mo.s (k4.wk (fun y hy => absurd hy (by simp)) (by omega) (by omega)) bS gS rfl (Or.inl (by simp))⟩
theorem y_ncp1 {h : mj_H} {S B L n m : Nat} (bS : S < mj_CB) (hb : h.length + 10 < mj_CB) (hS : mj_rd h S = some (sbC B 1 n)) {bf : Nat → Int32} (hB : mj_rd h B = some (.inl (1, (L, .inl bf)))) (hL : L < 2 * m) (hm : m ≤ 150) : mj_run 2 252 (0, [some (.ref S), some (.int (nI m)), none, none, none, none], [], h) (.inl (some (.int (nI ((L + max (2 * m - L) (L + 4)) / 2)))), h) := by
  refine s_aldn (p' := 1) rfl rfl rfl ?_
  refine s_gf (p' := 4) rfl hS rfl rfl ?_
  refine s_len (p' := 5) rfl (mj_rdA_is hB (by decide)) (by decide) rfl ?_
  refine s_istn (p' := 6) (ls' := [_, _, _, _, _, _]) rfl rfl rfl rfl ?_
  refine s_ildn (p' := 7) rfl rfl rfl ?_
  refine s_aldn (p' := 8) rfl rfl rfl ?_
  refine s_gf (p' := 11) rfl hS rfl rfl ?_
  refine s_sp (p' := 12) (ls' := _) rfl rfl rfl ?_
  rw [shl1 (by omega)]
  refine s_istn (p' := 13) (ls' := [_, _, _, _, _, _]) rfl rfl rfl rfl ?_
  refine s_ildn (p' := 14) rfl rfl rfl ?_
  refine s_ildn (p' := 15) rfl rfl rfl ?_
  refine s_sp (p' := 16) (ls' := _) rfl rfl rfl ?_
  rw [mI_sub (by omega)]
  refine s_ist (p' := 18) (ls' := [_, _, _, _, _, _]) rfl rfl rfl rfl ?_
  refine s_ildn (p' := 19) rfl rfl rfl ?_
  refine s_ild (p' := 21) rfl rfl rfl ?_
  refine s_ildn (p' := 22) rfl rfl rfl ?_
  refine s_con (p' := 23) rfl rfl ?_
  refine s_aldn (p' := 24) rfl rfl rfl ?_
  refine s_gf (p' := 27) rfl hS rfl rfl ?_
  refine s_sp (p' := 28) (ls' := _) rfl rfl rfl ?_
  rw [show (nI 2) <<< (nI 1 &&& 31) = nI 4 from by decide +kernel]
  refine s_sp (p' := 29) (ls' := _) rfl rfl rfl ?_
  rw [mI_add]
  refine s_callV (p' := 32) (ls0 := [_, _, _, _]) rfl rfl rfl rfl rfl rfl rfl (y_nwl (by omega) (by omega) (by omega) (by omega)) (by decide) rfl ?_
  refine s_ist (p' := 34) (ls' := [_, _, _, _, _, _]) rfl rfl rfl rfl ?_
  refine s_ild (p' := 36) rfl rfl rfl ?_
  refine s_sh (p' := 38) (ls' := _) (st' := .int (nI 2147483647) :: _) (h' := _) rfl rfl rfl rfl ?_
  refine s_icmp (p' := 51) true rfl ((ci_ne (by omega) (by decide)).trans (decide_eq_true (by omega))) rfl ?_
  refine s_ild (p' := 53) rfl rfl rfl ?_
  refine s_aldn (p' := 54) rfl rfl rfl ?_
  refine s_gf (p' := 57) rfl hS rfl rfl ?_
  refine s_sp (p' := 58) (ls' := _) rfl rfl rfl ?_
  rw [mI_half (by omega)]
  exact s_iret rfl rfl rfl
theorem y_ens1 {h : mj_H} {S B L n m : Nat} {f : Nat → Nat} (bS : S < mj_CB) (hb : h.length + 10 < mj_CB) (hS : mj_rd h S = some (sbC B 1 n)) (hy : yBy h B L 1 n f) (bB : B < mj_CB) (hL : L < 900) (hm : m ≤ 150) : mj_Wp 3 251 (0, [some (.ref S), some (.int (nI m)), none], [], h) (mz_N fun h' => ∃ B' L', mj_rd h' S = some (sbC B' 1 n) ∧ yBy h' B' L' 1 n f ∧ B' < mj_CB ∧ m * (1 + 1) ≤ L' ∧ (L' = L ∨ L' ≤ (2 * m + 2) * (1 + 1)) ∧ (B' = B ∨ B' = h.length) ∧ mz_mo [S] 1 ((2 * m + 2) * (1 + 1)) h h') := by
  obtain ⟨bf, hB, hl, hf, hv⟩ := hy
  refine s_aldn (p' := 1) rfl rfl rfl ?_
  refine s_gf (p' := 4) rfl hS rfl rfl ?_
  refine s_len (p' := 5) rfl (mj_rdA_is hB (by decide)) (by decide) rfl ?_
  refine s_aldn (p' := 6) rfl rfl rfl ?_
  refine s_gf (p' := 9) rfl hS rfl rfl ?_
  refine s_sp (p' := 10) (ls' := _) rfl rfl rfl ?_
  rw [mI_half (by omega)]
  refine s_istn (p' := 11) (ls' := [_, _, _]) rfl rfl rfl rfl ?_
  refine s_ildn (p' := 12) rfl rfl rfl ?_
  refine s_ildn (p' := 13) rfl rfl rfl ?_
  refine s_sp (p' := 14) (ls' := _) rfl rfl rfl ?_
  by_cases q : m ≤ L / 2
  · refine s_if (p' := 38) true rfl ((cz_sub (by omega) (by omega)).trans (decide_eq_true (by omega))) rfl ?_
    refine s_ret rfl ?_
    exact ⟨_, rfl, B, L, hS, ⟨bf, hB, hl, hf, hv⟩, bB, by omega, Or.inl rfl, Or.inl rfl, mz_mo.rf _ _ _ _⟩
  · refine s_if (p' := 17) false rfl ((cz_sub (by omega) (by omega)).trans (decide_eq_false (by omega))) rfl ?_
    refine s_aldn (p' := 18) rfl rfl rfl ?_
    refine s_aldn (p' := 19) rfl rfl rfl ?_
    refine s_gf (p' := 22) rfl hS rfl rfl ?_
    refine s_aldn (p' := 23) rfl rfl rfl ?_
    refine s_ildn (p' := 24) rfl rfl rfl ?_
    refine s_callV (p' := 27) (ls0 := [_, _, _, _, _, _]) rfl rfl rfl rfl rfl (mj_rcv_is hS) rfl (y_ncp1 bS hb hS hB (by omega) hm) (by decide) rfl ?_
    refine s_aldn (p' := 28) rfl rfl rfl ?_
    refine s_gf (p' := 31) rfl hS rfl rfl ?_
    refine s_sp (p' := 32) (ls' := _) rfl rfl rfl ?_
    rw [shl1 (by omega)]
    refine s_callEV (p' := 35) (ls0 := [_, _, _]) rfl rfl rfl rfl rfl rfl rfl (y_cpo rfl hb hB hf (by omega) (by omega) bB) rfl rfl ?_
    rintro _ g ⟨rfl, bf', k1, k2, k3, k4⟩
    have hSN : S ≠ h.length := by have := rd_len bS hS; omega
    have gS := k4.1 S (by simp) _ hS
    refine s_pf (p' := 38) (fs' := [_, _, _, _]) rfl bS gS (Nat.blt_eq.mp rfl) rfl rfl rfl ?_
    refine s_ret rfl ?_
    exact ⟨_, rfl, h.length, (2 * ((L + max (2 * m - L) (L + 4)) / 2)), rd_set bS gS, ⟨bf', (rd_setn hSN).trans k1, by omega, k2, fun j hj => (k3 j (by omega)).trans (hv j hj)⟩, by omega, by omega, Or.inr (by omega), Or.inr rfl, mz_mo.s (k4.wk (fun y hy => absurd hy (by simp)) (by omega) (by omega)) bS gS rfl (Or.inl (by simp))⟩
def up2 (bf : Nat → Int32) (i ch : Nat) : Nat → Int32 := upd (upd bf (2 * i) (byt (ch % 256))) (2 * i + 1) (byt (ch / 256))
theorem byt_i (ch : Nat) : (nI ch).toInt8.toInt32 = byt ch := rfl
theorem up2_fit {bf : Nat → Int32} {i ch L : Nat} (hf : ∀ j, j < L → fits .byte (.int (bf j)) = true) : ∀ j, j < L → fits .byte (.int (up2 bf i ch j)) = true := fun j hj => by
  unfold up2 upd
  split
  · exact byt_fit _
  · split
    · exact byt_fit _
    · exact hf j hj
theorem up2_enc {bf : Nat → Int32} {i ch : Nat} {f : Nat → Nat} (hv : ∀ j, j < i * (1 + 1) → bf j = enc 1 f j) : ∀ j, j < (i + 1) * (1 + 1) → up2 bf i ch j = enc 1 (upN f i ch) j := fun j hj => by
  unfold up2 upd
  by_cases q : j = 2 * i + 1
  · rw [if_pos q, q, enc_hi]
    unfold upN
    rw [if_pos rfl]
  · rw [if_neg q]
    by_cases r : j = 2 * i
    · rw [if_pos r, r, enc_lo]
      unfold upN
      rw [if_pos rfl]
    · rw [if_neg r, hv j (by omega)]
      unfold enc
      rw [if_neg (show ¬ (1 : Nat) = 0 by decide), if_neg (show ¬ (1 : Nat) = 0 by decide)]
      unfold upN
      rw [if_neg (show ¬ j / 2 = i by omega)]
theorem y_pch {h : mj_H} {B L i ch : Nat} {bf : Nat → Int32} (bB : B < mj_CB) (hB : mj_rd h B = some (.inl (1, (L, .inl bf)))) (hi : 2 * i + 1 < L) (hL : L < 1000) (hc : ch < 65536) : mj_run 1 262 (0, [some (.ref B), some (.int (nI i)), some (.int (nI ch))], [], h) (.inl none, h.set B (.inl (1, (L, .inl (up2 bf i ch))))) := by
  refine s_sh (p' := 3) (ls' := _) (st' := .int (nI 1) :: _) (h' := _) rfl rfl rfl rfl ?_
  refine s_if (p' := 28) true rfl ((cz_ne (by omega)).trans (decide_eq_true (by omega))) rfl ?_
  refine s_ildn (p' := 29) rfl rfl rfl ?_
  refine s_con (p' := 30) rfl rfl ?_
  refine s_sp (p' := 31) (ls' := _) rfl rfl rfl ?_
  rw [shl1 (by omega)]
  refine s_istn (p' := 32) (ls' := [_, _, _]) rfl rfl rfl rfl ?_
  refine s_aldn (p' := 33) rfl rfl rfl ?_
  refine s_ildn (p' := 34) rfl rfl rfl ?_
  refine s_inc (p' := 37) (ls' := [_, _, _]) rfl rfl rfl rfl rfl ?_
  rw [mI_add]
  refine s_ildn (p' := 38) rfl rfl rfl ?_
  refine s_sh (p' := 41) (ls' := _) (st' := .int (nI 0) :: _) (h' := _) rfl rfl rfl rfl ?_
  refine s_sp (p' := 42) (ls' := _) rfl rfl rfl ?_
  rw [sh0r hc]
  refine s_sp (p' := 43) (ls' := _) rfl rfl rfl ?_
  rw [byt_i]
  refine s_bas1 (p' := 44) rfl bB hB (inb_nI (by omega) (by omega)) rfl ?_
  rw [byt_nar, mI_cl (by omega), ← byt_mod]
  refine s_aldn (p' := 45) rfl rfl rfl ?_
  refine s_ildn (p' := 46) rfl rfl rfl ?_
  refine s_ildn (p' := 47) rfl rfl rfl ?_
  refine s_sh (p' := 50) (ls' := _) (st' := .int (nI 8) :: _) (h' := _) rfl rfl rfl rfl ?_
  refine s_sp (p' := 51) (ls' := _) rfl rfl rfl ?_
  rw [shr8 hc]
  refine s_sp (p' := 52) (ls' := _) rfl rfl rfl ?_
  rw [byt_i]
  refine s_bas1 (p' := 53) rfl bB (rd_set bB hB) (inb_nI (by omega) (by omega)) rfl ?_
  rw [byt_nar, mI_cl (by omega), List.set_set]
  exact s_ret rfl rfl
theorem y_psb {h : mj_H} {B L i ch : Nat} {bf : Nat → Int32} (bB : B < mj_CB) (hB : mj_rd h B = some (.inl (1, (L, .inl bf)))) (hi : 2 * i + 1 < L) (hL : L < 1000) (hc : ch < 65536) : mj_run 4 275 (0, [some (.ref B), some (.int (nI i)), some (.int (nI ch))], [], h) (.inl none, h.set B (.inl (1, (L, .inl (up2 bf i ch))))) := by
  refine s_ildn (p' := 1) rfl rfl rfl ?_
  refine s_aldn (p' := 2) rfl rfl rfl ?_
  refine c_call (p' := 5) (kc := 3) (ls0 := [_, _]) rfl rfl rfl rfl rfl rfl rfl rfl rfl ?_
  refine s_ildn (p' := 1) rfl rfl rfl ?_
  refine s_aldn (p' := 2) rfl rfl rfl ?_
  refine c_call (p' := 5) (kc := 2) (ls0 := [_]) rfl rfl rfl rfl rfl rfl rfl rfl rfl ?_
  refine s_aldn (p' := 1) rfl rfl rfl ?_
  refine s_len (p' := 2) rfl (mj_rdA_is hB (by decide)) (by decide) rfl ?_
  refine s_con (p' := 3) rfl rfl ?_
  refine s_sp (p' := 4) (ls' := _) rfl rfl rfl ?_
  rw [mI_half (by omega)]
  refine c_iret rfl rfl ?_
  refine c_call (p' := 8) (kc := 2) (ls0 := [_, _]) rfl rfl rfl rfl rfl rfl rfl rfl rfl ?_
  refine s_ildn (p' := 1) rfl rfl rfl ?_
  refine s_ildn (p' := 2) rfl rfl rfl ?_
  refine s_sh (p' := 5) (ls' := _) (st' := .retAddr 0 :: _) (h' := _) rfl rfl rfl rfl ?_
  refine c_call (p' := 8) (kc := 1) (ls0 := [_, _, _]) rfl rfl rfl rfl rfl rfl rfl rfl rfl ?_
  refine s_ildn (p' := 1) rfl rfl rfl ?_
  refine s_if (p' := 4) false rfl (cz_lt (by omega)) rfl ?_
  refine s_ildn (p' := 5) rfl rfl rfl ?_
  refine s_ildn (p' := 6) rfl rfl rfl ?_
  refine s_icmp (p' := 16) true rfl ((ci_lt (by omega) (by omega)).trans (decide_eq_true (by omega))) rfl ?_
  refine s_ildn (p' := 17) rfl rfl rfl ?_
  refine c_iret rfl rfl ?_
  refine s_sp (p' := 9) (ls' := _) rfl rfl rfl ?_
  refine c_ret rfl ?_
  refine c_ret rfl ?_
  refine s_aldn (p' := 6) rfl rfl rfl ?_
  refine s_ildn (p' := 7) rfl rfl rfl ?_
  refine s_ildn (p' := 8) rfl rfl rfl ?_
  refine s_callN (p' := 11) (ls0 := [_, _, _]) rfl rfl rfl rfl rfl rfl rfl (y_pch bB hB hi hL hc) (by decide) rfl ?_
  exact s_ret rfl rfl
theorem y_uiL {h : mj_H} {B D L M n : Nat} {f : Nat → Nat} {bf : Nat → Int32} (bD : D < mj_CB) (hBD : B ≠ D) (hB : mj_rd h B = some (.inl (1, (L, .inl bf)))) (hn : n ≤ L) (hv : ∀ j, j < n → bf j = byt (f j)) (hf : ∀ j, j < n → f j < 256) (hM : 2 * n ≤ M) (hM2 : M < 1000) {d0 : Nat → Int32} (hD0 : mj_rd h D = some (.inl (1, (M, .inl d0)))) : ∀ (k i : Nat) (df : Nat → Int32), i + k = n → (∀ j, j < M → fits .byte (.int (df j)) = true) → (∀ j, j < i * (1 + 1) → df j = enc 1 f j) → mj_Wp 2 267 (10, [some (.ref B), some (.int (nI i)), some (.ref D), some (.int (nI i)), some (.int (nI n)), some (.int (nI i))], [], h.set D (.inl (1, (M, .inl df)))) (mz_N fun h' => ∃ df, (∀ j, j < M → fits .byte (.int (df j)) = true) ∧ (∀ j, j < n * (1 + 1) → df j = enc 1 f j) ∧ h' = h.set D (.inl (1, (M, .inl df))))
  | 0, i, df, hi, h1, h2 => by
    obtain rfl : i = n := by omega
    refine s_ild (p' := 12) rfl rfl rfl ?_
    refine s_ild (p' := 14) rfl rfl rfl ?_
    refine s_icmp (p' := 41) true rfl ((ci_ge (by omega) (by omega)).trans (decide_eq_true (by omega))) rfl ?_
    refine s_ret rfl ?_
    exact ⟨_, rfl, df, h1, h2, rfl⟩
  | k + 1, i, df, hi, h1, h2 => by
    have ih := y_uiL bD hBD hB hn hv hf hM hM2 hD0 k (i + 1)
    have hfi := hf i (by omega)
    refine s_ild (p' := 12) rfl rfl rfl ?_
    refine s_ild (p' := 14) rfl rfl rfl ?_
    refine s_icmp (p' := 17) false rfl ((ci_ge (by omega) (by omega)).trans (decide_eq_false (by omega))) rfl ?_
    refine s_aldn (p' := 18) rfl rfl rfl ?_
    refine s_ildn (p' := 19) rfl rfl rfl ?_
    refine s_inc (p' := 22) (ls' := [_, _, _, _, _, _]) rfl rfl rfl rfl rfl ?_
    rw [mI_add]
    refine s_aldn (p' := 23) rfl rfl rfl ?_
    refine s_ildn (p' := 24) rfl rfl rfl ?_
    refine s_inc (p' := 27) (ls' := [_, _, _, _, _, _]) rfl rfl rfl rfl rfl ?_
    rw [mI_add]
    refine s_bal1 (p' := 28) rfl ((rd_setn (Ne.symm hBD)).trans hB) (inb_nI (by omega) (by omega)) rfl ?_
    rw [mI_cl (by omega), hv i (by omega)]
    refine s_sip (p' := 31) rfl rfl ?_
    refine s_sp (p' := 32) (ls' := _) rfl rfl rfl ?_
    rw [byt_and hfi]
    refine s_callN (p' := 35) (ls0 := [_, _, _]) rfl rfl rfl rfl rfl rfl rfl (y_pch bD (rd_set bD hD0) (by omega) hM2 (by omega)) (by decide) rfl ?_
    rw [List.set_set]
    refine s_inc (p' := 38) (ls' := [_, _, _, _, _, _]) rfl rfl rfl rfl rfl ?_
    rw [mI_add]
    refine s_goto (p' := 10) rfl rfl ?_
    refine ih _ (by omega) (up2_fit h1) (fun j hj => (up2_enc (f := f) h2 j hj).trans ?_)
    have hu : upN f i (f i) = f := funext fun x => by
      unfold upN
      split
      · rename_i e
        rw [e]
      · rfl
    rw [hu]
theorem ior0 {a b : Nat} (ha : a < 1000) (hb : b < 1000) : ∃ m, m < 1024 ∧ (nI a ||| nI b) = nI m := ⟨a ||| b, Nat.or_lt_two_pow (n := 10) (by omega) (by omega), nor a b⟩
theorem y_ui {h : mj_H} {B D L M n : Nat} {f : Nat → Nat} {bf : Nat → Int32} (bD : D < mj_CB) (hBD : B ≠ D) (hB : mj_rd h B = some (.inl (1, (L, .inl bf)))) (hn : n ≤ L) (hv : ∀ j, j < n → bf j = byt (f j)) (hf : ∀ j, j < n → f j < 256) (hM : 2 * n ≤ M) (hM2 : M < 1000) {d0 : Nat → Int32} (hD0 : mj_rd h D = some (.inl (1, (M, .inl d0)))) (hfd : ∀ j, j < M → fits .byte (.int (d0 j)) = true) : mj_Wp 5 267 (0, [some (.ref B), some (.int (nI 0)), some (.ref D), some (.int (nI 0)), some (.int (nI n)), none], [], h) (mz_N fun h' => ∃ df, (∀ j, j < M → fits .byte (.int (df j)) = true) ∧ (∀ j, j < n * (1 + 1) → df j = enc 1 f j) ∧ h' = h.set D (.inl (1, (M, .inl df)))) := by
  refine s_ildn (p' := 1) rfl rfl rfl ?_
  refine s_ild (p' := 3) rfl rfl rfl ?_
  refine s_aldn (p' := 4) rfl rfl rfl ?_
  refine c_call (p' := 7) (kc := 4) (ls0 := [_, _, _]) rfl rfl rfl rfl rfl rfl rfl rfl rfl ?_
  refine s_ildn (p' := 1) rfl rfl rfl ?_
  refine s_ildn (p' := 2) rfl rfl rfl ?_
  refine s_aldn (p' := 3) rfl rfl rfl ?_
  refine c_call (p' := 6) (kc := 3) (ls0 := [_]) rfl rfl rfl rfl rfl rfl rfl rfl rfl ?_
  refine s_aldn (p' := 1) rfl rfl rfl ?_
  refine s_len (p' := 2) rfl (mj_rdA_is hD0 (by decide)) (by decide) rfl ?_
  refine s_con (p' := 3) rfl rfl ?_
  refine s_sp (p' := 4) (ls' := _) rfl rfl rfl ?_
  rw [mI_half (by omega)]
  refine c_iret rfl rfl ?_
  refine c_call (p' := 9) (kc := 3) (ls0 := [_, _, _]) rfl rfl rfl rfl rfl rfl rfl rfl rfl ?_
  refine s_ildn (p' := 1) rfl rfl rfl ?_
  refine s_ildn (p' := 2) rfl rfl rfl ?_
  refine s_ildn (p' := 3) rfl rfl rfl ?_
  refine s_sh (p' := 6) (ls' := _) (st' := .retAddr 0 :: _) (h' := _) rfl rfl rfl rfl ?_
  refine c_call (p' := 9) (kc := 2) (ls0 := [_, _, _, _]) rfl rfl rfl rfl rfl rfl rfl rfl rfl ?_
  refine s_ildn (p' := 1) rfl rfl rfl ?_
  refine s_ildn (p' := 2) rfl rfl rfl ?_
  refine s_sp (p' := 3) (ls' := _) rfl rfl rfl ?_
  rw [nor, Nat.or_zero]
  refine s_ildn (p' := 4) rfl rfl rfl ?_
  refine s_sp (p' := 5) (ls' := _) rfl rfl rfl ?_
  rw [nor]
  refine s_if (p' := 8) false rfl (cz_lt (Nat.lt_trans (Nat.or_lt_two_pow (n := 10) (x := M / 2) (y := n) (by omega) (by omega)) (by decide))) rfl ?_
  refine s_ildn (p' := 9) rfl rfl rfl ?_
  refine s_ildn (p' := 10) rfl rfl rfl ?_
  refine s_ildn (p' := 11) rfl rfl rfl ?_
  refine s_sp (p' := 12) (ls' := _) rfl rfl rfl ?_
  rw [mI_sub (Nat.zero_le _), Nat.sub_zero]
  refine s_icmp (p' := 23) true rfl ((ci_le (by omega) (by omega)).trans (decide_eq_true (by omega))) rfl ?_
  refine s_ildn (p' := 24) rfl rfl rfl ?_
  refine c_iret rfl rfl ?_
  refine c_iret rfl rfl ?_
  refine s_sp (p' := 10) (ls' := _) rfl rfl rfl ?_
  refine c_ret rfl ?_
  refine s_con (p' := 8) rfl rfl ?_
  refine s_ist (p' := 10) (ls' := [_, _, _, _, _, _]) rfl rfl rfl rfl ?_
  have := y_uiL bD hBD hB hn hv hf hM hM2 hD0 n 0 d0 (by omega) hfd (fun j hj => absurd hj (by omega))
  rw [set_id bD hD0] at this
  exact mj_Wp.mono this (by decide)
theorem y_inf {h : mj_H} {S B L n : Nat} {f : Nat → Nat} (bS : S < mj_CB) (hb : h.length + 10 < mj_CB) (hS : mj_rd h S = some (sbC B 0 n)) (hy : yBy h B L 0 n f) (hL : L < 450) (hf : ∀ j, j < n → f j < 256) : mj_Wp 7 265 (0, [some (.ref S), none], [], h) (mz_N fun h' => mj_rd h' S = some (sbC h.length 1 n) ∧ yBy h' h.length (2 * L) 1 n f ∧ mz_mo [S] 1 (2 * L) h h') := by
  obtain ⟨bf, hB, hl, hfi, hv⟩ := hy
  have hBN0 : B ≠ h.length := by
    by_cases q : B < mj_CB
    · have := rd_len q hB
      omega
    · omega
  refine s_aldn (p' := 1) rfl rfl rfl ?_
  refine c_call (p' := 4) (kc := 6) (ls0 := [_]) rfl rfl rfl rfl rfl (mj_rcv_is hS) rfl rfl rfl ?_
  refine s_sh (p' := 3) (ls' := _) (st' := .int (nI 1) :: _) (h' := _) rfl rfl rfl rfl ?_
  refine s_if (p' := 6) false rfl ((cz_eq (by omega)).trans (decide_eq_false (by omega))) rfl ?_
  refine s_aldn (p' := 7) rfl rfl rfl ?_
  refine s_gf (p' := 10) rfl hS rfl rfl ?_
  refine s_if (p' := 13) false rfl ((cz_ne (by omega)).trans (decide_eq_false (by omega))) rfl ?_
  refine s_con (p' := 14) rfl rfl ?_
  refine s_goto (p' := 18) rfl rfl ?_
  refine c_iret rfl rfl ?_
  refine s_if (p' := 8) true rfl ((cz_ne (by omega)).trans (decide_eq_true (by omega))) rfl ?_
  refine s_aldn (p' := 9) rfl rfl rfl ?_
  refine s_gf (p' := 12) rfl hS rfl rfl ?_
  refine s_len (p' := 13) rfl (mj_rdA_is hB (by decide)) (by decide) rfl ?_
  refine c_call (p' := 16) (kc := 6) (ls0 := [_]) rfl rfl rfl rfl rfl rfl rfl rfl rfl ?_
  refine s_ildn (p' := 1) rfl rfl rfl ?_
  refine c_call (p' := 4) (kc := 5) (ls0 := [_]) rfl rfl rfl rfl rfl rfl rfl rfl rfl ?_
  refine s_ildn (p' := 1) rfl rfl rfl ?_
  refine s_if (p' := 12) true rfl (cz_ge (by omega)) rfl ?_
  refine s_ildn (p' := 13) rfl rfl rfl ?_
  refine s_sh (p' := 15) (ls' := _) (st' := .int (nI 1073741823) :: _) (h' := _) rfl rfl rfl rfl ?_
  refine s_icmp (p' := 55) true rfl ((ci_lt (by omega) (by decide)).trans (decide_eq_true (by omega))) rfl ?_
  refine s_ildn (p' := 56) rfl rfl rfl ?_
  refine s_con (p' := 57) rfl rfl ?_
  refine s_sp (p' := 58) (ls' := _) rfl rfl rfl ?_
  rw [shl1 (by omega)]
  refine c_iret rfl rfl ?_
  refine s_naz (p' := 6) (a := h.length) (n := (2 * L)) rfl rfl (Nat.ble_eq.mpr (by omega)) rfl ?_
  refine c_aret rfl ?_
  refine s_astn (p' := 17) (ls' := [_, _]) rfl rfl rfl rfl ?_
  refine s_aldn (p' := 18) rfl rfl rfl ?_
  have hSN : S ≠ h.length := by have := rd_len bS hS; omega
  have hBN : B ≠ h.length := hBN0
  refine s_gf (p' := 21) rfl (rd_app hS) rfl rfl ?_
  refine s_con (p' := 22) rfl rfl ?_
  refine s_aldn (p' := 23) rfl rfl rfl ?_
  refine s_con (p' := 24) rfl rfl ?_
  refine s_aldn (p' := 25) rfl rfl rfl ?_
  refine s_gf (p' := 28) rfl (rd_app hS) rfl rfl ?_
  refine c_call (p' := 31) (kc := 6) (ls0 := [_, _, _, _, _]) rfl rfl rfl rfl rfl rfl rfl rfl rfl ?_
  refine s_aldn (p' := 1) rfl rfl rfl ?_
  refine s_ildn (p' := 2) rfl rfl rfl ?_
  refine s_aldn (p' := 3) rfl rfl rfl ?_
  refine s_ildn (p' := 4) rfl rfl rfl ?_
  refine s_ild (p' := 6) rfl rfl rfl ?_
  refine s_callEN (p' := 9) (ls0 := [_, _, _, _, _, _]) rfl rfl rfl rfl rfl rfl rfl (y_ui (by omega) hBN (rd_app hB) (by omega) (fun j hj => (hv j (by omega)).trans rfl) hf (by omega) (by omega) (rd_nw (Nat.blt_eq.mpr (by omega)) rfl) (fun j hj => fit_0)) rfl rfl ?_
  rintro _ ⟨df, k1, k2, rfl⟩
  refine c_ret rfl ?_
  have gS : mj_rd ((h ++ [(.inl (1, mj_arr0 1 (2 * L)) : mj_C)]).set h.length (.inl (1, (2 * L, .inl df)))) S = some (sbC B 0 n) := (rd_setn (Ne.symm hSN)).trans (rd_app hS)
  refine s_aldn (p' := 32) rfl rfl rfl ?_
  refine s_aldn (p' := 33) rfl rfl rfl ?_
  refine s_pf (p' := 36) (fs' := [_, _, _, _]) rfl bS gS (Nat.blt_eq.mp rfl) rfl rfl rfl ?_
  refine s_aldn (p' := 37) rfl rfl rfl ?_
  refine s_con (p' := 38) rfl rfl ?_
  refine s_pf (p' := 41) (fs' := [_, _, _, _]) rfl bS (rd_set bS gS) (Nat.blt_eq.mp rfl) rfl rfl rfl ?_
  rw [List.set_set]
  refine s_ret rfl ?_
  exact ⟨_, rfl, rd_set bS gS, ⟨df, (rd_setn hSN).trans (rd_set (by omega) (rd_nw (Nat.blt_eq.mpr (by omega)) rfl)), by omega, k1, k2⟩, mz_mo.s (mz_mo.s (mz_mo.ap [S] h (.inl (1, mj_arr0 1 (2 * L)))) (by omega) (rd_nw (Nat.blt_eq.mpr (by omega)) rfl) rfl (Or.inr (Nat.le_refl _))) bS gS rfl (Or.inl (by simp))⟩
theorem ySB.rcv {h : mj_H} {S B n c : Nat} {f : Nat → Nat} {as : List Value} : ySB h S B n c f → mj_rcv 21 (.ref S :: as) h = true
  | ⟨_, _, h1, _⟩ => mj_rcv_is h1
theorem cat_ok {c n m : Nat} {f g : Nat → Nat} (a : okT c n f) (b : okT c m g) : okT c (n + m) (catF f n g) := ⟨a.1, fun j hj => by
  unfold catF
  split
  · exact a.2 j (by assumption)
  · exact b.2 (j - n) (by omega)⟩
theorem cat_enc0 {n m : Nat} {f g : Nat → Nat} {bf sf : Nat → Int32} (hv : ∀ j, j < n → bf j = enc 0 f j) (hw : ∀ j, j < m → sf j = enc 0 g j) : ∀ j, j < n + m → va_cpy sf bf 0 n m j = enc 0 (catF f n g) j := fun j hj => by
  unfold va_cpy
  by_cases q : j < n
  · rw [if_neg (by omega), hv j q]
    unfold enc catF
    rw [if_pos rfl, if_pos rfl, if_pos q]
  · rw [if_pos ⟨by omega, by omega⟩, hw _ (by omega), Nat.zero_add]
    unfold enc catF
    rw [if_pos rfl, if_pos rfl, if_neg q]
theorem cat_enc1 {n m : Nat} {f g : Nat → Nat} {bf sf : Nat → Int32} (hv : ∀ j, j < n * (1 + 1) → bf j = enc 1 f j) (hw : ∀ j, j < m * (1 + 1) → sf j = enc 1 g j) : ∀ j, j < (n + m) * (1 + 1) → va_cpy sf bf 0 (2 * n) (m * (1 + 1)) j = enc 1 (catF f n g) j := fun j hj => by
  unfold va_cpy
  by_cases q : j / 2 < n
  · rw [if_neg (by omega), hv j (by omega)]
    unfold enc
    rw [if_neg (show ¬ (1 : Nat) = 0 by decide), if_neg (show ¬ (1 : Nat) = 0 by decide)]
    unfold catF
    rw [if_pos q]
  · rw [if_pos ⟨by omega, by omega⟩, hw _ (by omega), Nat.zero_add]
    unfold enc
    rw [if_neg (show ¬ (1 : Nat) = 0 by decide), if_neg (show ¬ (1 : Nat) = 0 by decide)]
    unfold catF
    rw [if_neg q, show (j - 2 * n) % 2 = j % 2 by omega, show (j - 2 * n) / 2 = j / 2 - n by omega]
theorem cpy_fit {bf sf : Nat → Int32} {L m sp dp n : Nat} (hf : ∀ j, j < L → fits .byte (.int (bf j)) = true) (hg : ∀ j, j < m → fits .byte (.int (sf j)) = true) (hs : sp + n ≤ m) : ∀ j, j < L → fits .byte (.int (va_cpy sf bf sp dp n j)) = true := fun j hj => by
  unfold va_cpy
  split
  · exact hg _ (by omega)
  · exact hf j hj
theorem yStr.nB {h : mj_H} {T n c : Nat} {f : Nat → Nat} : yStr h T n c f → ∃ (B : Nat) (rs : List Value), mj_rd h T = some (.inr (21, .ref B :: .int (nI c) :: rs))
  | ⟨_, B, rs, a, _⟩ => ⟨B, rs, a⟩
theorem rdN {h : mj_H} {a : Nat} {c : mj_C} (hr : mj_rd h a = some c) : a < h.length ∨ mj_CB ≤ a := by
  by_cases q : a < mj_CB
  · exact Or.inl (rd_len q hr)
  · exact Or.inr (by omega)
theorem y_aps0 {h : mj_H} {S B T n m : Nat} {f g : Nat → Nat} (bS : S < mj_CB) (hb : h.length + 20 < mj_CB) (hS : ySB h S B n 0 f) (hT : yStr h T m 0 g) (hm : n + m ≤ 120) (hd : ∀ (C : Nat) (rs : List Value), mj_rd h T = some (.inr (21, .ref C :: rs)) → C ≠ B) : mj_Wp 5 249 (0, [some (.ref S), some (.ref T), none], [], h) (mz_V fun r h' => r = .ref S ∧ ∃ B', ySB h' S B' (n + m) 0 (catF f n g) ∧ (B' = B ∨ h.length ≤ B' ∧ B' < h'.length) ∧ mz_mo [S, B] 1 (2 * (n + m) + 2) h h') := by
  obtain ⟨okS, L, kS, hy, bB, hL⟩ := hS
  have hT1 := hT
  obtain ⟨okU, C, rs, kT, sf, kC, _, kf, kv⟩ := hT
  have hy0 := hy
  obtain ⟨bf0, kB, _⟩ := hy0
  have hCB := hd _ _ kT
  have hTS : T ≠ S := fun e => by rw [e, kS] at kT; cases kT
  have hCS : C ≠ S := fun e => by rw [e, kS] at kC; cases kC
  have hSl := rd_len bS kS
  have hBl := rd_len bB kB
  have hTB : T ≠ B := fun e => by rw [e, kB] at kT; cases kT
  have hBS : B ≠ S := fun e => by rw [e, kS] at kB; cases kB
  have hT9 : ∀ g', mz_fr [S, B] h g' → mj_rd g' T = some (.inr (21, .ref C :: .int (nI 0) :: rs)) := fun g' e => e T (by simp [hTS, hTB]) _ kT
  have hC9 : ∀ g', mz_fr [S, B] h g' → mj_rd g' C = some (.inl (1, (m * (0 + 1), .inl sf))) := fun g' e => e C (by simp [hCS, hCB]) _ kC
  have hU9 : ∀ g', mz_fr [S, B] h g' → yStr g' T m 0 g := fun g' e => ⟨okU, C, rs, hT9 g' e, sf, hC9 g' e, Nat.le_refl _, kf, kv⟩
  refine s_aldn (p' := 1) rfl rfl rfl ?_
  refine s_nonnull (p' := 9) (x := some T) true rfl rfl rfl ?_
  refine s_aldn (p' := 10) rfl rfl rfl ?_
  refine s_callV (p' := 13) (ls0 := [_]) rfl rfl rfl rfl rfl (mj_rcv_is kT) rfl (y_len0 hT1 (by omega)) (by decide) rfl ?_
  refine s_istn (p' := 14) (ls' := [_, _, _]) rfl rfl rfl rfl ?_
  refine s_aldn (p' := 15) rfl rfl rfl ?_
  refine s_aldn (p' := 16) rfl rfl rfl ?_
  refine s_gf (p' := 19) rfl kS rfl rfl ?_
  refine s_ildn (p' := 20) rfl rfl rfl ?_
  refine s_sp (p' := 21) (ls' := _) rfl rfl rfl ?_
  rw [mI_add]
  refine s_callEN (p' := 24) (ls0 := [_, _, _]) rfl rfl rfl rfl rfl (mj_rcv_is kS) rfl (y_ens0 bS (by omega) kS hy bB (by omega) (by omega)) rfl rfl ?_
  rintro g1 ⟨B1, L1, e1, e2, e3, e4, e5, e6, e7⟩
  have e2' := e2
  obtain ⟨bf, i1, i2, i3, i4⟩ := e2'
  have g1l := e7.2.1
  have g1u := e7.2.2.1
  have f1 : mz_fr [S, B] h g1 := (e7.wk (L' := [S, B]) (fun y hy => Or.inl (by simp at hy; simp [hy])) (Nat.le_refl _) (Nat.le_refl _)).1
  have hC1 := hC9 _ f1
  have hCN := rdN kC
  have hB1C : B1 ≠ C := by
    rcases e6 with e | e
    · rw [e]
      exact Ne.symm hCB
    · omega
  have hB1S : B1 ≠ S := by omega
  have hB1l := rd_len e3 i1
  refine s_aldn (p' := 25) rfl rfl rfl ?_
  refine s_aldn (p' := 26) rfl rfl rfl ?_
  refine s_gf (p' := 29) rfl e1 rfl rfl ?_
  refine s_aldn (p' := 30) rfl rfl rfl ?_
  refine c_call (p' := 33) (kc := 4) (ls0 := [_, _, _]) rfl rfl rfl rfl rfl (mj_rcv_is e1) rfl rfl rfl ?_
  refine s_aldn (p' := 1) rfl rfl rfl ?_
  refine s_aldn (p' := 2) rfl rfl rfl ?_
  refine c_call (p' := 5) (kc := 3) (ls0 := [_, _]) rfl rfl rfl rfl rfl (mj_rcv_is e1) rfl rfl rfl ?_
  refine s_sh (p' := 3) (ls' := _) (st' := .int (nI 1) :: _) (h' := _) rfl rfl rfl rfl ?_
  refine s_if (p' := 6) false rfl ((cz_eq (by omega)).trans (decide_eq_false (by omega))) rfl ?_
  refine s_aldn (p' := 7) rfl rfl rfl ?_
  refine s_gf (p' := 10) rfl e1 rfl rfl ?_
  refine s_aldn (p' := 11) rfl rfl rfl ?_
  refine s_callV (p' := 14) (ls0 := [_]) rfl rfl rfl rfl rfl (mj_rcv_is (hT9 _ f1)) rfl (y_cod0 (hU9 _ f1)) (by decide) rfl ?_
  refine s_icmp (p' := 21) true rfl ((ci_eq (by omega) (by omega)).trans (decide_eq_true (by omega))) rfl ?_
  refine c_ret rfl ?_
  refine s_aldn (p' := 6) rfl rfl rfl ?_
  refine s_aldn (p' := 7) rfl rfl rfl ?_
  refine s_gf (p' := 10) rfl e1 rfl rfl ?_
  refine s_ildn (p' := 11) rfl rfl rfl ?_
  refine s_aldn (p' := 12) rfl rfl rfl ?_
  refine s_gf (p' := 15) rfl e1 rfl rfl ?_
  refine c_call (p' := 18) (kc := 3) (ls0 := [_, _, _, _]) rfl rfl rfl rfl rfl (mj_rcv_is (hT9 _ f1)) rfl rfl rfl ?_
  refine s_aldn (p' := 1) rfl rfl rfl ?_
  refine s_callV (p' := 4) (ls0 := [_]) rfl rfl rfl rfl rfl (mj_rcv_is (hT9 _ f1)) rfl (y_cod0 (hU9 _ f1)) (by decide) rfl ?_
  refine s_ildn (p' := 5) rfl rfl rfl ?_
  refine s_icmp (p' := 8) false rfl ((ci_ne (by omega) (by omega)).trans (decide_eq_false (by omega))) rfl ?_
  refine s_aldn (p' := 9) rfl rfl rfl ?_
  refine s_gf (p' := 12) rfl (hT9 _ f1) rfl rfl ?_
  refine s_con (p' := 13) rfl rfl ?_
  refine s_aldn (p' := 14) rfl rfl rfl ?_
  refine s_ildn (p' := 15) rfl rfl rfl ?_
  refine s_ildn (p' := 16) rfl rfl rfl ?_
  refine s_sp (p' := 17) (ls' := _) rfl rfl rfl ?_
  rw [shl0 (by omega)]
  refine s_aldn (p' := 18) rfl rfl rfl ?_
  refine s_gf (p' := 21) rfl (hT9 _ f1) rfl rfl ?_
  refine s_len (p' := 22) rfl (mj_rdA_is hC1 (by decide)) (by decide) rfl ?_
  refine s_primN (p' := 25) (q := 0) rfl rfl rfl rfl rfl rfl (p_cpyB (n := L1) (g := bf) (Nat.blt_eq.mpr (by omega)) (mj_rdA_is hC1 (by decide)) (mj_rdA_is i1 (by decide)) (by simp only [Bool.and_eq_true, Nat.ble_eq, Nat.blt_eq]; omega) (cpr_is (fun j hj => by rw [Nat.zero_add]; exact kf j (by omega)))) rfl ?_
  refine s_goto (p' := 43) rfl rfl ?_
  refine c_ret rfl ?_
  refine c_ret rfl ?_
  refine s_aldn (p' := 34) rfl rfl rfl ?_
  refine s_sp (p' := 35) (ls' := _) rfl rfl rfl ?_
  refine s_gf (p' := 38) rfl ((rd_setn hB1S).trans e1) rfl rfl ?_
  refine s_ildn (p' := 39) rfl rfl rfl ?_
  refine s_sp (p' := 40) (ls' := _) rfl rfl rfl ?_
  rw [mI_add]
  refine s_pf (p' := 43) (fs' := [_, _, _, _]) rfl bS ((rd_setn hB1S).trans e1) (Nat.blt_eq.mp rfl) rfl rfl rfl ?_
  refine s_aldn (p' := 44) rfl rfl rfl ?_
  refine s_aret rfl ?_
  refine ⟨_, _, rfl, rfl, B1, ⟨cat_ok okS okU, L1, rd_set bS ((rd_setn hB1S).trans e1), ⟨va_cpy sf bf 0 n (m * (0 + 1)), (rd_setn (Ne.symm hB1S)).trans (rd_set e3 i1), by omega, cpy_fit i3 kf (by omega), fun j hj => ?_⟩, e3, by omega⟩, by simp only [List.length_set]; omega, mz_mo.s (mz_mo.s (e7.wk (L' := [S, B]) (fun y hy => Or.inl (by simp at hy; simp [hy])) (Nat.le_refl _) (by omega)) e3 i1 rfl (by rcases e6 with e6 | e6 <;> simp [e6])) bS ((rd_setn hB1S).trans e1) rfl (Or.inl (by simp))⟩
  rw [Nat.mul_one]
  exact cat_enc0 (fun j hj => i4 j (by omega)) (fun j hj => kv j (by omega)) j (by omega)
theorem y_ap0 {h : mj_H} {S B T n m : Nat} {f g : Nat → Nat} (bS : S < mj_CB) (hb : h.length + 20 < mj_CB) (hS : ySB h S B n 0 f) (hT : yStr h T m 0 g) (hm : n + m ≤ 120) (hd : ∀ (C : Nat) (rs : List Value), mj_rd h T = some (.inr (21, .ref C :: rs)) → C ≠ B) : mj_Wp 6 248 (0, [some (.ref S), some (.ref T)], [], h) (mz_V fun r h' => r = .ref S ∧ ∃ B', ySB h' S B' (n + m) 0 (catF f n g) ∧ (B' = B ∨ h.length ≤ B' ∧ B' < h'.length) ∧ mz_mo [S, B] 1 (2 * (n + m) + 2) h h') := by
  refine s_aldn (p' := 1) rfl rfl rfl ?_
  refine s_aldn (p' := 2) rfl rfl rfl ?_
  refine s_callEV (p' := 5) (ls0 := [_, _, _]) rfl rfl rfl rfl rfl hS.rcv rfl (y_aps0 bS hb hS hT hm hd) rfl rfl ?_
  rintro _ g ⟨rfl, k⟩
  refine s_sp (p' := 6) (ls' := _) rfl rfl rfl ?_
  refine s_aldn (p' := 7) rfl rfl rfl ?_
  refine s_aret rfl ?_
  exact ⟨_, _, rfl, rfl, k⟩
theorem y_aps1 {h : mj_H} {S B T n m : Nat} {f g : Nat → Nat} (bS : S < mj_CB) (hb : h.length + 20 < mj_CB) (hS : ySB h S B n 0 f) (hT : yStr h T m 1 g) (hm : n + m ≤ 120) (hd : ∀ (C : Nat) (rs : List Value), mj_rd h T = some (.inr (21, .ref C :: rs)) → C ≠ B) : mj_Wp 10 249 (0, [some (.ref S), some (.ref T), none], [], h) (mz_V fun r h' => r = .ref S ∧ ∃ B', ySB h' S B' (n + m) 1 (catF f n g) ∧ (B' = B ∨ h.length ≤ B' ∧ B' < h'.length) ∧ mz_mo [S, B] 2 (6 * (n + m) + 80) h h') := by
  obtain ⟨okS, L, kS, hy, bB, hL⟩ := hS
  have hT1 := hT
  obtain ⟨okU, C, rs, kT, sf, kC, _, kf, kv⟩ := hT
  have hy0 := hy
  obtain ⟨bf0, kB, _⟩ := hy0
  have hCB := hd _ _ kT
  have hTS : T ≠ S := fun e => by rw [e, kS] at kT; cases kT
  have hCS : C ≠ S := fun e => by rw [e, kS] at kC; cases kC
  have hSl := rd_len bS kS
  have hBl := rd_len bB kB
  have hTB : T ≠ B := fun e => by rw [e, kB] at kT; cases kT
  have hBS : B ≠ S := fun e => by rw [e, kS] at kB; cases kB
  have hT9 : ∀ g', mz_fr [S, B] h g' → mj_rd g' T = some (.inr (21, .ref C :: .int (nI 1) :: rs)) := fun g' e => e T (by simp [hTS, hTB]) _ kT
  have hC9 : ∀ g', mz_fr [S, B] h g' → mj_rd g' C = some (.inl (1, (m * (1 + 1), .inl sf))) := fun g' e => e C (by simp [hCS, hCB]) _ kC
  have hU9 : ∀ g', mz_fr [S, B] h g' → yStr g' T m 1 g := fun g' e => ⟨okU, C, rs, hT9 g' e, sf, hC9 g' e, Nat.le_refl _, kf, kv⟩
  refine s_aldn (p' := 1) rfl rfl rfl ?_
  refine s_nonnull (p' := 9) (x := some T) true rfl rfl rfl ?_
  refine s_aldn (p' := 10) rfl rfl rfl ?_
  refine s_callV (p' := 13) (ls0 := [_]) rfl rfl rfl rfl rfl (mj_rcv_is kT) rfl (y_len1 hT1 (by omega)) (by decide) rfl ?_
  refine s_istn (p' := 14) (ls' := [_, _, _]) rfl rfl rfl rfl ?_
  refine s_aldn (p' := 15) rfl rfl rfl ?_
  refine s_aldn (p' := 16) rfl rfl rfl ?_
  refine s_gf (p' := 19) rfl kS rfl rfl ?_
  refine s_ildn (p' := 20) rfl rfl rfl ?_
  refine s_sp (p' := 21) (ls' := _) rfl rfl rfl ?_
  rw [mI_add]
  refine s_callEN (p' := 24) (ls0 := [_, _, _]) rfl rfl rfl rfl rfl (mj_rcv_is kS) rfl (y_ens0 bS (by omega) kS hy bB (by omega) (by omega)) rfl rfl ?_
  rintro g1 ⟨B1, L1, e1, e2, e3, e4, e5, e6, e7⟩
  have e2' := e2
  obtain ⟨bf, i1, i2, i3, i4⟩ := e2'
  have g1l := e7.2.1
  have g1u := e7.2.2.1
  have f1 : mz_fr [S, B] h g1 := (e7.wk (L' := [S, B]) (fun y hy => Or.inl (by simp at hy; simp [hy])) (Nat.le_refl _) (Nat.le_refl _)).1
  have hC1 := hC9 _ f1
  have hCN := rdN kC
  have hB1C : B1 ≠ C := by
    rcases e6 with e | e
    · rw [e]
      exact Ne.symm hCB
    · omega
  have hB1S : B1 ≠ S := by omega
  have hB1l := rd_len e3 i1
  refine s_aldn (p' := 25) rfl rfl rfl ?_
  refine s_aldn (p' := 26) rfl rfl rfl ?_
  refine s_gf (p' := 29) rfl e1 rfl rfl ?_
  refine s_aldn (p' := 30) rfl rfl rfl ?_
  refine c_call (p' := 33) (kc := 9) (ls0 := [_, _, _]) rfl rfl rfl rfl rfl (mj_rcv_is e1) rfl rfl rfl ?_
  refine s_aldn (p' := 1) rfl rfl rfl ?_
  refine s_aldn (p' := 2) rfl rfl rfl ?_
  refine c_call (p' := 5) (kc := 8) (ls0 := [_, _]) rfl rfl rfl rfl rfl (mj_rcv_is e1) rfl rfl rfl ?_
  refine s_sh (p' := 3) (ls' := _) (st' := .int (nI 1) :: _) (h' := _) rfl rfl rfl rfl ?_
  refine s_if (p' := 6) false rfl ((cz_eq (by omega)).trans (decide_eq_false (by omega))) rfl ?_
  refine s_aldn (p' := 7) rfl rfl rfl ?_
  refine s_gf (p' := 10) rfl e1 rfl rfl ?_
  refine s_aldn (p' := 11) rfl rfl rfl ?_
  refine s_callV (p' := 14) (ls0 := [_]) rfl rfl rfl rfl rfl (mj_rcv_is (hT9 _ f1)) rfl (y_cod1 (hU9 _ f1)) (by decide) rfl ?_
  refine s_icmp (p' := 17) false rfl ((ci_eq (by omega) (by omega)).trans (decide_eq_false (by omega))) rfl ?_
  refine s_aldn (p' := 18) rfl rfl rfl ?_
  refine s_callEN (p' := 21) (ls0 := [_, _]) rfl rfl rfl rfl rfl (mj_rcv_is e1) rfl (y_inf bS (by omega) e1 e2 (by omega) (fun j hj => (okS.2 j hj).2 rfl)) rfl rfl ?_
  rintro g2 ⟨j1, j2, j3⟩
  obtain ⟨bf2, q1, q2, q3, q4⟩ := j2
  have g2l := j3.2.1
  have g2u := j3.2.2.1
  have f2 : mz_fr [S, B] h g2 := f1.tr (j3.wk (L' := [S, B]) (fun y hy => Or.inl (by simp at hy; simp [hy])) (Nat.le_refl _) (Nat.le_refl _)).1
  have hC2 := hC9 _ f2
  have hNl := rd_len (by omega) q1
  have hNS : g1.length ≠ S := by omega
  have okF : okT 1 n f := ⟨Nat.le_refl 1, fun j hj => ⟨(okS.2 j hj).1, fun z => absurd z (by decide)⟩⟩
  refine c_ret rfl ?_
  refine s_aldn (p' := 6) rfl rfl rfl ?_
  refine s_aldn (p' := 7) rfl rfl rfl ?_
  refine s_gf (p' := 10) rfl j1 rfl rfl ?_
  refine s_ildn (p' := 11) rfl rfl rfl ?_
  refine s_aldn (p' := 12) rfl rfl rfl ?_
  refine s_gf (p' := 15) rfl j1 rfl rfl ?_
  refine c_call (p' := 18) (kc := 8) (ls0 := [_, _, _, _]) rfl rfl rfl rfl rfl (mj_rcv_is (hT9 _ f2)) rfl rfl rfl ?_
  refine s_aldn (p' := 1) rfl rfl rfl ?_
  refine s_callV (p' := 4) (ls0 := [_]) rfl rfl rfl rfl rfl (mj_rcv_is (hT9 _ f2)) rfl (y_cod1 (hU9 _ f2)) (by decide) rfl ?_
  refine s_ildn (p' := 5) rfl rfl rfl ?_
  refine s_icmp (p' := 8) false rfl ((ci_ne (by omega) (by omega)).trans (decide_eq_false (by omega))) rfl ?_
  refine s_aldn (p' := 9) rfl rfl rfl ?_
  refine s_gf (p' := 12) rfl (hT9 _ f2) rfl rfl ?_
  refine s_con (p' := 13) rfl rfl ?_
  refine s_aldn (p' := 14) rfl rfl rfl ?_
  refine s_ildn (p' := 15) rfl rfl rfl ?_
  refine s_ildn (p' := 16) rfl rfl rfl ?_
  refine s_sp (p' := 17) (ls' := _) rfl rfl rfl ?_
  rw [shl1 (by omega)]
  refine s_aldn (p' := 18) rfl rfl rfl ?_
  refine s_gf (p' := 21) rfl (hT9 _ f2) rfl rfl ?_
  refine s_len (p' := 22) rfl (mj_rdA_is hC2 (by decide)) (by decide) rfl ?_
  refine s_primN (p' := 25) (q := 0) rfl rfl rfl rfl rfl rfl (p_cpyB (n := 2 * L1) (g := bf2) (Nat.blt_eq.mpr (by omega)) (mj_rdA_is hC2 (by decide)) (mj_rdA_is q1 (by decide)) (by simp only [Bool.and_eq_true, Nat.ble_eq, Nat.blt_eq]; omega) (cpr_is (fun j hj => by rw [Nat.zero_add]; exact kf j (by omega)))) rfl ?_
  refine s_goto (p' := 43) rfl rfl ?_
  refine c_ret rfl ?_
  refine c_ret rfl ?_
  refine s_aldn (p' := 34) rfl rfl rfl ?_
  refine s_sp (p' := 35) (ls' := _) rfl rfl rfl ?_
  refine s_gf (p' := 38) rfl ((rd_setn hNS).trans j1) rfl rfl ?_
  refine s_ildn (p' := 39) rfl rfl rfl ?_
  refine s_sp (p' := 40) (ls' := _) rfl rfl rfl ?_
  rw [mI_add]
  refine s_pf (p' := 43) (fs' := [_, _, _, _]) rfl bS ((rd_setn hNS).trans j1) (Nat.blt_eq.mp rfl) rfl rfl rfl ?_
  refine s_aldn (p' := 44) rfl rfl rfl ?_
  refine s_aret rfl ?_
  refine ⟨_, _, rfl, rfl, g1.length, ⟨cat_ok okF okU, 2 * L1, rd_set bS ((rd_setn hNS).trans j1), ⟨va_cpy sf bf2 0 (2 * n) (m * (1 + 1)), (rd_setn (Ne.symm hNS)).trans (rd_set (by omega) q1), by omega, cpy_fit q3 kf (by omega), cat_enc1 q4 kv⟩, by omega, by omega⟩, by simp only [List.length_set]; omega, mz_mo.s (mz_mo.s ((e7.wk (L' := [S, B]) (fun y hy => Or.inl (by simp at hy; simp [hy])) (Nat.le_refl _) (Nat.le_refl _)).tr j3 (fun y hy => Or.inl (by simp at hy; simp [hy])) (by omega) (by omega)) (by omega) q1 rfl (Or.inr (by omega))) bS ((rd_setn hNS).trans j1) rfl (Or.inl (by simp))⟩
theorem y_ap1 {h : mj_H} {S B T n m : Nat} {f g : Nat → Nat} (bS : S < mj_CB) (hb : h.length + 20 < mj_CB) (hS : ySB h S B n 0 f) (hT : yStr h T m 1 g) (hm : n + m ≤ 120) (hd : ∀ (C : Nat) (rs : List Value), mj_rd h T = some (.inr (21, .ref C :: rs)) → C ≠ B) : mj_Wp 11 248 (0, [some (.ref S), some (.ref T)], [], h) (mz_V fun r h' => r = .ref S ∧ ∃ B', ySB h' S B' (n + m) 1 (catF f n g) ∧ (B' = B ∨ h.length ≤ B' ∧ B' < h'.length) ∧ mz_mo [S, B] 2 (6 * (n + m) + 80) h h') := by
  refine s_aldn (p' := 1) rfl rfl rfl ?_
  refine s_aldn (p' := 2) rfl rfl rfl ?_
  refine s_callEV (p' := 5) (ls0 := [_, _, _]) rfl rfl rfl rfl rfl hS.rcv rfl (y_aps1 bS hb hS hT hm hd) rfl rfl ?_
  rintro _ g ⟨rfl, k⟩
  refine s_sp (p' := 6) (ls' := _) rfl rfl rfl ?_
  refine s_aldn (p' := 7) rfl rfl rfl ?_
  refine s_aret rfl ?_
  exact ⟨_, _, rfl, rfl, k⟩
theorem up_ok0 {n ch : Nat} {f : Nat → Nat} (a : okT 0 n f) (hc : ch < 256) : okT 0 (n + 1) (upN f n ch) := ⟨Nat.zero_le 1, fun j hj => by
  unfold upN
  split
  · exact ⟨by omega, fun _ => hc⟩
  · exact a.2 j (by omega)⟩
theorem up_ok1 {c n ch : Nat} {f : Nat → Nat} (a : okT c n f) (hc : ch < 65536) : okT 1 (n + 1) (upN f n ch) := ⟨Nat.le_refl 1, fun j hj => by
  unfold upN
  split
  · exact ⟨hc, fun z => absurd z (by decide)⟩
  · exact ⟨(a.2 j (by omega)).1, fun z => absurd z (by decide)⟩⟩
theorem up_enc0 {n ch : Nat} {f : Nat → Nat} {bf : Nat → Int32} (hv : ∀ j, j < n → bf j = enc 0 f j) : ∀ j, j < n + 1 → upd bf n (byt ch) j = enc 0 (upN f n ch) j := fun j hj => by
  unfold upd enc upN
  rw [if_pos rfl]
  by_cases q : j = n
  · rw [if_pos q, if_pos q]
  · rw [if_neg q, if_neg q, hv j (by omega)]
    rfl
theorem upd_fit {bf : Nat → Int32} {L n ch : Nat} (hf : ∀ j, j < L → fits .byte (.int (bf j)) = true) : ∀ j, j < L → fits .byte (.int (upd bf n (byt ch) j)) = true := fun j hj => by
  unfold upd
  split
  · exact byt_fit _
  · exact hf j hj
theorem y_apc00 {h : mj_H} {S B n ch : Nat} {f : Nat → Nat} (bS : S < mj_CB) (hb : h.length + 20 < mj_CB) (hS : ySB h S B n 0 f) (hm : n ≤ 120) (hc : ch < 256) : mj_Wp 10 273 (0, [some (.ref S), some (.int (nI ch))], [], h) (mz_V fun r h' => r = .ref S ∧ ∃ B', ySB h' S B' (n + 1) 0 (upN f n ch) ∧ (B' = B ∨ h.length ≤ B' ∧ B' < h'.length) ∧ mz_mo [S, B] 1 (2 * n + 4) h h') := by
  obtain ⟨okS, L, kS, hy, bB, hL⟩ := hS
  have hy0 := hy
  obtain ⟨bf0, kB, _⟩ := hy0
  have hSl := rd_len bS kS
  have hBl := rd_len bB kB
  have hBS : B ≠ S := fun e => by rw [e, kS] at kB; cases kB
  refine s_aldn (p' := 1) rfl rfl rfl ?_
  refine s_aldn (p' := 2) rfl rfl rfl ?_
  refine s_gf (p' := 5) rfl kS rfl rfl ?_
  refine s_con (p' := 6) rfl rfl ?_
  refine s_sp (p' := 7) (ls' := _) rfl rfl rfl ?_
  rw [mI_add]
  refine s_callEN (p' := 10) (ls0 := [_, _, _]) rfl rfl rfl rfl rfl (mj_rcv_is kS) rfl (y_ens0 bS (by omega) kS hy bB (by omega) (by omega)) rfl rfl ?_
  rintro g1 ⟨B1, L1, e1, e2, e3, e4, e5, e6, e7⟩
  have e2' := e2
  obtain ⟨bf, i1, i2, i3, i4⟩ := e2'
  have g1l := e7.2.1
  have g1u := e7.2.2.1
  have hB1S : B1 ≠ S := by omega
  have hB1l := rd_len e3 i1
  refine s_aldn (p' := 11) rfl rfl rfl ?_
  refine c_call (p' := 14) (kc := 9) (ls0 := [_]) rfl rfl rfl rfl rfl (mj_rcv_is e1) rfl rfl rfl ?_
  refine s_sh (p' := 3) (ls' := _) (st' := .int (nI 1) :: _) (h' := _) rfl rfl rfl rfl ?_
  refine s_if (p' := 6) false rfl ((cz_eq (by omega)).trans (decide_eq_false (by omega))) rfl ?_
  refine s_aldn (p' := 7) rfl rfl rfl ?_
  refine s_gf (p' := 10) rfl e1 rfl rfl ?_
  refine s_if (p' := 13) false rfl ((cz_ne (by omega)).trans (decide_eq_false (by omega))) rfl ?_
  refine s_con (p' := 14) rfl rfl ?_
  refine s_goto (p' := 18) rfl rfl ?_
  refine c_iret rfl rfl ?_
  refine s_if (p' := 17) false rfl ((cz_eq (by omega)).trans (decide_eq_false (by omega))) rfl ?_
  refine s_ildn (p' := 18) rfl rfl rfl ?_
  refine c_call (p' := 21) (kc := 9) (ls0 := [_]) rfl rfl rfl rfl rfl rfl rfl rfl rfl ?_
  refine s_ildn (p' := 1) rfl rfl rfl ?_
  refine s_sip (p' := 4) rfl rfl ?_
  refine s_icmp (p' := 7) false rfl ((ci_gt (by omega) (by omega)).trans (decide_eq_false (by omega))) rfl ?_
  refine s_con (p' := 8) rfl rfl ?_
  refine s_goto (p' := 12) rfl rfl ?_
  refine c_iret rfl rfl ?_
  refine s_if (p' := 24) false rfl ((cz_eq (by omega)).trans (decide_eq_false (by omega))) rfl ?_
  refine s_aldn (p' := 25) rfl rfl rfl ?_
  refine s_gf (p' := 28) rfl e1 rfl rfl ?_
  refine s_aldn (p' := 29) rfl rfl rfl ?_
  refine s_sp (p' := 30) (ls' := _) rfl rfl rfl ?_
  refine s_gf (p' := 33) rfl e1 rfl rfl ?_
  refine s_sp (p' := 34) (ls' := _) rfl rfl rfl ?_
  refine s_con (p' := 35) rfl rfl ?_
  refine s_sp (p' := 36) (ls' := _) rfl rfl rfl ?_
  rw [mI_add]
  refine s_pf (p' := 39) (fs' := [_, _, _, _]) rfl bS e1 (Nat.blt_eq.mp rfl) rfl rfl rfl ?_
  refine s_ildn (p' := 40) rfl rfl rfl ?_
  refine s_sp (p' := 41) (ls' := _) rfl rfl rfl ?_
  rw [byt_i]
  refine s_bas1 (p' := 42) rfl e3 ((rd_setn (Ne.symm hB1S)).trans i1) (inb_nI (by omega) (by omega)) rfl ?_
  rw [byt_nar, mI_cl (by omega)]
  refine s_goto (p' := 75) rfl rfl ?_
  refine s_aldn (p' := 76) rfl rfl rfl ?_
  refine s_aret rfl ?_
  refine ⟨_, _, rfl, rfl, B1, ⟨up_ok0 okS hc, L1, (rd_setn hB1S).trans (rd_set bS e1), ⟨upd bf n (byt ch), rd_set e3 ((rd_setn (Ne.symm hB1S)).trans i1), by omega, upd_fit i3, fun j hj => up_enc0 (fun j hj => i4 j (by omega)) j (by omega)⟩, e3, by omega⟩, by simp only [List.length_set]; omega, mz_mo.s (mz_mo.s (e7.wk (L' := [S, B]) (fun y hy => Or.inl (by simp at hy; simp [hy])) (Nat.le_refl _) (by omega)) bS e1 rfl (Or.inl (by simp))) e3 ((rd_setn (Ne.symm hB1S)).trans i1) rfl (by rcases e6 with e6 | e6 <;> simp [e6])⟩
theorem y_ac00 {h : mj_H} {S B n ch : Nat} {f : Nat → Nat} (bS : S < mj_CB) (hb : h.length + 20 < mj_CB) (hS : ySB h S B n 0 f) (hm : n ≤ 120) (hc : ch < 256) : mj_Wp 11 272 (0, [some (.ref S), some (.int (nI ch))], [], h) (mz_V fun r h' => r = .ref S ∧ ∃ B', ySB h' S B' (n + 1) 0 (upN f n ch) ∧ (B' = B ∨ h.length ≤ B' ∧ B' < h'.length) ∧ mz_mo [S, B] 1 (2 * n + 4) h h') := by
  refine s_aldn (p' := 1) rfl rfl rfl ?_
  refine s_ildn (p' := 2) rfl rfl rfl ?_
  refine s_callEV (p' := 5) (ls0 := [_, _]) rfl rfl rfl rfl rfl hS.rcv rfl (y_apc00 bS hb hS hm hc) rfl rfl ?_
  rintro _ g ⟨rfl, k⟩
  refine s_sp (p' := 6) (ls' := _) rfl rfl rfl ?_
  refine s_aldn (p' := 7) rfl rfl rfl ?_
  refine s_aret rfl ?_
  exact ⟨_, _, rfl, rfl, k⟩
theorem y_apc01 {h : mj_H} {S B n ch : Nat} {f : Nat → Nat} (bS : S < mj_CB) (hb : h.length + 20 < mj_CB) (hS : ySB h S B n 0 f) (hm : n ≤ 120) (hc : 256 ≤ ch ∧ ch < 65536) : mj_Wp 10 273 (0, [some (.ref S), some (.int (nI ch))], [], h) (mz_V fun r h' => r = .ref S ∧ ∃ B', ySB h' S B' (n + 1) 1 (upN f n ch) ∧ (B' = B ∨ h.length ≤ B' ∧ B' < h'.length) ∧ mz_mo [S, B] 2 (6 * n + 90) h h') := by
  obtain ⟨okS, L, kS, hy, bB, hL⟩ := hS
  have hy0 := hy
  obtain ⟨bf0, kB, _⟩ := hy0
  have hSl := rd_len bS kS
  have hBl := rd_len bB kB
  have hBS : B ≠ S := fun e => by rw [e, kS] at kB; cases kB
  refine s_aldn (p' := 1) rfl rfl rfl ?_
  refine s_aldn (p' := 2) rfl rfl rfl ?_
  refine s_gf (p' := 5) rfl kS rfl rfl ?_
  refine s_con (p' := 6) rfl rfl ?_
  refine s_sp (p' := 7) (ls' := _) rfl rfl rfl ?_
  rw [mI_add]
  refine s_callEN (p' := 10) (ls0 := [_, _, _]) rfl rfl rfl rfl rfl (mj_rcv_is kS) rfl (y_ens0 bS (by omega) kS hy bB (by omega) (by omega)) rfl rfl ?_
  rintro g1 ⟨B1, L1, e1, e2, e3, e4, e5, e6, e7⟩
  have e2' := e2
  obtain ⟨bf, i1, i2, i3, i4⟩ := e2'
  have g1l := e7.2.1
  have g1u := e7.2.2.1
  have hB1S : B1 ≠ S := by omega
  have hB1l := rd_len e3 i1
  refine s_aldn (p' := 11) rfl rfl rfl ?_
  refine c_call (p' := 14) (kc := 9) (ls0 := [_]) rfl rfl rfl rfl rfl (mj_rcv_is e1) rfl rfl rfl ?_
  refine s_sh (p' := 3) (ls' := _) (st' := .int (nI 1) :: _) (h' := _) rfl rfl rfl rfl ?_
  refine s_if (p' := 6) false rfl ((cz_eq (by omega)).trans (decide_eq_false (by omega))) rfl ?_
  refine s_aldn (p' := 7) rfl rfl rfl ?_
  refine s_gf (p' := 10) rfl e1 rfl rfl ?_
  refine s_if (p' := 13) false rfl ((cz_ne (by omega)).trans (decide_eq_false (by omega))) rfl ?_
  refine s_con (p' := 14) rfl rfl ?_
  refine s_goto (p' := 18) rfl rfl ?_
  refine c_iret rfl rfl ?_
  refine s_if (p' := 17) false rfl ((cz_eq (by omega)).trans (decide_eq_false (by omega))) rfl ?_
  refine s_ildn (p' := 18) rfl rfl rfl ?_
  refine c_call (p' := 21) (kc := 9) (ls0 := [_]) rfl rfl rfl rfl rfl rfl rfl rfl rfl ?_
  refine s_ildn (p' := 1) rfl rfl rfl ?_
  refine s_sip (p' := 4) rfl rfl ?_
  refine s_icmp (p' := 11) true rfl ((ci_gt (by omega) (by omega)).trans (decide_eq_true (by omega))) rfl ?_
  refine s_con (p' := 12) rfl rfl ?_
  refine c_iret rfl rfl ?_
  refine s_if (p' := 45) true rfl ((cz_eq (by omega)).trans (decide_eq_true (by omega))) rfl ?_
  refine s_aldn (p' := 46) rfl rfl rfl ?_
  refine c_call (p' := 49) (kc := 9) (ls0 := [_]) rfl rfl rfl rfl rfl (mj_rcv_is e1) rfl rfl rfl ?_
  refine s_sh (p' := 3) (ls' := _) (st' := .int (nI 1) :: _) (h' := _) rfl rfl rfl rfl ?_
  refine s_if (p' := 6) false rfl ((cz_eq (by omega)).trans (decide_eq_false (by omega))) rfl ?_
  refine s_aldn (p' := 7) rfl rfl rfl ?_
  refine s_gf (p' := 10) rfl e1 rfl rfl ?_
  refine s_if (p' := 13) false rfl ((cz_ne (by omega)).trans (decide_eq_false (by omega))) rfl ?_
  refine s_con (p' := 14) rfl rfl ?_
  refine s_goto (p' := 18) rfl rfl ?_
  refine c_iret rfl rfl ?_
  refine s_if (p' := 52) false rfl ((cz_eq (by omega)).trans (decide_eq_false (by omega))) rfl ?_
  refine s_aldn (p' := 53) rfl rfl rfl ?_
  refine s_callEN (p' := 56) (ls0 := [_, _]) rfl rfl rfl rfl rfl (mj_rcv_is e1) rfl (y_inf bS (by omega) e1 e2 (by omega) (fun j hj => (okS.2 j hj).2 rfl)) rfl rfl ?_
  rintro g2 ⟨j1, j2, j3⟩
  obtain ⟨bf2, q1, q2, q3, q4⟩ := j2
  have g2l := j3.2.1
  have g2u := j3.2.2.1
  have hNl := rd_len (by omega) q1
  have hNS : g1.length ≠ S := by omega
  refine s_aldn (p' := 57) rfl rfl rfl ?_
  refine s_gf (p' := 60) rfl j1 rfl rfl ?_
  refine s_aldn (p' := 61) rfl rfl rfl ?_
  refine s_sp (p' := 62) (ls' := _) rfl rfl rfl ?_
  refine s_gf (p' := 65) rfl j1 rfl rfl ?_
  refine s_sp (p' := 66) (ls' := _) rfl rfl rfl ?_
  refine s_con (p' := 67) rfl rfl ?_
  refine s_sp (p' := 68) (ls' := _) rfl rfl rfl ?_
  rw [mI_add]
  refine s_pf (p' := 71) (fs' := [_, _, _, _]) rfl bS j1 (Nat.blt_eq.mp rfl) rfl rfl rfl ?_
  refine s_ildn (p' := 72) rfl rfl rfl ?_
  refine s_callN (p' := 75) (ls0 := [_, _, _]) rfl rfl rfl rfl rfl rfl rfl (y_psb (by omega) ((rd_setn (Ne.symm hNS)).trans q1) (by omega) (by omega) hc.2) (by decide) rfl ?_
  refine s_aldn (p' := 76) rfl rfl rfl ?_
  refine s_aret rfl ?_
  refine ⟨_, _, rfl, rfl, g1.length, ⟨up_ok1 okS hc.2, 2 * L1, (rd_setn hNS).trans (rd_set bS j1), ⟨up2 bf2 n ch, rd_set (by omega) ((rd_setn (Ne.symm hNS)).trans q1), by omega, up2_fit q3, up2_enc q4⟩, by omega, by omega⟩, by simp only [List.length_set]; omega, mz_mo.s (mz_mo.s ((e7.wk (L' := [S, B]) (fun y hy => Or.inl (by simp at hy; simp [hy])) (Nat.le_refl _) (Nat.le_refl _)).tr j3 (fun y hy => Or.inl (by simp at hy; simp [hy])) (by omega) (by omega)) bS j1 rfl (Or.inl (by simp))) (by omega) ((rd_setn (Ne.symm hNS)).trans q1) rfl (Or.inr (by omega))⟩
theorem y_ac01 {h : mj_H} {S B n ch : Nat} {f : Nat → Nat} (bS : S < mj_CB) (hb : h.length + 20 < mj_CB) (hS : ySB h S B n 0 f) (hm : n ≤ 120) (hc : 256 ≤ ch ∧ ch < 65536) : mj_Wp 11 272 (0, [some (.ref S), some (.int (nI ch))], [], h) (mz_V fun r h' => r = .ref S ∧ ∃ B', ySB h' S B' (n + 1) 1 (upN f n ch) ∧ (B' = B ∨ h.length ≤ B' ∧ B' < h'.length) ∧ mz_mo [S, B] 2 (6 * n + 90) h h') := by
  refine s_aldn (p' := 1) rfl rfl rfl ?_
  refine s_ildn (p' := 2) rfl rfl rfl ?_
  refine s_callEV (p' := 5) (ls0 := [_, _]) rfl rfl rfl rfl rfl hS.rcv rfl (y_apc01 bS hb hS hm hc) rfl rfl ?_
  rintro _ g ⟨rfl, k⟩
  refine s_sp (p' := 6) (ls' := _) rfl rfl rfl ?_
  refine s_aldn (p' := 7) rfl rfl rfl ?_
  refine s_aret rfl ?_
  exact ⟨_, _, rfl, rfl, k⟩
theorem y_apc11 {h : mj_H} {S B n ch : Nat} {f : Nat → Nat} (bS : S < mj_CB) (hb : h.length + 20 < mj_CB) (hS : ySB h S B n 1 f) (hm : n ≤ 120) (hc : ch < 65536) : mj_Wp 10 273 (0, [some (.ref S), some (.int (nI ch))], [], h) (mz_V fun r h' => r = .ref S ∧ ∃ B', ySB h' S B' (n + 1) 1 (upN f n ch) ∧ (B' = B ∨ h.length ≤ B' ∧ B' < h'.length) ∧ mz_mo [S, B] 1 (4 * n + 8) h h') := by
  obtain ⟨okS, L, kS, hy, bB, hL⟩ := hS
  have hy0 := hy
  obtain ⟨bf0, kB, _⟩ := hy0
  have hSl := rd_len bS kS
  have hBl := rd_len bB kB
  have hBS : B ≠ S := fun e => by rw [e, kS] at kB; cases kB
  refine s_aldn (p' := 1) rfl rfl rfl ?_
  refine s_aldn (p' := 2) rfl rfl rfl ?_
  refine s_gf (p' := 5) rfl kS rfl rfl ?_
  refine s_con (p' := 6) rfl rfl ?_
  refine s_sp (p' := 7) (ls' := _) rfl rfl rfl ?_
  rw [mI_add]
  refine s_callEN (p' := 10) (ls0 := [_, _, _]) rfl rfl rfl rfl rfl (mj_rcv_is kS) rfl (y_ens1 bS (by omega) kS hy bB (by omega) (by omega)) rfl rfl ?_
  rintro g1 ⟨B1, L1, e1, e2, e3, e4, e5, e6, e7⟩
  have e2' := e2
  obtain ⟨bf, i1, i2, i3, i4⟩ := e2'
  have g1l := e7.2.1
  have g1u := e7.2.2.1
  have hB1S : B1 ≠ S := by omega
  have hB1l := rd_len e3 i1
  refine s_aldn (p' := 11) rfl rfl rfl ?_
  refine c_call (p' := 14) (kc := 9) (ls0 := [_]) rfl rfl rfl rfl rfl (mj_rcv_is e1) rfl rfl rfl ?_
  refine s_sh (p' := 3) (ls' := _) (st' := .int (nI 1) :: _) (h' := _) rfl rfl rfl rfl ?_
  refine s_if (p' := 6) false rfl ((cz_eq (by omega)).trans (decide_eq_false (by omega))) rfl ?_
  refine s_aldn (p' := 7) rfl rfl rfl ?_
  refine s_gf (p' := 10) rfl e1 rfl rfl ?_
  refine s_if (p' := 17) true rfl ((cz_ne (by omega)).trans (decide_eq_true (by omega))) rfl ?_
  refine s_con (p' := 18) rfl rfl ?_
  refine c_iret rfl rfl ?_
  refine s_if (p' := 45) true rfl ((cz_eq (by omega)).trans (decide_eq_true (by omega))) rfl ?_
  refine s_aldn (p' := 46) rfl rfl rfl ?_
  refine c_call (p' := 49) (kc := 9) (ls0 := [_]) rfl rfl rfl rfl rfl (mj_rcv_is e1) rfl rfl rfl ?_
  refine s_sh (p' := 3) (ls' := _) (st' := .int (nI 1) :: _) (h' := _) rfl rfl rfl rfl ?_
  refine s_if (p' := 6) false rfl ((cz_eq (by omega)).trans (decide_eq_false (by omega))) rfl ?_
  refine s_aldn (p' := 7) rfl rfl rfl ?_
  refine s_gf (p' := 10) rfl e1 rfl rfl ?_
  refine s_if (p' := 17) true rfl ((cz_ne (by omega)).trans (decide_eq_true (by omega))) rfl ?_
  refine s_con (p' := 18) rfl rfl ?_
  refine c_iret rfl rfl ?_
  refine s_if (p' := 56) true rfl ((cz_eq (by omega)).trans (decide_eq_true (by omega))) rfl ?_
  refine s_aldn (p' := 57) rfl rfl rfl ?_
  refine s_gf (p' := 60) rfl e1 rfl rfl ?_
  refine s_aldn (p' := 61) rfl rfl rfl ?_
  refine s_sp (p' := 62) (ls' := _) rfl rfl rfl ?_
  refine s_gf (p' := 65) rfl e1 rfl rfl ?_
  refine s_sp (p' := 66) (ls' := _) rfl rfl rfl ?_
  refine s_con (p' := 67) rfl rfl ?_
  refine s_sp (p' := 68) (ls' := _) rfl rfl rfl ?_
  rw [mI_add]
  refine s_pf (p' := 71) (fs' := [_, _, _, _]) rfl bS e1 (Nat.blt_eq.mp rfl) rfl rfl rfl ?_
  refine s_ildn (p' := 72) rfl rfl rfl ?_
  refine s_callN (p' := 75) (ls0 := [_, _, _]) rfl rfl rfl rfl rfl rfl rfl (y_psb e3 ((rd_setn (Ne.symm hB1S)).trans i1) (by omega) (by omega) hc) (by decide) rfl ?_
  refine s_aldn (p' := 76) rfl rfl rfl ?_
  refine s_aret rfl ?_
  refine ⟨_, _, rfl, rfl, B1, ⟨up_ok1 okS hc, L1, (rd_setn hB1S).trans (rd_set bS e1), ⟨up2 bf n ch, rd_set e3 ((rd_setn (Ne.symm hB1S)).trans i1), by omega, up2_fit i3, up2_enc i4⟩, e3, by omega⟩, by simp only [List.length_set]; omega, mz_mo.s (mz_mo.s (e7.wk (L' := [S, B]) (fun y hy => Or.inl (by simp at hy; simp [hy])) (Nat.le_refl _) (by omega)) bS e1 rfl (Or.inl (by simp))) e3 ((rd_setn (Ne.symm hB1S)).trans i1) rfl (by rcases e6 with e6 | e6 <;> simp [e6])⟩
theorem y_ac11 {h : mj_H} {S B n ch : Nat} {f : Nat → Nat} (bS : S < mj_CB) (hb : h.length + 20 < mj_CB) (hS : ySB h S B n 1 f) (hm : n ≤ 120) (hc : ch < 65536) : mj_Wp 11 272 (0, [some (.ref S), some (.int (nI ch))], [], h) (mz_V fun r h' => r = .ref S ∧ ∃ B', ySB h' S B' (n + 1) 1 (upN f n ch) ∧ (B' = B ∨ h.length ≤ B' ∧ B' < h'.length) ∧ mz_mo [S, B] 1 (4 * n + 8) h h') := by
  refine s_aldn (p' := 1) rfl rfl rfl ?_
  refine s_ildn (p' := 2) rfl rfl rfl ?_
  refine s_callEV (p' := 5) (ls0 := [_, _]) rfl rfl rfl rfl rfl hS.rcv rfl (y_apc11 bS hb hS hm hc) rfl rfl ?_
  rintro _ g ⟨rfl, k⟩
  refine s_sp (p' := 6) (ls' := _) rfl rfl rfl ?_
  refine s_aldn (p' := 7) rfl rfl rfl ?_
  refine s_aret rfl ?_
  exact ⟨_, _, rfl, rfl, k⟩
theorem y_sbi {h : mj_H} {S : Nat} {v0 v1 : Value} {f : Nat → Nat} (bS : S < mj_CB) (hb : h.length + 10 < mj_CB) (hS : mj_rd h S = some (.inr (20, [v0, v1, .int (nI 0), .int (nI 0)]))) : mj_Wp 2 244 (0, [some (.ref S)], [], h) (mz_N fun h' => ySB h' S h.length 0 0 f ∧ mz_mo [S] 1 16 h h') := by
  refine s_aldn (p' := 1) rfl rfl rfl ?_
  refine s_bip (p' := 3) rfl rfl ?_
  refine c_call (p' := 6) (kc := 1) (ls0 := [_, _]) rfl rfl rfl rfl rfl (mj_rcv_is hS) rfl rfl rfl ?_
  refine s_aldn (p' := 1) rfl rfl rfl ?_
  refine s_primN (p' := 4) (q := 3) rfl rfl rfl rfl rfl rfl rfl rfl ?_
  refine s_sh (p' := 7) (ls' := _) (st' := .int (nI 1) :: _) (h' := _) rfl rfl rfl rfl ?_
  refine s_if (p' := 10) false rfl ((cz_eq (by omega)).trans (decide_eq_false (by omega))) rfl ?_
  refine s_aldn (p' := 11) rfl rfl rfl ?_
  refine s_ildn (p' := 12) rfl rfl rfl ?_
  refine s_naz (p' := 14) (a := h.length) (n := 16) rfl rfl (Nat.ble_eq.mpr (by decide)) rfl ?_
  refine s_pf (p' := 17) (fs' := [_, _, _, _]) rfl bS (rd_app hS) (Nat.blt_eq.mp rfl) rfl rfl rfl ?_
  refine s_aldn (p' := 18) rfl rfl rfl ?_
  refine s_con (p' := 19) rfl rfl ?_
  refine s_pf (p' := 22) (fs' := [_, _, _, _]) rfl bS (rd_set bS (rd_app hS)) (Nat.blt_eq.mp rfl) rfl rfl rfl ?_
  rw [List.set_set]
  refine s_goto (p' := 38) rfl rfl ?_
  refine c_ret rfl ?_
  refine s_ret rfl ?_
  have hSN : h.length ≠ S := by have := rd_len bS hS; omega
  exact ⟨_, rfl, ⟨⟨Nat.zero_le 1, fun j hj => absurd hj (Nat.not_lt_zero j)⟩, 16, rd_set bS (rd_app hS), ⟨fun _ => 0, (rd_setn (Ne.symm hSN)).trans (rd_nw (Nat.blt_eq.mpr (by omega)) rfl), by omega, fun j hj => fit_0, fun j hj => absurd hj (by omega)⟩, by omega, by omega⟩, mz_mo.s (mz_mo.ap [S] h (.inl (1, mj_arr0 1 16))) bS (rd_app hS) rfl (Or.inl (by simp))⟩
theorem y_tos0 {h : mj_H} {S B n : Nat} {f : Nat → Nat} (hb : h.length + 20 < mj_CB) (hS : ySB h S B n 0 f) (hm : n ≤ 130) : mj_Wp 10 279 (0, [some (.ref S)], [], h) (mz_V fun r h' => r = .ref h.length ∧ yStr h' h.length n 0 f ∧ (∀ (C : Nat) (rs : List Value), mj_rd h' h.length = some (.inr (21, .ref C :: rs)) → C = h.length + 1) ∧ mz_mo [] 2 (4 + 2 * n) h h') := by
  obtain ⟨okS, L, kS, ⟨bf, kB, kl, kf, kv⟩, bB, hL⟩ := hS
  have hN : h.length = h.length := rfl
  refine s_newz (p' := 3) (a := h.length) rfl hN rfl rfl ?_
  refine s_sp (p' := 4) (ls' := _) rfl rfl rfl ?_
  refine s_aldn (p' := 5) rfl rfl rfl ?_
  refine c_call (p' := 8) (kc := 9) (ls0 := [_, _]) rfl rfl rfl rfl rfl (mj_rcv_is (rd_a0 hN (by omega))) rfl rfl rfl ?_
  refine s_aldn (p' := 1) rfl rfl rfl ?_
  refine s_aldn (p' := 2) rfl rfl rfl ?_
  refine s_sp (p' := 3) (ls' := _) rfl rfl rfl ?_
  refine c_call (p' := 6) (kc := 8) (ls0 := [_, _, _, _, _]) rfl rfl rfl rfl rfl (mj_rcv_is (rd_a0 hN (by omega))) rfl rfl rfl ?_
  refine s_aldn (p' := 1) rfl rfl rfl ?_
  refine s_primN (p' := 4) (q := 3) rfl rfl rfl rfl rfl rfl rfl rfl ?_
  refine s_aldn (p' := 5) rfl rfl rfl ?_
  refine c_call (p' := 8) (kc := 7) (ls0 := [_]) rfl rfl rfl rfl rfl (mj_rcv_is (rd_app kS)) rfl rfl rfl ?_
  refine s_aldn (p' := 1) rfl rfl rfl ?_
  refine s_gf (p' := 4) rfl (rd_app kS) rfl rfl ?_
  refine c_aret rfl ?_
  refine s_astn (p' := 9) (ls' := [_, _, _, _, _]) rfl rfl rfl rfl ?_
  refine s_aldn (p' := 10) rfl rfl rfl ?_
  refine c_call (p' := 13) (kc := 7) (ls0 := [_]) rfl rfl rfl rfl rfl (mj_rcv_is (rd_app kS)) rfl rfl rfl ?_
  refine s_aldn (p' := 1) rfl rfl rfl ?_
  refine c_call (p' := 4) (kc := 6) (ls0 := [_]) rfl rfl rfl rfl rfl (mj_rcv_is (rd_app kS)) rfl rfl rfl ?_
  refine s_aldn (p' := 1) rfl rfl rfl ?_
  refine s_gf (p' := 4) rfl (rd_app kS) rfl rfl ?_
  refine c_iret rfl rfl ?_
  refine c_iret rfl rfl ?_
  refine s_ist (p' := 15) (ls' := [_, _, _, _, _]) rfl rfl rfl rfl ?_
  refine s_aldn (p' := 16) rfl rfl rfl ?_
  refine c_call (p' := 19) (kc := 7) (ls0 := [_]) rfl rfl rfl rfl rfl (mj_rcv_is (rd_app kS)) rfl rfl rfl ?_
  refine s_sh (p' := 3) (ls' := _) (st' := .int (nI 1) :: _) (h' := _) rfl rfl rfl rfl ?_
  refine s_if (p' := 6) false rfl ((cz_eq (by omega)).trans (decide_eq_false (by omega))) rfl ?_
  refine s_aldn (p' := 7) rfl rfl rfl ?_
  refine s_gf (p' := 10) rfl (rd_app kS) rfl rfl ?_
  refine s_if (p' := 13) false rfl ((cz_ne (by omega)).trans (decide_eq_false (by omega))) rfl ?_
  refine s_con (p' := 14) rfl rfl ?_
  refine s_goto (p' := 18) rfl rfl ?_
  refine c_iret rfl rfl ?_
  refine s_if (p' := 22) false rfl ((cz_eq (by omega)).trans (decide_eq_false (by omega))) rfl ?_
  refine s_aldn (p' := 23) rfl rfl rfl ?_
  refine s_con (p' := 24) rfl rfl ?_
  refine s_pf (p' := 27) (fs' := [_, _, _, _]) rfl (by omega) (rd_a0 hN (by omega)) (Nat.blt_eq.mp rfl) rfl rfl rfl ?_
  rw [set_a0 hN]
  refine s_aldn (p' := 28) rfl rfl rfl ?_
  refine s_aldn (p' := 29) rfl rfl rfl ?_
  refine s_con (p' := 30) rfl rfl ?_
  refine s_ild (p' := 32) rfl rfl rfl ?_
  refine s_callEV (p' := 35) (ls0 := [_, _, _]) rfl rfl rfl rfl rfl rfl rfl (y_crg (N := h.length + 1) (by rw [List.length_append]; rfl) (by omega) (rd_app kB) kf (by omega) (by omega) (by omega) bB) rfl rfl ?_
  rintro _ g ⟨rfl, bf', k1, k2, k3, k4⟩
  have gS := k4.1 h.length (by simp) _ (rd_nw (Nat.blt_eq.mpr (by omega)) rfl)
  have gN : h.length + 1 ≠ h.length := by omega
  have ggl := k4.2.1
  have ggu := k4.2.2.1
  simp only [List.length_append, List.length_cons, List.length_nil] at ggl ggu
  refine s_pf (p' := 38) (fs' := [_, _, _, _]) rfl (by omega) gS (Nat.blt_eq.mp rfl) rfl rfl rfl ?_
  refine s_goto (p' := 97) rfl rfl ?_
  refine c_ret rfl ?_
  refine c_ret rfl ?_
  refine s_aret rfl ?_
  exact ⟨_, _, rfl, rfl, ⟨okS, h.length + 1, [.int 0, .int 0], rd_set (by omega) gS, ⟨bf', (rd_setn (Ne.symm gN)).trans (by rw [show n * (0 + 1) = n by omega]; exact k1), Nat.le_refl _, fun j hj => k2 j (by omega), fun j hj => (k3 j (by omega)).trans (kv j (by omega))⟩⟩, fun C rs q => by rw [rd_set (by omega) gS] at q; exact (Value.ref.inj (List.cons.inj (congrArg Prod.snd (Sum.inr.inj (Option.some.inj q)))).1).symm, mz_mo.s (((mz_mo.ap [] h (.inr (21, [.null, .int (nI 0), .int 0, .int 0]))).tr k4 (fun y hy => Or.inl hy) (Nat.le_refl _) (Nat.le_refl _)).wk (fun y hy => Or.inl hy) (by omega) (by show 4 + n ≤ 4 + 2 * n; omega)) (by omega) gS rfl (Or.inr (Nat.le_refl _))⟩
theorem y_tos1 {h : mj_H} {S B n : Nat} {f : Nat → Nat} (hb : h.length + 20 < mj_CB) (hS : ySB h S B n 1 f) (hm : n ≤ 130) : mj_Wp 10 279 (0, [some (.ref S)], [], h) (mz_V fun r h' => r = .ref h.length ∧ yStr h' h.length n 1 f ∧ (∀ (C : Nat) (rs : List Value), mj_rd h' h.length = some (.inr (21, .ref C :: rs)) → C = h.length + 1) ∧ mz_mo [] 2 (4 + 2 * n) h h') := by
  obtain ⟨okS, L, kS, ⟨bf, kB, kl, kf, kv⟩, bB, hL⟩ := hS
  have hN : h.length = h.length := rfl
  refine s_newz (p' := 3) (a := h.length) rfl hN rfl rfl ?_
  refine s_sp (p' := 4) (ls' := _) rfl rfl rfl ?_
  refine s_aldn (p' := 5) rfl rfl rfl ?_
  refine c_call (p' := 8) (kc := 9) (ls0 := [_, _]) rfl rfl rfl rfl rfl (mj_rcv_is (rd_a0 hN (by omega))) rfl rfl rfl ?_
  refine s_aldn (p' := 1) rfl rfl rfl ?_
  refine s_aldn (p' := 2) rfl rfl rfl ?_
  refine s_sp (p' := 3) (ls' := _) rfl rfl rfl ?_
  refine c_call (p' := 6) (kc := 8) (ls0 := [_, _, _, _, _]) rfl rfl rfl rfl rfl (mj_rcv_is (rd_a0 hN (by omega))) rfl rfl rfl ?_
  refine s_aldn (p' := 1) rfl rfl rfl ?_
  refine s_primN (p' := 4) (q := 3) rfl rfl rfl rfl rfl rfl rfl rfl ?_
  refine s_aldn (p' := 5) rfl rfl rfl ?_
  refine c_call (p' := 8) (kc := 7) (ls0 := [_]) rfl rfl rfl rfl rfl (mj_rcv_is (rd_app kS)) rfl rfl rfl ?_
  refine s_aldn (p' := 1) rfl rfl rfl ?_
  refine s_gf (p' := 4) rfl (rd_app kS) rfl rfl ?_
  refine c_aret rfl ?_
  refine s_astn (p' := 9) (ls' := [_, _, _, _, _]) rfl rfl rfl rfl ?_
  refine s_aldn (p' := 10) rfl rfl rfl ?_
  refine c_call (p' := 13) (kc := 7) (ls0 := [_]) rfl rfl rfl rfl rfl (mj_rcv_is (rd_app kS)) rfl rfl rfl ?_
  refine s_aldn (p' := 1) rfl rfl rfl ?_
  refine c_call (p' := 4) (kc := 6) (ls0 := [_]) rfl rfl rfl rfl rfl (mj_rcv_is (rd_app kS)) rfl rfl rfl ?_
  refine s_aldn (p' := 1) rfl rfl rfl ?_
  refine s_gf (p' := 4) rfl (rd_app kS) rfl rfl ?_
  refine c_iret rfl rfl ?_
  refine c_iret rfl rfl ?_
  refine s_ist (p' := 15) (ls' := [_, _, _, _, _]) rfl rfl rfl rfl ?_
  refine s_aldn (p' := 16) rfl rfl rfl ?_
  refine c_call (p' := 19) (kc := 7) (ls0 := [_]) rfl rfl rfl rfl rfl (mj_rcv_is (rd_app kS)) rfl rfl rfl ?_
  refine s_sh (p' := 3) (ls' := _) (st' := .int (nI 1) :: _) (h' := _) rfl rfl rfl rfl ?_
  refine s_if (p' := 6) false rfl ((cz_eq (by omega)).trans (decide_eq_false (by omega))) rfl ?_
  refine s_aldn (p' := 7) rfl rfl rfl ?_
  refine s_gf (p' := 10) rfl (rd_app kS) rfl rfl ?_
  refine s_if (p' := 17) true rfl ((cz_ne (by omega)).trans (decide_eq_true (by omega))) rfl ?_
  refine s_con (p' := 18) rfl rfl ?_
  refine c_iret rfl rfl ?_
  refine s_if (p' := 41) true rfl ((cz_eq (by omega)).trans (decide_eq_true (by omega))) rfl ?_
  refine s_sh (p' := 44) (ls' := _) (st' := .int (nI 1) :: _) (h' := _) rfl rfl rfl rfl ?_
  refine s_if (p' := 47) false rfl ((cz_eq (by omega)).trans (decide_eq_false (by omega))) rfl ?_
  refine s_aldn (p' := 48) rfl rfl rfl ?_
  refine s_gf (p' := 51) rfl (rd_app kS) rfl rfl ?_
  refine s_if (p' := 79) true rfl ((cz_eq (by omega)).trans (decide_eq_true (by omega))) rfl ?_
  refine s_aldn (p' := 80) rfl rfl rfl ?_
  refine s_con (p' := 81) rfl rfl ?_
  refine s_pf (p' := 84) (fs' := [_, _, _, _]) rfl (by omega) (rd_a0 hN (by omega)) (Nat.blt_eq.mp rfl) rfl rfl rfl ?_
  rw [set_a0 hN]
  refine s_aldn (p' := 85) rfl rfl rfl ?_
  refine s_aldn (p' := 86) rfl rfl rfl ?_
  refine s_con (p' := 87) rfl rfl ?_
  refine s_ild (p' := 89) rfl rfl rfl ?_
  refine s_con (p' := 90) rfl rfl ?_
  refine s_sp (p' := 91) (ls' := _) rfl rfl rfl ?_
  rw [shl1 (by omega)]
  refine s_callEV (p' := 94) (ls0 := [_, _, _]) rfl rfl rfl rfl rfl rfl rfl (y_crg (N := h.length + 1) (by rw [List.length_append]; rfl) (by omega) (rd_app kB) kf (by omega) (by omega) (by omega) bB) rfl rfl ?_
  rintro _ g ⟨rfl, bf', k1, k2, k3, k4⟩
  have gS := k4.1 h.length (by simp) _ (rd_nw (Nat.blt_eq.mpr (by omega)) rfl)
  have gN : h.length + 1 ≠ h.length := by omega
  have ggl := k4.2.1
  have ggu := k4.2.2.1
  simp only [List.length_append, List.length_cons, List.length_nil] at ggl ggu
  refine s_pf (p' := 97) (fs' := [_, _, _, _]) rfl (by omega) gS (Nat.blt_eq.mp rfl) rfl rfl rfl ?_
  refine c_ret rfl ?_
  refine c_ret rfl ?_
  refine s_aret rfl ?_
  exact ⟨_, _, rfl, rfl, ⟨okS, h.length + 1, [.int 0, .int 0], rd_set (by omega) gS, ⟨bf', (rd_setn (Ne.symm gN)).trans (by rw [show n * (1 + 1) = 2 * n by omega]; exact k1), Nat.le_refl _, fun j hj => k2 j (by omega), fun j hj => (k3 j (by omega)).trans (kv j (by omega))⟩⟩, fun C rs q => by rw [rd_set (by omega) gS] at q; exact (Value.ref.inj (List.cons.inj (congrArg Prod.snd (Sum.inr.inj (Option.some.inj q)))).1).symm, mz_mo.s (((mz_mo.ap [] h (.inr (21, [.null, .int (nI 1), .int 0, .int 0]))).tr k4 (fun y hy => Or.inl hy) (Nat.le_refl _) (Nat.le_refl _)).wk (fun y hy => Or.inl hy) (by omega) (by show 4 + 2 * n ≤ 4 + 2 * n; omega)) (by omega) gS rfl (Or.inr (Nat.le_refl _))⟩
