/-! Turning a circuit round. -/
theorem mo_ap2 {h : mj_H} {c d : mj_C} {k z : Nat} (hz : mj_cs c + mj_cs d ≤ z) (hk : 2 ≤ k) : mz_mo [] k z h (h ++ [c] ++ [d]) :=
  (mz_mo.ap [] h c).tr (mz_mo.ap [] _ d) (fun _ hy => Or.inl hy) hk hz
theorem rdA_CB {h : mj_H} {E cap : Nat} {ef : Nat → Option Nat} (hE : mj_rdA h E = some (6, (cap, objs ef))) (h0 : 0 < cap) : E < mj_CB := by
  have h1 := rdA_lt hE
  unfold mj_rd at h1
  by_cases q : E < mj_CB
  · exact q
  · rw [if_neg q] at h1
    have := mj_cst_q (t := 6) h1
    omega
/-- turned round -/
def rvF (f : Nat → Int32) (n : Nat) : Nat → Int32 := fun j => if j < n then f (n - 1 - j) else f j
def swF (f : Nat → Int32) (n i : Nat) : Nat → Int32 := fun j => if j < i ∨ n - i ≤ j ∧ j < n then f (n - 1 - j) else f j
theorem swF_0 (f : Nat → Int32) (n : Nat) : swF f n 0 = f := funext fun j => if_neg (by omega)
theorem swF_e (f : Nat → Int32) {n i : Nat} (h : n ≤ 2 * i + 1) (hi : 2 * i ≤ n) : swF f n i = rvF f n := funext fun j => by
  unfold swF rvF
  by_cases q : j < n
  · rw [if_pos q]
    by_cases r : j < i ∨ n - i ≤ j ∧ j < n
    · rw [if_pos r]
    · rw [if_neg r, show n - 1 - j = j by omega]
  · rw [if_neg q, if_neg (by omega)]
theorem swF_s (f : Nat → Int32) {n i : Nat} (h : i < n - 1 - i) : upd (upd (swF f n i) i (swF f n i (n - 1 - i))) (n - 1 - i) (swF f n i i) = swF f n (i + 1) := funext fun j => by
  unfold upd
  by_cases q : j = n - 1 - i
  · rw [if_pos q]
    unfold swF
    rw [if_neg (by omega), if_pos (by omega), q, show n - 1 - (n - 1 - i) = i by omega]
  · rw [if_neg q]
    by_cases r : j = i
    · rw [if_pos r]
      unfold swF
      rw [if_neg (by omega), if_pos (by omega), r]
    · rw [if_neg r]
      unfold swF
      by_cases t : j < i ∨ n - i ≤ j ∧ j < n
      · rw [if_pos t, if_pos (by omega)]
      · rw [if_neg t, if_neg (by omega)]
theorem x_rvL {h : mj_H} {C R n : Nat} {o1 o2 mf : Value} {rf : Nat → Int32} (bR : R < mj_CB) (hC : mj_rd h C = some (.inr (9, [.ref R, o1, o2, .int (nI n), mf]))) (hR : mj_rd h R = some (.inl (0, (24, .inl rf)))) (hn : n ≤ 24) (h0 : 0 < n) : ∀ (k i : Nat) (l3 : Option Value), k + 2 * i = n → mj_run 1 26 (17, [some (.ref C), some (.int (nI i)), some (.int (nI (n - 1 - i))), l3], [], h.set R (.inl (0, (24, .inl (swF rf n i))))) (.inl none, h.set R (.inl (0, (24, .inl (rvF rf n)))))
  | 0, i, l3, hi => by
    have hCR : C ≠ R := fun e => by rw [e, hR] at hC; cases hC
    refine s_ildn (p' := 18) rfl rfl rfl ?_
    refine s_ildn (p' := 19) rfl rfl rfl ?_
    refine s_icmp (p' := 57) true rfl ((ci_ge (by omega) (by omega)).trans (decide_eq_true (by omega))) rfl ?_
    exact s_ret rfl (by rw [swF_e rf (by omega) (by omega)])
  | 1, i, l3, hi => by
    have hCR : C ≠ R := fun e => by rw [e, hR] at hC; cases hC
    refine s_ildn (p' := 18) rfl rfl rfl ?_
    refine s_ildn (p' := 19) rfl rfl rfl ?_
    refine s_icmp (p' := 57) true rfl ((ci_ge (by omega) (by omega)).trans (decide_eq_true (by omega))) rfl ?_
    exact s_ret rfl (by rw [swF_e rf (by omega) (by omega)])
  | k + 2, i, l3, hi => by
    have hCR : C ≠ R := fun e => by rw [e, hR] at hC; cases hC
    have ih := x_rvL bR hC hR hn h0 k (i + 1) (some (.int (swF rf n i i))) (by omega)
    refine s_ildn (p' := 18) rfl rfl rfl ?_
    refine s_ildn (p' := 19) rfl rfl rfl ?_
    refine s_icmp (p' := 22) false rfl ((ci_ge (by omega) (by omega)).trans (decide_eq_false (by omega))) rfl ?_
    refine s_aldn (p' := 23) rfl rfl rfl ?_
    refine s_gf (p' := 26) rfl ((rd_setn (Ne.symm hCR)).trans hC) rfl rfl ?_
    refine s_ildn (p' := 27) rfl rfl rfl ?_
    refine s_ial (p' := 28) rfl (rd_set bR hR) (inb_nI (by omega) (by omega)) rfl ?_
    rw [mI_cl (by omega)]
    refine s_istn (p' := 29) (ls' := [_, _, _, _]) rfl rfl rfl rfl ?_
    refine s_aldn (p' := 30) rfl rfl rfl ?_
    refine s_gf (p' := 33) rfl ((rd_setn (Ne.symm hCR)).trans hC) rfl rfl ?_
    refine s_ildn (p' := 34) rfl rfl rfl ?_
    refine s_aldn (p' := 35) rfl rfl rfl ?_
    refine s_gf (p' := 38) rfl ((rd_setn (Ne.symm hCR)).trans hC) rfl rfl ?_
    refine s_ildn (p' := 39) rfl rfl rfl ?_
    refine s_ial (p' := 40) rfl (rd_set bR hR) (inb_nI (by omega) (by omega)) rfl ?_
    rw [mI_cl (by omega)]
    refine s_ias (p' := 41) rfl bR (rd_set bR hR) (inb_nI (by omega) (by omega)) rfl ?_
    rw [List.set_set, mI_cl (by omega)]
    refine s_aldn (p' := 42) rfl rfl rfl ?_
    refine s_gf (p' := 45) rfl ((rd_setn (Ne.symm hCR)).trans hC) rfl rfl ?_
    refine s_ildn (p' := 46) rfl rfl rfl ?_
    refine s_ildn (p' := 47) rfl rfl rfl ?_
    refine s_ias (p' := 48) rfl bR (rd_set bR hR) (inb_nI (by omega) (by omega)) rfl ?_
    rw [List.set_set, mI_cl (by omega), swF_s rf (by omega)]
    refine s_inc (p' := 51) (ls' := [_, _, _, _]) rfl rfl rfl rfl rfl ?_
    rw [mI_add]
    refine s_inc (p' := 54) (ls' := [_, _, _, _]) rfl rfl rfl rfl rfl ?_
    rw [mI_dec1, mI_sub (by omega)]
    refine s_goto (p' := 17) rfl rfl ?_
    rw [show n - 1 - i - 1 = n - 1 - (i + 1) by omega]
    exact ih
theorem x_rv {h : mj_H} {C R n : Nat} {o1 o2 mf : Value} {rf : Nat → Int32} (bR : R < mj_CB) (hC : mj_rd h C = some (.inr (9, [.ref R, o1, o2, .int (nI n), mf]))) (hR : mj_rd h R = some (.inl (0, (24, .inl rf)))) (hn : n ≤ 24) : mj_run 1 26 (0, [some (.ref C), none, none, none], [], h) (.inl none, h.set R (.inl (0, (24, .inl (rvF rf n))))) := by
  by_cases q : n = 0
  · subst q
    refine s_con (p' := 1) rfl rfl ?_
    refine s_istn (p' := 2) (ls' := [_, _, _, _]) rfl rfl rfl rfl ?_
    refine s_aldn (p' := 3) rfl rfl rfl ?_
    refine s_gf (p' := 6) rfl hC rfl rfl ?_
    refine s_aldn (p' := 7) rfl rfl rfl ?_
    refine s_gf (p' := 10) rfl hC rfl rfl ?_
    refine s_len (p' := 11) rfl (mj_rdA_is hR (by decide)) (by decide) rfl ?_
    refine s_primV (p' := 14) (q := 5) rfl rfl rfl rfl rfl rfl (p_min (z := nI 0) (by decide +kernel)) rfl ?_
    refine s_con (p' := 15) rfl rfl ?_
    refine s_sp (p' := 16) (ls' := _) rfl rfl rfl ?_
    refine s_istn (p' := 17) (ls' := [_, _, _, _]) rfl rfl rfl rfl ?_
    refine s_ildn (p' := 18) rfl rfl rfl ?_
    refine s_ildn (p' := 19) rfl rfl rfl ?_
    refine s_icmp (p' := 57) true rfl (by decide +kernel) rfl ?_
    exact s_ret rfl (by rw [show rvF rf 0 = rf from rfl, set_id bR hR])
  · skip
    refine s_con (p' := 1) rfl rfl ?_
    refine s_istn (p' := 2) (ls' := [_, _, _, _]) rfl rfl rfl rfl ?_
    refine s_aldn (p' := 3) rfl rfl rfl ?_
    refine s_gf (p' := 6) rfl hC rfl rfl ?_
    refine s_aldn (p' := 7) rfl rfl rfl ?_
    refine s_gf (p' := 10) rfl hC rfl rfl ?_
    refine s_len (p' := 11) rfl (mj_rdA_is hR (by decide)) (by decide) rfl ?_
    refine s_primV (p' := 14) (q := 5) rfl rfl rfl rfl rfl rfl (p_min (z := nI n) (by rw [mI_min (by omega) (by omega), Nat.min_eq_left hn])) rfl ?_
    refine s_con (p' := 15) rfl rfl ?_
    refine s_sp (p' := 16) (ls' := _) rfl rfl rfl ?_
    rw [mI_sub (by omega)]
    refine s_istn (p' := 17) (ls' := [_, _, _, _]) rfl rfl rfl rfl ?_
    have := x_rvL bR hC hR hn (by omega) n 0 none (by omega)
    rw [swF_0, set_id bR hR] at this
    exact this
theorem y_aal {h : mj_H} {Lr E cap n B EB : Nat} {mc : Int32} {ef : Nat → Option Nat} {f : Nat → Nat} (bL : Lr < mj_CB) (bE : E < mj_CB) (hb : h.length + 10 < mj_CB) (hL : mj_rd h Lr = some (alC E 0 mc)) (hE : mj_rd h E = some (alE cap ef)) (h1 : n ≤ cap) (h2 : cap < 1000) (h0 : 0 < n) (hB : yLs h B EB n f) : mj_Wp 5 435 (0, [some (.ref Lr), some (.ref B), none, none, none, none], [], h) (mz_V fun r h' => r = .int (nI 1) ∧ ∃ ef', (∀ j, j < n → ef' j = some (f j)) ∧ mj_rd h' Lr = some (alC E n (mc + nI 1)) ∧ mj_rd h' E = some (alE cap ef') ∧ mz_mo [Lr, E] 1 n h h') := by
  obtain ⟨capB, mcB, efB, kL, kE, k1, k2, k3, k4⟩ := hB
  have hEL : E ≠ Lr := fun e => by rw [e, hL] at hE; cases hE
  have hLN : Lr ≠ h.length := by have := rd_len bL hL; omega
  have hEN : E ≠ h.length := by have := rd_len bE hE; omega
  have hm : min capB n = n := by omega
  have hA : mj_rd (h ++ [(.inl (6, mj_arr0 6 n) : mj_C)]) h.length = some (.inl (6, mj_arr0 6 n)) := rd_nw (Nat.blt_eq.mpr (by omega)) rfl
  have hs : ∀ c, mj_rd ((h ++ [(.inl (6, mj_arr0 6 n) : mj_C)]).set h.length c) Lr = some (alC E 0 mc) := fun c => (rd_setn (Ne.symm hLN)).trans (rd_app hL)
  have hs2 : ∀ c, mj_rd ((h ++ [(.inl (6, mj_arr0 6 n) : mj_C)]).set h.length c) E = some (alE cap ef) := fun c => (rd_setn (Ne.symm hEN)).trans (rd_app hE)
  refine s_aldn (p' := 1) rfl rfl rfl ?_
  refine c_call (p' := 6) (kc := 4) (ls0 := [_]) rfl rfl rfl rfl rfl (mj_rcv_is kL) rfl rfl rfl ?_
  refine s_aldn (p' := 1) rfl rfl rfl ?_
  refine s_gf (p' := 4) rfl kL rfl rfl ?_
  refine s_aldn (p' := 5) rfl rfl rfl ?_
  refine s_gf (p' := 8) rfl kL rfl rfl ?_
  refine s_callV (p' := 11) (ls0 := [_, _]) rfl rfl rfl rfl rfl rfl rfl (y_cp2 rfl hb kE (by omega) (by omega) (fun j hj => ⟨_, k4 j (by omega)⟩)) (by decide) rfl ?_
  refine c_aret rfl ?_
  refine s_astn (p' := 7) (ls' := [_, _, _, _, _, _]) rfl rfl rfl rfl ?_
  refine s_aldn (p' := 8) rfl rfl rfl ?_
  refine s_sp (p' := 9) (ls' := _) rfl rfl rfl ?_
  refine s_gf (p' := 12) rfl (hs _) rfl rfl ?_
  refine s_con (p' := 13) rfl rfl ?_
  refine s_sp (p' := 14) (ls' := _) rfl rfl rfl ?_
  refine s_pf (p' := 17) (fs' := [_, _, _]) rfl bL (hs _) (Nat.blt_eq.mp rfl) rfl rfl rfl ?_
  refine s_aldn (p' := 18) rfl rfl rfl ?_
  refine s_len (p' := 19) rfl (mj_rdA_is ((rd_setn hLN).trans (rd_set (by omega) hA)) (by decide)) (by decide) rfl ?_
  refine s_istn (p' := 20) (ls' := [_, _, _, _, _, _]) rfl rfl rfl rfl ?_
  refine s_ildn (p' := 21) rfl rfl rfl ?_
  refine s_if (p' := 26) true rfl ((cz_ne (by omega)).trans (decide_eq_true (by omega))) rfl ?_
  refine s_ildn (p' := 27) rfl rfl rfl ?_
  refine s_aldn (p' := 28) rfl rfl rfl ?_
  refine s_gf (p' := 31) rfl (rd_set bL (hs _)) rfl rfl ?_
  refine s_sp (p' := 32) (ls' := _) rfl rfl rfl ?_
  refine s_ast (p' := 34) (ls' := [_, _, _, _, _, _]) rfl rfl rfl rfl ?_
  refine s_len (p' := 35) rfl (mj_rdA_is ((rd_setn (Ne.symm hEL)).trans (hs2 _)) (by decide)) (by decide) rfl ?_
  refine s_aldn (p' := 36) rfl rfl rfl ?_
  refine s_gf (p' := 39) rfl (rd_set bL (hs _)) rfl rfl ?_
  refine s_sp (p' := 40) (ls' := _) rfl rfl rfl ?_
  refine s_ist (p' := 42) (ls' := [_, _, _, _, _, _]) rfl rfl rfl rfl ?_
  refine s_sp (p' := 43) (ls' := _) rfl rfl rfl ?_
  rw [mI_sub (Nat.zero_le _), Nat.sub_zero]
  refine s_icmp (p' := 56) true rfl ((ci_le (by omega) (by omega)).trans (decide_eq_true (by omega))) rfl ?_
  refine s_aldn (p' := 57) rfl rfl rfl ?_
  refine s_con (p' := 58) rfl rfl ?_
  refine s_ald (p' := 60) rfl rfl rfl ?_
  refine s_ild (p' := 62) rfl rfl rfl ?_
  refine s_ildn (p' := 63) rfl rfl rfl ?_
  have hv : ∀ j, j < n → va_cpy efB (fun _ => none) 0 0 (min capB n) j = some (f j) := fun j hj => by
    unfold va_cpy
    rw [if_pos ⟨Nat.zero_le j, by omega⟩, Nat.zero_add, Nat.sub_zero]
    exact (k4 j hj).1
  have hg : ∀ j, j < n → gE (((h ++ [(.inl (6, mj_arr0 6 n) : mj_C)]).set h.length (.inl (6, (n, objs (va_cpy efB (fun _ => none) 0 0 (min capB n)))))).set Lr (alC E 0 (mc + nI 1))) (f j) := fun j hj => (((k4 j hj).2.app).st (((k4 j hj).2.app).neE hA)).st (((k4 j hj).2).neL hL)
  refine s_primN (p' := 66) (q := 0) rfl rfl rfl rfl rfl rfl (p_cpyA (n := cap) (g := ef) (Nat.blt_eq.mpr bE) (mj_rdA_is ((rd_setn hLN).trans (rd_set (by omega) hA)) (by decide)) (mj_rdA_is ((rd_setn (Ne.symm hEL)).trans (hs2 _)) (by decide)) (by simp only [Bool.and_eq_true, Nat.ble_eq, Nat.blt_eq]; omega) (cpq_is (fun j hj => by rw [Nat.zero_add]; exact ⟨_, hv j hj, hg j hj⟩))) rfl ?_
  refine s_aldn (p' := 67) rfl rfl rfl ?_
  refine s_ild (p' := 69) rfl rfl rfl ?_
  refine s_ildn (p' := 70) rfl rfl rfl ?_
  refine s_sp (p' := 71) (ls' := _) rfl rfl rfl ?_
  rw [mI_add, Nat.zero_add]
  refine s_pf (p' := 74) (fs' := [_, _, _]) rfl bL ((rd_setn hEL).trans (rd_set bL (hs _))) (Nat.blt_eq.mp rfl) rfl rfl rfl ?_
  refine s_con (p' := 75) rfl rfl ?_
  refine s_iret rfl rfl ?_
  refine ⟨_, _, rfl, rfl, va_cpy (va_cpy efB (fun _ => none) 0 0 (min capB n)) ef 0 0 n, fun j hj => ?_, rd_set bL ((rd_setn hEL).trans (rd_set bL (hs _))), (rd_setn (Ne.symm hEL)).trans (rd_set bE ((rd_setn (Ne.symm hEL)).trans (hs2 _))), ?_⟩
  · show va_cpy (va_cpy efB (fun _ => none) 0 0 (min capB n)) ef 0 0 n j = _
    rw [← hv j hj]
    show (if 0 ≤ j ∧ j < 0 + n then va_cpy efB (fun _ => none) 0 0 (min capB n) (0 + (j - 0)) else ef j) = _
    rw [if_pos ⟨Nat.zero_le j, by omega⟩, Nat.zero_add, Nat.sub_zero]
  · exact mz_mo.s (mz_mo.s (mz_mo.s (mz_mo.s (mz_mo.ap [Lr, E] h (.inl (6, mj_arr0 6 n))) (by omega) hA rfl (Or.inr (Nat.le_refl _))) bL (hs _) rfl (Or.inl (by simp))) bE ((rd_setn (Ne.symm hEL)).trans (hs2 _)) rfl (Or.inl (by simp))) bL ((rd_setn hEL).trans (rd_set bL (hs _))) rfl (Or.inl (by simp))
theorem y_cl0 {h : mj_H} {Lr E : Nat} {mc : Int32} (bL : Lr < mj_CB) (hL : mj_rd h Lr = some (alC E 0 mc)) : mj_run 1 434 (0, [some (.ref Lr), none, none, none], [], h) (.inl none, h.set Lr (alC E 0 (mc + nI 1))) := by
  refine s_aldn (p' := 1) rfl rfl rfl ?_
  refine s_sp (p' := 2) (ls' := _) rfl rfl rfl ?_
  refine s_gf (p' := 5) rfl hL rfl rfl ?_
  refine s_con (p' := 6) rfl rfl ?_
  refine s_sp (p' := 7) (ls' := _) rfl rfl rfl ?_
  refine s_pf (p' := 10) (fs' := [_, _, _]) rfl bL hL (Nat.blt_eq.mp rfl) rfl rfl rfl ?_
  refine s_aldn (p' := 11) rfl rfl rfl ?_
  refine s_gf (p' := 14) rfl (rd_set bL hL) rfl rfl ?_
  refine s_astn (p' := 15) (ls' := [_, _, _, _]) rfl rfl rfl rfl ?_
  refine s_aldn (p' := 16) rfl rfl rfl ?_
  refine s_gf (p' := 19) rfl (rd_set bL hL) rfl rfl ?_
  refine s_istn (p' := 20) (ls' := [_, _, _, _]) rfl rfl rfl rfl ?_
  refine s_aldn (p' := 21) rfl rfl rfl ?_
  refine s_con (p' := 22) rfl rfl ?_
  refine s_sp (p' := 23) (ls' := _) rfl rfl rfl ?_
  refine s_pf (p' := 26) (fs' := [_, _, _]) rfl bL (rd_set bL hL) (Nat.blt_eq.mp rfl) rfl rfl rfl ?_
  rw [List.set_set]
  refine s_istn (p' := 27) (ls' := [_, _, _, _]) rfl rfl rfl rfl ?_
  refine s_ildn (p' := 28) rfl rfl rfl ?_
  refine s_ildn (p' := 29) rfl rfl rfl ?_
  refine s_icmp (p' := 42) true rfl ((ci_ge (by omega) (by omega)).trans (decide_eq_true (by omega))) rfl ?_
  exact s_ret rfl rfl
theorem y_aa0 {h : mj_H} {Lr E B EB : Nat} {mc : Int32} {f : Nat → Nat} (bL : Lr < mj_CB) (hb : h.length + 10 < mj_CB) (hL : mj_rd h Lr = some (alC E 0 mc)) (hB : yLs h B EB 0 f) : mj_Wp 5 435 (0, [some (.ref Lr), some (.ref B), none, none, none, none], [], h) (mz_V fun r h' => r = .int (nI 0) ∧ ∃ mc', mj_rd h' Lr = some (alC E 0 mc') ∧ mz_mo [Lr] 1 0 h h') := by
  obtain ⟨capB, mcB, efB, kL, kE, k1, k2, k3, k4⟩ := hB
  have hLN : Lr ≠ h.length := by have := rd_len bL hL; omega
  have hA : mj_rd (h ++ [(.inl (6, mj_arr0 6 0) : mj_C)]) h.length = some (.inl (6, mj_arr0 6 0)) := rd_nw (Nat.blt_eq.mpr (by omega)) rfl
  have hs : mj_rd ((h ++ [(.inl (6, mj_arr0 6 0) : mj_C)]).set h.length (.inl (6, (0, objs (va_cpy efB (fun _ => none) 0 0 (min capB 0)))))) Lr = some (alC E 0 mc) := (rd_setn (Ne.symm hLN)).trans (rd_app hL)
  refine s_aldn (p' := 1) rfl rfl rfl ?_
  refine c_call (p' := 6) (kc := 4) (ls0 := [_]) rfl rfl rfl rfl rfl (mj_rcv_is kL) rfl rfl rfl ?_
  refine s_aldn (p' := 1) rfl rfl rfl ?_
  refine s_gf (p' := 4) rfl kL rfl rfl ?_
  refine s_aldn (p' := 5) rfl rfl rfl ?_
  refine s_gf (p' := 8) rfl kL rfl rfl ?_
  refine s_callV (p' := 11) (ls0 := [_, _]) rfl rfl rfl rfl rfl rfl rfl (y_cp2 rfl hb kE (by omega) (by omega) (fun j hj => absurd hj (by omega))) (by decide) rfl ?_
  refine c_aret rfl ?_
  refine s_astn (p' := 7) (ls' := [_, _, _, _, _, _]) rfl rfl rfl rfl ?_
  refine s_aldn (p' := 8) rfl rfl rfl ?_
  refine s_sp (p' := 9) (ls' := _) rfl rfl rfl ?_
  refine s_gf (p' := 12) rfl hs rfl rfl ?_
  refine s_con (p' := 13) rfl rfl ?_
  refine s_sp (p' := 14) (ls' := _) rfl rfl rfl ?_
  refine s_pf (p' := 17) (fs' := [_, _, _]) rfl bL hs (Nat.blt_eq.mp rfl) rfl rfl rfl ?_
  refine s_aldn (p' := 18) rfl rfl rfl ?_
  refine s_len (p' := 19) rfl (mj_rdA_is ((rd_setn hLN).trans (rd_set (by omega) hA)) (by decide)) (by decide) rfl ?_
  refine s_istn (p' := 20) (ls' := [_, _, _, _, _, _]) rfl rfl rfl rfl ?_
  refine s_ildn (p' := 21) rfl rfl rfl ?_
  refine s_if (p' := 24) false rfl ((cz_ne (by omega)).trans (decide_eq_false (by omega))) rfl ?_
  refine s_con (p' := 25) rfl rfl ?_
  refine s_iret rfl rfl ?_
  exact ⟨_, _, rfl, rfl, _, rd_set bL hs, mz_mo.s (mz_mo.s (mz_mo.ap [Lr] h (.inl (6, mj_arr0 6 0))) (by omega) hA rfl (Or.inr (Nat.le_refl _))) bL hs rfl (Or.inl (by simp))⟩
theorem y_hn {h : mj_H} {I Lr E n j : Nat} {mc lr : Int32} (hI : mj_rd h I = some (.inr (27, [.int (nI j), .int lr, .int mc, .ref Lr]))) (hL : mj_rd h Lr = some (alC E n mc)) {b : Nat} (hb : b = 1 ∧ j < n ∨ b = 0 ∧ j = n) (hn : n < 1000) : mj_run 1 350 (0, [some (.ref I)], [], h) (.inl (some (.int (nI b))), h) := by
  refine s_aldn (p' := 1) rfl rfl rfl ?_
  refine s_gf (p' := 4) rfl hI rfl rfl ?_
  refine s_aldn (p' := 5) rfl rfl rfl ?_
  refine s_gf (p' := 8) rfl hI rfl rfl ?_
  refine s_gf (p' := 11) rfl hL rfl rfl ?_
  by_cases q : j = n
  · refine s_icmp (p' := 18) true rfl ((ci_eq (by omega) (by omega)).trans (decide_eq_true (by omega))) rfl ?_
    refine s_con (p' := 19) rfl rfl ?_
    exact s_iret rfl rfl (by rw [show b = 0 by omega])
  · refine s_icmp (p' := 14) false rfl ((ci_eq (by omega) (by omega)).trans (decide_eq_false (by omega))) rfl ?_
    refine s_con (p' := 15) rfl rfl ?_
    refine s_goto (p' := 19) rfl rfl ?_
    exact s_iret rfl rfl (by rw [show b = 1 by omega])
theorem y_nx {h : mj_H} {I Lr E n j cap : Nat} {mc lr : Int32} {ef : Nat → Option Nat} (hI : mj_rd h I = some (.inr (27, [.int (nI j), .int lr, .int mc, .ref Lr]))) (hL : mj_rd h Lr = some (alC E n mc)) {q : Nat} (bI : I < mj_CB) (hE : mj_rdA h E = some (6, (cap, objs ef))) (hj : j < n) (hn : n ≤ cap) (hc : cap < 1000) (hq : ef j = some q) : mj_run 2 351 (0, [some (.ref I), none, none], [], h) (.inl (some (.ref q)), h.set I (.inr (27, [.int (nI (j + 1)), .int (nI j), .int mc, .ref Lr]))) := by
  have hIE : I ≠ E := fun e => by
    rw [e, rdA_lt hE] at hI
    cases hI
  refine s_aldn (p' := 1) rfl rfl rfl ?_
  refine c_call (p' := 4) (kc := 1) (ls0 := [_]) rfl rfl rfl rfl rfl (mj_rcv_is hI) rfl rfl rfl ?_
  refine s_aldn (p' := 1) rfl rfl rfl ?_
  refine s_gf (p' := 4) rfl hI rfl rfl ?_
  refine s_gf (p' := 7) rfl hL rfl rfl ?_
  refine s_aldn (p' := 8) rfl rfl rfl ?_
  refine s_gf (p' := 11) rfl hI rfl rfl ?_
  refine s_icmp (p' := 22) true rfl (decide_eq_true rfl) rfl ?_
  refine c_ret rfl ?_
  refine s_aldn (p' := 5) rfl rfl rfl ?_
  refine s_gf (p' := 8) rfl hI rfl rfl ?_
  refine s_istn (p' := 9) (ls' := [_, _, _]) rfl rfl rfl rfl ?_
  refine s_ildn (p' := 10) rfl rfl rfl ?_
  refine s_aldn (p' := 11) rfl rfl rfl ?_
  refine s_gf (p' := 14) rfl hI rfl rfl ?_
  refine s_gf (p' := 17) rfl hL rfl rfl ?_
  refine s_icmp (p' := 28) true rfl ((ci_lt (by omega) (by omega)).trans (decide_eq_true (by omega))) rfl ?_
  refine s_aldn (p' := 29) rfl rfl rfl ?_
  refine s_gf (p' := 32) rfl hI rfl rfl ?_
  refine s_gf (p' := 35) rfl hL rfl rfl ?_
  refine s_astn (p' := 36) (ls' := [_, _, _]) rfl rfl rfl rfl ?_
  refine s_ildn (p' := 37) rfl rfl rfl ?_
  refine s_aldn (p' := 38) rfl rfl rfl ?_
  refine s_len (p' := 39) rfl hE (by decide) rfl ?_
  refine s_icmp (p' := 50) true rfl ((ci_lt (by omega) (by omega)).trans (decide_eq_true (by omega))) rfl ?_
  refine s_aldn (p' := 51) rfl rfl rfl ?_
  refine s_ildn (p' := 52) rfl rfl rfl ?_
  refine s_con (p' := 53) rfl rfl ?_
  refine s_sp (p' := 54) (ls' := _) rfl rfl rfl ?_
  rw [mI_add]
  refine s_pf (p' := 57) (fs' := [_, _, _, _]) rfl bI hI (Nat.blt_eq.mp rfl) rfl rfl rfl ?_
  refine s_aldn (p' := 58) rfl rfl rfl ?_
  refine s_aldn (p' := 59) rfl rfl rfl ?_
  refine s_ildn (p' := 60) rfl rfl rfl ?_
  refine s_sp (p' := 61) (ls' := _) rfl rfl rfl ?_
  refine s_pf (p' := 64) (fs' := [_, _, _, _]) rfl bI (rd_set bI hI) (Nat.blt_eq.mp rfl) rfl rfl rfl ?_
  rw [List.set_set]
  refine s_aal (p' := 65) rfl (rdA_sn (beq_eq_false_iff_ne.mpr hIE) hE) (by decide) (inb_nI (by omega) (by omega)) rfl ?_
  rw [mI_cl (by omega), hq, show va_rf (some q) = .ref q from rfl]
  exact s_aret rfl rfl
theorem y_ini {h : mj_H} {Lr : Nat} {v0 v2 sz : Value} (bL : Lr < mj_CB) (hL : mj_rd h Lr = some (.inr (18, [v0, sz, v2]))) : mj_run 3 235 (0, [some (.ref Lr)], [], h) (.inl none, h.set Lr (.inr (18, [.ref 1000000, sz, .int (nI 0)]))) := by
  refine s_aldn (p' := 1) rfl rfl rfl ?_
  refine c_call (p' := 4) (kc := 2) (ls0 := [_]) rfl rfl rfl rfl rfl (mj_rcv_is hL) rfl rfl rfl ?_
  refine s_aldn (p' := 1) rfl rfl rfl ?_
  refine c_call (p' := 4) (kc := 1) (ls0 := [_]) rfl rfl rfl rfl rfl (mj_rcv_is hL) rfl rfl rfl ?_
  refine s_aldn (p' := 1) rfl rfl rfl ?_
  refine s_primN (p' := 4) (q := 3) rfl rfl rfl rfl rfl rfl rfl rfl ?_
  refine c_ret rfl ?_
  refine s_aldn (p' := 5) rfl rfl rfl ?_
  refine s_con (p' := 6) rfl rfl ?_
  refine s_pf (p' := 9) (fs' := [_, _, _]) rfl bL hL (Nat.blt_eq.mp rfl) rfl rfl rfl ?_
  refine c_ret rfl ?_
  refine s_aldn (p' := 5) rfl rfl rfl ?_
  refine s_sh (p' := 8) (ls' := _) (st' := .ref 1000000 :: _) (h' := _) rfl rfl rfl rfl ?_
  refine s_pf (p' := 11) (fs' := [_, _, _]) rfl bL (rd_set bL hL) (Nat.blt_eq.mp rfl) rfl rfl rfl ?_
  rw [List.set_set]
  exact s_ret rfl rfl
theorem y_itr {h : mj_H} {Lr E n N : Nat} {mc : Int32} (hN : h.length = N) (hb : N + 10 < mj_CB) (hL : mj_rd h Lr = some (alC E n mc)) : mj_run 2 348 (0, [some (.ref Lr)], [], h) (.inl (some (.ref N)), h ++ [.inr (27, [.int (nI 0), .int (nI 4294967295), .int mc, .ref Lr])]) := by
  refine s_newz (p' := 3) (a := N) rfl hN rfl rfl ?_
  refine s_sp (p' := 4) (ls' := _) rfl rfl rfl ?_
  refine s_aldn (p' := 5) rfl rfl rfl ?_
  refine c_call (p' := 8) (kc := 1) (ls0 := [_, _]) rfl rfl rfl rfl rfl (mj_rcv_is (rd_a0 hN (by omega))) rfl rfl rfl ?_
  refine s_aldn (p' := 1) rfl rfl rfl ?_
  refine s_aldn (p' := 2) rfl rfl rfl ?_
  refine s_pf (p' := 5) (fs' := [_, _, _, _]) rfl (by omega) (rd_a0 hN (by omega)) (Nat.blt_eq.mp rfl) rfl rfl rfl ?_
  rw [set_a0 hN]
  refine s_aldn (p' := 6) rfl rfl rfl ?_
  refine s_primN (p' := 9) (q := 3) rfl rfl rfl rfl rfl rfl rfl rfl ?_
  refine s_aldn (p' := 10) rfl rfl rfl ?_
  refine s_con (p' := 11) rfl rfl ?_
  refine s_pf (p' := 14) (fs' := [_, _, _, _]) rfl (by omega) (rd_a0 hN (by omega)) (Nat.blt_eq.mp rfl) rfl rfl rfl ?_
  rw [set_a0 hN]
  refine s_aldn (p' := 15) rfl rfl rfl ?_
  refine s_aldn (p' := 16) rfl rfl rfl ?_
  refine s_gf (p' := 19) rfl (rd_a0 hN (by omega)) rfl rfl ?_
  refine s_gf (p' := 22) rfl (rd_app hL) rfl rfl ?_
  refine s_pf (p' := 25) (fs' := [_, _, _, _]) rfl (by omega) (rd_a0 hN (by omega)) (Nat.blt_eq.mp rfl) rfl rfl rfl ?_
  rw [set_a0 hN]
  refine c_ret rfl ?_
  exact s_aret rfl rfl
theorem gE_k (h : mj_H) {g : Nat} (hg : g < 24) : gE h (1000138 + g) := ⟨29, _, k_int h hg, rfl, by decide⟩
theorem y_trL {h0 : mj_H} {N x Lr E n cap : Nat} {mc : Int32} {ef : Nat → Option Nat} {G : Nat → Nat} {a0 a1 a2 a3 a4 a5 a7 a8 a9 a10 : Value} (hN : h0.length = N) (hb : N + 100 < mj_CB) (hX : mj_rd h0 x = some (.inr (17, [a0, a1, a2, a3, a4, a5, .ref Lr, a7, a8, a9, a10]))) (hL : mj_rd h0 Lr = some (alC E n mc)) (hE : mj_rdA h0 E = some (6, (cap, objs ef))) (hG : ∀ j, j < n → ef j = some (1000138 + G j) ∧ G j < 24) (hn : n ≤ 24) (h1 : n ≤ cap) (h2 : cap < 1000) {Q : mj_O × mj_H → Prop} : ∀ (k j : Nat) (lr : Int32) (EB : Nat) (l3 : Option Value) (g : mj_H), j + k = n → (N + 2 ≤ EB ∧ EB < g.length ∨ EB = 1000000) → mj_rd g (N + 1) = some (.inr (27, [.int (nI j), .int lr, .int mc, .ref Lr])) → yLs g N EB j (fun i => 1000138 + G (j - 1 - i)) → N + 2 ≤ g.length → g.length ≤ N + 2 + j → mz_mo [] (2 + j) (7 + 60 * j) h0 g → (∀ (EB : Nat) (l3 : Option Value) (g : mj_H), (N + 2 ≤ EB ∧ EB < g.length ∨ EB = 1000000) → yLs g N EB n (fun i => 1000138 + G (n - 1 - i)) → N + 2 ≤ g.length → g.length ≤ N + 2 + n → mz_mo [] (2 + n) (7 + 60 * n) h0 g → mj_Wp 9 430 (59, [some (.ref x), some (.ref N), some (.ref (N + 1)), l3], [], g) Q) → mj_Wp 9 430 (23, [some (.ref x), some (.ref N), some (.ref (N + 1)), l3], [], g) Q
  | 0, j, lr, EB, l3, g, hj, hEB, gI, gB, gl, gu, gm, hq => by
    obtain rfl : j = n := by omega
    have gL := gm.1 Lr (by simp) _ hL
    refine s_aldn (p' := 24) rfl rfl rfl ?_
    refine s_callV (p' := 29) (ls0 := [_]) rfl rfl rfl rfl rfl (mj_rcv_is gI) rfl (y_hn gI gL (b := 0) (Or.inr ⟨rfl, rfl⟩) (by omega)) (by decide) rfl ?_
    refine s_if (p' := 59) true rfl rfl rfl ?_
    exact hq EB l3 g hEB gB gl gu gm
  | k + 1, j, lr, EB, l3, g, hj, hEB, gI, gB, gl, gu, gm, hq => by
    have hCB : mj_CB = 1000000 := rfl
    have gL := gm.1 Lr (by simp) _ hL
    have gE2 := gm.1.A (by simp) hE
    have hg := hG j (by omega)
    have ih := y_trL hN hb hX hL hE hG hn h1 h2 (Q := Q) k (j + 1)
    have m1 : mz_mo [N + 1] 0 0 g (g.set (N + 1) (.inr (27, [.int (nI (j + 1)), .int (nI j), .int mc, .ref Lr]))) := mz_mo.st (by omega) gI rfl
    have gB1 := gB.fr m1.1 (by simp) (by simp; omega) (fun i hi => by have := (hG (j - 1 - i) (by omega)).2; simp; omega)
    have gl1 : (g.set (N + 1) (.inr (27, [.int (nI (j + 1)), .int (nI j), .int mc, .ref Lr]))).length = g.length := List.length_set
    refine s_aldn (p' := 24) rfl rfl rfl ?_
    refine s_callV (p' := 29) (ls0 := [_]) rfl rfl rfl rfl rfl (mj_rcv_is gI) rfl (y_hn gI gL (b := 1) (Or.inl ⟨rfl, by omega⟩) (by omega)) (by decide) rfl ?_
    refine s_if (p' := 32) false rfl rfl rfl ?_
    refine s_aldn (p' := 33) rfl rfl rfl ?_
    refine s_callV (p' := 38) (ls0 := [_, _, _]) rfl rfl rfl rfl rfl (mj_rcv_is gI) rfl (y_nx (mc := mc) gI gL (by omega) gE2 (by omega) h1 h2 hg.1) (by decide) rfl ?_
    refine s_cco (p' := 41) rfl (k_int _ hg.2) rfl ?_
    refine c_call (p' := 44) (kc := 1) (ls0 := [_]) rfl rfl rfl rfl rfl (mj_rcv_is (k_int _ hg.2)) rfl rfl rfl ?_
    refine s_aldn (p' := 1) rfl rfl rfl ?_
    refine s_gf (p' := 4) rfl (k_int _ hg.2) rfl rfl ?_
    refine c_iret rfl rfl ?_
    refine s_istn (p' := 45) (ls' := [_, _, _, _]) rfl rfl rfl rfl ?_
    refine s_aldn (p' := 46) rfl rfl rfl ?_
    refine s_con (p' := 47) rfl rfl ?_
    refine s_ildn (p' := 48) rfl rfl rfl ?_
    refine s_callV (p' := 51) (ls0 := [_]) rfl rfl rfl rfl rfl rfl rfl (y_vo hg.2) (by decide) rfl ?_
    refine s_callEN (p' := 56) (ls0 := [_, _, _, _, _]) rfl rfl rfl rfl rfl (by obtain ⟨_, _, _, q, _⟩ := gB1; exact mj_rcv_is q) rfl (y_adz (by omega) (by omega) (by omega) gB1 (gE_k _ hg.2)) rfl rfl ?_
    rintro g2 ⟨EB2, k1, k2, k3, k4⟩
    refine s_goto (p' := 23) rfl rfl ?_
    refine ih (nI j) EB2 _ g2 (by omega) ?_ ?_ (k1.cg rfl (fun i hi => ?_)) (by have := k4.2.1; omega) (by have := k4.2.2.1; omega) ?_ hq
    · rcases k2 with rfl | rfl
      · have := k4.2.1
        omega
      · obtain ⟨cp, _, _, _, q, _⟩ := k1
        have := rd_len (by omega) (rdA_lt q)
        omega
    · refine k4.1 (N + 1) ?_ _ (rd_set (by omega) gI)
      simp
      omega
    · unfold ups
      by_cases e : i = 0
      · rw [if_pos e, e]
        show 1000138 + G j = 1000138 + G (j + 1 - 1 - 0)
        rw [show j + 1 - 1 - 0 = j by omega]
      · rw [if_neg e]
        show 1000138 + G (j - 1 - (i - 1)) = 1000138 + G (j + 1 - 1 - i)
        rw [show j - 1 - (i - 1) = j + 1 - 1 - i by omega]
    · refine (gm.tr m1 (k := 2 + j) (z := 7 + 60 * j) (fun y hy => Or.inr ?_) (by omega) (by omega)).tr k4 (fun y hy => Or.inr ?_) (by omega) (by omega)
      · have := List.mem_singleton.mp hy
        omega
      · simp at hy
        rcases hy with rfl | rfl <;> omega
theorem y_tr {h0 : mj_H} {N x Lr E n cap : Nat} {mc : Int32} {ef : Nat → Option Nat} {G : Nat → Nat} {a0 a1 a2 a3 a4 a5 a7 a8 a9 a10 : Value} (hN : h0.length = N) (hb : N + 100 < mj_CB) (hX : mj_rd h0 x = some (.inr (17, [a0, a1, a2, a3, a4, a5, .ref Lr, a7, a8, a9, a10]))) (hL : mj_rd h0 Lr = some (alC E n mc)) (hE : mj_rdA h0 E = some (6, (cap, objs ef))) (hG : ∀ j, j < n → ef j = some (1000138 + G j) ∧ G j < 24) (hn : n ≤ 24) (h1 : n ≤ cap) (h2 : cap < 1000) {l1 l2 l3 : Option Value} {Q : mj_O × mj_H → Prop} (hq : ∀ (mc' : Int32) (ef' : Nat → Option Nat) (l1 l2 l3 : Option Value) (g : mj_H), mj_rd g Lr = some (alC E n mc') → mj_rdA g E = some (6, (cap, objs ef')) → (∀ j, j < n → ef' j = some (1000138 + G (n - 1 - j))) → mz_mo [Lr, E] (3 + n) (40 + 61 * n) h0 g → mj_Wp 9 430 (79, [some (.ref x), l1, l2, l3], [], g) Q) : mj_Wp 9 430 (5, [some (.ref x), l1, l2, l3], [], h0) Q := by
  have hCB : mj_CB = 1000000 := rfl
  have hBl : Lr < mj_CB := by
    refine Classical.byContradiction fun q => ?_
    unfold mj_rd at hL
    rw [if_neg q] at hL
    have := mj_cst_inr hL
    simp at this
  have hlt := rd_len hBl hL
  have hN1 : (h0 ++ [(.inr (18, [.ref 1000000, .int (nI 0), .int (nI 0)]) : mj_C)]).length = N + 1 := by rw [List.length_append, hN]; rfl
  have hL1 : mj_rd (h0 ++ [(.inr (18, [.ref 1000000, .int (nI 0), .int (nI 0)]) : mj_C)]) Lr = some (alC E n mc) := rd_app hL
  by_cases h0n : n = 0
  · subst h0n
    have hLx : Lr ≠ x := fun e => by rw [e, hX] at hL; cases hL
    refine s_newz (p' := 8) (a := N) rfl hN rfl rfl ?_
    refine s_sp (p' := 9) (ls' := _) rfl rfl rfl ?_
    refine s_callN (p' := 12) (ls0 := [_]) rfl rfl rfl rfl rfl (mj_rcv_is (rd_nw (Nat.blt_eq.mpr (by omega)) hN)) rfl (y_ini (by omega) (rd_nw (Nat.blt_eq.mpr (by omega)) hN)) (by decide) rfl ?_
    rw [set_a0 hN]
    refine s_astn (p' := 13) (ls' := [_, _, _, _]) rfl rfl rfl rfl ?_
    refine s_aldn (p' := 14) rfl rfl rfl ?_
    refine s_gf (p' := 17) rfl (rd_app hX) rfl rfl ?_
    refine s_callV (p' := 22) (ls0 := [_]) rfl rfl rfl rfl rfl (mj_rcv_is hL1) rfl (y_itr hN1 (by omega) hL1) (by decide) rfl ?_
    refine s_astn (p' := 23) (ls' := [_, _, _, _]) rfl rfl rfl rfl ?_
    refine y_trL hN hb hX hL hE hG hn h1 h2 0 0 (nI 4294967295) 1000000 _ _ (by omega) (Or.inr rfl) ?_ ?_ ?_ ?_ ?_ ?_
    · exact rd_nw (Nat.blt_eq.mpr (by omega)) hN1
    · exact ⟨0, nI 0, fun _ => none, rd_app (rd_nw (Nat.blt_eq.mpr (by omega)) hN), mj_rdA_cst (k_0 _) (by decide), Nat.le_refl 0, by decide, Or.inr ⟨rfl, rfl⟩, fun i hi => absurd hi (Nat.not_lt_zero i)⟩
    · simp [hN]
    · simp [hN]
    · exact mo_ap2 (show (7 : Nat) ≤ 7 + 60 * 0 by omega) (by omega)
    · intro EB l3 g hEB gB gl gu gm
      have gX := gm.1 x (by simp) _ hX
      have gL := gm.1 Lr (by simp) _ hL
      have gE2 := gm.1.A (by simp) hE
      have hEL : E ∉ [Lr] := fun e => by rw [List.mem_singleton.mp e] at hE; rw [rdA_lt hE] at hL; cases hL
      have mcx : mz_mo [Lr] 0 0 g (g.set Lr (alC E 0 (mc + nI 1))) := mz_mo.st hBl gL rfl
      have cL : mj_rd (g.set Lr (alC E 0 (mc + nI 1))) Lr = some (alC E 0 (mc + nI 1)) := rd_set hBl gL
      have gB2 := gB.fr mcx.1 (by simp; omega) (by simp; omega) (fun i hi => absurd hi (Nat.not_lt_zero i))
      refine s_aldn (p' := 60) rfl rfl rfl ?_
      refine s_gf (p' := 63) rfl gX rfl rfl ?_
      refine s_callN (p' := 68) (ls0 := [_, _, _, _]) rfl rfl rfl rfl rfl (mj_rcv_is gL) rfl (y_cl0 hBl gL) (by decide) rfl ?_
      refine s_aldn (p' := 69) rfl rfl rfl ?_
      refine s_gf (p' := 72) rfl ((rd_setn hLx).trans gX) rfl rfl ?_
      refine s_aldn (p' := 73) rfl rfl rfl ?_
      refine s_callEV (p' := 78) (ls0 := [_, _, _, _, _, _]) rfl rfl rfl rfl rfl (mj_rcv_is cL) rfl (y_aa0 hBl (by rw [List.length_set]; omega) cL gB2) rfl rfl ?_
      rintro _ g2 ⟨rfl, mc2, k2, k4⟩
      refine s_sp (p' := 79) (ls' := _) rfl rfl rfl ?_
      exact hq _ ef _ _ _ g2 k2 (k4.1.A hEL (mcx.1.A hEL gE2)) (fun j hj => absurd hj (Nat.not_lt_zero j)) (((gm.wk (L' := [Lr, E]) (fun y hy => absurd hy (by simp)) (Nat.le_refl _) (Nat.le_refl _)).tr mcx (fun y hy => Or.inl (by simp at hy; simp [hy])) (k := 2 + 0) (z := 7 + 60 * 0) (by omega) (by omega)).tr k4 (fun y hy => Or.inl (by simp at hy; simp [hy])) (by omega) (by omega))
  · skip
    have hLx : Lr ≠ x := fun e => by rw [e, hX] at hL; cases hL
    refine s_newz (p' := 8) (a := N) rfl hN rfl rfl ?_
    refine s_sp (p' := 9) (ls' := _) rfl rfl rfl ?_
    refine s_callN (p' := 12) (ls0 := [_]) rfl rfl rfl rfl rfl (mj_rcv_is (rd_nw (Nat.blt_eq.mpr (by omega)) hN)) rfl (y_ini (by omega) (rd_nw (Nat.blt_eq.mpr (by omega)) hN)) (by decide) rfl ?_
    rw [set_a0 hN]
    refine s_astn (p' := 13) (ls' := [_, _, _, _]) rfl rfl rfl rfl ?_
    refine s_aldn (p' := 14) rfl rfl rfl ?_
    refine s_gf (p' := 17) rfl (rd_app hX) rfl rfl ?_
    refine s_callV (p' := 22) (ls0 := [_]) rfl rfl rfl rfl rfl (mj_rcv_is hL1) rfl (y_itr hN1 (by omega) hL1) (by decide) rfl ?_
    refine s_astn (p' := 23) (ls' := [_, _, _, _]) rfl rfl rfl rfl ?_
    refine y_trL hN hb hX hL hE hG hn h1 h2 n 0 (nI 4294967295) 1000000 _ _ (by omega) (Or.inr rfl) ?_ ?_ ?_ ?_ ?_ ?_
    · exact rd_nw (Nat.blt_eq.mpr (by omega)) hN1
    · exact ⟨0, nI 0, fun _ => none, rd_app (rd_nw (Nat.blt_eq.mpr (by omega)) hN), mj_rdA_cst (k_0 _) (by decide), Nat.le_refl 0, by decide, Or.inr ⟨rfl, rfl⟩, fun i hi => absurd hi (Nat.not_lt_zero i)⟩
    · simp [hN]
    · simp [hN]
    · exact mo_ap2 (show (7 : Nat) ≤ 7 + 60 * 0 by omega) (by omega)
    · intro EB l3 g hEB gB gl gu gm
      have gX := gm.1 x (by simp) _ hX
      have gL := gm.1 Lr (by simp) _ hL
      have gE2 := gm.1.A (by simp) hE
      have bE := rdA_CB hE (by omega)
      have gE3 := rdA_lt gE2
      have hEx : E ≠ x := fun e => by have t := rdA_lt hE; rw [e, hX] at t; cases t
      have hEL : E ≠ Lr := fun e => by have t := rdA_lt hE; rw [e, hL] at t; cases t
      have ltE := rd_len bE (rdA_lt hE)
      have mc2 : mz_mo [Lr, E] 0 0 g ((g.set Lr (alC E 0 (mc + nI 1))).set E (alE cap (clr ef n))) := mz_mo.s (mz_mo.s (mz_mo.rf _ _ _ _) hBl gL rfl (Or.inl (by simp))) bE ((rd_setn (Ne.symm hEL)).trans gE3) rfl (Or.inl (by simp))
      have cL : mj_rd ((g.set Lr (alC E 0 (mc + nI 1))).set E (alE cap (clr ef n))) Lr = some (alC E 0 (mc + nI 1)) := (rd_setn hEL).trans (rd_set hBl gL)
      have cE : mj_rd ((g.set Lr (alC E 0 (mc + nI 1))).set E (alE cap (clr ef n))) E = some (alE cap (clr ef n)) := rd_set bE ((rd_setn (Ne.symm hEL)).trans gE3)
      have gB2 := gB.fr mc2.1 (by simp; omega) (by simp; omega) (fun i hi => by have := (hG (n - 1 - i) (by omega)).2; simp; omega)
      refine s_aldn (p' := 60) rfl rfl rfl ?_
      refine s_gf (p' := 63) rfl gX rfl rfl ?_
      refine s_callN (p' := 68) (ls0 := [_, _, _, _]) rfl rfl rfl rfl rfl (mj_rcv_is gL) rfl (y_cl hBl bE gL gE3 h1 h2) (by decide) rfl ?_
      refine s_aldn (p' := 69) rfl rfl rfl ?_
      refine s_gf (p' := 72) rfl ((rd_setn hEx).trans ((rd_setn hLx).trans gX)) rfl rfl ?_
      refine s_aldn (p' := 73) rfl rfl rfl ?_
      refine s_callEV (p' := 78) (ls0 := [_, _, _, _, _, _]) rfl rfl rfl rfl rfl (mj_rcv_is cL) rfl (y_aal hBl bE (by rw [List.length_set, List.length_set]; omega) cL cE h1 h2 (by omega) gB2) rfl rfl ?_
      rintro _ g2 ⟨rfl, ef', k1, k2, k3, k4⟩
      refine s_sp (p' := 79) (ls' := _) rfl rfl rfl ?_
      exact hq _ ef' _ _ _ g2 k2 (mj_rdA_is k3 (by decide)) k1 (((gm.wk (L' := [Lr, E]) (fun y hy => absurd hy (by simp)) (Nat.le_refl _) (Nat.le_refl _)).tr mc2 (fun y hy => Or.inl hy) (k := 2 + n) (z := 7 + 60 * n) (by omega) (by omega)).tr k4 (fun y hy => Or.inl hy) (by omega) (by omega))
