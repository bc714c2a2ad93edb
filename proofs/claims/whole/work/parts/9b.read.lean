/-! The class reads terms, tests, simple statements. -/
theorem x_po {h : mj_H} {b n at_ k : Nat} {f : Nat → Nat} {fp fs tm : Int32} {ins : Nat → Nat → Int32} (bb : b + 37 ≤ 414) (hn : n ≤ 60) (hf : ∀ j, j < n → f j < 65536) (c0 : cR h b n f at_ fp fs tm k ins) (ha : at_ ≤ 90) (hk : k ≤ 30) {w l : Nat} (hw : w < 65536) (hl : l < 65536) : mj_Wp 2 101 (0, [some (.ref (b + 36)), some (.int (nI w)), some (.int (nI l))], [], h) (mz_V fun r h' => (chA n f at_ = w ∧ r = .int (nI 1) ∧ cR h' b n f (at_ + 1) fp fs tm k ins ∨ ¬ chA n f at_ = w ∧ r = .int (nI 0) ∧ cF h' b n f (l, at_)) ∧ mz_mo (cL b) 0 0 h h') := by
  have hB : b + 36 < mj_CB := by have : mj_CB = 1000000 := rfl; omega
  have hI : ∀ j, j < 30 → b + 6 + j < mj_CB := fun j hj => by have : mj_CB = 1000000 := rfl; omega
  have m0 : mz_mo (cL b) 0 0 h h := mz_mo.rf _ _ _ _
  refine s_aldn (p' := 1) rfl rfl rfl ?_
  refine s_callV (p' := 4) (ls0 := [_]) rfl rfl rfl rfl rfl (mj_rcv_is c0.1) rfl (x_sg bb hn hf c0 (by omega)) (by decide) rfl ?_
  refine s_ildn (p' := 5) rfl rfl rfl ?_
  by_cases q : chA n f at_ = w
  · refine s_icmp (p' := 18) true rfl ((si_eq (chA_le hf _) (by omega)).trans (decide_eq_true q)) rfl ?_
    refine s_aldn (p' := 19) rfl rfl rfl ?_
    refine s_sp (p' := 20) (ls' := _) rfl rfl rfl ?_
    refine s_gf (p' := 23) rfl c0.1 rfl rfl ?_
    refine s_con (p' := 24) rfl rfl ?_
    refine s_sp (p' := 25) (ls' := _) rfl rfl rfl ?_
    rw [mI_add]
    refine s_pf (p' := 28) (fs' := [_, _, _, _, _, _]) rfl hB c0.1 (Nat.blt_eq.mp rfl) rfl rfl rfl ?_
    refine s_con (p' := 29) rfl rfl ?_
    refine s_iret rfl rfl ?_
    exact ⟨_, _, rfl, Or.inl ⟨q, rfl, c0.rd bb _ _ _ _⟩, c0.rdm bb _ _ _ _⟩
  · refine s_icmp (p' := 8) false rfl ((si_eq (chA_le hf _) (by omega)).trans (decide_eq_false q)) rfl ?_
    refine s_aldn (p' := 9) rfl rfl rfl ?_
    refine s_ildn (p' := 10) rfl rfl rfl ?_
    refine s_aldn (p' := 11) rfl rfl rfl ?_
    refine s_gf (p' := 14) rfl c0.1 rfl rfl ?_
    refine s_callEV (p' := 17) (ls0 := [_, _, _]) rfl rfl rfl rfl rfl (mj_rcv_is c0.1) rfl (x_fl bb hn hf c0 hl hk) rfl rfl ?_
    rintro _ z ⟨rfl, z1, z2⟩
    refine s_iret rfl rfl ?_
    exact ⟨_, _, rfl, Or.inr ⟨q, rfl, z1⟩, z2⟩
theorem x_nuL {b n k : Nat} {f : Nat → Nat} {fp fs : Int32} {ins : Nat → Nat → Int32} (bb : b + 37 ≤ 414) (hn : n ≤ 60) (hf : ∀ j, j < n → f j < 65536) : ∀ (d i at_ t : Nat) (h : mj_H), d + i = 3 → at_ + d ≤ 95 → cR h b n f at_ fp fs (nI t) k ins → mj_Wp 2 92 (64, [some (.ref (b + 36)), some (.int (nI i))], [], h) (mz_V fun r h' => r = .int (nI 1) ∧ cR h' b n f (rNum (chA n f) d at_ t).2 fp fs (nI (rNum (chA n f) d at_ t).1) k ins ∧ mz_mo (cL b) 0 0 h h')
  | 0, i, at_, t, h, hi, ha, c0 => by
    obtain rfl : i = 3 := by omega
    refine s_ildn (p' := 65) rfl rfl rfl ?_
    refine s_con (p' := 66) rfl rfl ?_
    refine s_icmp (p' := 114) true rfl ((ci_ge (by omega) (by omega)).trans (decide_eq_true (by omega))) rfl ?_
    refine s_con (p' := 115) rfl rfl ?_
    refine s_iret rfl rfl ?_
    exact ⟨_, _, rfl, rfl, c0, mz_mo.rf _ _ _ _⟩
  | d + 1, i, at_, t, h, hi, ha, c0 => by
    have hB : b + 36 < mj_CB := by have : mj_CB = 1000000 := rfl; omega
    have m0 : mz_mo (cL b) 0 0 h h := mz_mo.rf _ _ _ _
    by_cases q : dB (chA n f at_) = true
    · have q2 := dB_lt q
      have ih := x_nuL (fp := fp) (fs := fs) (k := k) (ins := ins) bb hn hf d (i + 1) (at_ + 1) (10 * t + (chA n f at_ - 48))
      rw [show rNum (chA n f) (d + 1) at_ t = rNum (chA n f) d (at_ + 1) (10 * t + (chA n f at_ - 48)) from if_pos q]
      refine s_ildn (p' := 65) rfl rfl rfl ?_
      refine s_con (p' := 66) rfl rfl ?_
      refine s_icmp (p' := 69) false rfl ((ci_ge (by omega) (by omega)).trans (decide_eq_false (by omega))) rfl ?_
      refine s_aldn (p' := 70) rfl rfl rfl ?_
      refine s_callV (p' := 73) (ls0 := [_]) rfl rfl rfl rfl rfl (mj_rcv_is c0.1) rfl (x_sg bb hn hf c0 (by omega)) (by decide) rfl ?_
      refine s_callV (p' := 76) (ls0 := [_]) rfl rfl rfl rfl rfl rfl rfl (x_isd (chA_le hf _)) (by decide) rfl ?_
      refine s_if (p' := 79) false rfl (by rw [q]; rfl) rfl ?_
      refine s_aldn (p' := 80) rfl rfl rfl ?_
      refine s_bip (p' := 82) rfl rfl ?_
      refine s_aldn (p' := 83) rfl rfl rfl ?_
      refine s_gf (p' := 86) rfl c0.1 rfl rfl ?_
      refine s_sp (p' := 87) (ls' := _) rfl rfl rfl ?_
      rw [mI_mul]
      refine s_aldn (p' := 88) rfl rfl rfl ?_
      refine s_callV (p' := 91) (ls0 := [_]) rfl rfl rfl rfl rfl (mj_rcv_is c0.1) rfl (x_sg bb hn hf c0 (by omega)) (by decide) rfl ?_
      refine s_bip (p' := 93) rfl rfl ?_
      refine s_sp (p' := 94) (ls' := _) rfl rfl rfl ?_
      rw [sgn_lt (by omega), mI_sub (by omega)]
      refine s_sp (p' := 95) (ls' := _) rfl rfl rfl ?_
      rw [mI_add]
      refine s_pf (p' := 98) (fs' := [_, _, _, _, _, _]) rfl hB c0.1 (Nat.blt_eq.mp rfl) rfl rfl rfl ?_
      generalize hg1 : List.set h (b + 36) _ = h1
      have c1 : cR h1 b n f at_ fp fs (nI (10 * t + (chA n f at_ - 48))) k ins := by rw [← hg1]; exact c0.rd bb _ _ _ _
      have m1 : mz_mo (cL b) 0 0 h h1 := mo00 m0 (by rw [← hg1]; exact c0.rdm bb _ _ _ _)
      clear hg1
      refine s_aldn (p' := 99) rfl rfl rfl ?_
      refine s_sp (p' := 100) (ls' := _) rfl rfl rfl ?_
      refine s_gf (p' := 103) rfl c1.1 rfl rfl ?_
      refine s_con (p' := 104) rfl rfl ?_
      refine s_sp (p' := 105) (ls' := _) rfl rfl rfl ?_
      rw [mI_add]
      refine s_pf (p' := 108) (fs' := [_, _, _, _, _, _]) rfl hB c1.1 (Nat.blt_eq.mp rfl) rfl rfl rfl ?_
      generalize hg2 : List.set h1 (b + 36) _ = h2
      have c2 : cR h2 b n f (at_ + 1) fp fs (nI (10 * t + (chA n f at_ - 48))) k ins := by rw [← hg2]; exact c1.rd bb _ _ _ _
      have m2 : mz_mo (cL b) 0 0 h h2 := mo00 m1 (by rw [← hg2]; exact c1.rdm bb _ _ _ _)
      clear hg2
      refine s_inc (p' := 111) (ls' := [_, _]) rfl rfl rfl rfl rfl ?_
      rw [mI_add]
      refine s_goto (p' := 64) rfl rfl ?_
      refine (ih h2 (by omega) (by omega) c2).imp ?_
      rintro o ⟨r, h3, e, q1, q3, q4⟩
      exact ⟨r, h3, e, q1, q3, mo00 m2 q4⟩
    · rw [show rNum (chA n f) (d + 1) at_ t = (t, at_) from if_neg q]
      refine s_ildn (p' := 65) rfl rfl rfl ?_
      refine s_con (p' := 66) rfl rfl ?_
      refine s_icmp (p' := 69) false rfl ((ci_ge (by omega) (by omega)).trans (decide_eq_false (by omega))) rfl ?_
      refine s_aldn (p' := 70) rfl rfl rfl ?_
      refine s_callV (p' := 73) (ls0 := [_]) rfl rfl rfl rfl rfl (mj_rcv_is c0.1) rfl (x_sg bb hn hf c0 (by omega)) (by decide) rfl ?_
      refine s_callV (p' := 76) (ls0 := [_]) rfl rfl rfl rfl rfl rfl rfl (x_isd (chA_le hf _)) (by decide) rfl ?_
      refine s_if (p' := 114) true rfl (by rw [Bool.eq_false_iff.mpr q]; rfl) rfl ?_
      refine s_con (p' := 115) rfl rfl ?_
      refine s_iret rfl rfl ?_
      exact ⟨_, _, rfl, rfl, c0, mz_mo.rf _ _ _ _⟩
theorem x_trm {h : mj_H} {b n at_ k : Nat} {f : Nat → Nat} {fp fs tm : Int32} {ins : Nat → Nat → Int32} (bb : b + 37 ≤ 414) (hn : n ≤ 60) (hf : ∀ j, j < n → f j < 65536) (c0 : cR h b n f at_ fp fs tm k ins) (ha : at_ ≤ 90) (hk : k ≤ 30) : mj_Wp 3 92 (0, [some (.ref (b + 36)), none], [], h) (mz_V fun r h' => ((∃ t a1, rTerm (chA n f) at_ = .inr (t, a1) ∧ r = .int (nI 1) ∧ cR h' b n f a1 fp fs (nI t) k ins) ∨ ∃ e, rTerm (chA n f) at_ = .inl e ∧ r = .int (nI 0) ∧ cF h' b n f e) ∧ mz_mo (cL b) 0 0 h h') := by
  have hB : b + 36 < mj_CB := by have : mj_CB = 1000000 := rfl; omega
  have hI : ∀ j, j < 30 → b + 6 + j < mj_CB := fun j hj => by have : mj_CB = 1000000 := rfl; omega
  have m0 : mz_mo (cL b) 0 0 h h := mz_mo.rf _ _ _ _
  refine s_aldn (p' := 1) rfl rfl rfl ?_
  refine s_callV (p' := 4) (ls0 := [_]) rfl rfl rfl rfl rfl (mj_rcv_is c0.1) rfl (x_sg bb hn hf c0 (by omega)) (by decide) rfl ?_
  refine s_callV (p' := 7) (ls0 := [_]) rfl rfl rfl rfl rfl rfl rfl (x_isv (chA_le hf _)) (by decide) rfl ?_
  by_cases q : vB (chA n f at_) = true
  · refine s_if (p' := 10) false rfl (by rw [q]; rfl) rfl ?_
    refine s_aldn (p' := 11) rfl rfl rfl ?_
    refine s_aldn (p' := 12) rfl rfl rfl ?_
    refine s_callV (p' := 15) (ls0 := [_]) rfl rfl rfl rfl rfl (mj_rcv_is c0.1) rfl (x_sg bb hn hf c0 (by omega)) (by decide) rfl ?_
    refine s_bip (p' := 17) rfl rfl ?_
    have q2 := vB_lt q
    refine s_sp (p' := 18) (ls' := _) rfl rfl rfl ?_
    rw [sgn_lt (by omega), mI_sub (by omega)]
    refine s_callV (p' := 21) (ls0 := [_]) rfl rfl rfl rfl rfl rfl rfl (x_tof (by omega)) (by decide) rfl ?_
    refine s_pf (p' := 24) (fs' := [_, _, _, _, _, _]) rfl hB c0.1 (Nat.blt_eq.mp rfl) rfl rfl rfl ?_
    generalize hg1 : List.set h (b + 36) _ = h1
    have c1 : cR h1 b n f at_ fp fs (nI (vT (chA n f at_ - 97))) k ins := by rw [← hg1]; exact c0.rd bb _ _ _ _
    have m1 : mz_mo (cL b) 0 0 h h1 := mo00 m0 (by rw [← hg1]; exact c0.rdm bb _ _ _ _)
    clear hg1
    refine s_aldn (p' := 25) rfl rfl rfl ?_
    refine s_sp (p' := 26) (ls' := _) rfl rfl rfl ?_
    refine s_gf (p' := 29) rfl c1.1 rfl rfl ?_
    refine s_con (p' := 30) rfl rfl ?_
    refine s_sp (p' := 31) (ls' := _) rfl rfl rfl ?_
    rw [mI_add]
    refine s_pf (p' := 34) (fs' := [_, _, _, _, _, _]) rfl hB c1.1 (Nat.blt_eq.mp rfl) rfl rfl rfl ?_
    generalize hg2 : List.set h1 (b + 36) _ = h2
    have c2 : cR h2 b n f (at_ + 1) fp fs (nI (vT (chA n f at_ - 97))) k ins := by rw [← hg2]; exact c1.rd bb _ _ _ _
    have m2 : mz_mo (cL b) 0 0 h h2 := mo00 m1 (by rw [← hg2]; exact c1.rdm bb _ _ _ _)
    clear hg2
    refine s_con (p' := 35) rfl rfl ?_
    refine s_iret rfl rfl ?_
    exact ⟨_, _, rfl, Or.inl ⟨_, _, if_pos q, rfl, c2⟩, m2⟩
  · refine s_if (p' := 36) true rfl (by rw [Bool.eq_false_iff.mpr q]; rfl) rfl ?_
    refine s_aldn (p' := 37) rfl rfl rfl ?_
    refine s_callV (p' := 40) (ls0 := [_]) rfl rfl rfl rfl rfl (mj_rcv_is c0.1) rfl (x_sg bb hn hf c0 (by omega)) (by decide) rfl ?_
    refine s_callV (p' := 43) (ls0 := [_]) rfl rfl rfl rfl rfl rfl rfl (x_isd (chA_le hf _)) (by decide) rfl ?_
    by_cases q3 : dB (chA n f at_) = true
    · refine s_if (p' := 57) true rfl (by rw [q3]; rfl) rfl ?_
      refine s_aldn (p' := 58) rfl rfl rfl ?_
      refine s_con (p' := 59) rfl rfl ?_
      refine s_pf (p' := 62) (fs' := [_, _, _, _, _, _]) rfl hB c0.1 (Nat.blt_eq.mp rfl) rfl rfl rfl ?_
      generalize hg1 : List.set h (b + 36) _ = h1
      have c1 : cR h1 b n f at_ fp fs (nI 0) k ins := by rw [← hg1]; exact c0.rd bb _ _ _ _
      have m1 : mz_mo (cL b) 0 0 h h1 := mo00 m0 (by rw [← hg1]; exact c0.rdm bb _ _ _ _)
      clear hg1
      refine s_con (p' := 63) rfl rfl ?_
      refine s_istn (p' := 64) (ls' := [_, _]) rfl rfl rfl rfl ?_
      refine (mj_Wp.mono (x_nuL bb hn hf 3 0 at_ 0 h1 (by omega) (by omega) c1) (by decide)).imp ?_
      rintro o ⟨r, h3, e, q1, q4, q5⟩
      exact ⟨r, h3, e, Or.inl ⟨_, _, by unfold rTerm; rw [if_neg q, if_pos q3], q1, q4⟩, mo00 m1 q5⟩
    · refine s_if (p' := 46) false rfl (by rw [Bool.eq_false_iff.mpr q3]; rfl) rfl ?_
      refine s_aldn (p' := 47) rfl rfl rfl ?_
      refine s_bip (p' := 49) rfl rfl ?_
      refine s_aldn (p' := 50) rfl rfl rfl ?_
      refine s_gf (p' := 53) rfl c0.1 rfl rfl ?_
      refine s_callEV (p' := 56) (ls0 := [_, _, _]) rfl rfl rfl rfl rfl (mj_rcv_is c0.1) rfl (x_fl bb hn hf c0 (by decide) hk) rfl rfl ?_
      rintro _ z ⟨rfl, z1, z2⟩
      replace z2 := mo00 m0 z2
      refine s_iret rfl rfl ?_
      exact ⟨_, _, rfl, Or.inr ⟨_, by unfold rTerm; rw [if_neg q, if_neg q3], rfl, z1⟩, z2⟩
theorem x_rst {h : mj_H} {a c : Nat} {x : Nat → Int32} (bA : a < mj_CB) (hA : mj_rd h a = some (inC x)) (hc : c < 65536) : mj_run 0 90 (0, [some (.ref a), some (.int (nI c))], [], h) (.inl none, h.set a (inC (fun q => nI (ac c 0 0 32 0 0 0 0 q)))) := by
  refine s_aldn (p' := 1) rfl rfl rfl ?_
  refine s_ildn (p' := 2) rfl rfl rfl ?_
  refine s_pf (p' := 5) (fs' := [_, _, _, _, _, _, _, _]) rfl bA hA (Nat.blt_eq.mp rfl) (chr_fit hc) rfl rfl ?_
  refine s_aldn (p' := 6) rfl rfl rfl ?_
  refine s_con (p' := 7) rfl rfl ?_
  refine s_pf (p' := 10) (fs' := [_, _, _, _, _, _, _, _]) rfl bA (rd_set bA hA) (Nat.blt_eq.mp rfl) rfl rfl rfl ?_
  rw [List.set_set]
  refine s_aldn (p' := 11) rfl rfl rfl ?_
  refine s_con (p' := 12) rfl rfl ?_
  refine s_pf (p' := 15) (fs' := [_, _, _, _, _, _, _, _]) rfl bA (rd_set bA hA) (Nat.blt_eq.mp rfl) rfl rfl rfl ?_
  rw [List.set_set]
  refine s_aldn (p' := 16) rfl rfl rfl ?_
  refine s_bip (p' := 18) rfl rfl ?_
  refine s_pf (p' := 21) (fs' := [_, _, _, _, _, _, _, _]) rfl bA (rd_set bA hA) (Nat.blt_eq.mp rfl) rfl rfl rfl ?_
  rw [List.set_set]
  refine s_aldn (p' := 22) rfl rfl rfl ?_
  refine s_con (p' := 23) rfl rfl ?_
  refine s_pf (p' := 26) (fs' := [_, _, _, _, _, _, _, _]) rfl bA (rd_set bA hA) (Nat.blt_eq.mp rfl) rfl rfl rfl ?_
  rw [List.set_set]
  refine s_aldn (p' := 27) rfl rfl rfl ?_
  refine s_con (p' := 28) rfl rfl ?_
  refine s_pf (p' := 31) (fs' := [_, _, _, _, _, _, _, _]) rfl bA (rd_set bA hA) (Nat.blt_eq.mp rfl) rfl rfl rfl ?_
  rw [List.set_set]
  refine s_aldn (p' := 32) rfl rfl rfl ?_
  refine s_con (p' := 33) rfl rfl ?_
  refine s_pf (p' := 36) (fs' := [_, _, _, _, _, _, _, _]) rfl bA (rd_set bA hA) (Nat.blt_eq.mp rfl) rfl rfl rfl ?_
  rw [List.set_set]
  refine s_aldn (p' := 37) rfl rfl rfl ?_
  refine s_con (p' := 38) rfl rfl ?_
  refine s_pf (p' := 41) (fs' := [_, _, _, _, _, _, _, _]) rfl bA (rd_set bA hA) (Nat.blt_eq.mp rfl) rfl rfl rfl ?_
  rw [List.set_set]
  exact s_ret rfl rfl
theorem x_add {h : mj_H} {b n at_ k : Nat} {f : Nat → Nat} {fp fs tm : Int32} {ins : Nat → Nat → Int32} (bb : b + 37 ≤ 414) (hn : n ≤ 60) (hf : ∀ j, j < n → f j < 65536) (c0 : cR h b n f at_ fp fs tm k ins) {s : Nat} (hk : k < 30) (hs : s < 65536) : mj_Wp 1 89 (0, [some (.ref (b + 3)), some (.int (nI s)), none], [], h) (mz_V fun r h' => r = .ref (b + 6 + k) ∧ cR h' b n f at_ fp fs tm (k + 1) (updI ins k (fun q => nI (ac s 0 0 32 0 0 0 0 q))) ∧ mz_mo (cL b) 0 0 h h') := by
  have hB : b + 36 < mj_CB := by have : mj_CB = 1000000 := rfl; omega
  have hI : ∀ j, j < 30 → b + 6 + j < mj_CB := fun j hj => by have : mj_CB = 1000000 := rfl; omega
  have m0 : mz_mo (cL b) 0 0 h h := mz_mo.rf _ _ _ _
  have ⟨rw, h1, h2⟩ := c0.2.2.2.1
  refine s_aldn (p' := 1) rfl rfl rfl ?_
  refine s_gf (p' := 4) rfl c0.2.2.1 rfl rfl ?_
  refine s_if (p' := 7) false rfl (cz_lt (by omega)) rfl ?_
  refine s_aldn (p' := 8) rfl rfl rfl ?_
  refine s_gf (p' := 11) rfl c0.2.2.1 rfl rfl ?_
  refine s_aldn (p' := 12) rfl rfl rfl ?_
  refine s_gf (p' := 15) rfl c0.2.2.1 rfl rfl ?_
  refine s_len (p' := 16) rfl (mj_rdA_is h1 (by decide)) (by decide) rfl ?_
  refine s_icmp (p' := 24) true rfl ((ci_lt (by omega) (by omega)).trans (decide_eq_true (by omega))) rfl ?_
  refine s_aldn (p' := 25) rfl rfl rfl ?_
  refine s_gf (p' := 28) rfl c0.2.2.1 rfl rfl ?_
  refine s_aldn (p' := 29) rfl rfl rfl ?_
  refine s_gf (p' := 32) rfl c0.2.2.1 rfl rfl ?_
  refine s_aal (p' := 33) rfl (mj_rdA_is h1 (by decide)) (by decide) (inb_nI (by omega) (by omega)) rfl ?_
  rw [mI_cl (by omega), h2 k hk, show va_rf (some (b + 6 + k)) = .ref (b + 6 + k) from rfl]
  refine s_astn (p' := 34) (ls' := [_, _, _]) rfl rfl rfl rfl ?_
  refine s_aldn (p' := 35) rfl rfl rfl ?_
  refine s_ildn (p' := 36) rfl rfl rfl ?_
  refine s_callN (p' := 39) (ls0 := [_, _]) rfl rfl rfl rfl rfl (mj_rcv_is (c0.2.2.2.2 k hk)) rfl (x_rst (hI k hk) (c0.2.2.2.2 k hk) hs) (by decide) rfl ?_
  generalize hg1 : List.set h (b + 6 + k) _ = h1
  have c1 : cR h1 b n f at_ fp fs tm k (updI ins k (fun q => nI (ac s 0 0 32 0 0 0 0 q))) := by rw [← hg1]; exact c0.in bb hk ((fun q => nI (ac s 0 0 32 0 0 0 0 q)))
  have m1 : mz_mo (cL b) 0 0 h h1 := mo00 m0 (by rw [← hg1]; exact c0.inm bb hk ((fun q => nI (ac s 0 0 32 0 0 0 0 q))))
  clear hg1
  refine s_aldn (p' := 40) rfl rfl rfl ?_
  refine s_sp (p' := 41) (ls' := _) rfl rfl rfl ?_
  refine s_gf (p' := 44) rfl c1.2.2.1 rfl rfl ?_
  refine s_con (p' := 45) rfl rfl ?_
  refine s_sp (p' := 46) (ls' := _) rfl rfl rfl ?_
  rw [mI_add]
  refine s_pf (p' := 49) (fs' := [_, _, _]) rfl (by omega) c1.2.2.1 (Nat.blt_eq.mp rfl) rfl rfl rfl ?_
  generalize hg2 : List.set h1 (b + 3) _ = h2
  have c2 : cR h2 b n f at_ fp fs tm (k + 1) (updI ins k (fun q => nI (ac s 0 0 32 0 0 0 0 q))) := by rw [← hg2]; exact c1.cd bb _
  have m2 : mz_mo (cL b) 0 0 h h2 := mo00 m1 (by rw [← hg2]; exact c1.cdm bb _)
  clear hg2
  refine s_aldn (p' := 50) rfl rfl rfl ?_
  refine s_aret rfl ?_
  exact ⟨_, _, rfl, rfl, c2, m2⟩
theorem updI_at (ins : Nat → Nat → Int32) (j : Nat) (x : Nat → Int32) : updI ins j x j = x := if_pos rfl
theorem updI_updI (ins : Nat → Nat → Int32) (j : Nat) (x y : Nat → Int32) : updI (updI ins j x) j y = updI ins j y := funext fun i => by
  unfold updI
  by_cases q : i = j
  · rw [if_pos q, if_pos q]
  · rw [if_neg q, if_neg q, if_neg q]
theorem vT_ti {v : Nat} (hv : v < 1000) : (nI (vT v)).toInt = -1 - (v : Int) := by
  have e : nI (vT v) = nI 4294967295 - nI v := by rw [mI_sub (by omega)]; rfl
  rw [e, Int32.toInt_sub, show (nI 4294967295).toInt = -1 from by decide +kernel, mI_ti (n := v) (by omega)]
  refine Int.bmod_eq_of_le ?_ ?_ <;> omega
theorem tm_eq {t v : Nat} (ht : okTm t) (hv : v < 8) : nI t = nI (vT v) ↔ t = vT v := by
  constructor
  · intro e
    have e2 := congrArg Int32.toInt e
    rw [vT_ti (by omega)] at e2
    rcases ht with ht | ⟨w, hw, rfl⟩
    · rw [mI_ti (by omega)] at e2
      omega
    · rw [vT_ti (by omega)] at e2
      rw [show w = v by omega]
  · rintro rfl
    rfl
/-- a state: the reader stands at s.1, s.2.1 acts are laid -/
def cG (h : mj_H) (b n : Nat) (f : Nat → Nat) (s : PS) : Prop := ∃ (fp fs tm : Int32) (ins : Nat → Nat → Int32), cR h b n f s.1 fp fs tm s.2.1 ins ∧ ∀ j, j < s.2.1 → ∀ q, q < 8 → ins j q = nI (s.2.2 j q)
def cQ (h h' : mj_H) (b n : Nat) (f : Nat → Nat) (P : PR) (r : Value) : Prop := ((∃ s', P = .inr s' ∧ r = .int (nI 1) ∧ cG h' b n f s') ∨ ∃ e, P = .inl e ∧ r = .int (nI 0) ∧ cF h' b n f e) ∧ mz_mo (cL b) 0 0 h h'
theorem q8 {P : Nat → Prop} (h0 : P 0) (h1 : P 1) (h2 : P 2) (h3 : P 3) (h4 : P 4) (h5 : P 5) (h6 : P 6) (h7 : P 7) : ∀ q, q < 8 → P q := fun q hq => by
  obtain rfl | rfl | rfl | rfl | rfl | rfl | rfl | rfl : q = 0 ∨ q = 1 ∨ q = 2 ∨ q = 3 ∨ q = 4 ∨ q = 5 ∨ q = 6 ∨ q = 7 := by omega
  all_goals assumption
/-- one act more -/
theorem agr {ins : Nat → Nat → Int32} {a : Nat → Nat → Nat} {k : Nat} {x : Nat → Int32} {y : Nat → Nat} (h : ∀ j, j < k → ∀ q, q < 8 → ins j q = nI (a j q)) (hx : ∀ q, q < 8 → x q = nI (y q)) : ∀ j, j < k + 1 → ∀ q, q < 8 → updI ins k x j q = nI (adA a k y j q) := fun j hj q hq => by
  unfold updI adA
  by_cases e : j = k
  · rw [if_pos e, if_pos e]
    exact hx q hq
  · rw [if_neg e, if_neg e]
    exact h j (by omega) q hq
theorem vT_in {v w : Nat} (e : vT v = vT w) (hv : v < 8) (hw : w < 8) : v = w := by
  unfold vT at e
  omega
theorem x_prt {h : mj_H} {b n at_ k : Nat} {f : Nat → Nat} {fp fs tm : Int32} {ins : Nat → Nat → Int32} (bb : b + 37 ≤ 414) (hn : n ≤ 60) (hf : ∀ j, j < n → f j < 65536) (c0 : cR h b n f at_ fp fs tm k ins) (ha : at_ ≤ 90) (hk : k ≤ 30) {j v : Nat} (hj : j < 30) (hv : v < 8) (hx : ins j 1 = nI v) : mj_Wp 3 91 (0, [some (.ref (b + 36)), some (.ref (b + 6 + j))], [], h) (mz_V fun r h' => ((vB (chA n f at_) = true ∧ chA n f at_ - 97 ≠ v ∧ r = .int (nI 1) ∧ cR h' b n f (at_ + 1) fp fs tm k (updI ins j (updF (ins j) 2 (nI (vT (chA n f at_ - 97)))))) ∨ (vB (chA n f at_) = true ∧ chA n f at_ - 97 = v ∧ r = .int (nI 0) ∧ cF h' b n f (114, at_)) ∨ (¬ vB (chA n f at_) = true ∧ r = .int (nI 0) ∧ cF h' b n f (118, at_))) ∧ mz_mo (cL b) 0 0 h h') := by
  have hB : b + 36 < mj_CB := by have : mj_CB = 1000000 := rfl; omega
  have hI : ∀ j, j < 30 → b + 6 + j < mj_CB := fun j hj => by have : mj_CB = 1000000 := rfl; omega
  have m0 : mz_mo (cL b) 0 0 h h := mz_mo.rf _ _ _ _
  refine s_aldn (p' := 1) rfl rfl rfl ?_
  refine s_callV (p' := 4) (ls0 := [_]) rfl rfl rfl rfl rfl (mj_rcv_is c0.1) rfl (x_sg bb hn hf c0 (by omega)) (by decide) rfl ?_
  refine s_callV (p' := 7) (ls0 := [_]) rfl rfl rfl rfl rfl rfl rfl (x_isv (chA_le hf _)) (by decide) rfl ?_
  by_cases q : vB (chA n f at_) = true
  · refine s_if (p' := 21) true rfl (by rw [q]; rfl) rfl ?_
    refine s_aldn (p' := 22) rfl rfl rfl ?_
    refine s_aldn (p' := 23) rfl rfl rfl ?_
    refine s_callV (p' := 26) (ls0 := [_]) rfl rfl rfl rfl rfl (mj_rcv_is c0.1) rfl (x_sg bb hn hf c0 (by omega)) (by decide) rfl ?_
    have q2 := vB_lt q
    refine s_bip (p' := 28) rfl rfl ?_
    refine s_sp (p' := 29) (ls' := _) rfl rfl rfl ?_
    rw [sgn_lt (by omega), mI_sub (by omega)]
    refine s_callV (p' := 32) (ls0 := [_]) rfl rfl rfl rfl rfl rfl rfl (x_tof (by omega)) (by decide) rfl ?_
    refine s_pf (p' := 35) (fs' := [_, _, _, _, _, _, _, _]) rfl (hI j hj) (c0.2.2.2.2 j hj) (Nat.blt_eq.mp rfl) rfl rfl rfl ?_
    generalize hg1 : List.set h (b + 6 + j) _ = h1
    have c1 : cR h1 b n f at_ fp fs tm k (updI ins j (updF (ins j) 2 (nI (vT (chA n f at_ - 97))))) := by rw [← hg1]; exact c0.in bb hj ((updF (ins j) 2 (nI (vT (chA n f at_ - 97)))))
    have m1 : mz_mo (cL b) 0 0 h h1 := mo00 m0 (by rw [← hg1]; exact c0.inm bb hj ((updF (ins j) 2 (nI (vT (chA n f at_ - 97))))))
    clear hg1
    refine s_aldn (p' := 36) rfl rfl rfl ?_
    refine s_gf (p' := 39) rfl (c1.2.2.2.2 j hj) rfl rfl ?_
    refine s_aldn (p' := 40) rfl rfl rfl ?_
    refine s_gf (p' := 43) rfl (c1.2.2.2.2 j hj) rfl rfl ?_
    have e2 : updI ins j (updF (ins j) 2 (nI (vT (chA n f at_ - 97)))) j 2 = nI (vT (chA n f at_ - 97)) := by rw [updI_at]; rfl
    have e1 : updI ins j (updF (ins j) 2 (nI (vT (chA n f at_ - 97)))) j 1 = nI v := by rw [updI_at]; exact hx
    rw [e1, e2]
    refine s_callV (p' := 46) (ls0 := [_]) rfl rfl rfl rfl rfl rfl rfl (x_tof (by omega)) (by decide) rfl ?_
    by_cases r : chA n f at_ - 97 = v
    · refine s_icmp (p' := 49) false rfl (decide_eq_false (fun e => e (by rw [r]))) rfl ?_
      refine s_aldn (p' := 50) rfl rfl rfl ?_
      refine s_bip (p' := 52) rfl rfl ?_
      refine s_aldn (p' := 53) rfl rfl rfl ?_
      refine s_gf (p' := 56) rfl c1.1 rfl rfl ?_
      refine s_callEV (p' := 59) (ls0 := [_, _, _]) rfl rfl rfl rfl rfl (mj_rcv_is c1.1) rfl (x_fl bb hn hf c1 (by decide) hk) rfl rfl ?_
      rintro _ z ⟨rfl, z1, z2⟩
      replace z2 := mo00 m1 z2
      refine s_iret rfl rfl ?_
      exact ⟨_, _, rfl, Or.inr (Or.inl ⟨q, r, rfl, z1⟩), z2⟩
    · refine s_icmp (p' := 60) true rfl (decide_eq_true (fun e => r (vT_in ((tm_eq (Or.inr ⟨_, by omega, rfl⟩) hv).mp e) (by omega) hv))) rfl ?_
      refine s_aldn (p' := 61) rfl rfl rfl ?_
      refine s_sp (p' := 62) (ls' := _) rfl rfl rfl ?_
      refine s_gf (p' := 65) rfl c1.1 rfl rfl ?_
      refine s_con (p' := 66) rfl rfl ?_
      refine s_sp (p' := 67) (ls' := _) rfl rfl rfl ?_
      rw [mI_add]
      refine s_pf (p' := 70) (fs' := [_, _, _, _, _, _]) rfl hB c1.1 (Nat.blt_eq.mp rfl) rfl rfl rfl ?_
      generalize hg2 : List.set h1 (b + 36) _ = h2
      have c2 : cR h2 b n f (at_ + 1) fp fs tm k (updI ins j (updF (ins j) 2 (nI (vT (chA n f at_ - 97))))) := by rw [← hg2]; exact c1.rd bb _ _ _ _
      have m2 : mz_mo (cL b) 0 0 h h2 := mo00 m1 (by rw [← hg2]; exact c1.rdm bb _ _ _ _)
      clear hg2
      refine s_con (p' := 71) rfl rfl ?_
      refine s_iret rfl rfl ?_
      exact ⟨_, _, rfl, Or.inl ⟨q, r, rfl, c2⟩, m2⟩
  · refine s_if (p' := 10) false rfl (by rw [Bool.eq_false_iff.mpr q]; rfl) rfl ?_
    refine s_aldn (p' := 11) rfl rfl rfl ?_
    refine s_bip (p' := 13) rfl rfl ?_
    refine s_aldn (p' := 14) rfl rfl rfl ?_
    refine s_gf (p' := 17) rfl c0.1 rfl rfl ?_
    refine s_callEV (p' := 20) (ls0 := [_, _, _]) rfl rfl rfl rfl rfl (mj_rcv_is c0.1) rfl (x_fl bb hn hf c0 (by decide) hk) rfl rfl ?_
    rintro _ z ⟨rfl, z1, z2⟩
    replace z2 := mo00 m0 z2
    refine s_iret rfl rfl ?_
    exact ⟨_, _, rfl, Or.inr (Or.inr ⟨q, rfl, z1⟩), z2⟩
theorem x_os {h : mj_H} {a v t p u : Nat} {x : Nat → Int32} (hA : mj_rd h a = some (inC x)) (hv : v < 8) (h1 : x 1 = nI v) (h2 : x 2 = nI t) (h3 : x 3 = nI p) (h4 : x 4 = nI u) (ht : okTm t) (hu : okTm u) (hp : p < 100) : mj_run 1 95 (0, [some (.ref a), none], [], h) (.inl (some (.int (nI (bN (decide (t = vT v ∨ p ≠ 32 ∧ u = vT v)))))), h) := by
  refine s_aldn (p' := 1) rfl rfl rfl ?_
  refine s_gf (p' := 4) rfl hA rfl rfl ?_
  rw [h1]
  refine s_callV (p' := 7) (ls0 := [_]) rfl rfl rfl rfl rfl rfl rfl (x_tof (by omega)) (by decide) rfl ?_
  refine s_istn (p' := 8) (ls' := [_, _]) rfl rfl rfl rfl ?_
  refine s_aldn (p' := 9) rfl rfl rfl ?_
  refine s_gf (p' := 12) rfl hA rfl rfl ?_
  rw [h2]
  refine s_ildn (p' := 13) rfl rfl rfl ?_
  by_cases q : t = vT v
  · refine s_icmp (p' := 33) true rfl (decide_eq_true ((tm_eq ht hv).mpr q)) rfl ?_
    refine s_con (p' := 34) rfl rfl ?_
    refine s_goto (p' := 38) rfl rfl ?_
    exact s_iret rfl rfl (by rw [decide_eq_true (Or.inl q)]; rfl)
  · refine s_icmp (p' := 16) false rfl (decide_eq_false (fun e => q ((tm_eq ht hv).mp e))) rfl ?_
    refine s_aldn (p' := 17) rfl rfl rfl ?_
    refine s_gf (p' := 20) rfl hA rfl rfl ?_
    rw [h3]
    refine s_bip (p' := 22) rfl rfl ?_
    by_cases r : p = 32
    · refine s_icmp (p' := 37) true rfl ((ci_eq (by omega) (by omega)).trans (decide_eq_true (by omega))) rfl ?_
      refine s_con (p' := 38) rfl rfl ?_
      exact s_iret rfl rfl (by rw [decide_eq_false (by omega)]; rfl)
    · refine s_icmp (p' := 25) false rfl ((ci_eq (by omega) (by omega)).trans (decide_eq_false (by omega))) rfl ?_
      refine s_aldn (p' := 26) rfl rfl rfl ?_
      refine s_gf (p' := 29) rfl hA rfl rfl ?_
      rw [h4]
      refine s_ildn (p' := 30) rfl rfl rfl ?_
      by_cases w : u = vT v
      · refine s_icmp (p' := 33) false rfl (decide_eq_false (fun e => e (by rw [w]))) rfl ?_
        refine s_con (p' := 34) rfl rfl ?_
        refine s_goto (p' := 38) rfl rfl ?_
        exact s_iret rfl rfl (by rw [decide_eq_true (Or.inr ⟨r, w⟩)]; rfl)
      · refine s_icmp (p' := 37) true rfl (decide_eq_true (fun e => w ((tm_eq hu hv).mp e))) rfl ?_
        refine s_con (p' := 38) rfl rfl ?_
        exact s_iret rfl rfl (by rw [decide_eq_false (by omega)]; rfl)
theorem x_tst {h : mj_H} {b n at_ k : Nat} {f : Nat → Nat} {fp fs tm : Int32} {ins : Nat → Nat → Int32} (bb : b + 37 ≤ 414) (hn : n ≤ 60) (hf : ∀ j, j < n → f j < 65536) (c0 : cR h b n f at_ fp fs tm k ins) (ha : at_ ≤ n) (hk : k ≤ 30) {j : Nat} (hj : j < 30) : mj_Wp 4 99 (0, [some (.ref (b + 36)), some (.ref (b + 6 + j))], [], h) (mz_V fun r h' => ((∃ t p u a1, rTest (chA n f) at_ = .inr (t, p, u, a1) ∧ r = .int (nI 1) ∧ ∃ tm', cR h' b n f a1 fp fs tm' k (updI ins j (updF (updF (updF (ins j) 2 (nI t)) 3 (nI p)) 4 (nI u)))) ∨ ∃ e, rTest (chA n f) at_ = .inl e ∧ r = .int (nI 0) ∧ cF h' b n f e) ∧ mz_mo (cL b) 0 0 h h') := by
  have hB : b + 36 < mj_CB := by have : mj_CB = 1000000 := rfl; omega
  have hI : ∀ j, j < 30 → b + 6 + j < mj_CB := fun j hj => by have : mj_CB = 1000000 := rfl; omega
  have m0 : mz_mo (cL b) 0 0 h h := mz_mo.rf _ _ _ _
  refine s_aldn (p' := 1) rfl rfl rfl ?_
  refine s_callEV (p' := 4) (ls0 := [_, _]) rfl rfl rfl rfl rfl (mj_rcv_is c0.1) rfl (x_trm bb hn hf c0 (by omega) hk) rfl rfl ?_
  rintro _ h1 ⟨⟨t, a1, e1, rfl, c1⟩ | ⟨e, e1, rfl, z1⟩, m1⟩
  rotate_left
  · refine s_if (p' := 7) false rfl (by decide +kernel) rfl ?_
    refine s_con (p' := 8) rfl rfl ?_
    refine s_iret rfl rfl ?_
    exact ⟨_, _, rfl, Or.inr ⟨e, by unfold rTest; rw [e1], rfl, z1⟩, m1⟩
  have b1 := rTerm_b (chA_ok n f) ha e1
  refine s_if (p' := 9) true rfl (by decide +kernel) rfl ?_
  refine s_aldn (p' := 10) rfl rfl rfl ?_
  refine s_aldn (p' := 11) rfl rfl rfl ?_
  refine s_gf (p' := 14) rfl c1.1 rfl rfl ?_
  refine s_pf (p' := 17) (fs' := [_, _, _, _, _, _, _, _]) rfl (hI j hj) (c1.2.2.2.2 j hj) (Nat.blt_eq.mp rfl) rfl rfl rfl ?_
  generalize hg2 : List.set h1 (b + 6 + j) _ = h2
  have c2 : cR h2 b n f a1 fp fs (nI t) k (updI ins j (updF (ins j) 2 (nI t))) := by rw [← hg2]; exact c1.in bb hj ((updF (ins j) 2 (nI t)))
  have m2 : mz_mo (cL b) 0 0 h h2 := mo00 m1 (by rw [← hg2]; exact c1.inm bb hj ((updF (ins j) 2 (nI t))))
  clear hg2
  refine s_aldn (p' := 18) rfl rfl rfl ?_
  refine s_callV (p' := 21) (ls0 := [_]) rfl rfl rfl rfl rfl (mj_rcv_is c2.1) rfl (x_sg bb hn hf c2 (by omega)) (by decide) rfl ?_
  refine s_callV (p' := 24) (ls0 := [_]) rfl rfl rfl rfl rfl rfl rfl (x_ist (chA_le hf _)) (by decide) rfl ?_
  by_cases q : tB (chA n f a1) = true
  · refine s_if (p' := 38) true rfl (by rw [q]; rfl) rfl ?_
    refine s_aldn (p' := 39) rfl rfl rfl ?_
    refine s_aldn (p' := 40) rfl rfl rfl ?_
    refine s_callV (p' := 43) (ls0 := [_]) rfl rfl rfl rfl rfl (mj_rcv_is c2.1) rfl (x_sg bb hn hf c2 (by omega)) (by decide) rfl ?_
    have q2 : chA n f a1 = 60 ∨ chA n f a1 = 61 ∨ chA n f a1 = 62 := of_decide_eq_true q
    have q3 := chA_lt hf (a := a1) (by omega)
    refine s_sp (p' := 44) (ls' := _) rfl rfl rfl ?_
    rw [sgn_lt (by omega), i2c_n (by omega)]
    refine s_pf (p' := 47) (fs' := [_, _, _, _, _, _, _, _]) rfl (hI j hj) (c2.2.2.2.2 j hj) (Nat.blt_eq.mp rfl) (chr_fit (by omega)) rfl rfl ?_
    generalize hg3 : List.set h2 (b + 6 + j) _ = h3
    have c3 : cR h3 b n f a1 fp fs (nI t) k (updI (updI ins j (updF (ins j) 2 (nI t))) j (updF (updI ins j (updF (ins j) 2 (nI t)) j) 3 (nI (chA n f a1)))) := by rw [← hg3]; exact c2.in bb hj ((updF (updI ins j (updF (ins j) 2 (nI t)) j) 3 (nI (chA n f a1))))
    have m3 : mz_mo (cL b) 0 0 h h3 := mo00 m2 (by rw [← hg3]; exact c2.inm bb hj ((updF (updI ins j (updF (ins j) 2 (nI t)) j) 3 (nI (chA n f a1)))))
    clear hg3
    refine s_aldn (p' := 48) rfl rfl rfl ?_
    refine s_sp (p' := 49) (ls' := _) rfl rfl rfl ?_
    refine s_gf (p' := 52) rfl c3.1 rfl rfl ?_
    refine s_con (p' := 53) rfl rfl ?_
    refine s_sp (p' := 54) (ls' := _) rfl rfl rfl ?_
    rw [mI_add]
    refine s_pf (p' := 57) (fs' := [_, _, _, _, _, _]) rfl hB c3.1 (Nat.blt_eq.mp rfl) rfl rfl rfl ?_
    generalize hg4 : List.set h3 (b + 36) _ = h4
    have c4 : cR h4 b n f (a1 + 1) fp fs (nI t) k (updI (updI ins j (updF (ins j) 2 (nI t))) j (updF (updI ins j (updF (ins j) 2 (nI t)) j) 3 (nI (chA n f a1)))) := by rw [← hg4]; exact c3.rd bb _ _ _ _
    have m4 : mz_mo (cL b) 0 0 h h4 := mo00 m3 (by rw [← hg4]; exact c3.rdm bb _ _ _ _)
    clear hg4
    refine s_aldn (p' := 58) rfl rfl rfl ?_
    refine s_callEV (p' := 61) (ls0 := [_, _]) rfl rfl rfl rfl rfl (mj_rcv_is c4.1) rfl (x_trm bb hn hf c4 (by omega) hk) rfl rfl ?_
    rintro _ h5 ⟨⟨u, a2, e2, rfl, c5⟩ | ⟨e, e2, rfl, z1⟩, m5⟩
    rotate_left
    · refine s_if (p' := 64) false rfl (by decide +kernel) rfl ?_
      refine s_con (p' := 65) rfl rfl ?_
      refine s_iret rfl rfl ?_
      exact ⟨_, _, rfl, Or.inr ⟨e, by unfold rTest; rw [e1]; dsimp only; rw [if_pos q, e2], rfl, z1⟩, mo00 m4 m5⟩
    replace m5 := mo00 m4 m5
    refine s_if (p' := 66) true rfl (by decide +kernel) rfl ?_
    refine s_aldn (p' := 67) rfl rfl rfl ?_
    refine s_aldn (p' := 68) rfl rfl rfl ?_
    refine s_gf (p' := 71) rfl c5.1 rfl rfl ?_
    refine s_pf (p' := 74) (fs' := [_, _, _, _, _, _, _, _]) rfl (hI j hj) (c5.2.2.2.2 j hj) (Nat.blt_eq.mp rfl) rfl rfl rfl ?_
    generalize hg6 : List.set h5 (b + 6 + j) _ = h6
    have c6 : cR h6 b n f a2 fp fs (nI u) k (updI (updI (updI ins j (updF (ins j) 2 (nI t))) j (updF (updI ins j (updF (ins j) 2 (nI t)) j) 3 (nI (chA n f a1)))) j (updF ((updI (updI ins j (updF (ins j) 2 (nI t))) j (updF (updI ins j (updF (ins j) 2 (nI t)) j) 3 (nI (chA n f a1)))) j) 4 (nI u))) := by rw [← hg6]; exact c5.in bb hj ((updF ((updI (updI ins j (updF (ins j) 2 (nI t))) j (updF (updI ins j (updF (ins j) 2 (nI t)) j) 3 (nI (chA n f a1)))) j) 4 (nI u)))
    have m6 : mz_mo (cL b) 0 0 h h6 := mo00 m5 (by rw [← hg6]; exact c5.inm bb hj ((updF ((updI (updI ins j (updF (ins j) 2 (nI t))) j (updF (updI ins j (updF (ins j) 2 (nI t)) j) 3 (nI (chA n f a1)))) j) 4 (nI u))))
    clear hg6
    refine s_con (p' := 75) rfl rfl ?_
    refine s_iret rfl rfl ?_
    rw [updI_updI, updI_updI, updI_at, updI_at] at c6
    exact ⟨_, _, rfl, Or.inl ⟨t, chA n f a1, u, a2, by unfold rTest; rw [e1]; dsimp only; rw [if_pos q, e2], rfl, _, c6⟩, m6⟩
  · refine s_if (p' := 27) false rfl (by rw [Bool.eq_false_iff.mpr q]; rfl) rfl ?_
    refine s_aldn (p' := 28) rfl rfl rfl ?_
    refine s_bip (p' := 30) rfl rfl ?_
    refine s_aldn (p' := 31) rfl rfl rfl ?_
    refine s_gf (p' := 34) rfl c2.1 rfl rfl ?_
    refine s_callEV (p' := 37) (ls0 := [_, _, _]) rfl rfl rfl rfl rfl (mj_rcv_is c2.1) rfl (x_fl bb hn hf c2 (by decide) hk) rfl rfl ?_
    rintro _ z ⟨rfl, z1, z2⟩
    replace z2 := mo00 m2 z2
    refine s_iret rfl rfl ?_
    exact ⟨_, _, rfl, Or.inr ⟨_, by unfold rTest; rw [e1]; dsimp only; rw [if_neg q], rfl, z1⟩, z2⟩
