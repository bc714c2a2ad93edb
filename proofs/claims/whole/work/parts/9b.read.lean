/-! The class reads terms, tests, simple statements. -/
theorem x_po {h : mj_H} {b n at_ k : Nat} {f : Nat → Nat} {fp fs tm : Int32} {ins : Nat → Nat → Int32} (bb : b + 37 ≤ 414) (hn : n ≤ 60) (hf : ∀ j, j < n → f j < 65536) (c0 : cR h b n f at_ fp fs tm k ins) (ha : at_ ≤ 90) (hk : k ≤ 30) {w l : Nat} (hw : w < 65536) (hl : l < 65536) : mj_Wp 2 101 (0, [some (.ref (b + 36)), some (.int (nI w)), some (.int (nI l))], [], h) (mz_V fun r h' => (chA n f at_ = w ∧ r = .int (nI 1) ∧ cR h' b n f (at_ + 1) fp fs tm k ins ∨ ¬ chA n f at_ = w ∧ r = .int (nI 0) ∧ cF h' b n f (l, at_)) ∧ mz_mo (cL b) 0 0 h h') := by
  have hB : b + 36 < mj_CB := by have : mj_CB = 1000000 := rfl; omega
  have hI : ∀ j, j < 30 → b + 6 + j < mj_CB := fun j hj => by have : mj_CB = 1000000 := rfl; omega
  have m0 : mz_mo (cL b) 0 0 h h := mz_mo.rf _ _ _ _
  refine s_aldn (p' := 1) rfl rfl rfl ?_
  refine s_callV (p' := 4) (ls0 := [_]) rfl rfl rfl rfl rfl (mj_rcv_is c0.1) rfl (x_sg bb hn hf c0 (by omega)) (by decide) rfl ?_
  refine s_ildn (p' := 5) rfl rfl rfl ?_
  by_cases q : chA n f at_ = w
  · refine s_icmp (p' := 18) true rfl ((si_eq (chA_le hf _) (by omega)).trans (decide_eq_true q)) rfl ?_
    refine s_aldn (p' := 19) rfl rfl rfl ?_
    refine s_sp (p' := 20) (ls' := _) rfl rfl rfl ?_
    refine s_gf (p' := 23) rfl c0.1 rfl rfl ?_
    refine s_con (p' := 24) rfl rfl ?_
    refine s_sp (p' := 25) (ls' := _) rfl rfl rfl ?_
    rw [mI_add]
    refine s_pf (p' := 28) (fs' := [_, _, _, _, _, _]) rfl hB c0.1 (Nat.blt_eq.mp rfl) rfl rfl rfl ?_
    refine s_con (p' := 29) rfl rfl ?_
    refine s_iret rfl rfl ?_
    exact ⟨_, _, rfl, Or.inl ⟨q, rfl, c0.rd bb _ _ _ _⟩, c0.rdm bb _ _ _ _⟩
  · refine s_icmp (p' := 8) false rfl ((si_eq (chA_le hf _) (by omega)).trans (decide_eq_false q)) rfl ?_
    refine s_aldn (p' := 9) rfl rfl rfl ?_
    refine s_ildn (p' := 10) rfl rfl rfl ?_
    refine s_aldn (p' := 11) rfl rfl rfl ?_
    refine s_gf (p' := 14) rfl c0.1 rfl rfl ?_
    refine s_callEV (p' := 17) (ls0 := [_, _, _]) rfl rfl rfl rfl rfl (mj_rcv_is c0.1) rfl (x_fl bb hn hf c0 hl hk) rfl rfl ?_
    rintro _ z ⟨rfl, z1, z2⟩
    refine s_iret rfl rfl ?_
    exact ⟨_, _, rfl, Or.inr ⟨q, rfl, z1⟩, z2⟩
theorem x_nuL {b n k : Nat} {f : Nat → Nat} {fp fs : Int32} {ins : Nat → Nat → Int32} (bb : b + 37 ≤ 414) (hn : n ≤ 60) (hf : ∀ j, j < n → f j < 65536) : ∀ (d i at_ t : Nat) (h : mj_H), d + i = 3 → at_ + d ≤ 95 → cR h b n f at_ fp fs (nI t) k ins → mj_Wp 2 92 (64, [some (.ref (b + 36)), some (.int (nI i))], [], h) (mz_V fun r h' => r = .int (nI 1) ∧ cR h' b n f (rNum (chA n f) d at_ t).2 fp fs (nI (rNum (chA n f) d at_ t).1) k ins ∧ mz_mo (cL b) 0 0 h h')
  | 0, i, at_, t, h, hi, ha, c0 => by
    obtain rfl : i = 3 := by omega
    refine s_ildn (p' := 65) rfl rfl rfl ?_
    refine s_con (p' := 66) rfl rfl ?_
    refine s_icmp (p' := 114) true rfl ((ci_ge (by omega) (by omega)).trans (decide_eq_true (by omega))) rfl ?_
    refine s_con (p' := 115) rfl rfl ?_
    refine s_iret rfl rfl ?_
    exact ⟨_, _, rfl, rfl, c0, mz_mo.rf _ _ _ _⟩
  | d + 1, i, at_, t, h, hi, ha, c0 => by
    have hB : b + 36 < mj_CB := by have : mj_CB = 1000000 := rfl; omega
    have m0 : mz_mo (cL b) 0 0 h h := mz_mo.rf _ _ _ _
    by_cases q : dB (chA n f at_) = true
    · have q2 := dB_lt q
      have ih := x_nuL (fp := fp) (fs := fs) (k := k) (ins := ins) bb hn hf d (i + 1) (at_ + 1) (10 * t + (chA n f at_ - 48))
      rw [show rNum (chA n f) (d + 1) at_ t = rNum (chA n f) d (at_ + 1) (10 * t + (chA n f at_ - 48)) from if_pos q]
      refine s_ildn (p' := 65) rfl rfl rfl ?_
      refine s_con (p' := 66) rfl rfl ?_
      refine s_icmp (p' := 69) false rfl ((ci_ge (by omega) (by omega)).trans (decide_eq_false (by omega))) rfl ?_
      refine s_aldn (p' := 70) rfl rfl rfl ?_
      refine s_callV (p' := 73) (ls0 := [_]) rfl rfl rfl rfl rfl (mj_rcv_is c0.1) rfl (x_sg bb hn hf c0 (by omega)) (by decide) rfl ?_
      refine s_callV (p' := 76) (ls0 := [_]) rfl rfl rfl rfl rfl rfl rfl (x_isd (chA_le hf _)) (by decide) rfl ?_
      refine s_if (p' := 79) false rfl (by rw [q]; rfl) rfl ?_
      refine s_aldn (p' := 80) rfl rfl rfl ?_
      refine s_bip (p' := 82) rfl rfl ?_
      refine s_aldn (p' := 83) rfl rfl rfl ?_
      refine s_gf (p' := 86) rfl c0.1 rfl rfl ?_
      refine s_sp (p' := 87) (ls' := _) rfl rfl rfl ?_
      rw [mI_mul]
      refine s_aldn (p' := 88) rfl rfl rfl ?_
      refine s_callV (p' := 91) (ls0 := [_]) rfl rfl rfl rfl rfl (mj_rcv_is c0.1) rfl (x_sg bb hn hf c0 (by omega)) (by decide) rfl ?_
      refine s_bip (p' := 93) rfl rfl ?_
      refine s_sp (p' := 94) (ls' := _) rfl rfl rfl ?_
      rw [sgn_lt (by omega), mI_sub (by omega)]
      refine s_sp (p' := 95) (ls' := _) rfl rfl rfl ?_
      rw [mI_add]
      refine s_pf (p' := 98) (fs' := [_, _, _, _, _, _]) rfl hB c0.1 (Nat.blt_eq.mp rfl) rfl rfl rfl ?_
      generalize hg1 : List.set h (b + 36) _ = h1
      have c1 : cR h1 b n f at_ fp fs (nI (10 * t + (chA n f at_ - 48))) k ins := by rw [← hg1]; exact c0.rd bb _ _ _ _
      have m1 : mz_mo (cL b) 0 0 h h1 := mo00 m0 (by rw [← hg1]; exact c0.rdm bb _ _ _ _)
      clear hg1
      refine s_aldn (p' := 99) rfl rfl rfl ?_
      refine s_sp (p' := 100) (ls' := _) rfl rfl rfl ?_
      refine s_gf (p' := 103) rfl c1.1 rfl rfl ?_
      refine s_con (p' := 104) rfl rfl ?_
      refine s_sp (p' := 105) (ls' := _) rfl rfl rfl ?_
      rw [mI_add]
      refine s_pf (p' := 108) (fs' := [_, _, _, _, _, _]) rfl hB c1.1 (Nat.blt_eq.mp rfl) rfl rfl rfl ?_
      generalize hg2 : List.set h1 (b + 36) _ = h2
      have c2 : cR h2 b n f (at_ + 1) fp fs (nI (10 * t + (chA n f at_ - 48))) k ins := by rw [← hg2]; exact c1.rd bb _ _ _ _
      have m2 : mz_mo (cL b) 0 0 h h2 := mo00 m1 (by rw [← hg2]; exact c1.rdm bb _ _ _ _)
      clear hg2
      refine s_inc (p' := 111) (ls' := [_, _]) rfl rfl rfl rfl rfl ?_
      rw [mI_add]
      refine s_goto (p' := 64) rfl rfl ?_
      refine (ih h2 (by omega) (by omega) c2).imp ?_
      rintro o ⟨r, h3, e, q1, q3, q4⟩
      exact ⟨r, h3, e, q1, q3, mo00 m2 q4⟩
    · rw [show rNum (chA n f) (d + 1) at_ t = (t, at_) from if_neg q]
      refine s_ildn (p' := 65) rfl rfl rfl ?_
      refine s_con (p' := 66) rfl rfl ?_
      refine s_icmp (p' := 69) false rfl ((ci_ge (by omega) (by omega)).trans (decide_eq_false (by omega))) rfl ?_
      refine s_aldn (p' := 70) rfl rfl rfl ?_
      refine s_callV (p' := 73) (ls0 := [_]) rfl rfl rfl rfl rfl (mj_rcv_is c0.1) rfl (x_sg bb hn hf c0 (by omega)) (by decide) rfl ?_
      refine s_callV (p' := 76) (ls0 := [_]) rfl rfl rfl rfl rfl rfl rfl (x_isd (chA_le hf _)) (by decide) rfl ?_
      refine s_if (p' := 114) true rfl (by rw [Bool.eq_false_iff.mpr q]; rfl) rfl ?_
      refine s_con (p' := 115) rfl rfl ?_
      refine s_iret rfl rfl ?_
      exact ⟨_, _, rfl, rfl, c0, mz_mo.rf _ _ _ _⟩
theorem x_trm {h : mj_H} {b n at_ k : Nat} {f : Nat → Nat} {fp fs tm : Int32} {ins : Nat → Nat → Int32} (bb : b + 37 ≤ 414) (hn : n ≤ 60) (hf : ∀ j, j < n → f j < 65536) (c0 : cR h b n f at_ fp fs tm k ins) (ha : at_ ≤ 90) (hk : k ≤ 30) : mj_Wp 3 92 (0, [some (.ref (b + 36)), none], [], h) (mz_V fun r h' => ((∃ t a1, rTerm (chA n f) at_ = .inr (t, a1) ∧ r = .int (nI 1) ∧ cR h' b n f a1 fp fs (nI t) k ins) ∨ ∃ e, rTerm (chA n f) at_ = .inl e ∧ r = .int (nI 0) ∧ cF h' b n f e) ∧ mz_mo (cL b) 0 0 h h') := by
  have hB : b + 36 < mj_CB := by have : mj_CB = 1000000 := rfl; omega
  have hI : ∀ j, j < 30 → b + 6 + j < mj_CB := fun j hj => by have : mj_CB = 1000000 := rfl; omega
  have m0 : mz_mo (cL b) 0 0 h h := mz_mo.rf _ _ _ _
  refine s_aldn (p' := 1) rfl rfl rfl ?_
  refine s_callV (p' := 4) (ls0 := [_]) rfl rfl rfl rfl rfl (mj_rcv_is c0.1) rfl (x_sg bb hn hf c0 (by omega)) (by decide) rfl ?_
  refine s_callV (p' := 7) (ls0 := [_]) rfl rfl rfl rfl rfl rfl rfl (x_isv (chA_le hf _)) (by decide) rfl ?_
  by_cases q : vB (chA n f at_) = true
  · refine s_if (p' := 10) false rfl (by rw [q]; rfl) rfl ?_
    refine s_aldn (p' := 11) rfl rfl rfl ?_
    refine s_aldn (p' := 12) rfl rfl rfl ?_
    refine s_callV (p' := 15) (ls0 := [_]) rfl rfl rfl rfl rfl (mj_rcv_is c0.1) rfl (x_sg bb hn hf c0 (by omega)) (by decide) rfl ?_
    refine s_bip (p' := 17) rfl rfl ?_
    have q2 := vB_lt q
    refine s_sp (p' := 18) (ls' := _) rfl rfl rfl ?_
    rw [sgn_lt (by omega), mI_sub (by omega)]
    refine s_callV (p' := 21) (ls0 := [_]) rfl rfl rfl rfl rfl rfl rfl (x_tof (by omega)) (by decide) rfl ?_
    refine s_pf (p' := 24) (fs' := [_, _, _, _, _, _]) rfl hB c0.1 (Nat.blt_eq.mp rfl) rfl rfl rfl ?_
    generalize hg1 : List.set h (b + 36) _ = h1
    have c1 : cR h1 b n f at_ fp fs (nI (vT (chA n f at_ - 97))) k ins := by rw [← hg1]; exact c0.rd bb _ _ _ _
    have m1 : mz_mo (cL b) 0 0 h h1 := mo00 m0 (by rw [← hg1]; exact c0.rdm bb _ _ _ _)
    clear hg1
    refine s_aldn (p' := 25) rfl rfl rfl ?_
    refine s_sp (p' := 26) (ls' := _) rfl rfl rfl ?_
    refine s_gf (p' := 29) rfl c1.1 rfl rfl ?_
    refine s_con (p' := 30) rfl rfl ?_
    refine s_sp (p' := 31) (ls' := _) rfl rfl rfl ?_
    rw [mI_add]
    refine s_pf (p' := 34) (fs' := [_, _, _, _, _, _]) rfl hB c1.1 (Nat.blt_eq.mp rfl) rfl rfl rfl ?_
    generalize hg2 : List.set h1 (b + 36) _ = h2
    have c2 : cR h2 b n f (at_ + 1) fp fs (nI (vT (chA n f at_ - 97))) k ins := by rw [← hg2]; exact c1.rd bb _ _ _ _
    have m2 : mz_mo (cL b) 0 0 h h2 := mo00 m1 (by rw [← hg2]; exact c1.rdm bb _ _ _ _)
    clear hg2
    refine s_con (p' := 35) rfl rfl ?_
    refine s_iret rfl rfl ?_
    exact ⟨_, _, rfl, Or.inl ⟨_, _, if_pos q, rfl, c2⟩, m2⟩
  · refine s_if (p' := 36) true rfl (by rw [Bool.eq_false_iff.mpr q]; rfl) rfl ?_
    refine s_aldn (p' := 37) rfl rfl rfl ?_
    refine s_callV (p' := 40) (ls0 := [_]) rfl rfl rfl rfl rfl (mj_rcv_is c0.1) rfl (x_sg bb hn hf c0 (by omega)) (by decide) rfl ?_
    refine s_callV (p' := 43) (ls0 := [_]) rfl rfl rfl rfl rfl rfl rfl (x_isd (chA_le hf _)) (by decide) rfl ?_
    by_cases q3 : dB (chA n f at_) = true
    · refine s_if (p' := 57) true rfl (by rw [q3]; rfl) rfl ?_
      refine s_aldn (p' := 58) rfl rfl rfl ?_
      refine s_con (p' := 59) rfl rfl ?_
      refine s_pf (p' := 62) (fs' := [_, _, _, _, _, _]) rfl hB c0.1 (Nat.blt_eq.mp rfl) rfl rfl rfl ?_
      generalize hg1 : List.set h (b + 36) _ = h1
      have c1 : cR h1 b n f at_ fp fs (nI 0) k ins := by rw [← hg1]; exact c0.rd bb _ _ _ _
      have m1 : mz_mo (cL b) 0 0 h h1 := mo00 m0 (by rw [← hg1]; exact c0.rdm bb _ _ _ _)
      clear hg1
      refine s_con (p' := 63) rfl rfl ?_
      refine s_istn (p' := 64) (ls' := [_, _]) rfl rfl rfl rfl ?_
      refine (mj_Wp.mono (x_nuL bb hn hf 3 0 at_ 0 h1 (by omega) (by omega) c1) (by decide)).imp ?_
      rintro o ⟨r, h3, e, q1, q4, q5⟩
      exact ⟨r, h3, e, Or.inl ⟨_, _, by unfold rTerm; rw [if_neg q, if_pos q3], q1, q4⟩, mo00 m1 q5⟩
    · refine s_if (p' := 46) false rfl (by rw [Bool.eq_false_iff.mpr q3]; rfl) rfl ?_
      refine s_aldn (p' := 47) rfl rfl rfl ?_
      refine s_bip (p' := 49) rfl rfl ?_
      refine s_aldn (p' := 50) rfl rfl rfl ?_
      refine s_gf (p' := 53) rfl c0.1 rfl rfl ?_
      refine s_callEV (p' := 56) (ls0 := [_, _, _]) rfl rfl rfl rfl rfl (mj_rcv_is c0.1) rfl (x_fl bb hn hf c0 (by decide) hk) rfl rfl ?_
      rintro _ z ⟨rfl, z1, z2⟩
      replace z2 := mo00 m0 z2
      refine s_iret rfl rfl ?_
      exact ⟨_, _, rfl, Or.inr ⟨_, by unfold rTerm; rw [if_neg q, if_neg q3], rfl, z1⟩, z2⟩
theorem x_rst {h : mj_H} {a c : Nat} {x : Nat → Int32} (bA : a < mj_CB) (hA : mj_rd h a = some (inC x)) (hc : c < 65536) : mj_run 0 90 (0, [some (.ref a), some (.int (nI c))], [], h) (.inl none, h.set a (inC (fun q => nI (ac c 0 0 32 0 0 0 0 q)))) := by
  refine s_aldn (p' := 1) rfl rfl rfl ?_
  refine s_ildn (p' := 2) rfl rfl rfl ?_
  refine s_pf (p' := 5) (fs' := [_, _, _, _, _, _, _, _]) rfl bA hA (Nat.blt_eq.mp rfl) (chr_fit hc) rfl rfl ?_
  refine s_aldn (p' := 6) rfl rfl rfl ?_
  refine s_con (p' := 7) rfl rfl ?_
  refine s_pf (p' := 10) (fs' := [_, _, _, _, _, _, _, _]) rfl bA (rd_set bA hA) (Nat.blt_eq.mp rfl) rfl rfl rfl ?_
  rw [List.set_set]
  refine s_aldn (p' := 11) rfl rfl rfl ?_
  refine s_con (p' := 12) rfl rfl ?_
  refine s_pf (p' := 15) (fs' := [_, _, _, _, _, _, _, _]) rfl bA (rd_set bA hA) (Nat.blt_eq.mp rfl) rfl rfl rfl ?_
  rw [List.set_set]
  refine s_aldn (p' := 16) rfl rfl rfl ?_
  refine s_bip (p' := 18) rfl rfl ?_
  refine s_pf (p' := 21) (fs' := [_, _, _, _, _, _, _, _]) rfl bA (rd_set bA hA) (Nat.blt_eq.mp rfl) rfl rfl rfl ?_
  rw [List.set_set]
  refine s_aldn (p' := 22) rfl rfl rfl ?_
  refine s_con (p' := 23) rfl rfl ?_
  refine s_pf (p' := 26) (fs' := [_, _, _, _, _, _, _, _]) rfl bA (rd_set bA hA) (Nat.blt_eq.mp rfl) rfl rfl rfl ?_
  rw [List.set_set]
  refine s_aldn (p' := 27) rfl rfl rfl ?_
  refine s_con (p' := 28) rfl rfl ?_
  refine s_pf (p' := 31) (fs' := [_, _, _, _, _, _, _, _]) rfl bA (rd_set bA hA) (Nat.blt_eq.mp rfl) rfl rfl rfl ?_
  rw [List.set_set]
  refine s_aldn (p' := 32) rfl rfl rfl ?_
  refine s_con (p' := 33) rfl rfl ?_
  refine s_pf (p' := 36) (fs' := [_, _, _, _, _, _, _, _]) rfl bA (rd_set bA hA) (Nat.blt_eq.mp rfl) rfl rfl rfl ?_
  rw [List.set_set]
  refine s_aldn (p' := 37) rfl rfl rfl ?_
  refine s_con (p' := 38) rfl rfl ?_
  refine s_pf (p' := 41) (fs' := [_, _, _, _, _, _, _, _]) rfl bA (rd_set bA hA) (Nat.blt_eq.mp rfl) rfl rfl rfl ?_
  rw [List.set_set]
  exact s_ret rfl rfl
theorem x_add {h : mj_H} {b n at_ k : Nat} {f : Nat → Nat} {fp fs tm : Int32} {ins : Nat → Nat → Int32} (bb : b + 37 ≤ 414) (hn : n ≤ 60) (hf : ∀ j, j < n → f j < 65536) (c0 : cR h b n f at_ fp fs tm k ins) {s : Nat} (hk : k < 30) (hs : s < 65536) : mj_Wp 1 89 (0, [some (.ref (b + 3)), some (.int (nI s)), none], [], h) (mz_V fun r h' => r = .ref (b + 6 + k) ∧ cR h' b n f at_ fp fs tm (k + 1) (updI ins k (fun q => nI (ac s 0 0 32 0 0 0 0 q))) ∧ mz_mo (cL b) 0 0 h h') := by
  have hB : b + 36 < mj_CB := by have : mj_CB = 1000000 := rfl; omega
  have hI : ∀ j, j < 30 → b + 6 + j < mj_CB := fun j hj => by have : mj_CB = 1000000 := rfl; omega
  have m0 : mz_mo (cL b) 0 0 h h := mz_mo.rf _ _ _ _
  have ⟨rw, h1, h2⟩ := c0.2.2.2.1
  refine s_aldn (p' := 1) rfl rfl rfl ?_
  refine s_gf (p' := 4) rfl c0.2.2.1 rfl rfl ?_
  refine s_if (p' := 7) false rfl (cz_lt (by omega)) rfl ?_
  refine s_aldn (p' := 8) rfl rfl rfl ?_
  refine s_gf (p' := 11) rfl c0.2.2.1 rfl rfl ?_
  refine s_aldn (p' := 12) rfl rfl rfl ?_
  refine s_gf (p' := 15) rfl c0.2.2.1 rfl rfl ?_
  refine s_len (p' := 16) rfl (mj_rdA_is h1 (by decide)) (by decide) rfl ?_
  refine s_icmp (p' := 24) true rfl ((ci_lt (by omega) (by omega)).trans (decide_eq_true (by omega))) rfl ?_
  refine s_aldn (p' := 25) rfl rfl rfl ?_
  refine s_gf (p' := 28) rfl c0.2.2.1 rfl rfl ?_
  refine s_aldn (p' := 29) rfl rfl rfl ?_
  refine s_gf (p' := 32) rfl c0.2.2.1 rfl rfl ?_
  refine s_aal (p' := 33) rfl (mj_rdA_is h1 (by decide)) (by decide) (inb_nI (by omega) (by omega)) rfl ?_
  rw [mI_cl (by omega), h2 k hk, show va_rf (some (b + 6 + k)) = .ref (b + 6 + k) from rfl]
  refine s_astn (p' := 34) (ls' := [_, _, _]) rfl rfl rfl rfl ?_
  refine s_aldn (p' := 35) rfl rfl rfl ?_
  refine s_ildn (p' := 36) rfl rfl rfl ?_
  refine s_callN (p' := 39) (ls0 := [_, _]) rfl rfl rfl rfl rfl (mj_rcv_is (c0.2.2.2.2 k hk)) rfl (x_rst (hI k hk) (c0.2.2.2.2 k hk) hs) (by decide) rfl ?_
  generalize hg1 : List.set h (b + 6 + k) _ = h1
  have c1 : cR h1 b n f at_ fp fs tm k (updI ins k (fun q => nI (ac s 0 0 32 0 0 0 0 q))) := by rw [← hg1]; exact c0.in bb hk ((fun q => nI (ac s 0 0 32 0 0 0 0 q)))
  have m1 : mz_mo (cL b) 0 0 h h1 := mo00 m0 (by rw [← hg1]; exact c0.inm bb hk ((fun q => nI (ac s 0 0 32 0 0 0 0 q))))
  clear hg1
  refine s_aldn (p' := 40) rfl rfl rfl ?_
  refine s_sp (p' := 41) (ls' := _) rfl rfl rfl ?_
  refine s_gf (p' := 44) rfl c1.2.2.1 rfl rfl ?_
  refine s_con (p' := 45) rfl rfl ?_
  refine s_sp (p' := 46) (ls' := _) rfl rfl rfl ?_
  rw [mI_add]
  refine s_pf (p' := 49) (fs' := [_, _, _]) rfl (by omega) c1.2.2.1 (Nat.blt_eq.mp rfl) rfl rfl rfl ?_
  generalize hg2 : List.set h1 (b + 3) _ = h2
  have c2 : cR h2 b n f at_ fp fs tm (k + 1) (updI ins k (fun q => nI (ac s 0 0 32 0 0 0 0 q))) := by rw [← hg2]; exact c1.cd bb _
  have m2 : mz_mo (cL b) 0 0 h h2 := mo00 m1 (by rw [← hg2]; exact c1.cdm bb _)
  clear hg2
  refine s_aldn (p' := 50) rfl rfl rfl ?_
  refine s_aret rfl ?_
  exact ⟨_, _, rfl, rfl, c2, m2⟩
