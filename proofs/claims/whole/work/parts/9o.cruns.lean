/-! The class runs: whole runs. -/
theorem x_edg {h : mj_H} {R S p l c : Nat} {w : Bool} {cp cl : Nat → Nat} {cw : Nat → Bool} {z : CZ} (bR : R + 6 < mj_CB) (hR : cRn h R S (p, l, c, w, cp, cl, cw) z) {np : Nat} {K : Nat → Nat} {X : Nat → Nat → Nat → Nat} (hl : cLb h np K X) (hp : p < np) (hk : K p ≤ 30) (hll : l ≤ 30) : mj_run 1 19 (0, [some (.ref R)], [], h) (.inl (some (.int (nI (bN (edg K (p, l, c, w, cp, cl, cw)))))), h) := by
  cases w with
  | true =>
    refine s_aldn (p' := 1) rfl rfl rfl ?_
    refine s_gf (p' := 4) rfl hR.c1 rfl rfl ?_
    refine s_if (p' := 7) false rfl (by decide +kernel) rfl ?_
    refine s_aldn (p' := 8) rfl rfl rfl ?_
    refine s_gf (p' := 11) rfl hR.c1 rfl rfl ?_
    refine s_aldn (p' := 12) rfl rfl rfl ?_
    refine s_gf (p' := 15) rfl hR.c1 rfl rfl ?_
    refine s_aldn (p' := 16) rfl rfl rfl ?_
    refine s_gf (p' := 19) rfl hR.c1 rfl rfl ?_
    refine s_callV (p' := 22) (ls0 := [_, _]) rfl rfl rfl rfl rfl (mj_rcv_is hl.2.1) rfl (x_lcd hl hp) (by first | decide | omega) rfl ?_
    refine s_callV (p' := 25) (ls0 := [_]) rfl rfl rfl rfl rfl (mj_rcv_is (hl.2.2.2 p hp).2.1) rfl (x_lct hl hp) (by first | decide | omega) rfl ?_
    by_cases q : K p ≤ l
    · refine s_icmp (p' := 28) false rfl ((ci_lt (by omega) (by omega)).trans (decide_eq_false (by omega))) rfl ?_
      refine s_con (p' := 29) rfl rfl ?_
      refine s_goto (p' := 48) rfl rfl ?_
      exact s_iret rfl rfl (by show _ = (Sum.inl (some (Value.int (nI (bN (decide (K p ≤ l)))))), h); rw [decide_eq_true q]; rfl)
    · refine s_icmp (p' := 32) true rfl ((ci_lt (by omega) (by omega)).trans (decide_eq_true (by omega))) rfl ?_
      refine s_con (p' := 33) rfl rfl ?_
      refine s_goto (p' := 48) rfl rfl ?_
      exact s_iret rfl rfl (by show _ = (Sum.inl (some (Value.int (nI (bN (decide (K p ≤ l)))))), h); rw [decide_eq_false q]; rfl)
  | false =>
    refine s_aldn (p' := 1) rfl rfl rfl ?_
    refine s_gf (p' := 4) rfl hR.c1 rfl rfl ?_
    refine s_if (p' := 36) true rfl (by decide +kernel) rfl ?_
    refine s_aldn (p' := 37) rfl rfl rfl ?_
    refine s_gf (p' := 40) rfl hR.c1 rfl rfl ?_
    by_cases q : l ≤ 0
    · refine s_if (p' := 43) false rfl ((cz_gt (by omega)).trans (decide_eq_false (by omega))) rfl ?_
      refine s_con (p' := 44) rfl rfl ?_
      refine s_goto (p' := 48) rfl rfl ?_
      exact s_iret rfl rfl (by show _ = (Sum.inl (some (Value.int (nI (bN (decide (l ≤ 0)))))), h); rw [decide_eq_true q]; rfl)
    · refine s_if (p' := 47) true rfl ((cz_gt (by omega)).trans (decide_eq_true (by omega))) rfl ?_
      refine s_con (p' := 48) rfl rfl ?_
      exact s_iret rfl rfl (by show _ = (Sum.inl (some (Value.int (nI (bN (decide (l ≤ 0)))))), h); rw [decide_eq_false q]; rfl)
theorem x_edd {h : mj_H} {R S p l c : Nat} {w : Bool} {cp cl : Nat → Nat} {cw : Nat → Bool} {z : CZ} (bR : R + 6 < mj_CB) (hR : cRn h R S (p, l, c, w, cp, cl, cw) z) {np : Nat} {K : Nat → Nat} {X : Nat → Nat → Nat → Nat} (hl : cLb h np K X) (hp : p < np) (hk : K p ≤ 30) (hll : l ≤ 30) (hc : c ≤ 20) : mj_run 2 18 (0, [some (.ref R)], [], h) (.inl (some (.int (nI (bN (edd K (p, l, c, w, cp, cl, cw)))))), h) := by
  refine s_aldn (p' := 1) rfl rfl rfl ?_
  refine s_gf (p' := 4) rfl hR.c1 rfl rfl ?_
  by_cases q : c = 0
  · refine s_if (p' := 7) false rfl ((cz_ne (by omega)).trans (decide_eq_false (fun e => e q))) rfl ?_
    refine s_aldn (p' := 8) rfl rfl rfl ?_
    refine s_callV (p' := 11) (ls0 := [_]) rfl rfl rfl rfl rfl (mj_rcv_is hR.c1) rfl (x_edg bR hR hl hp hk hll) (by first | decide | omega) rfl ?_
    by_cases q2 : edg K (p, l, c, w, cp, cl, cw) = true
    · refine s_if (p' := 14) false rfl (by rw [q2]; rfl) rfl ?_
      refine s_con (p' := 15) rfl rfl ?_
      refine s_goto (p' := 19) rfl rfl ?_
      exact s_iret rfl rfl (by unfold edd; rw [q2, show decide ((p, l, c, w, cp, cl, cw).2.2.1 = 0) = true from decide_eq_true q]; rfl)
    · refine s_if (p' := 18) true rfl (by rw [Bool.eq_false_iff.mpr q2]; rfl) rfl ?_
      refine s_con (p' := 19) rfl rfl ?_
      exact s_iret rfl rfl (by unfold edd; rw [Bool.eq_false_iff.mpr q2, Bool.and_false]; rfl)
  · refine s_if (p' := 18) true rfl ((cz_ne (by omega)).trans (decide_eq_true q)) rfl ?_
    refine s_con (p' := 19) rfl rfl ?_
    exact s_iret rfl rfl (by unfold edd; rw [show decide ((p, l, c, w, cp, cl, cw).2.2.1 = 0) = false from decide_eq_false q]; rfl)
theorem x_cbL {R S np : Nat} {z : CZ} {K : Nat → Nat} {X : Nat → Nat → Nat → Nat} (bR : R + 6 < mj_CB) (hR3 : 336 ≤ R) (hK : ∀ p, p < np → K p ≤ 30) : ∀ (d i : Nat) (r : SR) (h : mj_H) (l2 : Option Value), d + i = 20 → wfR np K r → cLb h np K X → cRn h R S r z → mj_Wp 2 161 (2, [some (.ref R), some (.int (nI i)), l2], [], h) (mz_N fun h' => cRn h' R S (cbk K d r) z ∧ mz_mo [R] 0 0 h h')
  | 0, i, r, h, l2, hi, hw, hl, hR => by
    obtain rfl : i = 20 := by omega
    refine s_ildn (p' := 3) rfl rfl rfl ?_
    refine s_bip (p' := 5) rfl rfl ?_
    refine s_icmp (p' := 97) true rfl ((ci_ge (by omega) (by omega)).trans (decide_eq_true (by omega))) rfl ?_
    refine s_ret rfl ?_
    exact ⟨_, rfl, hR, mz_mo.rf _ _ _ _⟩
  | d + 1, i, r, h, l2, hi, hw, hl, hR => by
    have ih := x_cbL bR hR3 hK d (i + 1)
    have hw0 := hw
    obtain ⟨p, l, c, w, cp, cl, cw⟩ := r
    obtain ⟨h1, h2, h3, h4⟩ := hw
    have hk := hK p h1
    have hcb : cbk K (d + 1) (p, l, c, w, cp, cl, cw) = if 0 < c ∧ edg K (p, l, c, w, cp, cl, cw) = true then cbk K d (pop_ (p, l, c, w, cp, cl, cw)) else (p, l, c, w, cp, cl, cw) := rfl
    refine s_ildn (p' := 3) rfl rfl rfl ?_
    refine s_bip (p' := 5) rfl rfl ?_
    refine s_icmp (p' := 8) false rfl ((ci_ge (by omega) (by omega)).trans (decide_eq_false (by omega))) rfl ?_
    refine s_aldn (p' := 9) rfl rfl rfl ?_
    refine s_gf (p' := 12) rfl hR.c1 rfl rfl ?_
    by_cases q0 : c = 0
    · refine s_if (p' := 97) true rfl ((cz_le (by omega)).trans (decide_eq_true (by omega))) rfl ?_
      refine s_ret rfl ?_
      rw [if_neg (fun e => absurd e.1 (by omega))] at hcb
      exact ⟨_, rfl, by rw [hcb]; exact hR, mz_mo.rf _ _ _ _⟩
    · refine s_if (p' := 15) false rfl ((cz_le (by omega)).trans (decide_eq_false (by omega))) rfl ?_
      refine s_aldn (p' := 16) rfl rfl rfl ?_
      refine s_callV (p' := 19) (ls0 := [_]) rfl rfl rfl rfl rfl (mj_rcv_is hR.c1) rfl (x_edg bR hR hl h1 hk (by omega)) (by first | decide | omega) rfl ?_
      by_cases qe : edg K (p, l, c, w, cp, cl, cw) = true
      · refine s_if (p' := 22) false rfl (by rw [qe]; rfl) rfl ?_
        obtain ⟨k0, ⟨⟨f1, a1, b1⟩, ⟨f2, a2, b2⟩, f3, a3, b3, b4⟩, _⟩ := id hR
        dsimp only at b1 b2 b4
        have h5 := h4 (c - 1) (by omega)
        refine s_aldn (p' := 23) rfl rfl rfl ?_
        refine s_gf (p' := 26) rfl hR.c1 rfl rfl ?_
        refine s_con (p' := 27) rfl rfl ?_
        refine s_sp (p' := 28) (ls' := _) rfl rfl rfl ?_
        rw [mI_sub (by omega)]
        refine s_istn (p' := 29) (ls' := [_, _, _]) rfl rfl rfl rfl ?_
        refine s_ildn (p' := 30) rfl rfl rfl ?_
        refine s_aldn (p' := 31) rfl rfl rfl ?_
        refine s_gf (p' := 34) rfl hR.c1 rfl rfl ?_
        refine s_len (p' := 35) rfl (mj_rdA_is a1 (by decide)) (by decide) rfl ?_
        refine s_icmp (p' := 38) false rfl ((ci_ge (by omega) (by omega)).trans (decide_eq_false (by omega))) rfl ?_
        refine s_aldn (p' := 39) rfl rfl rfl ?_
        refine s_aldn (p' := 40) rfl rfl rfl ?_
        refine s_gf (p' := 43) rfl hR.c1 rfl rfl ?_
        refine s_ildn (p' := 44) rfl rfl rfl ?_
        refine s_ial (p' := 45) rfl a1 (inb_nI (by omega) (by omega)) rfl ?_
        rw [mI_cl (by omega), b1 (c - 1) (by omega)]
        refine s_pf (p' := 48) (fs' := [_, _, _, _, _, _, _, _, _, _, _, _, _]) rfl (by omega) hR.c1 (Nat.blt_eq.mp rfl) rfl rfl rfl ?_
        generalize hg1 : List.set h R _ = h1_
        have r1 : cRn h1_ R S (cp (c - 1), l, c, w, cp, cl, cw) z := by rw [← hg1]; exact hR.rs bR (cp (c - 1)) (l) (c) (w) (Nat.le_refl _)
        have m1 : mz_mo [R] 0 0 h h1_ := by rw [← hg1]; exact mo_R bR hR rfl
        clear hg1
        refine s_aldn (p' := 49) rfl rfl rfl ?_
        refine s_aldn (p' := 50) rfl rfl rfl ?_
        refine s_gf (p' := 53) rfl r1.c1 rfl rfl ?_
        refine s_ildn (p' := 54) rfl rfl rfl ?_
        refine s_bal2 (p' := 55) rfl (m1.1 _ (by simp only [List.mem_cons, List.not_mem_nil, or_false]; omega) _ a3) (inb_nI (by omega) (by omega)) rfl ?_
        rw [mI_cl (by omega), b4 (c - 1) (by omega)]
        refine s_pf (p' := 58) (fs' := [_, _, _, _, _, _, _, _, _, _, _, _, _]) rfl (by omega) r1.c1 (Nat.blt_eq.mp rfl) (bz_fit _) rfl rfl ?_
        generalize hg2 : List.set h1_ R _ = h2_
        have r2 : cRn h2_ R S (cp (c - 1), l, c, cw (c - 1), cp, cl, cw) z := by rw [← hg2]; exact r1.rs bR (cp (c - 1)) (l) (c) (cw (c - 1)) (Nat.le_refl _)
        have m2 : mz_mo [R] 0 0 h h2_ := by rw [← hg2]; exact mo00 m1 (mo_R bR r1 rfl)
        clear hg2
        refine s_aldn (p' := 59) rfl rfl rfl ?_
        refine s_aldn (p' := 60) rfl rfl rfl ?_
        refine s_gf (p' := 63) rfl r2.c1 rfl rfl ?_
        by_cases qw : cw (c - 1) = true
        · refine s_if (p' := 66) false rfl (by rw [qw]; rfl) rfl ?_
          refine s_aldn (p' := 67) rfl rfl rfl ?_
          refine s_gf (p' := 70) rfl r2.c1 rfl rfl ?_
          refine s_ildn (p' := 71) rfl rfl rfl ?_
          refine s_ial (p' := 72) rfl (m2.1 _ (by simp only [List.mem_cons, List.not_mem_nil, or_false]; omega) _ a2) (inb_nI (by omega) (by omega)) rfl ?_
          rw [mI_cl (by omega), b2 (c - 1) (by omega)]
          refine s_con (p' := 73) rfl rfl ?_
          refine s_sp (p' := 74) (ls' := _) rfl rfl rfl ?_
          rw [mI_add]
          refine s_goto (p' := 83) rfl rfl ?_
          refine s_pf (p' := 86) (fs' := [_, _, _, _, _, _, _, _, _, _, _, _, _]) rfl (by omega) r2.c1 (Nat.blt_eq.mp rfl) rfl rfl rfl ?_
          generalize hg3 : List.set h2_ R _ = h3_
          have r3 : cRn h3_ R S (cp (c - 1), cl (c - 1) + 1, c, cw (c - 1), cp, cl, cw) z := by rw [← hg3]; exact r2.rs bR (cp (c - 1)) (cl (c - 1) + 1) (c) (cw (c - 1)) (Nat.le_refl _)
          have m3 : mz_mo [R] 0 0 h h3_ := by rw [← hg3]; exact mo00 m2 (mo_R bR r2 rfl)
          clear hg3
          refine s_aldn (p' := 87) rfl rfl rfl ?_
          refine s_ildn (p' := 88) rfl rfl rfl ?_
          refine s_pf (p' := 91) (fs' := [_, _, _, _, _, _, _, _, _, _, _, _, _]) rfl (by omega) r3.c1 (Nat.blt_eq.mp rfl) rfl rfl rfl ?_
          generalize hg4 : List.set h3_ R _ = h4_
          have r4 : cRn h4_ R S (cp (c - 1), cl (c - 1) + 1, c - 1, cw (c - 1), cp, cl, cw) z := by rw [← hg4]; exact r3.rs bR (cp (c - 1)) (cl (c - 1) + 1) (c - 1) (cw (c - 1)) (by omega)
          have m4 : mz_mo [R] 0 0 h h4_ := by rw [← hg4]; exact mo00 m3 (mo_R bR r3 rfl)
          clear hg4
          refine s_inc (p' := 94) (ls' := [_, _, _]) rfl rfl rfl rfl rfl ?_
          rw [mI_add]
          refine s_goto (p' := 2) rfl rfl ?_
          rw [if_pos ⟨by omega, qe⟩, show pop_ (p, l, c, w, cp, cl, cw) = (cp (c - 1), cl (c - 1) + 1, c - 1, cw (c - 1), cp, cl, cw) by unfold pop_; rw [if_pos qw]] at hcb
          rw [hcb]
          have hw4 := pop_wf hw0 (show 0 < c by omega)
          rw [show pop_ (p, l, c, w, cp, cl, cw) = (cp (c - 1), cl (c - 1) + 1, c - 1, cw (c - 1), cp, cl, cw) by unfold pop_; rw [if_pos qw]] at hw4
          exact (ih _ h4_ _ (by omega) hw4 (hl.fr m4.1 (fun x hx => by rw [List.mem_singleton.mp hx]; exact hR3)) r4).imp fun o ho => by
            obtain ⟨h', e, q1, q2⟩ := ho
            exact ⟨h', e, q1, mo00 m4 q2⟩
        · refine s_if (p' := 77) true rfl (by rw [Bool.eq_false_iff.mpr qw]; rfl) rfl ?_
          refine s_aldn (p' := 78) rfl rfl rfl ?_
          refine s_gf (p' := 81) rfl r2.c1 rfl rfl ?_
          refine s_ildn (p' := 82) rfl rfl rfl ?_
          refine s_ial (p' := 83) rfl (m2.1 _ (by simp only [List.mem_cons, List.not_mem_nil, or_false]; omega) _ a2) (inb_nI (by omega) (by omega)) rfl ?_
          rw [mI_cl (by omega), b2 (c - 1) (by omega)]
          refine s_pf (p' := 86) (fs' := [_, _, _, _, _, _, _, _, _, _, _, _, _]) rfl (by omega) r2.c1 (Nat.blt_eq.mp rfl) rfl rfl rfl ?_
          generalize hg3 : List.set h2_ R _ = h3_
          have r3 : cRn h3_ R S (cp (c - 1), cl (c - 1), c, cw (c - 1), cp, cl, cw) z := by rw [← hg3]; exact r2.rs bR (cp (c - 1)) (cl (c - 1)) (c) (cw (c - 1)) (Nat.le_refl _)
          have m3 : mz_mo [R] 0 0 h h3_ := by rw [← hg3]; exact mo00 m2 (mo_R bR r2 rfl)
          clear hg3
          refine s_aldn (p' := 87) rfl rfl rfl ?_
          refine s_ildn (p' := 88) rfl rfl rfl ?_
          refine s_pf (p' := 91) (fs' := [_, _, _, _, _, _, _, _, _, _, _, _, _]) rfl (by omega) r3.c1 (Nat.blt_eq.mp rfl) rfl rfl rfl ?_
          generalize hg4 : List.set h3_ R _ = h4_
          have r4 : cRn h4_ R S (cp (c - 1), cl (c - 1), c - 1, cw (c - 1), cp, cl, cw) z := by rw [← hg4]; exact r3.rs bR (cp (c - 1)) (cl (c - 1)) (c - 1) (cw (c - 1)) (by omega)
          have m4 : mz_mo [R] 0 0 h h4_ := by rw [← hg4]; exact mo00 m3 (mo_R bR r3 rfl)
          clear hg4
          refine s_inc (p' := 94) (ls' := [_, _, _]) rfl rfl rfl rfl rfl ?_
          rw [mI_add]
          refine s_goto (p' := 2) rfl rfl ?_
          rw [if_pos ⟨by omega, qe⟩, show pop_ (p, l, c, w, cp, cl, cw) = (cp (c - 1), cl (c - 1), c - 1, cw (c - 1), cp, cl, cw) by unfold pop_; rw [if_neg qw]] at hcb
          rw [hcb]
          have hw4 := pop_wf hw0 (show 0 < c by omega)
          rw [show pop_ (p, l, c, w, cp, cl, cw) = (cp (c - 1), cl (c - 1), c - 1, cw (c - 1), cp, cl, cw) by unfold pop_; rw [if_neg qw]] at hw4
          exact (ih _ h4_ _ (by omega) hw4 (hl.fr m4.1 (fun x hx => by rw [List.mem_singleton.mp hx]; exact hR3)) r4).imp fun o ho => by
            obtain ⟨h', e, q1, q2⟩ := ho
            exact ⟨h', e, q1, mo00 m4 q2⟩
      · refine s_if (p' := 97) true rfl (by rw [Bool.eq_false_iff.mpr qe]; rfl) rfl ?_
        refine s_ret rfl ?_
        rw [if_neg (fun e => qe e.2)] at hcb
        exact ⟨_, rfl, by rw [hcb]; exact hR, mz_mo.rf _ _ _ _⟩
theorem x_cbk {h : mj_H} {R S np : Nat} {z : CZ} {K : Nat → Nat} {X : Nat → Nat → Nat → Nat} {r : SR} (bR : R + 6 < mj_CB) (hR3 : 336 ≤ R) (hK : ∀ p, p < np → K p ≤ 30) (hw : wfR np K r) (hl : cLb h np K X) (hR : cRn h R S r z) : mj_Wp 2 161 (0, [some (.ref R), none, none], [], h) (mz_N fun h' => cRn h' R S (cbk K 20 r) z ∧ mz_mo [R] 0 0 h h') := by
  refine s_con (p' := 1) rfl rfl ?_
  refine s_istn (p' := 2) (ls' := [_, _, _]) rfl rfl rfl rfl ?_
  exact x_cbL bR hR3 hK 20 0 r h _ rfl hw hl hR
