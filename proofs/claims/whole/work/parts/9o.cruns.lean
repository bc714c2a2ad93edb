/-! The class runs: whole runs. -/
theorem bz_fit (b : Bool) : mj_fit .boolean (.int (nI (bN b))) = true := by
  cases b <;> decide +kernel
theorem pop_t {p l c : Nat} {w : Bool} {cp cl : Nat → Nat} {cw : Nat → Bool} (h : cw (c - 1) = true) : pop_ (p, l, c, w, cp, cl, cw) = (cp (c - 1), cl (c - 1) + 1, c - 1, cw (c - 1), cp, cl, cw) := by
  show (cp (c - 1), (if cw (c - 1) = true then cl (c - 1) + 1 else cl (c - 1)), c - 1, cw (c - 1), cp, cl, cw) = _
  rw [if_pos h]
theorem pop_f {p l c : Nat} {w : Bool} {cp cl : Nat → Nat} {cw : Nat → Bool} (h : ¬ cw (c - 1) = true) : pop_ (p, l, c, w, cp, cl, cw) = (cp (c - 1), cl (c - 1), c - 1, cw (c - 1), cp, cl, cw) := by
  show (cp (c - 1), (if cw (c - 1) = true then cl (c - 1) + 1 else cl (c - 1)), c - 1, cw (c - 1), cp, cl, cw) = _
  rw [if_neg h]
theorem x_edg {h : mj_H} {R S p l c : Nat} {w : Bool} {cp cl : Nat → Nat} {cw : Nat → Bool} {z : CZ} (bR : R + 6 < mj_CB) (hR : cRn h R S (p, l, c, w, cp, cl, cw) z) {np : Nat} {K : Nat → Nat} {X : Nat → Nat → Nat → Nat} (hl : cLb h np K X) (hp : p < np) (hk : K p ≤ 30) (hll : l ≤ 30) : mj_run 1 19 (0, [some (.ref R)], [], h) (.inl (some (.int (nI (bN (edg K (p, l, c, w, cp, cl, cw)))))), h) := by
  cases w with
  | true =>
    refine s_aldn (p' := 1) rfl rfl rfl ?_
    refine s_gf (p' := 4) rfl hR.c1 rfl rfl ?_
    refine s_if (p' := 7) false rfl (by decide +kernel) rfl ?_
    refine s_aldn (p' := 8) rfl rfl rfl ?_
    refine s_gf (p' := 11) rfl hR.c1 rfl rfl ?_
    refine s_aldn (p' := 12) rfl rfl rfl ?_
    refine s_gf (p' := 15) rfl hR.c1 rfl rfl ?_
    refine s_aldn (p' := 16) rfl rfl rfl ?_
    refine s_gf (p' := 19) rfl hR.c1 rfl rfl ?_
    refine s_callV (p' := 22) (ls0 := [_, _]) rfl rfl rfl rfl rfl (mj_rcv_is hl.2.1) rfl (x_lcd hl hp) (by first | decide | omega) rfl ?_
    refine s_callV (p' := 25) (ls0 := [_]) rfl rfl rfl rfl rfl (mj_rcv_is (hl.2.2.2 p hp).2.1) rfl (x_lct hl hp) (by first | decide | omega) rfl ?_
    by_cases q : K p ≤ l
    · refine s_icmp (p' := 28) false rfl ((ci_lt (by omega) (by omega)).trans (decide_eq_false (by omega))) rfl ?_
      refine s_con (p' := 29) rfl rfl ?_
      refine s_goto (p' := 48) rfl rfl ?_
      exact s_iret rfl rfl (by show _ = (Sum.inl (some (Value.int (nI (bN (decide (K p ≤ l)))))), h); rw [decide_eq_true q]; rfl)
    · refine s_icmp (p' := 32) true rfl ((ci_lt (by omega) (by omega)).trans (decide_eq_true (by omega))) rfl ?_
      refine s_con (p' := 33) rfl rfl ?_
      refine s_goto (p' := 48) rfl rfl ?_
      exact s_iret rfl rfl (by show _ = (Sum.inl (some (Value.int (nI (bN (decide (K p ≤ l)))))), h); rw [decide_eq_false q]; rfl)
  | false =>
    refine s_aldn (p' := 1) rfl rfl rfl ?_
    refine s_gf (p' := 4) rfl hR.c1 rfl rfl ?_
    refine s_if (p' := 36) true rfl (by decide +kernel) rfl ?_
    refine s_aldn (p' := 37) rfl rfl rfl ?_
    refine s_gf (p' := 40) rfl hR.c1 rfl rfl ?_
    by_cases q : l ≤ 0
    · refine s_if (p' := 43) false rfl ((cz_gt (by omega)).trans (decide_eq_false (by omega))) rfl ?_
      refine s_con (p' := 44) rfl rfl ?_
      refine s_goto (p' := 48) rfl rfl ?_
      exact s_iret rfl rfl (by show _ = (Sum.inl (some (Value.int (nI (bN (decide (l ≤ 0)))))), h); rw [decide_eq_true q]; rfl)
    · refine s_if (p' := 47) true rfl ((cz_gt (by omega)).trans (decide_eq_true (by omega))) rfl ?_
      refine s_con (p' := 48) rfl rfl ?_
      exact s_iret rfl rfl (by show _ = (Sum.inl (some (Value.int (nI (bN (decide (l ≤ 0)))))), h); rw [decide_eq_false q]; rfl)
theorem x_edd {h : mj_H} {R S p l c : Nat} {w : Bool} {cp cl : Nat → Nat} {cw : Nat → Bool} {z : CZ} (bR : R + 6 < mj_CB) (hR : cRn h R S (p, l, c, w, cp, cl, cw) z) {np : Nat} {K : Nat → Nat} {X : Nat → Nat → Nat → Nat} (hl : cLb h np K X) (hp : p < np) (hk : K p ≤ 30) (hll : l ≤ 30) (hc : c ≤ 20) : mj_run 2 18 (0, [some (.ref R)], [], h) (.inl (some (.int (nI (bN (edd K (p, l, c, w, cp, cl, cw)))))), h) := by
  refine s_aldn (p' := 1) rfl rfl rfl ?_
  refine s_gf (p' := 4) rfl hR.c1 rfl rfl ?_
  by_cases q : c = 0
  · refine s_if (p' := 7) false rfl ((cz_ne (by omega)).trans (decide_eq_false (fun e => e q))) rfl ?_
    refine s_aldn (p' := 8) rfl rfl rfl ?_
    refine s_callV (p' := 11) (ls0 := [_]) rfl rfl rfl rfl rfl (mj_rcv_is hR.c1) rfl (x_edg bR hR hl hp hk hll) (by first | decide | omega) rfl ?_
    by_cases q2 : edg K (p, l, c, w, cp, cl, cw) = true
    · refine s_if (p' := 14) false rfl (by rw [q2]; rfl) rfl ?_
      refine s_con (p' := 15) rfl rfl ?_
      refine s_goto (p' := 19) rfl rfl ?_
      exact s_iret rfl rfl (by unfold edd; rw [q2, show decide ((p, l, c, w, cp, cl, cw).2.2.1 = 0) = true from decide_eq_true q]; rfl)
    · refine s_if (p' := 18) true rfl (by rw [Bool.eq_false_iff.mpr q2]; rfl) rfl ?_
      refine s_con (p' := 19) rfl rfl ?_
      exact s_iret rfl rfl (by unfold edd; rw [Bool.eq_false_iff.mpr q2, Bool.and_false]; rfl)
  · refine s_if (p' := 18) true rfl ((cz_ne (by omega)).trans (decide_eq_true q)) rfl ?_
    refine s_con (p' := 19) rfl rfl ?_
    exact s_iret rfl rfl (by unfold edd; rw [show decide ((p, l, c, w, cp, cl, cw).2.2.1 = 0) = false from decide_eq_false q]; rfl)
theorem x_cbL {R S np : Nat} {z : CZ} {K : Nat → Nat} {X : Nat → Nat → Nat → Nat} (bR : R + 6 < mj_CB) (hR3 : 336 ≤ R) (hK : ∀ p, p < np → K p ≤ 30) : ∀ (d i : Nat) (r : SR) (h : mj_H) (l2 : Option Value), d + i = 20 → wfR np K r → cLb h np K X → cRn h R S r z → mj_Wp 2 161 (2, [some (.ref R), some (.int (nI i)), l2], [], h) (mz_N fun h' => cRn h' R S (cbk K d r) z ∧ mz_mo [R] 0 0 h h')
  | 0, i, r, h, l2, hi, hw, hl, hR => by
    obtain rfl : i = 20 := by omega
    refine s_ildn (p' := 3) rfl rfl rfl ?_
    refine s_bip (p' := 5) rfl rfl ?_
    refine s_icmp (p' := 97) true rfl ((ci_ge (by omega) (by omega)).trans (decide_eq_true (by omega))) rfl ?_
    refine s_ret rfl ?_
    exact ⟨_, rfl, hR, mz_mo.rf _ _ _ _⟩
  | d + 1, i, r, h, l2, hi, hw, hl, hR => by
    have ih := x_cbL (S := S) (z := z) (X := X) bR hR3 hK d (i + 1)
    have hw0 := hw
    obtain ⟨p, l, c, w, cp, cl, cw⟩ := r
    obtain ⟨h1, h2, h3, h4⟩ := hw
    have hk := hK p h1
    have hcb : cbk K (d + 1) (p, l, c, w, cp, cl, cw) = if 0 < c ∧ edg K (p, l, c, w, cp, cl, cw) = true then cbk K d (pop_ (p, l, c, w, cp, cl, cw)) else (p, l, c, w, cp, cl, cw) := rfl
    refine s_ildn (p' := 3) rfl rfl rfl ?_
    refine s_bip (p' := 5) rfl rfl ?_
    refine s_icmp (p' := 8) false rfl ((ci_ge (by omega) (by omega)).trans (decide_eq_false (by omega))) rfl ?_
    refine s_aldn (p' := 9) rfl rfl rfl ?_
    refine s_gf (p' := 12) rfl hR.c1 rfl rfl ?_
    by_cases q0 : c = 0
    · refine s_if (p' := 97) true rfl ((cz_le (by omega)).trans (decide_eq_true (by omega))) rfl ?_
      refine s_ret rfl ?_
      rw [if_neg (fun e => absurd e.1 (by omega))] at hcb
      exact ⟨_, rfl, by rw [hcb]; exact hR, mz_mo.rf _ _ _ _⟩
    · refine s_if (p' := 15) false rfl ((cz_le (by omega)).trans (decide_eq_false (by omega))) rfl ?_
      refine s_aldn (p' := 16) rfl rfl rfl ?_
      refine s_callV (p' := 19) (ls0 := [_]) rfl rfl rfl rfl rfl (mj_rcv_is hR.c1) rfl (x_edg bR hR hl h1 hk (by omega)) (by first | decide | omega) rfl ?_
      by_cases qe : edg K (p, l, c, w, cp, cl, cw) = true
      · refine s_if (p' := 22) false rfl (by rw [qe]; rfl) rfl ?_
        obtain ⟨k0, ⟨⟨f1, a1, b1⟩, ⟨f2, a2, b2⟩, f3, a3, b3, b4⟩, _⟩ := id hR
        dsimp only at b1 b2 b4
        have h5 := h4 (c - 1) (by omega)
        refine s_aldn (p' := 23) rfl rfl rfl ?_
        refine s_gf (p' := 26) rfl hR.c1 rfl rfl ?_
        refine s_con (p' := 27) rfl rfl ?_
        refine s_sp (p' := 28) (ls' := _) rfl rfl rfl ?_
        rw [mI_sub (by omega)]
        refine s_istn (p' := 29) (ls' := [_, _, _]) rfl rfl rfl rfl ?_
        refine s_ildn (p' := 30) rfl rfl rfl ?_
        refine s_aldn (p' := 31) rfl rfl rfl ?_
        refine s_gf (p' := 34) rfl hR.c1 rfl rfl ?_
        refine s_len (p' := 35) rfl (mj_rdA_is a1 (by decide)) (by decide) rfl ?_
        refine s_icmp (p' := 38) false rfl ((ci_ge (by omega) (by omega)).trans (decide_eq_false (by omega))) rfl ?_
        refine s_aldn (p' := 39) rfl rfl rfl ?_
        refine s_aldn (p' := 40) rfl rfl rfl ?_
        refine s_gf (p' := 43) rfl hR.c1 rfl rfl ?_
        refine s_ildn (p' := 44) rfl rfl rfl ?_
        refine s_ial (p' := 45) rfl a1 (inb_nI (by omega) (by omega)) rfl ?_
        rw [mI_cl (by omega), b1 (c - 1) (by omega)]
        refine s_pf (p' := 48) (fs' := [_, _, _, _, _, _, _, _, _, _, _, _, _]) rfl (by omega) hR.c1 (Nat.blt_eq.mp rfl) rfl rfl rfl ?_
        generalize hg1 : List.set h R _ = h1_
        have r1 : cRn h1_ R S (cp (c - 1), l, c, w, cp, cl, cw) z := by rw [← hg1]; exact hR.rs bR (cp (c - 1)) (l) (c) (w) (Nat.le_refl _)
        have m1 : mz_mo [R] 0 0 h h1_ := by rw [← hg1]; exact mo_R bR hR rfl
        clear hg1
        refine s_aldn (p' := 49) rfl rfl rfl ?_
        refine s_aldn (p' := 50) rfl rfl rfl ?_
        refine s_gf (p' := 53) rfl r1.c1 rfl rfl ?_
        refine s_ildn (p' := 54) rfl rfl rfl ?_
        refine s_bal2 (p' := 55) rfl (m1.1 _ (by simp only [List.mem_cons, List.not_mem_nil, or_false]; omega) _ a3) (inb_nI (by omega) (by omega)) rfl ?_
        rw [mI_cl (by omega), b4 (c - 1) (by omega)]
        refine s_pf (p' := 58) (fs' := [_, _, _, _, _, _, _, _, _, _, _, _, _]) rfl (by omega) r1.c1 (Nat.blt_eq.mp rfl) (bz_fit _) rfl rfl ?_
        generalize hg2 : List.set h1_ R _ = h2_
        have r2 : cRn h2_ R S (cp (c - 1), l, c, cw (c - 1), cp, cl, cw) z := by rw [← hg2]; exact r1.rs bR (cp (c - 1)) (l) (c) (cw (c - 1)) (Nat.le_refl _)
        have m2 : mz_mo [R] 0 0 h h2_ := by rw [← hg2]; exact mo00 m1 (mo_R bR r1 rfl)
        clear hg2
        refine s_aldn (p' := 59) rfl rfl rfl ?_
        refine s_aldn (p' := 60) rfl rfl rfl ?_
        refine s_gf (p' := 63) rfl r2.c1 rfl rfl ?_
        by_cases qw : cw (c - 1) = true
        · refine s_if (p' := 66) false rfl (by rw [qw]; rfl) rfl ?_
          refine s_aldn (p' := 67) rfl rfl rfl ?_
          refine s_gf (p' := 70) rfl r2.c1 rfl rfl ?_
          refine s_ildn (p' := 71) rfl rfl rfl ?_
          refine s_ial (p' := 72) rfl (m2.1 _ (by simp only [List.mem_cons, List.not_mem_nil, or_false]; omega) _ a2) (inb_nI (by omega) (by omega)) rfl ?_
          rw [mI_cl (by omega), b2 (c - 1) (by omega)]
          refine s_con (p' := 73) rfl rfl ?_
          refine s_sp (p' := 74) (ls' := _) rfl rfl rfl ?_
          rw [mI_add]
          refine s_goto (p' := 83) rfl rfl ?_
          refine s_pf (p' := 86) (fs' := [_, _, _, _, _, _, _, _, _, _, _, _, _]) rfl (by omega) r2.c1 (Nat.blt_eq.mp rfl) rfl rfl rfl ?_
          generalize hg3 : List.set h2_ R _ = h3_
          have r3 : cRn h3_ R S (cp (c - 1), cl (c - 1) + 1, c, cw (c - 1), cp, cl, cw) z := by rw [← hg3]; exact r2.rs bR (cp (c - 1)) (cl (c - 1) + 1) (c) (cw (c - 1)) (Nat.le_refl _)
          have m3 : mz_mo [R] 0 0 h h3_ := by rw [← hg3]; exact mo00 m2 (mo_R bR r2 rfl)
          clear hg3
          refine s_aldn (p' := 87) rfl rfl rfl ?_
          refine s_ildn (p' := 88) rfl rfl rfl ?_
          refine s_pf (p' := 91) (fs' := [_, _, _, _, _, _, _, _, _, _, _, _, _]) rfl (by omega) r3.c1 (Nat.blt_eq.mp rfl) rfl rfl rfl ?_
          generalize hg4 : List.set h3_ R _ = h4_
          have r4 : cRn h4_ R S (cp (c - 1), cl (c - 1) + 1, c - 1, cw (c - 1), cp, cl, cw) z := by rw [← hg4]; exact r3.rs bR (cp (c - 1)) (cl (c - 1) + 1) (c - 1) (cw (c - 1)) (by omega)
          have m4 : mz_mo [R] 0 0 h h4_ := by rw [← hg4]; exact mo00 m3 (mo_R bR r3 rfl)
          clear hg4
          refine s_inc (p' := 94) (ls' := [_, _, _]) rfl rfl rfl rfl rfl ?_
          rw [mI_add]
          refine s_goto (p' := 2) rfl rfl ?_
          rw [if_pos ⟨by omega, qe⟩, show pop_ (p, l, c, w, cp, cl, cw) = (cp (c - 1), cl (c - 1) + 1, c - 1, cw (c - 1), cp, cl, cw) from pop_t qw] at hcb
          rw [hcb]
          have hw4 := pop_wf hw0 (show 0 < c by omega)
          rw [show pop_ (p, l, c, w, cp, cl, cw) = (cp (c - 1), cl (c - 1) + 1, c - 1, cw (c - 1), cp, cl, cw) from pop_t qw] at hw4
          exact (ih _ h4_ _ (by omega) hw4 (hl.fr m4.1 (fun x hx => by rw [List.mem_singleton.mp hx]; exact hR3)) r4).imp fun o ho => by
            obtain ⟨h', e, q1, q2⟩ := ho
            exact ⟨h', e, q1, mo00 m4 q2⟩
        · refine s_if (p' := 77) true rfl (by rw [Bool.eq_false_iff.mpr qw]; rfl) rfl ?_
          refine s_aldn (p' := 78) rfl rfl rfl ?_
          refine s_gf (p' := 81) rfl r2.c1 rfl rfl ?_
          refine s_ildn (p' := 82) rfl rfl rfl ?_
          refine s_ial (p' := 83) rfl (m2.1 _ (by simp only [List.mem_cons, List.not_mem_nil, or_false]; omega) _ a2) (inb_nI (by omega) (by omega)) rfl ?_
          rw [mI_cl (by omega), b2 (c - 1) (by omega)]
          refine s_pf (p' := 86) (fs' := [_, _, _, _, _, _, _, _, _, _, _, _, _]) rfl (by omega) r2.c1 (Nat.blt_eq.mp rfl) rfl rfl rfl ?_
          generalize hg3 : List.set h2_ R _ = h3_
          have r3 : cRn h3_ R S (cp (c - 1), cl (c - 1), c, cw (c - 1), cp, cl, cw) z := by rw [← hg3]; exact r2.rs bR (cp (c - 1)) (cl (c - 1)) (c) (cw (c - 1)) (Nat.le_refl _)
          have m3 : mz_mo [R] 0 0 h h3_ := by rw [← hg3]; exact mo00 m2 (mo_R bR r2 rfl)
          clear hg3
          refine s_aldn (p' := 87) rfl rfl rfl ?_
          refine s_ildn (p' := 88) rfl rfl rfl ?_
          refine s_pf (p' := 91) (fs' := [_, _, _, _, _, _, _, _, _, _, _, _, _]) rfl (by omega) r3.c1 (Nat.blt_eq.mp rfl) rfl rfl rfl ?_
          generalize hg4 : List.set h3_ R _ = h4_
          have r4 : cRn h4_ R S (cp (c - 1), cl (c - 1), c - 1, cw (c - 1), cp, cl, cw) z := by rw [← hg4]; exact r3.rs bR (cp (c - 1)) (cl (c - 1)) (c - 1) (cw (c - 1)) (by omega)
          have m4 : mz_mo [R] 0 0 h h4_ := by rw [← hg4]; exact mo00 m3 (mo_R bR r3 rfl)
          clear hg4
          refine s_inc (p' := 94) (ls' := [_, _, _]) rfl rfl rfl rfl rfl ?_
          rw [mI_add]
          refine s_goto (p' := 2) rfl rfl ?_
          rw [if_pos ⟨by omega, qe⟩, show pop_ (p, l, c, w, cp, cl, cw) = (cp (c - 1), cl (c - 1), c - 1, cw (c - 1), cp, cl, cw) from pop_f qw] at hcb
          rw [hcb]
          have hw4 := pop_wf hw0 (show 0 < c by omega)
          rw [show pop_ (p, l, c, w, cp, cl, cw) = (cp (c - 1), cl (c - 1), c - 1, cw (c - 1), cp, cl, cw) from pop_f qw] at hw4
          exact (ih _ h4_ _ (by omega) hw4 (hl.fr m4.1 (fun x hx => by rw [List.mem_singleton.mp hx]; exact hR3)) r4).imp fun o ho => by
            obtain ⟨h', e, q1, q2⟩ := ho
            exact ⟨h', e, q1, mo00 m4 q2⟩
      · refine s_if (p' := 97) true rfl (by rw [Bool.eq_false_iff.mpr qe]; rfl) rfl ?_
        refine s_ret rfl ?_
        rw [if_neg (fun e => qe e.2)] at hcb
        exact ⟨_, rfl, by rw [hcb]; exact hR, mz_mo.rf _ _ _ _⟩
theorem x_cbk {h : mj_H} {R S np : Nat} {z : CZ} {K : Nat → Nat} {X : Nat → Nat → Nat → Nat} {r : SR} (bR : R + 6 < mj_CB) (hR3 : 336 ≤ R) (hK : ∀ p, p < np → K p ≤ 30) (hw : wfR np K r) (hl : cLb h np K X) (hR : cRn h R S r z) : mj_Wp 2 161 (0, [some (.ref R), none, none], [], h) (mz_N fun h' => cRn h' R S (cbk K 20 r) z ∧ mz_mo [R] 0 0 h h') := by
  refine s_con (p' := 1) rfl rfl ?_
  refine s_istn (p' := 2) (ls' := [_, _, _]) rfl rfl rfl rfl ?_
  exact x_cbL bR hR3 hK 20 0 r h _ rfl hw hl hR
theorem stpA_s {np a p l c : Nat} {K : Nat → Nat} {X : Nat → Nat → Nat → Nat} {A : Nat → Nat} {w : Bool} {cp cl : Nat → Nat} {cw : Nat → Bool} {s : SV} (h1 : ¬ (A 0 = 64 ∨ A 0 = 36)) (h2 : ¬ brS (A 0) = true) : stpA np K X a A (s, p, l, c, w, cp, cl, cw) = match stS A w s with
      | .inl s' => .inl (s', p, (if w = true then a + 1 else a), c, w, cp, cl, cw)
      | .inr z => .inr z := by
  unfold stpA
  dsimp only
  rw [if_neg h1, if_neg h2]
  cases stS A w s <;> rfl
theorem stpA_c {np a p l c : Nat} {K : Nat → Nat} {X : Nat → Nat → Nat → Nat} {A : Nat → Nat} {w : Bool} {cp cl : Nat → Nat} {cw : Nat → Bool} {s : SV} (h1 : A 0 = 64 ∨ A 0 = 36) : stpA np K X a A (s, p, l, c, w, cp, cl, cw) = match (if np ≤ A 1 then .inr (1, 112, A 1, 0, 0) else if 20 ≤ c then .inr (1, 100, 20, 0, 0) else .inl (A 1, (if decide (A 0 = 64) = w then 0 else K (A 1)), c + 1, decide (decide (A 0 = 64) = w), upN cp c p, upN cl c a, updB cw c w) : SR ⊕ CZ) with
      | .inl r => .inl (s, r)
      | .inr z => .inr z := by
  unfold stpA
  dsimp only
  rw [if_pos h1]
  by_cases q1 : np ≤ A 1
  · rw [if_pos q1, if_pos q1]
  · rw [if_neg q1, if_neg q1]
    by_cases q2 : 20 ≤ c
    · rw [if_pos q2, if_pos q2]
    · rw [if_neg q2, if_neg q2]
theorem stpA_b {np a p l c : Nat} {K : Nat → Nat} {X : Nat → Nat → Nat → Nat} {A : Nat → Nat} {w : Bool} {cp cl : Nat → Nat} {cw : Nat → Bool} {s : SV} (h1 : ¬ (A 0 = 64 ∨ A 0 = 36)) (h2 : brS (A 0) = true) : stpA np K X a A (s, p, l, c, w, cp, cl, cw) = match (if w = true then brA A a (hld s.1 (X p (A 5))) (hld s.1 (X p (A 7))) else brB A a (hld s.1 (X p (A 5))) (hld s.1 (X p (A 7)))) with
      | .inl l' => .inl (s, p, l', c, w, cp, cl, cw)
      | .inr z => .inr z := by
  unfold stpA
  dsimp only
  rw [if_neg h1, if_pos h2]
  cases w <;> rfl
theorem x_tof2 {h : mj_H} {v : Nat} (hv : v < 8) : mj_run 0 78 (0, [some (.int (nI (vT v)))], [], h) (.inl (some (.int (nI v))), h) := by
  refine s_con (p' := 1) rfl rfl ?_
  refine s_ildn (p' := 2) rfl rfl rfl ?_
  refine s_sp (p' := 3) (ls' := _) rfl rfl rfl ?_
  rw [mI_sub (by unfold vT; omega), show 4294967295 - vT v = v by unfold vT; omega]
  exact s_iret rfl rfl rfl
/-- a step done, or broken -/
def stQ (np : Nat) (K : Nat → Nat) (X : Nat → Nat → Nat → Nat) (h h' : mj_H) (R S : Nat) (s : SS) (z : CZ) (rv : Value) : Prop := ((∃ s', stp np K X s = .inl s' ∧ rv = .int (nI 1) ∧ cSt h' S s'.1 ∧ cRn h' R S s'.2 z) ∨ ∃ z', stp np K X s = .inr z' ∧ rv = .int (nI 0) ∧ cSt h' S s.1 ∧ cRn h' R S s.2 z') ∧ mz_mo (cML R S) 0 0 h h'
theorem aOk_br {x : Nat → Nat → Nat} {K j : Nat} (h : aOk x 0 K j) (hn : ¬ (x j 0 = 33 ∨ x j 0 = 63 ∨ x j 0 = 64 ∨ x j 0 = 36 ∨ x j 0 = 126 ∨ x j 0 = 43 ∨ x j 0 = 45 ∨ x j 0 = 94)) : brS (x j 0) = true := by
  rcases h with h | ⟨o, m, e, b, hj, _⟩
  · exact absurd (by have := h.1; omega) hn
  · have b1 := b.1
    exact brS_t (by rcases hj with rfl | rfl | rfl <;> omega)
theorem aOk_1 {x : Nat → Nat → Nat} {K j : Nat} (h : aOk x 0 K j) (hb : ¬ brS (x j 0) = true) : ((x j 0 = 64 ∨ x j 0 = 36) → x j 1 < 6) ∧ (¬ (x j 0 = 64 ∨ x j 0 = 36) → x j 1 < 8) ∧ (x j 0 = 126 → ∃ v, v < 8 ∧ v ≠ x j 1 ∧ x j 2 = vT v) ∧ ((x j 0 = 43 ∨ x j 0 = 45 ∨ x j 0 = 94) → okTm (x j 2) ∧ okTm (x j 4) ∧ (x j 3 = 32 ∨ x j 3 = 43 ∨ x j 3 = 45 ∨ x j 3 = 42 ∨ x j 3 = 38)) := by
  have hs := (aOk_s h (Bool.eq_false_iff.mpr hb)).1
  rcases hs with ⟨h0, h1, _⟩ | ⟨h0, h1, _⟩ | ⟨h0, h1, h2, _⟩ | ⟨h0, h1, h2, _, h3⟩
  · exact ⟨fun e => by omega, fun _ => h1, fun e => by omega, fun e => by omega⟩
  · exact ⟨fun _ => h1, fun e => absurd h0 e, fun e => by omega, fun e => by omega⟩
  · exact ⟨fun e => by omega, fun _ => h1, fun _ => h2, fun e => by omega⟩
  · refine ⟨fun e => by omega, fun _ => h1, fun e => by omega, fun _ => ?_⟩
    rcases h3 with ⟨h3, h4⟩ | ⟨h3, h4, _⟩
    · exact ⟨h2, Or.inl (by omega), Or.inl h3⟩
    · have := of_decide_eq_true h3
      exact ⟨h2, h4, by omega⟩
theorem lsw2 {c pc : Nat} {ls : mj_L} {st : List Value} {e : Nat × Nat × Nat} (hc : c < 200) (h1 : c ≠ 33) (h2 : c ≠ 36) (h3 : c ≠ 43) (h4 : c ≠ 45) (h5 : c ≠ 63) (h6 : c ≠ 64) (h7 : c ≠ 94) (h8 : c ≠ 126) : mj_sp (.lookupswitch 116 #[(33, 99), (36, 109), (43, 73), (45, 73), (63, 99), (64, 109), (94, 73), (126, 81)], e) pc ls (.int (nI c) :: st) = some (mj_jmp pc 116, ls, st) := by
  show some (mj_jmp pc (Op.lookupswitch.offset [(33, 99), (36, 109), (43, 73), (45, 73), (63, 99), (64, 109), (94, 73), (126, 81)] 116 (nI c).toInt), ls, st) = _
  rw [mI_ti (by omega)]
  have e1 : (c : Int) ≠ 33 := by omega
  have e2 : (c : Int) ≠ 36 := by omega
  have e3 : (c : Int) ≠ 43 := by omega
  have e4 : (c : Int) ≠ 45 := by omega
  have e5 : (c : Int) ≠ 63 := by omega
  have e6 : (c : Int) ≠ 64 := by omega
  have e7 : (c : Int) ≠ 94 := by omega
  have e8 : (c : Int) ≠ 126 := by omega
  generalize (c : Int) = z at e1 e2 e3 e4 e5 e6 e7 e8 ⊢
  simp [Op.lookupswitch.offset, e1, e2, e3, e4, e5, e6, e7, e8, Ne.symm e1, Ne.symm e2, Ne.symm e3, Ne.symm e4, Ne.symm e5, Ne.symm e6, Ne.symm e7, Ne.symm e8]
theorem x_stp {h : mj_H} {R S np p l c t : Nat} {w : Bool} {cp cl : Nat → Nat} {cw : Nat → Bool} {z : CZ} {v st : Nat → Int32} {K : Nat → Nat} {X : Nat → Nat → Nat → Nat} (bR : R + 6 < mj_CB) (hSR : S + 3 ≤ R) (hS3 : 336 ≤ S) (hp : pOk np K X) (hw : wfR np K (p, l, c, w, cp, cl, cw)) (he : edg K (p, l, c, w, cp, cl, cw) = false) (hl : cLb h np K X) (hS : cSt h S (v, st, t)) (hR : cRn h R S (p, l, c, w, cp, cl, cw) z) : mj_Wp 4 162 (0, [some (.ref R), none, none, none], [], h) (mz_V fun rv h' => stQ np K X h h' R S ((v, st, t), p, l, c, w, cp, cl, cw) z rv) := by
  have hat := edg_at hw he
  have hp1 : p < np := hw.1
  have hn6 := hl.1
  have bS : S + 3 < mj_CB := by omega
  have hk := (hp.2 p hp1).1
  have hlk : l ≤ K p := hw.2.1
  cases w with
  | true =>
    have hat0 := hat.2
    have hat : l < K p := hat.1
    have hA := (hp.2 p hp1).2 _ hat
    have h200 := aOk_0 hA
    obtain ⟨ia, hq, hi⟩ := (hl.2.2.2 p hp1).2.2.2.2 _ hat
    have hbP : bP p = 77 + 37 * p := rfl
    have so := fun (q : X p l 0 = 33 ∨ X p l 0 = 63 ∨ X p l 0 = 64 ∨ X p l 0 = 36 ∨ X p l 0 = 126 ∨ X p l 0 = 43 ∨ X p l 0 = 45 ∨ X p l 0 = 94) => aOk_1 hA (brS_f q)
    refine s_aldn (p' := 1) rfl rfl rfl ?_
    refine s_gf (p' := 4) rfl hR.c1 rfl rfl ?_
    refine s_aldn (p' := 5) rfl rfl rfl ?_
    refine s_gf (p' := 8) rfl hR.c1 rfl rfl ?_
    refine s_callV (p' := 11) (ls0 := [_, _]) rfl rfl rfl rfl rfl (mj_rcv_is hl.2.1) rfl (x_lcd hl hp1) (by first | decide | omega) rfl ?_
    refine s_astn (p' := 12) (ls' := [_, _, _, _]) rfl rfl rfl rfl ?_
    refine s_aldn (p' := 13) rfl rfl rfl ?_
    refine s_gf (p' := 16) rfl hR.c1 rfl rfl ?_
    refine s_if (p' := 19) false rfl (by decide +kernel) rfl ?_
    refine s_aldn (p' := 20) rfl rfl rfl ?_
    refine s_gf (p' := 23) rfl hR.c1 rfl rfl ?_
    refine s_goto (p' := 32) rfl rfl ?_
    refine s_istn (p' := 33) (ls' := [_, _, _, _]) rfl rfl rfl rfl ?_
    refine s_aldn (p' := 34) rfl rfl rfl ?_
    refine s_ildn (p' := 35) rfl rfl rfl ?_
    refine s_callV (p' := 38) (ls0 := [_, _]) rfl rfl rfl rfl rfl (mj_rcv_is (hl.2.2.2 p hp1).2.1) rfl (x_lat hl hp1 hat) (by first | decide | omega) rfl ?_
    refine s_astn (p' := 39) (ls' := [_, _, _, _]) rfl rfl rfl rfl ?_
    refine s_aldn (p' := 40) rfl rfl rfl ?_
    refine s_gf (p' := 43) rfl hq rfl rfl ?_
    rw [hi 0 (by decide)]
    by_cases q33 : X p l 0 = 33
    · rw [q33]
      refine s_sp (p' := 142) (ls' := _) rfl rfl rfl ?_
      refine s_aldn (p' := 143) rfl rfl rfl ?_
      refine s_aldn (p' := 144) rfl rfl rfl ?_
      refine s_callEV (p' := 147) (ls0 := [_, _, _]) rfl rfl rfl rfl rfl (mj_rcv_is hR.c1) rfl (x_mst bS hS bR hSR hq hi hR ((so (by omega)).2.1 (by omega)) (by omega) (by omega)) rfl rfl ?_
      rintro _ g1 ⟨⟨s2, e2, rfl, s1, r1⟩ | ⟨z2, e2, rfl, s1, r1⟩, m1⟩
      · refine s_if (p' := 184) true rfl (by decide +kernel) rfl ?_
        refine s_aldn (p' := 185) rfl rfl rfl ?_
        refine s_aldn (p' := 186) rfl rfl rfl ?_
        refine s_gf (p' := 189) rfl r1.c1 rfl rfl ?_
        refine s_if (p' := 192) false rfl (by decide +kernel) rfl ?_
        refine s_ildn (p' := 193) rfl rfl rfl ?_
        refine s_con (p' := 194) rfl rfl ?_
        refine s_sp (p' := 195) (ls' := _) rfl rfl rfl ?_
        rw [mI_add]
        refine s_goto (p' := 199) rfl rfl ?_
        refine s_callEV (p' := 202) (ls0 := [_, _]) rfl rfl rfl rfl rfl (mj_rcv_is r1.c1) rfl (x_mvt (l1 := l + 1) bR r1) rfl rfl ?_
        rintro _ g2 ⟨rfl, r2, m2⟩
        refine s_iret rfl rfl ?_
        exact ⟨_, _, rfl, Or.inl ⟨_, (show stpA np K X l (X p l) _ = _ from (stpA_s (by omega) (brS_f (by omega))).trans (by rw [e2] <;> rfl)), rfl, s1.fr m2.1 (by simp only [List.mem_cons, List.not_mem_nil, or_false]; omega) (by simp only [List.mem_cons, List.not_mem_nil, or_false]; omega) (by simp only [List.mem_cons, List.not_mem_nil, or_false]; omega), r2⟩, mo00 m1 (mo_ml m2 (fun x hx => cML_m.mpr (by simp only [List.mem_cons, List.not_mem_nil, or_false] at hx; omega)))⟩
      · refine s_if (p' := 150) false rfl (by decide +kernel) rfl ?_
        refine s_con (p' := 151) rfl rfl ?_
        refine s_iret rfl rfl ?_
        exact ⟨_, _, rfl, Or.inr ⟨_, (show stpA np K X l (X p l) _ = _ from (stpA_s (by omega) (brS_f (by omega))).trans (by rw [e2] <;> rfl)), rfl, s1, r1⟩, m1⟩
    · by_cases q36 : X p l 0 = 36
      · rw [q36]
        refine s_sp (p' := 152) (ls' := _) rfl rfl rfl ?_
        refine s_aldn (p' := 153) rfl rfl rfl ?_
        refine s_aldn (p' := 154) rfl rfl rfl ?_
        refine s_ildn (p' := 155) rfl rfl rfl ?_
        refine s_callEV (p' := 158) (ls0 := [_, _, _]) rfl rfl rfl rfl rfl (mj_rcv_is hR.c1) rfl (x_goi bR hR (by omega) hq hi (a := l) hl ((so (by omega)).1 (by omega)) (by omega) (by omega) hw.2.2.1) rfl rfl ?_
        rintro _ g1 ⟨⟨r2, e2, rfl, r1⟩ | ⟨z2, e2, rfl, r1⟩, m1⟩
        · refine s_iret rfl rfl ?_
          exact ⟨_, _, rfl, Or.inl ⟨_, (show stpA np K X l (X p l) _ = _ from (stpA_c (by omega)).trans (by rw [e2])), rfl, (hS.fr m1.1 (by simp only [List.mem_cons, List.not_mem_nil, or_false]; omega) (by simp only [List.mem_cons, List.not_mem_nil, or_false]; omega) (by simp only [List.mem_cons, List.not_mem_nil, or_false]; omega)), r1⟩, (mo_ml m1 (fun x hx => cML_m.mpr (by simp only [List.mem_cons, List.not_mem_nil, or_false] at hx; omega)))⟩
        · refine s_iret rfl rfl ?_
          exact ⟨_, _, rfl, Or.inr ⟨_, (show stpA np K X l (X p l) _ = _ from (stpA_c (by omega)).trans (by rw [e2])), rfl, (hS.fr m1.1 (by simp only [List.mem_cons, List.not_mem_nil, or_false]; omega) (by simp only [List.mem_cons, List.not_mem_nil, or_false]; omega) (by simp only [List.mem_cons, List.not_mem_nil, or_false]; omega)), r1⟩, (mo_ml m1 (fun x hx => cML_m.mpr (by simp only [List.mem_cons, List.not_mem_nil, or_false] at hx; omega)))⟩
      · by_cases q43 : X p l 0 = 43
        · rw [q43]
          refine s_sp (p' := 116) (ls' := _) rfl rfl rfl ?_
          refine s_aldn (p' := 117) rfl rfl rfl ?_
          refine s_aldn (p' := 118) rfl rfl rfl ?_
          refine s_callEN (p' := 121) (ls0 := [_, _, _, _, _]) rfl rfl rfl rfl rfl (mj_rcv_is hR.c1) rfl (x_upd_ bS hS bR hSR hq hi hR.c1 ((so (by omega)).2.1 (by omega)) (by omega) ((so (by omega)).2.2.2 (by omega)).1 ((so (by omega)).2.2.2 (by omega)).2.1 ((so (by omega)).2.2.2 (by omega)).2.2) rfl rfl ?_
          rintro g1 ⟨s1, m1_⟩
          have r1 := hR.fr m1_.1 (fun x hx => by simp only [List.mem_cons, List.not_mem_nil, or_false] at hx; omega)
          have m1 := mo_ml (R := R) (S := S) m1_ (fun x hx => cML_m.mpr (by simp only [List.mem_cons, List.not_mem_nil, or_false] at hx; omega))
          refine s_goto (p' := 184) rfl rfl ?_
          refine s_aldn (p' := 185) rfl rfl rfl ?_
          refine s_aldn (p' := 186) rfl rfl rfl ?_
          refine s_gf (p' := 189) rfl r1.c1 rfl rfl ?_
          refine s_if (p' := 192) false rfl (by decide +kernel) rfl ?_
          refine s_ildn (p' := 193) rfl rfl rfl ?_
          refine s_con (p' := 194) rfl rfl ?_
          refine s_sp (p' := 195) (ls' := _) rfl rfl rfl ?_
          rw [mI_add]
          refine s_goto (p' := 199) rfl rfl ?_
          refine s_callEV (p' := 202) (ls0 := [_, _]) rfl rfl rfl rfl rfl (mj_rcv_is r1.c1) rfl (x_mvt (l1 := l + 1) bR r1) rfl rfl ?_
          rintro _ g2 ⟨rfl, r2, m2⟩
          refine s_iret rfl rfl ?_
          exact ⟨_, _, rfl, Or.inl ⟨_, (show stpA np K X l (X p l) _ = _ from (stpA_s (by omega) (brS_f (by omega))).trans (by rw [show stS (X p l) true (v, st, t) = .inl _ from if_pos (by omega)] <;> rfl)), rfl, s1.fr m2.1 (by simp only [List.mem_cons, List.not_mem_nil, or_false]; omega) (by simp only [List.mem_cons, List.not_mem_nil, or_false]; omega) (by simp only [List.mem_cons, List.not_mem_nil, or_false]; omega), r2⟩, mo00 m1 (mo_ml m2 (fun x hx => cML_m.mpr (by simp only [List.mem_cons, List.not_mem_nil, or_false] at hx; omega)))⟩
        · by_cases q45 : X p l 0 = 45
          · rw [q45]
            refine s_sp (p' := 116) (ls' := _) rfl rfl rfl ?_
            refine s_aldn (p' := 117) rfl rfl rfl ?_
            refine s_aldn (p' := 118) rfl rfl rfl ?_
            refine s_callEN (p' := 121) (ls0 := [_, _, _, _, _]) rfl rfl rfl rfl rfl (mj_rcv_is hR.c1) rfl (x_upd_ bS hS bR hSR hq hi hR.c1 ((so (by omega)).2.1 (by omega)) (by omega) ((so (by omega)).2.2.2 (by omega)).1 ((so (by omega)).2.2.2 (by omega)).2.1 ((so (by omega)).2.2.2 (by omega)).2.2) rfl rfl ?_
            rintro g1 ⟨s1, m1_⟩
            have r1 := hR.fr m1_.1 (fun x hx => by simp only [List.mem_cons, List.not_mem_nil, or_false] at hx; omega)
            have m1 := mo_ml (R := R) (S := S) m1_ (fun x hx => cML_m.mpr (by simp only [List.mem_cons, List.not_mem_nil, or_false] at hx; omega))
            refine s_goto (p' := 184) rfl rfl ?_
            refine s_aldn (p' := 185) rfl rfl rfl ?_
            refine s_aldn (p' := 186) rfl rfl rfl ?_
            refine s_gf (p' := 189) rfl r1.c1 rfl rfl ?_
            refine s_if (p' := 192) false rfl (by decide +kernel) rfl ?_
            refine s_ildn (p' := 193) rfl rfl rfl ?_
            refine s_con (p' := 194) rfl rfl ?_
            refine s_sp (p' := 195) (ls' := _) rfl rfl rfl ?_
            rw [mI_add]
            refine s_goto (p' := 199) rfl rfl ?_
            refine s_callEV (p' := 202) (ls0 := [_, _]) rfl rfl rfl rfl rfl (mj_rcv_is r1.c1) rfl (x_mvt (l1 := l + 1) bR r1) rfl rfl ?_
            rintro _ g2 ⟨rfl, r2, m2⟩
            refine s_iret rfl rfl ?_
            exact ⟨_, _, rfl, Or.inl ⟨_, (show stpA np K X l (X p l) _ = _ from (stpA_s (by omega) (brS_f (by omega))).trans (by rw [show stS (X p l) true (v, st, t) = .inl _ from if_pos (by omega)] <;> rfl)), rfl, s1.fr m2.1 (by simp only [List.mem_cons, List.not_mem_nil, or_false]; omega) (by simp only [List.mem_cons, List.not_mem_nil, or_false]; omega) (by simp only [List.mem_cons, List.not_mem_nil, or_false]; omega), r2⟩, mo00 m1 (mo_ml m2 (fun x hx => cML_m.mpr (by simp only [List.mem_cons, List.not_mem_nil, or_false] at hx; omega)))⟩
          · by_cases q63 : X p l 0 = 63
            · rw [q63]
              refine s_sp (p' := 142) (ls' := _) rfl rfl rfl ?_
              refine s_aldn (p' := 143) rfl rfl rfl ?_
              refine s_aldn (p' := 144) rfl rfl rfl ?_
              refine s_callEV (p' := 147) (ls0 := [_, _, _]) rfl rfl rfl rfl rfl (mj_rcv_is hR.c1) rfl (x_mst bS hS bR hSR hq hi hR ((so (by omega)).2.1 (by omega)) (by omega) (by omega)) rfl rfl ?_
              rintro _ g1 ⟨⟨s2, e2, rfl, s1, r1⟩ | ⟨z2, e2, rfl, s1, r1⟩, m1⟩
              · refine s_if (p' := 184) true rfl (by decide +kernel) rfl ?_
                refine s_aldn (p' := 185) rfl rfl rfl ?_
                refine s_aldn (p' := 186) rfl rfl rfl ?_
                refine s_gf (p' := 189) rfl r1.c1 rfl rfl ?_
                refine s_if (p' := 192) false rfl (by decide +kernel) rfl ?_
                refine s_ildn (p' := 193) rfl rfl rfl ?_
                refine s_con (p' := 194) rfl rfl ?_
                refine s_sp (p' := 195) (ls' := _) rfl rfl rfl ?_
                rw [mI_add]
                refine s_goto (p' := 199) rfl rfl ?_
                refine s_callEV (p' := 202) (ls0 := [_, _]) rfl rfl rfl rfl rfl (mj_rcv_is r1.c1) rfl (x_mvt (l1 := l + 1) bR r1) rfl rfl ?_
                rintro _ g2 ⟨rfl, r2, m2⟩
                refine s_iret rfl rfl ?_
                exact ⟨_, _, rfl, Or.inl ⟨_, (show stpA np K X l (X p l) _ = _ from (stpA_s (by omega) (brS_f (by omega))).trans (by rw [e2] <;> rfl)), rfl, s1.fr m2.1 (by simp only [List.mem_cons, List.not_mem_nil, or_false]; omega) (by simp only [List.mem_cons, List.not_mem_nil, or_false]; omega) (by simp only [List.mem_cons, List.not_mem_nil, or_false]; omega), r2⟩, mo00 m1 (mo_ml m2 (fun x hx => cML_m.mpr (by simp only [List.mem_cons, List.not_mem_nil, or_false] at hx; omega)))⟩
              · refine s_if (p' := 150) false rfl (by decide +kernel) rfl ?_
                refine s_con (p' := 151) rfl rfl ?_
                refine s_iret rfl rfl ?_
                exact ⟨_, _, rfl, Or.inr ⟨_, (show stpA np K X l (X p l) _ = _ from (stpA_s (by omega) (brS_f (by omega))).trans (by rw [e2] <;> rfl)), rfl, s1, r1⟩, m1⟩
            · by_cases q64 : X p l 0 = 64
              · rw [q64]
                refine s_sp (p' := 152) (ls' := _) rfl rfl rfl ?_
                refine s_aldn (p' := 153) rfl rfl rfl ?_
                refine s_aldn (p' := 154) rfl rfl rfl ?_
                refine s_ildn (p' := 155) rfl rfl rfl ?_
                refine s_callEV (p' := 158) (ls0 := [_, _, _]) rfl rfl rfl rfl rfl (mj_rcv_is hR.c1) rfl (x_goi bR hR (by omega) hq hi (a := l) hl ((so (by omega)).1 (by omega)) (by omega) (by omega) hw.2.2.1) rfl rfl ?_
                rintro _ g1 ⟨⟨r2, e2, rfl, r1⟩ | ⟨z2, e2, rfl, r1⟩, m1⟩
                · refine s_iret rfl rfl ?_
                  exact ⟨_, _, rfl, Or.inl ⟨_, (show stpA np K X l (X p l) _ = _ from (stpA_c (by omega)).trans (by rw [e2])), rfl, (hS.fr m1.1 (by simp only [List.mem_cons, List.not_mem_nil, or_false]; omega) (by simp only [List.mem_cons, List.not_mem_nil, or_false]; omega) (by simp only [List.mem_cons, List.not_mem_nil, or_false]; omega)), r1⟩, (mo_ml m1 (fun x hx => cML_m.mpr (by simp only [List.mem_cons, List.not_mem_nil, or_false] at hx; omega)))⟩
                · refine s_iret rfl rfl ?_
                  exact ⟨_, _, rfl, Or.inr ⟨_, (show stpA np K X l (X p l) _ = _ from (stpA_c (by omega)).trans (by rw [e2])), rfl, (hS.fr m1.1 (by simp only [List.mem_cons, List.not_mem_nil, or_false]; omega) (by simp only [List.mem_cons, List.not_mem_nil, or_false]; omega) (by simp only [List.mem_cons, List.not_mem_nil, or_false]; omega)), r1⟩, (mo_ml m1 (fun x hx => cML_m.mpr (by simp only [List.mem_cons, List.not_mem_nil, or_false] at hx; omega)))⟩
              · by_cases q94 : X p l 0 = 94
                · rw [q94]
                  refine s_sp (p' := 116) (ls' := _) rfl rfl rfl ?_
                  refine s_aldn (p' := 117) rfl rfl rfl ?_
                  refine s_aldn (p' := 118) rfl rfl rfl ?_
                  refine s_callEN (p' := 121) (ls0 := [_, _, _, _, _]) rfl rfl rfl rfl rfl (mj_rcv_is hR.c1) rfl (x_upd_ bS hS bR hSR hq hi hR.c1 ((so (by omega)).2.1 (by omega)) (by omega) ((so (by omega)).2.2.2 (by omega)).1 ((so (by omega)).2.2.2 (by omega)).2.1 ((so (by omega)).2.2.2 (by omega)).2.2) rfl rfl ?_
                  rintro g1 ⟨s1, m1_⟩
                  have r1 := hR.fr m1_.1 (fun x hx => by simp only [List.mem_cons, List.not_mem_nil, or_false] at hx; omega)
                  have m1 := mo_ml (R := R) (S := S) m1_ (fun x hx => cML_m.mpr (by simp only [List.mem_cons, List.not_mem_nil, or_false] at hx; omega))
                  refine s_goto (p' := 184) rfl rfl ?_
                  refine s_aldn (p' := 185) rfl rfl rfl ?_
                  refine s_aldn (p' := 186) rfl rfl rfl ?_
                  refine s_gf (p' := 189) rfl r1.c1 rfl rfl ?_
                  refine s_if (p' := 192) false rfl (by decide +kernel) rfl ?_
                  refine s_ildn (p' := 193) rfl rfl rfl ?_
                  refine s_con (p' := 194) rfl rfl ?_
                  refine s_sp (p' := 195) (ls' := _) rfl rfl rfl ?_
                  rw [mI_add]
                  refine s_goto (p' := 199) rfl rfl ?_
                  refine s_callEV (p' := 202) (ls0 := [_, _]) rfl rfl rfl rfl rfl (mj_rcv_is r1.c1) rfl (x_mvt (l1 := l + 1) bR r1) rfl rfl ?_
                  rintro _ g2 ⟨rfl, r2, m2⟩
                  refine s_iret rfl rfl ?_
                  exact ⟨_, _, rfl, Or.inl ⟨_, (show stpA np K X l (X p l) _ = _ from (stpA_s (by omega) (brS_f (by omega))).trans (by rw [show stS (X p l) true (v, st, t) = .inl _ from if_pos (by omega)] <;> rfl)), rfl, s1.fr m2.1 (by simp only [List.mem_cons, List.not_mem_nil, or_false]; omega) (by simp only [List.mem_cons, List.not_mem_nil, or_false]; omega) (by simp only [List.mem_cons, List.not_mem_nil, or_false]; omega), r2⟩, mo00 m1 (mo_ml m2 (fun x hx => cML_m.mpr (by simp only [List.mem_cons, List.not_mem_nil, or_false] at hx; omega)))⟩
                · by_cases q126 : X p l 0 = 126
                  · rw [q126]
                    refine s_sp (p' := 124) (ls' := _) rfl rfl rfl ?_
                    refine s_aldn (p' := 125) rfl rfl rfl ?_
                    refine s_aldn (p' := 126) rfl rfl rfl ?_
                    refine s_gf (p' := 129) rfl hq rfl rfl ?_
                    rw [hi 1 (by decide)]
                    refine s_aldn (p' := 130) rfl rfl rfl ?_
                    refine s_gf (p' := 133) rfl hq rfl rfl ?_
                    rw [hi 2 (by decide)]
                    obtain ⟨w0, hw0, hw0n, hw2⟩ := (so (by omega)).2.2.1 (by omega)
                    rw [hw2]
                    refine s_callV (p' := 136) (ls0 := [_]) rfl rfl rfl rfl rfl rfl rfl (x_tof2 hw0) (by first | decide | omega) rfl ?_
                    refine s_callEN (p' := 139) (ls0 := [_, _, _, _]) rfl rfl rfl rfl rfl (mj_rcv_is hR.c1) rfl (x_swp bS hS bR hSR hR.c1 ((so (by omega)).2.1 (by omega)) hw0) rfl rfl ?_
                    rintro g1 ⟨s1, m1_⟩
                    have r1 := hR.fr m1_.1 (fun x hx => by simp only [List.mem_cons, List.not_mem_nil, or_false] at hx; omega)
                    have m1 := mo_ml (R := R) (S := S) m1_ (fun x hx => cML_m.mpr (by simp only [List.mem_cons, List.not_mem_nil, or_false] at hx; omega))
                    refine s_goto (p' := 184) rfl rfl ?_
                    refine s_aldn (p' := 185) rfl rfl rfl ?_
                    refine s_aldn (p' := 186) rfl rfl rfl ?_
                    refine s_gf (p' := 189) rfl r1.c1 rfl rfl ?_
                    refine s_if (p' := 192) false rfl (by decide +kernel) rfl ?_
                    refine s_ildn (p' := 193) rfl rfl rfl ?_
                    refine s_con (p' := 194) rfl rfl ?_
                    refine s_sp (p' := 195) (ls' := _) rfl rfl rfl ?_
                    rw [mI_add]
                    refine s_goto (p' := 199) rfl rfl ?_
                    refine s_callEV (p' := 202) (ls0 := [_, _]) rfl rfl rfl rfl rfl (mj_rcv_is r1.c1) rfl (x_mvt (l1 := l + 1) bR r1) rfl rfl ?_
                    rintro _ g2 ⟨rfl, r2, m2⟩
                    refine s_iret rfl rfl ?_
                    exact ⟨_, _, rfl, Or.inl ⟨_, (show stpA np K X l (X p l) _ = _ from (stpA_s (by omega) (brS_f (by omega))).trans (by rw [show stS (X p l) true (v, st, t) = .inl (upd (upd v (X p l 1) (v w0)) w0 (v (X p l 1)), st, t) from (if_neg (by omega)).trans ((if_pos (by omega)).trans (by rw [hw2, show 4294967295 - vT w0 = w0 by unfold vT; omega]))] <;> rfl)), rfl, s1.fr m2.1 (by simp only [List.mem_cons, List.not_mem_nil, or_false]; omega) (by simp only [List.mem_cons, List.not_mem_nil, or_false]; omega) (by simp only [List.mem_cons, List.not_mem_nil, or_false]; omega), r2⟩, mo00 m1 (mo_ml m2 (fun x hx => cML_m.mpr (by simp only [List.mem_cons, List.not_mem_nil, or_false] at hx; omega)))⟩
                  · skip
                    refine s_sp (p' := 159) (ls' := _) rfl rfl (lsw2 h200 q33 q36 q43 q45 q63 q64 q94 q126) ?_
                    have qb : brS (X p l 0) = true := aOk_br hA (by omega)
                    obtain ⟨o_, m_, e_, bo, hj, g1_, g2_, g3_, l5, l6, l7⟩ := aOk_l hA qb
                    have b5 : X p l 5 < K p := by omega
                    have b6 : X p l 6 < K p := by omega
                    have b7 : X p l 7 < K p := by omega
                    have t5 : tst (X p (X p l 5)) := by rw [l5]; exact bo.2.1
                    have t7 : tst (X p (X p l 7)) := by rw [l7]; exact bo.2.2.1
                    have hsg := of_decide_eq_true qb
                    refine s_aldn (p' := 160) rfl rfl rfl ?_
                    refine s_gf (p' := 163) rfl hR.c1 rfl rfl ?_
                    refine s_if (p' := 166) false rfl (by decide +kernel) rfl ?_
                    refine s_aldn (p' := 167) rfl rfl rfl ?_
                    refine s_aldn (p' := 168) rfl rfl rfl ?_
                    refine s_aldn (p' := 169) rfl rfl rfl ?_
                    refine s_ildn (p' := 170) rfl rfl rfl ?_
                    refine s_callEV (p' := 173) (ls0 := [_, _, _, _, _, _]) rfl rfl rfl rfl rfl (mj_rcv_is hR.c1) rfl (x_pA bR hR bS hS hl hp1 hat b5 b6 b7 hk t5 t7 (by omega)) rfl rfl ?_
                    rintro _ g1 ⟨⟨l2, e2, rfl, r1⟩ | ⟨z2, e2, rfl, r1⟩, m1⟩
                    · refine s_goto (p' := 183) rfl rfl ?_
                      refine s_iret rfl rfl ?_
                      exact ⟨_, _, rfl, Or.inl ⟨_, (show stpA np K X l (X p l) _ = _ from (stpA_b (by omega) qb).trans (by rw [if_pos rfl, e2])), rfl, (hS.fr m1.1 (by simp only [List.mem_cons, List.not_mem_nil, or_false]; omega) (by simp only [List.mem_cons, List.not_mem_nil, or_false]; omega) (by simp only [List.mem_cons, List.not_mem_nil, or_false]; omega)), r1⟩, (mo_ml m1 (fun x hx => cML_m.mpr (by simp only [List.mem_cons, List.not_mem_nil, or_false] at hx; omega)))⟩
                    · refine s_goto (p' := 183) rfl rfl ?_
                      refine s_iret rfl rfl ?_
                      exact ⟨_, _, rfl, Or.inr ⟨_, (show stpA np K X l (X p l) _ = _ from (stpA_b (by omega) qb).trans (by rw [if_pos rfl, e2])), rfl, (hS.fr m1.1 (by simp only [List.mem_cons, List.not_mem_nil, or_false]; omega) (by simp only [List.mem_cons, List.not_mem_nil, or_false]; omega) (by simp only [List.mem_cons, List.not_mem_nil, or_false]; omega)), r1⟩, (mo_ml m1 (fun x hx => cML_m.mpr (by simp only [List.mem_cons, List.not_mem_nil, or_false] at hx; omega)))⟩
  | false =>
    have hat0 := hat.2
    have hat : (l - 1) < K p := hat.1
    have hA := (hp.2 p hp1).2 _ hat
    have h200 := aOk_0 hA
    obtain ⟨ia, hq, hi⟩ := (hl.2.2.2 p hp1).2.2.2.2 _ hat
    have hbP : bP p = 77 + 37 * p := rfl
    have so := fun (q : X p (l - 1) 0 = 33 ∨ X p (l - 1) 0 = 63 ∨ X p (l - 1) 0 = 64 ∨ X p (l - 1) 0 = 36 ∨ X p (l - 1) 0 = 126 ∨ X p (l - 1) 0 = 43 ∨ X p (l - 1) 0 = 45 ∨ X p (l - 1) 0 = 94) => aOk_1 hA (brS_f q)
    have hl0 := hat0 rfl
    refine s_aldn (p' := 1) rfl rfl rfl ?_
    refine s_gf (p' := 4) rfl hR.c1 rfl rfl ?_
    refine s_aldn (p' := 5) rfl rfl rfl ?_
    refine s_gf (p' := 8) rfl hR.c1 rfl rfl ?_
    refine s_callV (p' := 11) (ls0 := [_, _]) rfl rfl rfl rfl rfl (mj_rcv_is hl.2.1) rfl (x_lcd hl hp1) (by first | decide | omega) rfl ?_
    refine s_astn (p' := 12) (ls' := [_, _, _, _]) rfl rfl rfl rfl ?_
    refine s_aldn (p' := 13) rfl rfl rfl ?_
    refine s_gf (p' := 16) rfl hR.c1 rfl rfl ?_
    refine s_if (p' := 26) true rfl (by decide +kernel) rfl ?_
    refine s_aldn (p' := 27) rfl rfl rfl ?_
    refine s_gf (p' := 30) rfl hR.c1 rfl rfl ?_
    refine s_con (p' := 31) rfl rfl ?_
    refine s_sp (p' := 32) (ls' := _) rfl rfl rfl ?_
    rw [mI_sub (by omega)]
    refine s_istn (p' := 33) (ls' := [_, _, _, _]) rfl rfl rfl rfl ?_
    refine s_aldn (p' := 34) rfl rfl rfl ?_
    refine s_ildn (p' := 35) rfl rfl rfl ?_
    refine s_callV (p' := 38) (ls0 := [_, _]) rfl rfl rfl rfl rfl (mj_rcv_is (hl.2.2.2 p hp1).2.1) rfl (x_lat hl hp1 hat) (by first | decide | omega) rfl ?_
    refine s_astn (p' := 39) (ls' := [_, _, _, _]) rfl rfl rfl rfl ?_
    refine s_aldn (p' := 40) rfl rfl rfl ?_
    refine s_gf (p' := 43) rfl hq rfl rfl ?_
    rw [hi 0 (by decide)]
    by_cases q33 : X p (l - 1) 0 = 33
    · rw [q33]
      refine s_sp (p' := 142) (ls' := _) rfl rfl rfl ?_
      refine s_aldn (p' := 143) rfl rfl rfl ?_
      refine s_aldn (p' := 144) rfl rfl rfl ?_
      refine s_callEV (p' := 147) (ls0 := [_, _, _]) rfl rfl rfl rfl rfl (mj_rcv_is hR.c1) rfl (x_mst bS hS bR hSR hq hi hR ((so (by omega)).2.1 (by omega)) (by omega) (by omega)) rfl rfl ?_
      rintro _ g1 ⟨⟨s2, e2, rfl, s1, r1⟩ | ⟨z2, e2, rfl, s1, r1⟩, m1⟩
      · refine s_if (p' := 184) true rfl (by decide +kernel) rfl ?_
        refine s_aldn (p' := 185) rfl rfl rfl ?_
        refine s_aldn (p' := 186) rfl rfl rfl ?_
        refine s_gf (p' := 189) rfl r1.c1 rfl rfl ?_
        refine s_if (p' := 198) true rfl (by decide +kernel) rfl ?_
        refine s_ildn (p' := 199) rfl rfl rfl ?_
        refine s_callEV (p' := 202) (ls0 := [_, _]) rfl rfl rfl rfl rfl (mj_rcv_is r1.c1) rfl (x_mvt (l1 := l - 1) bR r1) rfl rfl ?_
        rintro _ g2 ⟨rfl, r2, m2⟩
        refine s_iret rfl rfl ?_
        exact ⟨_, _, rfl, Or.inl ⟨_, (show stpA np K X (l - 1) (X p (l - 1)) _ = _ from (stpA_s (by omega) (brS_f (by omega))).trans (by rw [e2] <;> rfl)), rfl, s1.fr m2.1 (by simp only [List.mem_cons, List.not_mem_nil, or_false]; omega) (by simp only [List.mem_cons, List.not_mem_nil, or_false]; omega) (by simp only [List.mem_cons, List.not_mem_nil, or_false]; omega), r2⟩, mo00 m1 (mo_ml m2 (fun x hx => cML_m.mpr (by simp only [List.mem_cons, List.not_mem_nil, or_false] at hx; omega)))⟩
      · refine s_if (p' := 150) false rfl (by decide +kernel) rfl ?_
        refine s_con (p' := 151) rfl rfl ?_
        refine s_iret rfl rfl ?_
        exact ⟨_, _, rfl, Or.inr ⟨_, (show stpA np K X (l - 1) (X p (l - 1)) _ = _ from (stpA_s (by omega) (brS_f (by omega))).trans (by rw [e2] <;> rfl)), rfl, s1, r1⟩, m1⟩
    · by_cases q36 : X p (l - 1) 0 = 36
      · rw [q36]
        refine s_sp (p' := 152) (ls' := _) rfl rfl rfl ?_
        refine s_aldn (p' := 153) rfl rfl rfl ?_
        refine s_aldn (p' := 154) rfl rfl rfl ?_
        refine s_ildn (p' := 155) rfl rfl rfl ?_
        refine s_callEV (p' := 158) (ls0 := [_, _, _]) rfl rfl rfl rfl rfl (mj_rcv_is hR.c1) rfl (x_goi bR hR (by omega) hq hi (a := (l - 1)) hl ((so (by omega)).1 (by omega)) (by omega) (by omega) hw.2.2.1) rfl rfl ?_
        rintro _ g1 ⟨⟨r2, e2, rfl, r1⟩ | ⟨z2, e2, rfl, r1⟩, m1⟩
        · refine s_iret rfl rfl ?_
          exact ⟨_, _, rfl, Or.inl ⟨_, (show stpA np K X (l - 1) (X p (l - 1)) _ = _ from (stpA_c (by omega)).trans (by rw [e2])), rfl, (hS.fr m1.1 (by simp only [List.mem_cons, List.not_mem_nil, or_false]; omega) (by simp only [List.mem_cons, List.not_mem_nil, or_false]; omega) (by simp only [List.mem_cons, List.not_mem_nil, or_false]; omega)), r1⟩, (mo_ml m1 (fun x hx => cML_m.mpr (by simp only [List.mem_cons, List.not_mem_nil, or_false] at hx; omega)))⟩
        · refine s_iret rfl rfl ?_
          exact ⟨_, _, rfl, Or.inr ⟨_, (show stpA np K X (l - 1) (X p (l - 1)) _ = _ from (stpA_c (by omega)).trans (by rw [e2])), rfl, (hS.fr m1.1 (by simp only [List.mem_cons, List.not_mem_nil, or_false]; omega) (by simp only [List.mem_cons, List.not_mem_nil, or_false]; omega) (by simp only [List.mem_cons, List.not_mem_nil, or_false]; omega)), r1⟩, (mo_ml m1 (fun x hx => cML_m.mpr (by simp only [List.mem_cons, List.not_mem_nil, or_false] at hx; omega)))⟩
      · by_cases q43 : X p (l - 1) 0 = 43
        · rw [q43]
          refine s_sp (p' := 116) (ls' := _) rfl rfl rfl ?_
          refine s_aldn (p' := 117) rfl rfl rfl ?_
          refine s_aldn (p' := 118) rfl rfl rfl ?_
          refine s_callEN (p' := 121) (ls0 := [_, _, _, _, _]) rfl rfl rfl rfl rfl (mj_rcv_is hR.c1) rfl (x_upd_ bS hS bR hSR hq hi hR.c1 ((so (by omega)).2.1 (by omega)) (by omega) ((so (by omega)).2.2.2 (by omega)).1 ((so (by omega)).2.2.2 (by omega)).2.1 ((so (by omega)).2.2.2 (by omega)).2.2) rfl rfl ?_
          rintro g1 ⟨s1, m1_⟩
          have r1 := hR.fr m1_.1 (fun x hx => by simp only [List.mem_cons, List.not_mem_nil, or_false] at hx; omega)
          have m1 := mo_ml (R := R) (S := S) m1_ (fun x hx => cML_m.mpr (by simp only [List.mem_cons, List.not_mem_nil, or_false] at hx; omega))
          refine s_goto (p' := 184) rfl rfl ?_
          refine s_aldn (p' := 185) rfl rfl rfl ?_
          refine s_aldn (p' := 186) rfl rfl rfl ?_
          refine s_gf (p' := 189) rfl r1.c1 rfl rfl ?_
          refine s_if (p' := 198) true rfl (by decide +kernel) rfl ?_
          refine s_ildn (p' := 199) rfl rfl rfl ?_
          refine s_callEV (p' := 202) (ls0 := [_, _]) rfl rfl rfl rfl rfl (mj_rcv_is r1.c1) rfl (x_mvt (l1 := l - 1) bR r1) rfl rfl ?_
          rintro _ g2 ⟨rfl, r2, m2⟩
          refine s_iret rfl rfl ?_
          exact ⟨_, _, rfl, Or.inl ⟨_, (show stpA np K X (l - 1) (X p (l - 1)) _ = _ from (stpA_s (by omega) (brS_f (by omega))).trans (by rw [show stS (X p (l - 1)) false (v, st, t) = .inl _ from if_pos (by omega)] <;> rfl)), rfl, s1.fr m2.1 (by simp only [List.mem_cons, List.not_mem_nil, or_false]; omega) (by simp only [List.mem_cons, List.not_mem_nil, or_false]; omega) (by simp only [List.mem_cons, List.not_mem_nil, or_false]; omega), r2⟩, mo00 m1 (mo_ml m2 (fun x hx => cML_m.mpr (by simp only [List.mem_cons, List.not_mem_nil, or_false] at hx; omega)))⟩
        · by_cases q45 : X p (l - 1) 0 = 45
          · rw [q45]
            refine s_sp (p' := 116) (ls' := _) rfl rfl rfl ?_
            refine s_aldn (p' := 117) rfl rfl rfl ?_
            refine s_aldn (p' := 118) rfl rfl rfl ?_
            refine s_callEN (p' := 121) (ls0 := [_, _, _, _, _]) rfl rfl rfl rfl rfl (mj_rcv_is hR.c1) rfl (x_upd_ bS hS bR hSR hq hi hR.c1 ((so (by omega)).2.1 (by omega)) (by omega) ((so (by omega)).2.2.2 (by omega)).1 ((so (by omega)).2.2.2 (by omega)).2.1 ((so (by omega)).2.2.2 (by omega)).2.2) rfl rfl ?_
            rintro g1 ⟨s1, m1_⟩
            have r1 := hR.fr m1_.1 (fun x hx => by simp only [List.mem_cons, List.not_mem_nil, or_false] at hx; omega)
            have m1 := mo_ml (R := R) (S := S) m1_ (fun x hx => cML_m.mpr (by simp only [List.mem_cons, List.not_mem_nil, or_false] at hx; omega))
            refine s_goto (p' := 184) rfl rfl ?_
            refine s_aldn (p' := 185) rfl rfl rfl ?_
            refine s_aldn (p' := 186) rfl rfl rfl ?_
            refine s_gf (p' := 189) rfl r1.c1 rfl rfl ?_
            refine s_if (p' := 198) true rfl (by decide +kernel) rfl ?_
            refine s_ildn (p' := 199) rfl rfl rfl ?_
            refine s_callEV (p' := 202) (ls0 := [_, _]) rfl rfl rfl rfl rfl (mj_rcv_is r1.c1) rfl (x_mvt (l1 := l - 1) bR r1) rfl rfl ?_
            rintro _ g2 ⟨rfl, r2, m2⟩
            refine s_iret rfl rfl ?_
            exact ⟨_, _, rfl, Or.inl ⟨_, (show stpA np K X (l - 1) (X p (l - 1)) _ = _ from (stpA_s (by omega) (brS_f (by omega))).trans (by rw [show stS (X p (l - 1)) false (v, st, t) = .inl _ from if_pos (by omega)] <;> rfl)), rfl, s1.fr m2.1 (by simp only [List.mem_cons, List.not_mem_nil, or_false]; omega) (by simp only [List.mem_cons, List.not_mem_nil, or_false]; omega) (by simp only [List.mem_cons, List.not_mem_nil, or_false]; omega), r2⟩, mo00 m1 (mo_ml m2 (fun x hx => cML_m.mpr (by simp only [List.mem_cons, List.not_mem_nil, or_false] at hx; omega)))⟩
          · by_cases q63 : X p (l - 1) 0 = 63
            · rw [q63]
              refine s_sp (p' := 142) (ls' := _) rfl rfl rfl ?_
              refine s_aldn (p' := 143) rfl rfl rfl ?_
              refine s_aldn (p' := 144) rfl rfl rfl ?_
              refine s_callEV (p' := 147) (ls0 := [_, _, _]) rfl rfl rfl rfl rfl (mj_rcv_is hR.c1) rfl (x_mst bS hS bR hSR hq hi hR ((so (by omega)).2.1 (by omega)) (by omega) (by omega)) rfl rfl ?_
              rintro _ g1 ⟨⟨s2, e2, rfl, s1, r1⟩ | ⟨z2, e2, rfl, s1, r1⟩, m1⟩
              · refine s_if (p' := 184) true rfl (by decide +kernel) rfl ?_
                refine s_aldn (p' := 185) rfl rfl rfl ?_
                refine s_aldn (p' := 186) rfl rfl rfl ?_
                refine s_gf (p' := 189) rfl r1.c1 rfl rfl ?_
                refine s_if (p' := 198) true rfl (by decide +kernel) rfl ?_
                refine s_ildn (p' := 199) rfl rfl rfl ?_
                refine s_callEV (p' := 202) (ls0 := [_, _]) rfl rfl rfl rfl rfl (mj_rcv_is r1.c1) rfl (x_mvt (l1 := l - 1) bR r1) rfl rfl ?_
                rintro _ g2 ⟨rfl, r2, m2⟩
                refine s_iret rfl rfl ?_
                exact ⟨_, _, rfl, Or.inl ⟨_, (show stpA np K X (l - 1) (X p (l - 1)) _ = _ from (stpA_s (by omega) (brS_f (by omega))).trans (by rw [e2] <;> rfl)), rfl, s1.fr m2.1 (by simp only [List.mem_cons, List.not_mem_nil, or_false]; omega) (by simp only [List.mem_cons, List.not_mem_nil, or_false]; omega) (by simp only [List.mem_cons, List.not_mem_nil, or_false]; omega), r2⟩, mo00 m1 (mo_ml m2 (fun x hx => cML_m.mpr (by simp only [List.mem_cons, List.not_mem_nil, or_false] at hx; omega)))⟩
              · refine s_if (p' := 150) false rfl (by decide +kernel) rfl ?_
                refine s_con (p' := 151) rfl rfl ?_
                refine s_iret rfl rfl ?_
                exact ⟨_, _, rfl, Or.inr ⟨_, (show stpA np K X (l - 1) (X p (l - 1)) _ = _ from (stpA_s (by omega) (brS_f (by omega))).trans (by rw [e2] <;> rfl)), rfl, s1, r1⟩, m1⟩
            · by_cases q64 : X p (l - 1) 0 = 64
              · rw [q64]
                refine s_sp (p' := 152) (ls' := _) rfl rfl rfl ?_
                refine s_aldn (p' := 153) rfl rfl rfl ?_
                refine s_aldn (p' := 154) rfl rfl rfl ?_
                refine s_ildn (p' := 155) rfl rfl rfl ?_
                refine s_callEV (p' := 158) (ls0 := [_, _, _]) rfl rfl rfl rfl rfl (mj_rcv_is hR.c1) rfl (x_goi bR hR (by omega) hq hi (a := (l - 1)) hl ((so (by omega)).1 (by omega)) (by omega) (by omega) hw.2.2.1) rfl rfl ?_
                rintro _ g1 ⟨⟨r2, e2, rfl, r1⟩ | ⟨z2, e2, rfl, r1⟩, m1⟩
                · refine s_iret rfl rfl ?_
                  exact ⟨_, _, rfl, Or.inl ⟨_, (show stpA np K X (l - 1) (X p (l - 1)) _ = _ from (stpA_c (by omega)).trans (by rw [e2])), rfl, (hS.fr m1.1 (by simp only [List.mem_cons, List.not_mem_nil, or_false]; omega) (by simp only [List.mem_cons, List.not_mem_nil, or_false]; omega) (by simp only [List.mem_cons, List.not_mem_nil, or_false]; omega)), r1⟩, (mo_ml m1 (fun x hx => cML_m.mpr (by simp only [List.mem_cons, List.not_mem_nil, or_false] at hx; omega)))⟩
                · refine s_iret rfl rfl ?_
                  exact ⟨_, _, rfl, Or.inr ⟨_, (show stpA np K X (l - 1) (X p (l - 1)) _ = _ from (stpA_c (by omega)).trans (by rw [e2])), rfl, (hS.fr m1.1 (by simp only [List.mem_cons, List.not_mem_nil, or_false]; omega) (by simp only [List.mem_cons, List.not_mem_nil, or_false]; omega) (by simp only [List.mem_cons, List.not_mem_nil, or_false]; omega)), r1⟩, (mo_ml m1 (fun x hx => cML_m.mpr (by simp only [List.mem_cons, List.not_mem_nil, or_false] at hx; omega)))⟩
              · by_cases q94 : X p (l - 1) 0 = 94
                · rw [q94]
                  refine s_sp (p' := 116) (ls' := _) rfl rfl rfl ?_
                  refine s_aldn (p' := 117) rfl rfl rfl ?_
                  refine s_aldn (p' := 118) rfl rfl rfl ?_
                  refine s_callEN (p' := 121) (ls0 := [_, _, _, _, _]) rfl rfl rfl rfl rfl (mj_rcv_is hR.c1) rfl (x_upd_ bS hS bR hSR hq hi hR.c1 ((so (by omega)).2.1 (by omega)) (by omega) ((so (by omega)).2.2.2 (by omega)).1 ((so (by omega)).2.2.2 (by omega)).2.1 ((so (by omega)).2.2.2 (by omega)).2.2) rfl rfl ?_
                  rintro g1 ⟨s1, m1_⟩
                  have r1 := hR.fr m1_.1 (fun x hx => by simp only [List.mem_cons, List.not_mem_nil, or_false] at hx; omega)
                  have m1 := mo_ml (R := R) (S := S) m1_ (fun x hx => cML_m.mpr (by simp only [List.mem_cons, List.not_mem_nil, or_false] at hx; omega))
                  refine s_goto (p' := 184) rfl rfl ?_
                  refine s_aldn (p' := 185) rfl rfl rfl ?_
                  refine s_aldn (p' := 186) rfl rfl rfl ?_
                  refine s_gf (p' := 189) rfl r1.c1 rfl rfl ?_
                  refine s_if (p' := 198) true rfl (by decide +kernel) rfl ?_
                  refine s_ildn (p' := 199) rfl rfl rfl ?_
                  refine s_callEV (p' := 202) (ls0 := [_, _]) rfl rfl rfl rfl rfl (mj_rcv_is r1.c1) rfl (x_mvt (l1 := l - 1) bR r1) rfl rfl ?_
                  rintro _ g2 ⟨rfl, r2, m2⟩
                  refine s_iret rfl rfl ?_
                  exact ⟨_, _, rfl, Or.inl ⟨_, (show stpA np K X (l - 1) (X p (l - 1)) _ = _ from (stpA_s (by omega) (brS_f (by omega))).trans (by rw [show stS (X p (l - 1)) false (v, st, t) = .inl _ from if_pos (by omega)] <;> rfl)), rfl, s1.fr m2.1 (by simp only [List.mem_cons, List.not_mem_nil, or_false]; omega) (by simp only [List.mem_cons, List.not_mem_nil, or_false]; omega) (by simp only [List.mem_cons, List.not_mem_nil, or_false]; omega), r2⟩, mo00 m1 (mo_ml m2 (fun x hx => cML_m.mpr (by simp only [List.mem_cons, List.not_mem_nil, or_false] at hx; omega)))⟩
                · by_cases q126 : X p (l - 1) 0 = 126
                  · rw [q126]
                    refine s_sp (p' := 124) (ls' := _) rfl rfl rfl ?_
                    refine s_aldn (p' := 125) rfl rfl rfl ?_
                    refine s_aldn (p' := 126) rfl rfl rfl ?_
                    refine s_gf (p' := 129) rfl hq rfl rfl ?_
                    rw [hi 1 (by decide)]
                    refine s_aldn (p' := 130) rfl rfl rfl ?_
                    refine s_gf (p' := 133) rfl hq rfl rfl ?_
                    rw [hi 2 (by decide)]
                    obtain ⟨w0, hw0, hw0n, hw2⟩ := (so (by omega)).2.2.1 (by omega)
                    rw [hw2]
                    refine s_callV (p' := 136) (ls0 := [_]) rfl rfl rfl rfl rfl rfl rfl (x_tof2 hw0) (by first | decide | omega) rfl ?_
                    refine s_callEN (p' := 139) (ls0 := [_, _, _, _]) rfl rfl rfl rfl rfl (mj_rcv_is hR.c1) rfl (x_swp bS hS bR hSR hR.c1 ((so (by omega)).2.1 (by omega)) hw0) rfl rfl ?_
                    rintro g1 ⟨s1, m1_⟩
                    have r1 := hR.fr m1_.1 (fun x hx => by simp only [List.mem_cons, List.not_mem_nil, or_false] at hx; omega)
                    have m1 := mo_ml (R := R) (S := S) m1_ (fun x hx => cML_m.mpr (by simp only [List.mem_cons, List.not_mem_nil, or_false] at hx; omega))
                    refine s_goto (p' := 184) rfl rfl ?_
                    refine s_aldn (p' := 185) rfl rfl rfl ?_
                    refine s_aldn (p' := 186) rfl rfl rfl ?_
                    refine s_gf (p' := 189) rfl r1.c1 rfl rfl ?_
                    refine s_if (p' := 198) true rfl (by decide +kernel) rfl ?_
                    refine s_ildn (p' := 199) rfl rfl rfl ?_
                    refine s_callEV (p' := 202) (ls0 := [_, _]) rfl rfl rfl rfl rfl (mj_rcv_is r1.c1) rfl (x_mvt (l1 := l - 1) bR r1) rfl rfl ?_
                    rintro _ g2 ⟨rfl, r2, m2⟩
                    refine s_iret rfl rfl ?_
                    exact ⟨_, _, rfl, Or.inl ⟨_, (show stpA np K X (l - 1) (X p (l - 1)) _ = _ from (stpA_s (by omega) (brS_f (by omega))).trans (by rw [show stS (X p (l - 1)) false (v, st, t) = .inl (upd (upd v (X p (l - 1) 1) (v w0)) w0 (v (X p (l - 1) 1)), st, t) from (if_neg (by omega)).trans ((if_pos (by omega)).trans (by rw [hw2, show 4294967295 - vT w0 = w0 by unfold vT; omega]))] <;> rfl)), rfl, s1.fr m2.1 (by simp only [List.mem_cons, List.not_mem_nil, or_false]; omega) (by simp only [List.mem_cons, List.not_mem_nil, or_false]; omega) (by simp only [List.mem_cons, List.not_mem_nil, or_false]; omega), r2⟩, mo00 m1 (mo_ml m2 (fun x hx => cML_m.mpr (by simp only [List.mem_cons, List.not_mem_nil, or_false] at hx; omega)))⟩
                  · skip
                    refine s_sp (p' := 159) (ls' := _) rfl rfl (lsw2 h200 q33 q36 q43 q45 q63 q64 q94 q126) ?_
                    have qb : brS (X p (l - 1) 0) = true := aOk_br hA (by omega)
                    obtain ⟨o_, m_, e_, bo, hj, g1_, g2_, g3_, l5, l6, l7⟩ := aOk_l hA qb
                    have b5 : X p (l - 1) 5 < K p := by omega
                    have b6 : X p (l - 1) 6 < K p := by omega
                    have b7 : X p (l - 1) 7 < K p := by omega
                    have t5 : tst (X p (X p (l - 1) 5)) := by rw [l5]; exact bo.2.1
                    have t7 : tst (X p (X p (l - 1) 7)) := by rw [l7]; exact bo.2.2.1
                    have hsg := of_decide_eq_true qb
                    refine s_aldn (p' := 160) rfl rfl rfl ?_
                    refine s_gf (p' := 163) rfl hR.c1 rfl rfl ?_
                    refine s_if (p' := 176) true rfl (by decide +kernel) rfl ?_
                    refine s_aldn (p' := 177) rfl rfl rfl ?_
                    refine s_aldn (p' := 178) rfl rfl rfl ?_
                    refine s_aldn (p' := 179) rfl rfl rfl ?_
                    refine s_ildn (p' := 180) rfl rfl rfl ?_
                    refine s_callEV (p' := 183) (ls0 := [_, _, _, _, _, _]) rfl rfl rfl rfl rfl (mj_rcv_is hR.c1) rfl (x_pB bR hR bS hS hl hp1 hat b5 b6 b7 hk t5 t7 (by omega)) rfl rfl ?_
                    rintro _ g1 ⟨⟨l2, e2, rfl, r1⟩ | ⟨z2, e2, rfl, r1⟩, m1⟩
                    · refine s_iret rfl rfl ?_
                      exact ⟨_, _, rfl, Or.inl ⟨_, (show stpA np K X (l - 1) (X p (l - 1)) _ = _ from (stpA_b (by omega) qb).trans (by rw [if_neg (by decide), e2])), rfl, (hS.fr m1.1 (by simp only [List.mem_cons, List.not_mem_nil, or_false]; omega) (by simp only [List.mem_cons, List.not_mem_nil, or_false]; omega) (by simp only [List.mem_cons, List.not_mem_nil, or_false]; omega)), r1⟩, (mo_ml m1 (fun x hx => cML_m.mpr (by simp only [List.mem_cons, List.not_mem_nil, or_false] at hx; omega)))⟩
                    · refine s_iret rfl rfl ?_
                      exact ⟨_, _, rfl, Or.inr ⟨_, (show stpA np K X (l - 1) (X p (l - 1)) _ = _ from (stpA_b (by omega) qb).trans (by rw [if_neg (by decide), e2])), rfl, (hS.fr m1.1 (by simp only [List.mem_cons, List.not_mem_nil, or_false]; omega) (by simp only [List.mem_cons, List.not_mem_nil, or_false]; omega) (by simp only [List.mem_cons, List.not_mem_nil, or_false]; omega)), r1⟩, (mo_ml m1 (fun x hx => cML_m.mpr (by simp only [List.mem_cons, List.not_mem_nil, or_false] at hx; omega)))⟩
