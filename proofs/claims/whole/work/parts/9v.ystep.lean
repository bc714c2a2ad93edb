/-! The reference runs: steps, so many steps. -/
theorem yWl.z {h : mj_H} {W p l c : Nat} {w : Bool} {cp cl : Nat → Nat} {cw : Nat → Bool} {s : SV} {z : CZ} (bW : W + 8 < mj_CB) (a : yWl h W (s, p, l, c, w, cp, cl, cw) z) : yWl (h.set W (wrC W s.2.2 c 0)) W (s, p, l, c, w, cp, cl, cw) z0 ∧ mz_mo (wML W) 0 0 h (h.set W (wrC W s.2.2 c 0)) := by
  have m : mz_mo [W] 0 0 h (h.set W (wrC W s.2.2 c 0)) := mz_mo.s (mz_mo.rf _ _ _ _) (by omega) a.1 rfl (Or.inl (by simp))
  obtain ⟨a0, st, r, lf, nf, a6, a7, _⟩ := a
  exact ⟨⟨rd_set (by omega) a0, st.fr m.1 (by simp) (by simp), r.fr m.1 (by simp) (by simp) (by simp), lf, nf, m.1 _ (by simp) _ a6, m.1 _ (by simp) _ a7, Nat.zero_le 2, fun e => absurd (show 0 < 0 from e) (by decide), fun e => absurd (show 1 < 0 from e) (by decide)⟩, mo_w m (fun x hx => wML_m.mpr (by rw [List.mem_singleton] at hx; omega))⟩
theorem yAp.s {I : Nat → Prop} {h : mj_H} {x : Nat → Nat → Nat} {p j : Nat} (a : yAp I h x p j) (hb : ¬ brS (x j 0) = true) : ySim I h (x j) p := a.resolve_right (fun e => hb e.1)
theorem yAp.b {I : Nat → Prop} {h : mj_H} {x : Nat → Nat → Nat} {p j : Nat} (a : yAp I h x p j) (hb : brS (x j 0) = true) : ∃ (S1 S2 R1 R2 : Nat) (s1 s2 : Int32), mj_rd h p = some (ptC (nI (x (x j 5) 0)) s1 s2 .null (.ref S1) (.ref S2) (.ref R1) (.ref R2)) ∧ ySu I h S1 (x (x j 5) 2) (x (x j 5) 3) (x (x j 5) 4) ∧ ySu I h S2 (x (x j 7) 2) (x (x j 7) 3) (x (x j 7) 4) := by
  rcases a with a | ⟨_, S1, S2, R1, R2, s1, s2, _, r, u1, u2⟩
  · have := a.1
    rw [hb] at this
    cases this
  · exact ⟨S1, S2, R1, R2, s1, s2, r, u1, u2⟩
theorem yWl.c {h g : mj_H} {W p l c : Nat} {w : Bool} {cp cl : Nat → Nat} {cw : Nat → Bool} {s s' : SV} {z : CZ} (a : yWl h W (s, p, l, c, w, cp, cl, cw) z) (w1 : mj_rd g W = some (wrC W s'.2.2 c z.1)) (st1 : wSt g W s') (y1 : wWy g W z) (m : mz_mo [W, W + 1, W + 2, W + 6, W + 7] 0 0 h g) : yWl g W (s', p, l, c, w, cp, cl, cw) z ∧ mz_mo (wML W) 0 0 h g :=
  ⟨⟨w1, st1, a.2.2.1.fr m.1 (by simp) (by simp) (by simp), y1⟩, mo_w m (fun x hx => wML_m.mpr (by simp only [List.mem_cons, List.not_mem_nil, or_false] at hx; omega))⟩
theorem y_sps {I : Nat → Prop} {h : mj_H} {W np p l c t : Nat} {w : Bool} {v st : Nat → Int32} {cp cl : Nat → Nat} {cw : Nat → Bool} {K : Nat → Nat} {X : Nat → Nat → Nat → Nat} {z : CZ} (bW : W + 8 < mj_CB) (hI : ∀ x, x ∈ wML W → ¬ I x) (hp : pOk np K X) (hl : yLb I h np K X) (hy : yWl h W ((v, st, t), p, l, c, w, cp, cl, cw) z) (hw : wfR np K (p, l, c, w, cp, cl, cw)) (he : edg K (p, l, c, w, cp, cl, cw) = false) : mj_Wp 12 386 (0, [some (.ref W), none, none, none, none, none], [], h) (mz_V fun rv h' => ((∃ s', stp np K X ((v, st, t), p, l, c, w, cp, cl, cw) = .inl s' ∧ rv = .int (nI 1) ∧ yWl h' W (s'.1, cbk K 20 s'.2) z0) ∨ ∃ z', stp np K X ((v, st, t), p, l, c, w, cp, cl, cw) = .inr z' ∧ rv = .int (nI 0) ∧ yWl h' W ((v, st, t), p, l, c, w, cp, cl, cw) z') ∧ mz_mo (wML W) 0 0 h h') := by
  have hat := edg_at hw he
  have hw0 := hw
  obtain ⟨hp1, hlk, hc, h4⟩ := hw
  have hk := (hp.2 p hp1).1
  have hn := hp.1
  have hK : ∀ p, p < np → K p ≤ 30 := fun p h => (hp.2 p h).1
  have hW : mj_rd h W = some (wrC W t c z.1) := hy.1
  cases w with
  | true =>
    have hat0 := hat.2
    have hat : l < K p := hat.1
    have hA := (hp.2 p hp1).2 _ hat
    have h200 := aOk_0 hA
    have so := fun (q : X p l 0 = 33 ∨ X p l 0 = 63 ∨ X p l 0 = 64 ∨ X p l 0 = 36 ∨ X p l 0 = 126 ∨ X p l 0 = 43 ∨ X p l 0 = 45 ∨ X p l 0 = 94) => aOk_1 hA (brS_f q)
    refine s_aldn (p' := 1) rfl rfl rfl ?_
    refine s_con (p' := 2) rfl rfl ?_
    refine s_pf (p' := 5) (fs' := [_, _, _, _, _, _, _, _, _, _, _]) rfl (by omega) hW (Nat.blt_eq.mp rfl) rfl rfl rfl ?_
    generalize hg1 : List.set h W _ = h1
    have yz := hy.z bW
    have y1 : yWl h1 W ((v, st, t), p, l, c, true, cp, cl, cw) z0 := by rw [← hg1]; exact yz.1
    have m1 : mz_mo (wML W) 0 0 h h1 := by rw [← hg1]; exact yz.2
    clear hg1 yz
    have hl1 := hl.fr m1.1 hy (fun x hx => hx) hI
    have W1 : mj_rd h1 W = some (wrC W t c 0) := y1.1
    obtain ⟨_, ⟨f2, a4, _, b4⟩, f3, a5, _, _, b5⟩ := id y1.2.2.1
    refine s_aldn (p' := 6) rfl rfl rfl ?_
    refine s_gf (p' := 9) rfl W1 rfl rfl ?_
    refine s_aldn (p' := 10) rfl rfl rfl ?_
    refine s_gf (p' := 13) rfl W1 rfl rfl ?_
    refine s_bal2 (p' := 14) rfl a5 (inb_nI (by omega) (by omega)) rfl ?_
    rw [mI_cl (by omega), b5]
    refine s_istn (p' := 15) (ls' := [_, _, _, _, _, _]) rfl rfl rfl rfl ?_
    refine s_ildn (p' := 16) rfl rfl rfl ?_
    refine s_if (p' := 19) false rfl (by decide +kernel) rfl ?_
    refine s_aldn (p' := 20) rfl rfl rfl ?_
    refine s_gf (p' := 23) rfl W1 rfl rfl ?_
    refine s_aldn (p' := 24) rfl rfl rfl ?_
    refine s_gf (p' := 27) rfl W1 rfl rfl ?_
    refine s_ial (p' := 28) rfl a4 (inb_nI (by omega) (by omega)) rfl ?_
    rw [mI_cl (by omega), b4]
    refine s_goto (p' := 42) rfl rfl ?_
    refine s_istn (p' := 43) (ls' := [_, _, _, _, _, _]) rfl rfl rfl rfl ?_
    refine s_aldn (p' := 44) rfl rfl rfl ?_
    refine c_call (p' := 47) (kc := 5) (ls0 := [_]) rfl rfl rfl rfl rfl (mj_rcv_is W1) rfl rfl rfl ?_
    refine ((y_act hl1 W1 y1.2.2.1 hc hp1 hn)).imp ?_
    rintro o ⟨La, Ea, F, rfl, la, ac⟩
    show mj_Wp _ _ (47, _, _, _) _
    obtain ⟨_, pq, ra, ap⟩ := ac _ hat
    refine s_ildn (p' := 48) rfl rfl rfl ?_
    refine s_callV (p' := 53) (ls0 := [_, _]) rfl rfl rfl rfl rfl (by obtain ⟨_, _, _, zz, _⟩ := la; exact mj_rcv_is zz) rfl (y_get la hat) (by first | decide | omega) rfl ?_
    refine s_cco (p' := 56) rfl ra rfl ?_
    refine s_astn (p' := 57) (ls' := [_, _, _, _, _, _]) rfl rfl rfl rfl ?_
    refine s_ildn (p' := 58) rfl rfl rfl ?_
    refine s_if (p' := 61) false rfl (by decide +kernel) rfl ?_
    refine s_ildn (p' := 62) rfl rfl rfl ?_
    refine s_con (p' := 63) rfl rfl ?_
    refine s_sp (p' := 64) (ls' := _) rfl rfl rfl ?_
    rw [mI_add]
    refine s_goto (p' := 68) rfl rfl ?_
    refine s_ist (p' := 70) (ls' := [_, _, _, _, _, _]) rfl rfl rfl rfl ?_
    by_cases q64 : X p l 0 = 64 ∨ X p l 0 = 36
    · refine s_aldn (p' := 71) rfl rfl rfl ?_
      refine s_gf (p' := 74) rfl ra rfl rfl ?_
      refine s_bip (p' := 76) rfl rfl ?_
      by_cases q6 : X p l 0 = 64
      · refine s_icmp (p' := 88) true rfl ((ci_eq (by omega) (by omega)).trans (decide_eq_true (by omega))) rfl ?_
        obtain ⟨b_, v_, rp⟩ : ∃ (b : Int32) (v : Value), mj_rd h1 pq = some (ptC (nI (X p l 0)) (nI (X p l 1)) b v .null .null .null .null) := by
          obtain ⟨_, _, b, v, r, _⟩ := ap.s (brS_f (by omega))
          exact ⟨b, v, r⟩
        refine s_aldn (p' := 89) rfl rfl rfl ?_
        refine s_aldn (p' := 90) rfl rfl rfl ?_
        refine s_gf (p' := 93) rfl ra rfl rfl ?_
        refine s_gf (p' := 96) rfl rp rfl rfl ?_
        refine s_aldn (p' := 97) rfl rfl rfl ?_
        refine s_gf (p' := 100) rfl ra rfl rfl ?_
        refine s_bip (p' := 102) rfl rfl ?_
        refine s_icmp (p' := 105) false rfl ((ci_ne (by omega) (by omega)).trans (decide_eq_false (fun e => e q6))) rfl ?_
        refine s_con (p' := 106) rfl rfl ?_
        refine s_goto (p' := 110) rfl rfl ?_
        refine s_ildn (p' := 111) rfl rfl rfl ?_
        refine s_icmp (p' := 114) false rfl (by decide +kernel) rfl ?_
        refine s_con (p' := 115) rfl rfl ?_
        refine s_goto (p' := 119) rfl rfl ?_
        refine s_ildn (p' := 120) rfl rfl rfl ?_
        refine c_call (p' := 123) (kc := 7) (ls0 := [_, _, _, _]) rfl rfl rfl rfl rfl (mj_rcv_is W1) rfl rfl rfl ?_
        refine ((y_cll (q := X p l 1) (b := true) (a := l) bW hI hn hl1 y1 hc (by have := (so (by omega)).1 (by omega); omega) hK)).imp ?_
        rintro o ⟨rv, g, rfl, ⟨r_, e_, rfl, yq_⟩ | ⟨z_, e_, rfl, yq_⟩, mq_⟩
        · show mj_Wp _ _ (123, _, _, _) _
          refine s_ist (p' := 125) (ls' := [_, _, _, _, _, _]) rfl rfl rfl rfl ?_
          refine s_goto (p' := 178) rfl rfl ?_
          have hst : stp np K X ((v, st, t), p, l, c, true, cp, cl, cw) = .inl ((v, st, t), r_) := (show stpA np K X l (X p l) _ = _ from (stpA_c (by omega)).trans (by rw [show decide (X p l 0 = 64) = true from decide_eq_true q6, show (if (true : Bool) = true then 0 else K (X p l 1)) = (if (true : Bool) = true then 0 else K (X p l 1)) from rfl, show decide ((true : Bool) = true) = true from rfl, e_]))
          have hw1 := stp_wf hp hw0 he hst
          have hlg := hl.fr (mo00 m1 mq_).1 hy (fun x hx => hx) hI
          refine s_ild (p' := 180) rfl rfl rfl ?_
          refine s_if (p' := 183) false rfl (by decide +kernel) rfl ?_
          refine s_aldn (p' := 184) rfl rfl rfl ?_
          refine s_callEN (p' := 187) (ls0 := [_]) rfl rfl rfl rfl rfl (mj_rcv_is yq_.1) rfl (y_cbL bW hI hn hK 20 _ _ (Nat.le_refl 20) hw1.2.2.1 hw1 hlg yq_) rfl rfl ?_
          rintro g3 ⟨y3, _, m3⟩
          refine s_ild (p' := 189) rfl rfl rfl ?_
          refine s_iret rfl rfl ?_
          exact ⟨_, _, rfl, Or.inl ⟨_, hst, rfl, y3⟩, mo00 (mo00 m1 mq_) m3⟩
        · show mj_Wp _ _ (123, _, _, _) _
          refine s_ist (p' := 125) (ls' := [_, _, _, _, _, _]) rfl rfl rfl rfl ?_
          refine s_goto (p' := 178) rfl rfl ?_
          refine s_ild (p' := 180) rfl rfl rfl ?_
          refine s_if (p' := 187) true rfl (by decide +kernel) rfl ?_
          refine s_ild (p' := 189) rfl rfl rfl ?_
          refine s_iret rfl rfl ?_
          exact ⟨_, _, rfl, Or.inr ⟨_, (show stpA np K X l (X p l) _ = _ from (stpA_c (by omega)).trans (by rw [show decide (X p l 0 = 64) = true from decide_eq_true q6, show (if (true : Bool) = true then 0 else K (X p l 1)) = (if (true : Bool) = true then 0 else K (X p l 1)) from rfl, show decide ((true : Bool) = true) = true from rfl, e_])), rfl, yq_⟩, mo00 m1 mq_⟩
      · refine s_icmp (p' := 79) false rfl ((ci_eq (by omega) (by omega)).trans (decide_eq_false (by omega))) rfl ?_
        refine s_aldn (p' := 80) rfl rfl rfl ?_
        refine s_gf (p' := 83) rfl ra rfl rfl ?_
        refine s_bip (p' := 85) rfl rfl ?_
        refine s_icmp (p' := 88) false rfl ((ci_ne (by omega) (by omega)).trans (decide_eq_false (by omega))) rfl ?_
        obtain ⟨b_, v_, rp⟩ : ∃ (b : Int32) (v : Value), mj_rd h1 pq = some (ptC (nI (X p l 0)) (nI (X p l 1)) b v .null .null .null .null) := by
          obtain ⟨_, _, b, v, r, _⟩ := ap.s (brS_f (by omega))
          exact ⟨b, v, r⟩
        refine s_aldn (p' := 89) rfl rfl rfl ?_
        refine s_aldn (p' := 90) rfl rfl rfl ?_
        refine s_gf (p' := 93) rfl ra rfl rfl ?_
        refine s_gf (p' := 96) rfl rp rfl rfl ?_
        refine s_aldn (p' := 97) rfl rfl rfl ?_
        refine s_gf (p' := 100) rfl ra rfl rfl ?_
        refine s_bip (p' := 102) rfl rfl ?_
        refine s_icmp (p' := 109) true rfl ((ci_ne (by omega) (by omega)).trans (decide_eq_true q6)) rfl ?_
        refine s_con (p' := 110) rfl rfl ?_
        refine s_ildn (p' := 111) rfl rfl rfl ?_
        refine s_icmp (p' := 118) true rfl (by decide +kernel) rfl ?_
        refine s_con (p' := 119) rfl rfl ?_
        refine s_ildn (p' := 120) rfl rfl rfl ?_
        refine c_call (p' := 123) (kc := 7) (ls0 := [_, _, _, _]) rfl rfl rfl rfl rfl (mj_rcv_is W1) rfl rfl rfl ?_
        refine ((y_cll (q := X p l 1) (b := false) (a := l) bW hI hn hl1 y1 hc (by have := (so (by omega)).1 (by omega); omega) hK)).imp ?_
        rintro o ⟨rv, g, rfl, ⟨r_, e_, rfl, yq_⟩ | ⟨z_, e_, rfl, yq_⟩, mq_⟩
        · show mj_Wp _ _ (123, _, _, _) _
          refine s_ist (p' := 125) (ls' := [_, _, _, _, _, _]) rfl rfl rfl rfl ?_
          refine s_goto (p' := 178) rfl rfl ?_
          have hst : stp np K X ((v, st, t), p, l, c, true, cp, cl, cw) = .inl ((v, st, t), r_) := (show stpA np K X l (X p l) _ = _ from (stpA_c (by omega)).trans (by rw [show decide (X p l 0 = 64) = false from decide_eq_false q6, show (if (false : Bool) = true then 0 else K (X p l 1)) = (if (false : Bool) = true then 0 else K (X p l 1)) from rfl, show decide ((false : Bool) = true) = false from rfl, e_]))
          have hw1 := stp_wf hp hw0 he hst
          have hlg := hl.fr (mo00 m1 mq_).1 hy (fun x hx => hx) hI
          refine s_ild (p' := 180) rfl rfl rfl ?_
          refine s_if (p' := 183) false rfl (by decide +kernel) rfl ?_
          refine s_aldn (p' := 184) rfl rfl rfl ?_
          refine s_callEN (p' := 187) (ls0 := [_]) rfl rfl rfl rfl rfl (mj_rcv_is yq_.1) rfl (y_cbL bW hI hn hK 20 _ _ (Nat.le_refl 20) hw1.2.2.1 hw1 hlg yq_) rfl rfl ?_
          rintro g3 ⟨y3, _, m3⟩
          refine s_ild (p' := 189) rfl rfl rfl ?_
          refine s_iret rfl rfl ?_
          exact ⟨_, _, rfl, Or.inl ⟨_, hst, rfl, y3⟩, mo00 (mo00 m1 mq_) m3⟩
        · show mj_Wp _ _ (123, _, _, _) _
          refine s_ist (p' := 125) (ls' := [_, _, _, _, _, _]) rfl rfl rfl rfl ?_
          refine s_goto (p' := 178) rfl rfl ?_
          refine s_ild (p' := 180) rfl rfl rfl ?_
          refine s_if (p' := 187) true rfl (by decide +kernel) rfl ?_
          refine s_ild (p' := 189) rfl rfl rfl ?_
          refine s_iret rfl rfl ?_
          exact ⟨_, _, rfl, Or.inr ⟨_, (show stpA np K X l (X p l) _ = _ from (stpA_c (by omega)).trans (by rw [show decide (X p l 0 = 64) = false from decide_eq_false q6, show (if (false : Bool) = true then 0 else K (X p l 1)) = (if (false : Bool) = true then 0 else K (X p l 1)) from rfl, show decide ((false : Bool) = true) = false from rfl, e_])), rfl, yq_⟩, mo00 m1 mq_⟩
    · refine s_aldn (p' := 71) rfl rfl rfl ?_
      refine s_gf (p' := 74) rfl ra rfl rfl ?_
      refine s_bip (p' := 76) rfl rfl ?_
      refine s_icmp (p' := 79) false rfl ((ci_eq (by omega) (by omega)).trans (decide_eq_false (by omega))) rfl ?_
      refine s_aldn (p' := 80) rfl rfl rfl ?_
      refine s_gf (p' := 83) rfl ra rfl rfl ?_
      refine s_bip (p' := 85) rfl rfl ?_
      refine s_icmp (p' := 128) true rfl ((ci_ne (by omega) (by omega)).trans (decide_eq_true (by omega))) rfl ?_
      by_cases qb : brS (X p l 0) = true
      · obtain ⟨S1, S2, R1, R2, s1, s2, rp, u1, u2⟩ := ap.b qb
        obtain ⟨o_, m_, e9_, bo, hj, g1_, g2_, g3_, l5, l6, l7⟩ := aOk_l hA qb
        have b5_ : X p l 5 < K p := by omega
        have b6_ : X p l 6 < K p := by omega
        have b7_ : X p l 7 < K p := by omega
        have t5_ : tst (X p (X p l 5)) := by rw [l5]; exact bo.2.1
        have t7_ : tst (X p (X p l 7)) := by rw [l7]; exact bo.2.2.1
        have hsg := of_decide_eq_true qb
        have ho : X p (X p l 5) 0 = 91 ∨ X p (X p l 5) 0 = 123 := by rw [l5]; have := bo.1; omega
        refine s_aldn (p' := 129) rfl rfl rfl ?_
        refine s_gf (p' := 132) rfl ra rfl rfl ?_
        refine s_callV (p' := 135) (ls0 := [_]) rfl rfl rfl rfl rfl (mj_rcv_is rp) rfl (y_isb (by omega) rp) (by first | decide | omega) rfl ?_
        refine s_if (p' := 138) false rfl (by rw [decide_eq_true ho]; rfl) rfl ?_
        refine s_aldn (p' := 139) rfl rfl rfl ?_
        refine s_aldn (p' := 140) rfl rfl rfl ?_
        refine s_ildn (p' := 141) rfl rfl rfl ?_
        refine s_ildn (p' := 142) rfl rfl rfl ?_
        refine c_call (p' := 145) (kc := 8) (ls0 := [_, _, _, _, _, _]) rfl rfl rfl rfl rfl (mj_rcv_is W1) rfl rfl rfl ?_
        refine ((y_bA bW hI hn hl1 y1 hc hp1 hat hk b5_ b6_ b7_ t5_ t7_ (by omega) ra rp u1 u2)).imp ?_
        rintro o ⟨rv, g, rfl, ⟨l_, e_, rfl, yq_⟩ | ⟨z_, e_, rfl, yq_⟩, mq_⟩
        · show mj_Wp _ _ (145, _, _, _) _
          refine s_ist (p' := 147) (ls' := [_, _, _, _, _, _]) rfl rfl rfl rfl ?_
          refine s_goto (p' := 178) rfl rfl ?_
          have hst : stp np K X ((v, st, t), p, l, c, true, cp, cl, cw) = .inl ((v, st, t), p, l_, c, true, cp, cl, cw) := (show stpA np K X l (X p l) _ = _ from (stpA_b (by omega) qb).trans (by rw [if_pos rfl, e_]))
          have hw1 := stp_wf hp hw0 he hst
          have hlg := hl.fr (mo00 m1 mq_).1 hy (fun x hx => hx) hI
          refine s_ild (p' := 180) rfl rfl rfl ?_
          refine s_if (p' := 183) false rfl (by decide +kernel) rfl ?_
          refine s_aldn (p' := 184) rfl rfl rfl ?_
          refine s_callEN (p' := 187) (ls0 := [_]) rfl rfl rfl rfl rfl (mj_rcv_is yq_.1) rfl (y_cbL bW hI hn hK 20 _ _ (Nat.le_refl 20) hw1.2.2.1 hw1 hlg yq_) rfl rfl ?_
          rintro g3 ⟨y3, _, m3⟩
          refine s_ild (p' := 189) rfl rfl rfl ?_
          refine s_iret rfl rfl ?_
          exact ⟨_, _, rfl, Or.inl ⟨_, hst, rfl, y3⟩, mo00 (mo00 m1 mq_) m3⟩
        · show mj_Wp _ _ (145, _, _, _) _
          refine s_ist (p' := 147) (ls' := [_, _, _, _, _, _]) rfl rfl rfl rfl ?_
          refine s_goto (p' := 178) rfl rfl ?_
          refine s_ild (p' := 180) rfl rfl rfl ?_
          refine s_if (p' := 187) true rfl (by decide +kernel) rfl ?_
          refine s_ild (p' := 189) rfl rfl rfl ?_
          refine s_iret rfl rfl ?_
          exact ⟨_, _, rfl, Or.inr ⟨_, (show stpA np K X l (X p l) _ = _ from (stpA_b (by omega) qb).trans (by rw [if_pos rfl, e_])), rfl, yq_⟩, mo00 m1 mq_⟩
      · have sm := ap.s qb
        have h8_ := aOk_s hA (Bool.eq_false_iff.mpr qb)
        have h8 : X p l 0 = 33 ∨ X p l 0 = 63 ∨ X p l 0 = 126 ∨ X p l 0 = 43 ∨ X p l 0 = 45 ∨ X p l 0 = 94 := by have := h8_.1; omega
        clear h8_
        obtain ⟨b_, v_, rp⟩ : ∃ (b : Int32) (v : Value), mj_rd h1 pq = some (ptC (nI (X p l 0)) (nI (X p l 1)) b v .null .null .null .null) := by
          obtain ⟨_, _, b, v, r, _⟩ := id sm
          exact ⟨b, v, r⟩
        refine s_aldn (p' := 129) rfl rfl rfl ?_
        refine s_gf (p' := 132) rfl ra rfl rfl ?_
        refine s_callV (p' := 135) (ls0 := [_]) rfl rfl rfl rfl rfl (mj_rcv_is rp) rfl (y_isb (by omega) rp) (by first | decide | omega) rfl ?_
        refine s_if (p' := 150) true rfl (by rw [decide_eq_false (by omega)]; rfl) rfl ?_
        refine s_aldn (p' := 151) rfl rfl rfl ?_
        refine s_aldn (p' := 152) rfl rfl rfl ?_
        refine s_gf (p' := 155) rfl ra rfl rfl ?_
        refine s_ildn (p' := 156) rfl rfl rfl ?_
        refine c_call (p' := 159) (kc := 2) (ls0 := [_, _, _, _, _]) rfl rfl rfl rfl rfl (mj_rcv_is W1) rfl rfl rfl ?_
        refine ((y_chg bW W1 y1.2.1 y1.2.2.2 sm h8 ((so (by omega)).2.1 (by omega)) (fun e => ((so (by omega)).2.2.2 e).2.2) (w := true))).imp ?_
        rintro o ⟨rv, g, rfl, ⟨s_, e_, rfl, w_, st_, y_⟩ | ⟨z_, e_, rfl, w_, st_, y_⟩, mq_⟩
        · show mj_Wp _ _ (159, _, _, _) _
          have yc_ := y1.c w_ st_ y_ mq_
          refine s_if (p' := 162) false rfl (by decide +kernel) rfl ?_
          refine s_aldn (p' := 163) rfl rfl rfl ?_
          refine s_ild (p' := 165) rfl rfl rfl ?_
          refine s_callEV (p' := 168) (ls0 := [_, _]) rfl rfl rfl rfl rfl (mj_rcv_is yc_.1.1) rfl (y_gos (l1 := l + 1) bW hc yc_.1.1 yc_.1.2.2.1) rfl rfl ?_
          rintro _ g2 ⟨rfl, r2, m2⟩
          have yg_ := yc_.1.g r2 m2
          refine s_if (p' := 171) false rfl (by decide +kernel) rfl ?_
          refine s_con (p' := 172) rfl rfl ?_
          refine s_goto (p' := 176) rfl rfl ?_
          refine s_ist (p' := 178) (ls' := [_, _, _, _, _, _]) rfl rfl rfl rfl ?_
          have hst : stp np K X ((v, st, t), p, l, c, true, cp, cl, cw) = .inl (s_, p, l + 1, c, true, cp, cl, cw) := (show stpA np K X l (X p l) _ = _ from (stpA_s (by omega) qb).trans (by rw [e_] <;> rfl))
          have hw1 := stp_wf hp hw0 he hst
          have hlg := hl.fr (mo00 m1 (mo00 yc_.2 yg_.2)).1 hy (fun x hx => hx) hI
          refine s_ild (p' := 180) rfl rfl rfl ?_
          refine s_if (p' := 183) false rfl (by decide +kernel) rfl ?_
          refine s_aldn (p' := 184) rfl rfl rfl ?_
          refine s_callEN (p' := 187) (ls0 := [_]) rfl rfl rfl rfl rfl (mj_rcv_is yg_.1.1) rfl (y_cbL bW hI hn hK 20 _ _ (Nat.le_refl 20) hw1.2.2.1 hw1 hlg yg_.1) rfl rfl ?_
          rintro g3 ⟨y3, _, m3⟩
          refine s_ild (p' := 189) rfl rfl rfl ?_
          refine s_iret rfl rfl ?_
          exact ⟨_, _, rfl, Or.inl ⟨_, hst, rfl, y3⟩, mo00 (mo00 m1 (mo00 yc_.2 yg_.2)) m3⟩
        · show mj_Wp _ _ (159, _, _, _) _
          have yc_ : yWl g W ((v, st, t), p, l, c, true, cp, cl, cw) z_ ∧ mz_mo (wML W) 0 0 h1 g := ⟨⟨w_, st_, y1.2.2.1.fr mq_.1 (by simp) (by simp) (by simp), y_⟩, mo_w mq_ (fun x hx => wML_m.mpr (by simp only [List.mem_cons, List.not_mem_nil, or_false] at hx; omega))⟩
          refine s_if (p' := 175) true rfl (by decide +kernel) rfl ?_
          refine s_con (p' := 176) rfl rfl ?_
          refine s_ist (p' := 178) (ls' := [_, _, _, _, _, _]) rfl rfl rfl rfl ?_
          refine s_ild (p' := 180) rfl rfl rfl ?_
          refine s_if (p' := 187) true rfl (by decide +kernel) rfl ?_
          refine s_ild (p' := 189) rfl rfl rfl ?_
          refine s_iret rfl rfl ?_
          exact ⟨_, _, rfl, Or.inr ⟨_, (show stpA np K X l (X p l) _ = _ from (stpA_s (by omega) qb).trans (by rw [e_] <;> rfl)), rfl, yc_.1⟩, mo00 m1 yc_.2⟩
  | false =>
    have hat0 := hat.2
    have hat : (l - 1) < K p := hat.1
    have hA := (hp.2 p hp1).2 _ hat
    have h200 := aOk_0 hA
    have so := fun (q : X p (l - 1) 0 = 33 ∨ X p (l - 1) 0 = 63 ∨ X p (l - 1) 0 = 64 ∨ X p (l - 1) 0 = 36 ∨ X p (l - 1) 0 = 126 ∨ X p (l - 1) 0 = 43 ∨ X p (l - 1) 0 = 45 ∨ X p (l - 1) 0 = 94) => aOk_1 hA (brS_f q)
    have hl0 := hat0 rfl
    refine s_aldn (p' := 1) rfl rfl rfl ?_
    refine s_con (p' := 2) rfl rfl ?_
    refine s_pf (p' := 5) (fs' := [_, _, _, _, _, _, _, _, _, _, _]) rfl (by omega) hW (Nat.blt_eq.mp rfl) rfl rfl rfl ?_
    generalize hg1 : List.set h W _ = h1
    have yz := hy.z bW
    have y1 : yWl h1 W ((v, st, t), p, l, c, false, cp, cl, cw) z0 := by rw [← hg1]; exact yz.1
    have m1 : mz_mo (wML W) 0 0 h h1 := by rw [← hg1]; exact yz.2
    clear hg1 yz
    have hl1 := hl.fr m1.1 hy (fun x hx => hx) hI
    have W1 : mj_rd h1 W = some (wrC W t c 0) := y1.1
    obtain ⟨_, ⟨f2, a4, _, b4⟩, f3, a5, _, _, b5⟩ := id y1.2.2.1
    refine s_aldn (p' := 6) rfl rfl rfl ?_
    refine s_gf (p' := 9) rfl W1 rfl rfl ?_
    refine s_aldn (p' := 10) rfl rfl rfl ?_
    refine s_gf (p' := 13) rfl W1 rfl rfl ?_
    refine s_bal2 (p' := 14) rfl a5 (inb_nI (by omega) (by omega)) rfl ?_
    rw [mI_cl (by omega), b5]
    refine s_istn (p' := 15) (ls' := [_, _, _, _, _, _]) rfl rfl rfl rfl ?_
    refine s_ildn (p' := 16) rfl rfl rfl ?_
    refine s_if (p' := 31) true rfl (by decide +kernel) rfl ?_
    refine s_aldn (p' := 32) rfl rfl rfl ?_
    refine s_gf (p' := 35) rfl W1 rfl rfl ?_
    refine s_aldn (p' := 36) rfl rfl rfl ?_
    refine s_gf (p' := 39) rfl W1 rfl rfl ?_
    refine s_ial (p' := 40) rfl a4 (inb_nI (by omega) (by omega)) rfl ?_
    rw [mI_cl (by omega), b4]
    refine s_con (p' := 41) rfl rfl ?_
    refine s_sp (p' := 42) (ls' := _) rfl rfl rfl ?_
    rw [mI_sub (by omega)]
    refine s_istn (p' := 43) (ls' := [_, _, _, _, _, _]) rfl rfl rfl rfl ?_
    refine s_aldn (p' := 44) rfl rfl rfl ?_
    refine c_call (p' := 47) (kc := 5) (ls0 := [_]) rfl rfl rfl rfl rfl (mj_rcv_is W1) rfl rfl rfl ?_
    refine ((y_act hl1 W1 y1.2.2.1 hc hp1 hn)).imp ?_
    rintro o ⟨La, Ea, F, rfl, la, ac⟩
    show mj_Wp _ _ (47, _, _, _) _
    obtain ⟨_, pq, ra, ap⟩ := ac _ hat
    refine s_ildn (p' := 48) rfl rfl rfl ?_
    refine s_callV (p' := 53) (ls0 := [_, _]) rfl rfl rfl rfl rfl (by obtain ⟨_, _, _, zz, _⟩ := la; exact mj_rcv_is zz) rfl (y_get la hat) (by first | decide | omega) rfl ?_
    refine s_cco (p' := 56) rfl ra rfl ?_
    refine s_astn (p' := 57) (ls' := [_, _, _, _, _, _]) rfl rfl rfl rfl ?_
    refine s_ildn (p' := 58) rfl rfl rfl ?_
    refine s_if (p' := 67) true rfl (by decide +kernel) rfl ?_
    refine s_ildn (p' := 68) rfl rfl rfl ?_
    refine s_ist (p' := 70) (ls' := [_, _, _, _, _, _]) rfl rfl rfl rfl ?_
    by_cases q64 : X p (l - 1) 0 = 64 ∨ X p (l - 1) 0 = 36
    · refine s_aldn (p' := 71) rfl rfl rfl ?_
      refine s_gf (p' := 74) rfl ra rfl rfl ?_
      refine s_bip (p' := 76) rfl rfl ?_
      by_cases q6 : X p (l - 1) 0 = 64
      · refine s_icmp (p' := 88) true rfl ((ci_eq (by omega) (by omega)).trans (decide_eq_true (by omega))) rfl ?_
        obtain ⟨b_, v_, rp⟩ : ∃ (b : Int32) (v : Value), mj_rd h1 pq = some (ptC (nI (X p (l - 1) 0)) (nI (X p (l - 1) 1)) b v .null .null .null .null) := by
          obtain ⟨_, _, b, v, r, _⟩ := ap.s (brS_f (by omega))
          exact ⟨b, v, r⟩
        refine s_aldn (p' := 89) rfl rfl rfl ?_
        refine s_aldn (p' := 90) rfl rfl rfl ?_
        refine s_gf (p' := 93) rfl ra rfl rfl ?_
        refine s_gf (p' := 96) rfl rp rfl rfl ?_
        refine s_aldn (p' := 97) rfl rfl rfl ?_
        refine s_gf (p' := 100) rfl ra rfl rfl ?_
        refine s_bip (p' := 102) rfl rfl ?_
        refine s_icmp (p' := 105) false rfl ((ci_ne (by omega) (by omega)).trans (decide_eq_false (fun e => e q6))) rfl ?_
        refine s_con (p' := 106) rfl rfl ?_
        refine s_goto (p' := 110) rfl rfl ?_
        refine s_ildn (p' := 111) rfl rfl rfl ?_
        refine s_icmp (p' := 118) true rfl (by decide +kernel) rfl ?_
        refine s_con (p' := 119) rfl rfl ?_
        refine s_ildn (p' := 120) rfl rfl rfl ?_
        refine c_call (p' := 123) (kc := 7) (ls0 := [_, _, _, _]) rfl rfl rfl rfl rfl (mj_rcv_is W1) rfl rfl rfl ?_
        refine ((y_cll (q := X p (l - 1) 1) (b := false) (a := (l - 1)) bW hI hn hl1 y1 hc (by have := (so (by omega)).1 (by omega); omega) hK)).imp ?_
        rintro o ⟨rv, g, rfl, ⟨r_, e_, rfl, yq_⟩ | ⟨z_, e_, rfl, yq_⟩, mq_⟩
        · show mj_Wp _ _ (123, _, _, _) _
          refine s_ist (p' := 125) (ls' := [_, _, _, _, _, _]) rfl rfl rfl rfl ?_
          refine s_goto (p' := 178) rfl rfl ?_
          have hst : stp np K X ((v, st, t), p, l, c, false, cp, cl, cw) = .inl ((v, st, t), r_) := (show stpA np K X (l - 1) (X p (l - 1)) _ = _ from (stpA_c (by omega)).trans (by rw [show decide (X p (l - 1) 0 = 64) = true from decide_eq_true q6, show (if (true : Bool) = false then 0 else K (X p (l - 1) 1)) = (if (false : Bool) = true then 0 else K (X p (l - 1) 1)) from rfl, show decide ((true : Bool) = false) = false from rfl, e_]))
          have hw1 := stp_wf hp hw0 he hst
          have hlg := hl.fr (mo00 m1 mq_).1 hy (fun x hx => hx) hI
          refine s_ild (p' := 180) rfl rfl rfl ?_
          refine s_if (p' := 183) false rfl (by decide +kernel) rfl ?_
          refine s_aldn (p' := 184) rfl rfl rfl ?_
          refine s_callEN (p' := 187) (ls0 := [_]) rfl rfl rfl rfl rfl (mj_rcv_is yq_.1) rfl (y_cbL bW hI hn hK 20 _ _ (Nat.le_refl 20) hw1.2.2.1 hw1 hlg yq_) rfl rfl ?_
          rintro g3 ⟨y3, _, m3⟩
          refine s_ild (p' := 189) rfl rfl rfl ?_
          refine s_iret rfl rfl ?_
          exact ⟨_, _, rfl, Or.inl ⟨_, hst, rfl, y3⟩, mo00 (mo00 m1 mq_) m3⟩
        · show mj_Wp _ _ (123, _, _, _) _
          refine s_ist (p' := 125) (ls' := [_, _, _, _, _, _]) rfl rfl rfl rfl ?_
          refine s_goto (p' := 178) rfl rfl ?_
          refine s_ild (p' := 180) rfl rfl rfl ?_
          refine s_if (p' := 187) true rfl (by decide +kernel) rfl ?_
          refine s_ild (p' := 189) rfl rfl rfl ?_
          refine s_iret rfl rfl ?_
          exact ⟨_, _, rfl, Or.inr ⟨_, (show stpA np K X (l - 1) (X p (l - 1)) _ = _ from (stpA_c (by omega)).trans (by rw [show decide (X p (l - 1) 0 = 64) = true from decide_eq_true q6, show (if (true : Bool) = false then 0 else K (X p (l - 1) 1)) = (if (false : Bool) = true then 0 else K (X p (l - 1) 1)) from rfl, show decide ((true : Bool) = false) = false from rfl, e_])), rfl, yq_⟩, mo00 m1 mq_⟩
      · refine s_icmp (p' := 79) false rfl ((ci_eq (by omega) (by omega)).trans (decide_eq_false (by omega))) rfl ?_
        refine s_aldn (p' := 80) rfl rfl rfl ?_
        refine s_gf (p' := 83) rfl ra rfl rfl ?_
        refine s_bip (p' := 85) rfl rfl ?_
        refine s_icmp (p' := 88) false rfl ((ci_ne (by omega) (by omega)).trans (decide_eq_false (by omega))) rfl ?_
        obtain ⟨b_, v_, rp⟩ : ∃ (b : Int32) (v : Value), mj_rd h1 pq = some (ptC (nI (X p (l - 1) 0)) (nI (X p (l - 1) 1)) b v .null .null .null .null) := by
          obtain ⟨_, _, b, v, r, _⟩ := ap.s (brS_f (by omega))
          exact ⟨b, v, r⟩
        refine s_aldn (p' := 89) rfl rfl rfl ?_
        refine s_aldn (p' := 90) rfl rfl rfl ?_
        refine s_gf (p' := 93) rfl ra rfl rfl ?_
        refine s_gf (p' := 96) rfl rp rfl rfl ?_
        refine s_aldn (p' := 97) rfl rfl rfl ?_
        refine s_gf (p' := 100) rfl ra rfl rfl ?_
        refine s_bip (p' := 102) rfl rfl ?_
        refine s_icmp (p' := 109) true rfl ((ci_ne (by omega) (by omega)).trans (decide_eq_true q6)) rfl ?_
        refine s_con (p' := 110) rfl rfl ?_
        refine s_ildn (p' := 111) rfl rfl rfl ?_
        refine s_icmp (p' := 114) false rfl (by decide +kernel) rfl ?_
        refine s_con (p' := 115) rfl rfl ?_
        refine s_goto (p' := 119) rfl rfl ?_
        refine s_ildn (p' := 120) rfl rfl rfl ?_
        refine c_call (p' := 123) (kc := 7) (ls0 := [_, _, _, _]) rfl rfl rfl rfl rfl (mj_rcv_is W1) rfl rfl rfl ?_
        refine ((y_cll (q := X p (l - 1) 1) (b := true) (a := (l - 1)) bW hI hn hl1 y1 hc (by have := (so (by omega)).1 (by omega); omega) hK)).imp ?_
        rintro o ⟨rv, g, rfl, ⟨r_, e_, rfl, yq_⟩ | ⟨z_, e_, rfl, yq_⟩, mq_⟩
        · show mj_Wp _ _ (123, _, _, _) _
          refine s_ist (p' := 125) (ls' := [_, _, _, _, _, _]) rfl rfl rfl rfl ?_
          refine s_goto (p' := 178) rfl rfl ?_
          have hst : stp np K X ((v, st, t), p, l, c, false, cp, cl, cw) = .inl ((v, st, t), r_) := (show stpA np K X (l - 1) (X p (l - 1)) _ = _ from (stpA_c (by omega)).trans (by rw [show decide (X p (l - 1) 0 = 64) = false from decide_eq_false q6, show (if (false : Bool) = false then 0 else K (X p (l - 1) 1)) = (if (true : Bool) = true then 0 else K (X p (l - 1) 1)) from rfl, show decide ((false : Bool) = false) = true from rfl, e_]))
          have hw1 := stp_wf hp hw0 he hst
          have hlg := hl.fr (mo00 m1 mq_).1 hy (fun x hx => hx) hI
          refine s_ild (p' := 180) rfl rfl rfl ?_
          refine s_if (p' := 183) false rfl (by decide +kernel) rfl ?_
          refine s_aldn (p' := 184) rfl rfl rfl ?_
          refine s_callEN (p' := 187) (ls0 := [_]) rfl rfl rfl rfl rfl (mj_rcv_is yq_.1) rfl (y_cbL bW hI hn hK 20 _ _ (Nat.le_refl 20) hw1.2.2.1 hw1 hlg yq_) rfl rfl ?_
          rintro g3 ⟨y3, _, m3⟩
          refine s_ild (p' := 189) rfl rfl rfl ?_
          refine s_iret rfl rfl ?_
          exact ⟨_, _, rfl, Or.inl ⟨_, hst, rfl, y3⟩, mo00 (mo00 m1 mq_) m3⟩
        · show mj_Wp _ _ (123, _, _, _) _
          refine s_ist (p' := 125) (ls' := [_, _, _, _, _, _]) rfl rfl rfl rfl ?_
          refine s_goto (p' := 178) rfl rfl ?_
          refine s_ild (p' := 180) rfl rfl rfl ?_
          refine s_if (p' := 187) true rfl (by decide +kernel) rfl ?_
          refine s_ild (p' := 189) rfl rfl rfl ?_
          refine s_iret rfl rfl ?_
          exact ⟨_, _, rfl, Or.inr ⟨_, (show stpA np K X (l - 1) (X p (l - 1)) _ = _ from (stpA_c (by omega)).trans (by rw [show decide (X p (l - 1) 0 = 64) = false from decide_eq_false q6, show (if (false : Bool) = false then 0 else K (X p (l - 1) 1)) = (if (true : Bool) = true then 0 else K (X p (l - 1) 1)) from rfl, show decide ((false : Bool) = false) = true from rfl, e_])), rfl, yq_⟩, mo00 m1 mq_⟩
    · refine s_aldn (p' := 71) rfl rfl rfl ?_
      refine s_gf (p' := 74) rfl ra rfl rfl ?_
      refine s_bip (p' := 76) rfl rfl ?_
      refine s_icmp (p' := 79) false rfl ((ci_eq (by omega) (by omega)).trans (decide_eq_false (by omega))) rfl ?_
      refine s_aldn (p' := 80) rfl rfl rfl ?_
      refine s_gf (p' := 83) rfl ra rfl rfl ?_
      refine s_bip (p' := 85) rfl rfl ?_
      refine s_icmp (p' := 128) true rfl ((ci_ne (by omega) (by omega)).trans (decide_eq_true (by omega))) rfl ?_
      by_cases qb : brS (X p (l - 1) 0) = true
      · obtain ⟨S1, S2, R1, R2, s1, s2, rp, u1, u2⟩ := ap.b qb
        obtain ⟨o_, m_, e9_, bo, hj, g1_, g2_, g3_, l5, l6, l7⟩ := aOk_l hA qb
        have b5_ : X p (l - 1) 5 < K p := by omega
        have b6_ : X p (l - 1) 6 < K p := by omega
        have b7_ : X p (l - 1) 7 < K p := by omega
        have t5_ : tst (X p (X p (l - 1) 5)) := by rw [l5]; exact bo.2.1
        have t7_ : tst (X p (X p (l - 1) 7)) := by rw [l7]; exact bo.2.2.1
        have hsg := of_decide_eq_true qb
        have ho : X p (X p (l - 1) 5) 0 = 91 ∨ X p (X p (l - 1) 5) 0 = 123 := by rw [l5]; have := bo.1; omega
        refine s_aldn (p' := 129) rfl rfl rfl ?_
        refine s_gf (p' := 132) rfl ra rfl rfl ?_
        refine s_callV (p' := 135) (ls0 := [_]) rfl rfl rfl rfl rfl (mj_rcv_is rp) rfl (y_isb (by omega) rp) (by first | decide | omega) rfl ?_
        refine s_if (p' := 138) false rfl (by rw [decide_eq_true ho]; rfl) rfl ?_
        refine s_aldn (p' := 139) rfl rfl rfl ?_
        refine s_aldn (p' := 140) rfl rfl rfl ?_
        refine s_ildn (p' := 141) rfl rfl rfl ?_
        refine s_ildn (p' := 142) rfl rfl rfl ?_
        refine c_call (p' := 145) (kc := 8) (ls0 := [_, _, _, _, _, _]) rfl rfl rfl rfl rfl (mj_rcv_is W1) rfl rfl rfl ?_
        refine ((y_bB bW hI hn hl1 y1 hc hp1 hat hk b5_ b6_ b7_ t5_ t7_ (by omega) ra rp u1 u2)).imp ?_
        rintro o ⟨rv, g, rfl, ⟨l_, e_, rfl, yq_⟩ | ⟨z_, e_, rfl, yq_⟩, mq_⟩
        · show mj_Wp _ _ (145, _, _, _) _
          refine s_ist (p' := 147) (ls' := [_, _, _, _, _, _]) rfl rfl rfl rfl ?_
          refine s_goto (p' := 178) rfl rfl ?_
          have hst : stp np K X ((v, st, t), p, l, c, false, cp, cl, cw) = .inl ((v, st, t), p, l_, c, false, cp, cl, cw) := (show stpA np K X (l - 1) (X p (l - 1)) _ = _ from (stpA_b (by omega) qb).trans (by rw [if_neg (by decide), e_]))
          have hw1 := stp_wf hp hw0 he hst
          have hlg := hl.fr (mo00 m1 mq_).1 hy (fun x hx => hx) hI
          refine s_ild (p' := 180) rfl rfl rfl ?_
          refine s_if (p' := 183) false rfl (by decide +kernel) rfl ?_
          refine s_aldn (p' := 184) rfl rfl rfl ?_
          refine s_callEN (p' := 187) (ls0 := [_]) rfl rfl rfl rfl rfl (mj_rcv_is yq_.1) rfl (y_cbL bW hI hn hK 20 _ _ (Nat.le_refl 20) hw1.2.2.1 hw1 hlg yq_) rfl rfl ?_
          rintro g3 ⟨y3, _, m3⟩
          refine s_ild (p' := 189) rfl rfl rfl ?_
          refine s_iret rfl rfl ?_
          exact ⟨_, _, rfl, Or.inl ⟨_, hst, rfl, y3⟩, mo00 (mo00 m1 mq_) m3⟩
        · show mj_Wp _ _ (145, _, _, _) _
          refine s_ist (p' := 147) (ls' := [_, _, _, _, _, _]) rfl rfl rfl rfl ?_
          refine s_goto (p' := 178) rfl rfl ?_
          refine s_ild (p' := 180) rfl rfl rfl ?_
          refine s_if (p' := 187) true rfl (by decide +kernel) rfl ?_
          refine s_ild (p' := 189) rfl rfl rfl ?_
          refine s_iret rfl rfl ?_
          exact ⟨_, _, rfl, Or.inr ⟨_, (show stpA np K X (l - 1) (X p (l - 1)) _ = _ from (stpA_b (by omega) qb).trans (by rw [if_neg (by decide), e_])), rfl, yq_⟩, mo00 m1 mq_⟩
      · have sm := ap.s qb
        have h8_ := aOk_s hA (Bool.eq_false_iff.mpr qb)
        have h8 : X p (l - 1) 0 = 33 ∨ X p (l - 1) 0 = 63 ∨ X p (l - 1) 0 = 126 ∨ X p (l - 1) 0 = 43 ∨ X p (l - 1) 0 = 45 ∨ X p (l - 1) 0 = 94 := by have := h8_.1; omega
        clear h8_
        obtain ⟨b_, v_, rp⟩ : ∃ (b : Int32) (v : Value), mj_rd h1 pq = some (ptC (nI (X p (l - 1) 0)) (nI (X p (l - 1) 1)) b v .null .null .null .null) := by
          obtain ⟨_, _, b, v, r, _⟩ := id sm
          exact ⟨b, v, r⟩
        refine s_aldn (p' := 129) rfl rfl rfl ?_
        refine s_gf (p' := 132) rfl ra rfl rfl ?_
        refine s_callV (p' := 135) (ls0 := [_]) rfl rfl rfl rfl rfl (mj_rcv_is rp) rfl (y_isb (by omega) rp) (by first | decide | omega) rfl ?_
        refine s_if (p' := 150) true rfl (by rw [decide_eq_false (by omega)]; rfl) rfl ?_
        refine s_aldn (p' := 151) rfl rfl rfl ?_
        refine s_aldn (p' := 152) rfl rfl rfl ?_
        refine s_gf (p' := 155) rfl ra rfl rfl ?_
        refine s_ildn (p' := 156) rfl rfl rfl ?_
        refine c_call (p' := 159) (kc := 2) (ls0 := [_, _, _, _, _]) rfl rfl rfl rfl rfl (mj_rcv_is W1) rfl rfl rfl ?_
        refine ((y_chg bW W1 y1.2.1 y1.2.2.2 sm h8 ((so (by omega)).2.1 (by omega)) (fun e => ((so (by omega)).2.2.2 e).2.2) (w := false))).imp ?_
        rintro o ⟨rv, g, rfl, ⟨s_, e_, rfl, w_, st_, y_⟩ | ⟨z_, e_, rfl, w_, st_, y_⟩, mq_⟩
        · show mj_Wp _ _ (159, _, _, _) _
          have yc_ := y1.c w_ st_ y_ mq_
          refine s_if (p' := 162) false rfl (by decide +kernel) rfl ?_
          refine s_aldn (p' := 163) rfl rfl rfl ?_
          refine s_ild (p' := 165) rfl rfl rfl ?_
          refine s_callEV (p' := 168) (ls0 := [_, _]) rfl rfl rfl rfl rfl (mj_rcv_is yc_.1.1) rfl (y_gos (l1 := l - 1) bW hc yc_.1.1 yc_.1.2.2.1) rfl rfl ?_
          rintro _ g2 ⟨rfl, r2, m2⟩
          have yg_ := yc_.1.g r2 m2
          refine s_if (p' := 171) false rfl (by decide +kernel) rfl ?_
          refine s_con (p' := 172) rfl rfl ?_
          refine s_goto (p' := 176) rfl rfl ?_
          refine s_ist (p' := 178) (ls' := [_, _, _, _, _, _]) rfl rfl rfl rfl ?_
          have hst : stp np K X ((v, st, t), p, l, c, false, cp, cl, cw) = .inl (s_, p, l - 1, c, false, cp, cl, cw) := (show stpA np K X (l - 1) (X p (l - 1)) _ = _ from (stpA_s (by omega) qb).trans (by rw [e_] <;> rfl))
          have hw1 := stp_wf hp hw0 he hst
          have hlg := hl.fr (mo00 m1 (mo00 yc_.2 yg_.2)).1 hy (fun x hx => hx) hI
          refine s_ild (p' := 180) rfl rfl rfl ?_
          refine s_if (p' := 183) false rfl (by decide +kernel) rfl ?_
          refine s_aldn (p' := 184) rfl rfl rfl ?_
          refine s_callEN (p' := 187) (ls0 := [_]) rfl rfl rfl rfl rfl (mj_rcv_is yg_.1.1) rfl (y_cbL bW hI hn hK 20 _ _ (Nat.le_refl 20) hw1.2.2.1 hw1 hlg yg_.1) rfl rfl ?_
          rintro g3 ⟨y3, _, m3⟩
          refine s_ild (p' := 189) rfl rfl rfl ?_
          refine s_iret rfl rfl ?_
          exact ⟨_, _, rfl, Or.inl ⟨_, hst, rfl, y3⟩, mo00 (mo00 m1 (mo00 yc_.2 yg_.2)) m3⟩
        · show mj_Wp _ _ (159, _, _, _) _
          have yc_ : yWl g W ((v, st, t), p, l, c, false, cp, cl, cw) z_ ∧ mz_mo (wML W) 0 0 h1 g := ⟨⟨w_, st_, y1.2.2.1.fr mq_.1 (by simp) (by simp) (by simp), y_⟩, mo_w mq_ (fun x hx => wML_m.mpr (by simp only [List.mem_cons, List.not_mem_nil, or_false] at hx; omega))⟩
          refine s_if (p' := 175) true rfl (by decide +kernel) rfl ?_
          refine s_con (p' := 176) rfl rfl ?_
          refine s_ist (p' := 178) (ls' := [_, _, _, _, _, _]) rfl rfl rfl rfl ?_
          refine s_ild (p' := 180) rfl rfl rfl ?_
          refine s_if (p' := 187) true rfl (by decide +kernel) rfl ?_
          refine s_ild (p' := 189) rfl rfl rfl ?_
          refine s_iret rfl rfl ?_
          exact ⟨_, _, rfl, Or.inr ⟨_, (show stpA np K X (l - 1) (X p (l - 1)) _ = _ from (stpA_s (by omega) qb).trans (by rw [e_] <;> rfl)), rfl, yc_.1⟩, mo00 m1 yc_.2⟩
