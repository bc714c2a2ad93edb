/-! The reference runs: coming back, tests. -/
theorem mI_dec2 (a : Nat) : nI (a + 1) + nI 4294967295 = nI a := by
  rw [mI_dec1, mI_sub (by omega), Nat.add_sub_cancel]
theorem mo_w {L : List Nat} {W : Nat} {h g : mj_H} (m : mz_mo L 0 0 h g) (hL : ∀ x, x ∈ L → x ∈ wML W) : mz_mo (wML W) 0 0 h g := m.wk (fun y hy => Or.inl (hL y hy)) (Nat.le_refl _) (Nat.le_refl _)
theorem yWl.pop {h : mj_H} {W p l c : Nat} {w : Bool} {cp cl : Nat → Nat} {cw : Nat → Bool} {s : SV} {z : CZ} (bW : W + 8 < mj_CB) (a : yWl h W (s, p, l, c, w, cp, cl, cw) z) (hc : 0 < c) {f2 : Nat → Int32} (a4 : mj_rd h (W + 4) = some (.inl (0, (21, .inl f2)))) {l1 : Nat} (hl1 : l1 = if cw (c - 1) = true then cl (c - 1) + 1 else cl (c - 1)) : yWl ((h.set W (wrC W s.2.2 (c - 1) z.1)).set (W + 4) (.inl (0, (21, .inl (upd f2 (c - 1) (nI l1)))))) W (s, cp (c - 1), l1, c - 1, cw (c - 1), cp, cl, cw) z ∧ mz_mo (wML W) 0 0 h ((h.set W (wrC W s.2.2 (c - 1) z.1)).set (W + 4) (.inl (0, (21, .inl (upd f2 (c - 1) (nI l1)))))) := by
  obtain ⟨a0, st, ⟨⟨f1, a3, b3, b3'⟩, ⟨f2', a4', b4, b4'⟩, f3, a5, b5, b5', b5''⟩, wy⟩ := a
  rw [a4] at a4'
  have e := (Sum.inl.inj (Prod.mk.inj (Prod.mk.inj (Sum.inl.inj (Option.some.inj a4'))).2).2)
  subst e
  have m : mz_mo [W, W + 4] 0 0 h _ := mz_mo.s (c := .inl (0, (21, .inl (upd f2 (c - 1) (nI l1))))) (mz_mo.s (c := wrC W s.2.2 (c - 1) z.1) (mz_mo.rf _ _ _ _) (by omega) a0 rfl (Or.inl (by simp))) (by omega) ((rd_setn (by omega)).trans a4) rfl (Or.inl (by simp))
  refine ⟨⟨(rd_setn (by omega)).trans (rd_set (by omega) a0), st.fr m.1 (by simp) (by simp), ⟨⟨f1, m.1 _ (by simp) _ a3, fun d hd => b3 d (by omega), b3 (c - 1) (by omega)⟩, ⟨_, rd_set (by omega) ((rd_setn (by omega)).trans a4), fun d hd => ?_, if_pos rfl⟩, f3, m.1 _ (by simp) _ a5, b5, fun d hd => b5' d (by omega), b5' (c - 1) (by omega)⟩, wy.fr m.1 (by simp) (by simp)⟩, mo_w m (fun x hx => wML_m.mpr (by simp only [List.mem_cons, List.not_mem_nil, or_false] at hx; omega))⟩
  unfold upd
  rw [if_neg (by omega)]
  exact b4 d (by omega)
theorem y_cbL {I : Nat → Prop} {W np : Nat} {K : Nat → Nat} {X : Nat → Nat → Nat → Nat} {s : SV} {z : CZ} (bW : W + 8 < mj_CB) (hI : ∀ x, x ∈ wML W → ¬ I x) (hn : np ≤ 6) (hK : ∀ p, p < np → K p ≤ 30) : ∀ (i : Nat) (r : SR) (h : mj_H), i ≤ 20 → r.2.2.1 ≤ i → wfR np K r → yLb I h np K X → yWl h W (s, r) z → mj_Wp 8 381 (0, [some (.ref W)], [], h) (mz_N fun h' => yWl h' W (s, cbk K i r) z ∧ yLb I h' np K X ∧ mz_mo (wML W) 0 0 h h')
  | 0, r, h, hi, hc, hw, hl, hy => by
    obtain ⟨p, l, c, w, cp, cl, cw⟩ := r
    have hc0 : c = 0 := Nat.le_zero.mp hc
    have hW : mj_rd h W = some (wrC W s.2.2 c z.1) := hy.1
    refine s_aldn (p' := 1) rfl rfl rfl ?_
    refine s_gf (p' := 4) rfl hW rfl rfl ?_
    refine s_if (p' := 56) true rfl ((cz_le (by omega)).trans (decide_eq_true (by omega))) rfl ?_
    refine s_ret rfl ?_
    exact ⟨_, rfl, hy, hl, mz_mo.rf _ _ _ _⟩
  | i + 1, r, h, hi, hc, hw, hl, hy => by
    have ih := y_cbL (X := X) (s := s) (z := z) bW hI hn hK i
    obtain ⟨p, l, c, w, cp, cl, cw⟩ := r
    have hc : c ≤ i + 1 := hc
    have hw0 := hw
    obtain ⟨h1, h2, h3, h4⟩ := hw
    have hk := hK p h1
    have hW : mj_rd h W = some (wrC W s.2.2 c z.1) := hy.1
    have he := edg_eq hw0
    have hcb : cbk K (i + 1) (p, l, c, w, cp, cl, cw) = if 0 < c ∧ edg K (p, l, c, w, cp, cl, cw) = true then cbk K i (pop_ (p, l, c, w, cp, cl, cw)) else (p, l, c, w, cp, cl, cw) := rfl
    refine s_aldn (p' := 1) rfl rfl rfl ?_
    refine s_gf (p' := 4) rfl hW rfl rfl ?_
    by_cases q0 : c = 0
    · refine s_if (p' := 56) true rfl ((cz_le (by omega)).trans (decide_eq_true (by omega))) rfl ?_
      refine s_ret rfl ?_
      rw [if_neg (fun e => absurd e.1 (by omega))] at hcb
      exact ⟨_, rfl, by rw [hcb]; exact hy, hl, mz_mo.rf _ _ _ _⟩
    · refine s_if (p' := 7) false rfl ((cz_le (by omega)).trans (decide_eq_false (by omega))) rfl ?_
      refine s_aldn (p' := 8) rfl rfl rfl ?_
      refine s_callV (p' := 11) (ls0 := [_]) rfl rfl rfl rfl rfl (mj_rcv_is hW) rfl (y_aen hl hW hy.2.2.1 h3 h1 hn hk (by omega)) (by first | decide | omega) rfl ?_
      rw [← he]
      by_cases qe : edg K (p, l, c, w, cp, cl, cw) = true
      · refine s_if (p' := 14) false rfl (by rw [qe]; rfl) rfl ?_
        by_cases qw : cw (c - 1) = true
        · obtain ⟨_, _, ⟨_, ⟨f2, a4, b4, _⟩, f3, a5, _, b5, _⟩, _⟩ := id hy
          have b4c := b4 (c - 1) (by omega)
          have b5c := b5 (c - 1) (by omega)
          rw [if_pos qw] at b4c
          refine s_aldn (p' := 15) rfl rfl rfl ?_
          refine s_sp (p' := 16) (ls' := _) rfl rfl rfl ?_
          refine s_gf (p' := 19) rfl hW rfl rfl ?_
          refine s_con (p' := 20) rfl rfl ?_
          refine s_sp (p' := 21) (ls' := _) rfl rfl rfl ?_
          rw [mI_sub (by omega)]
          refine s_pf (p' := 24) (fs' := [_, _, _, _, _, _, _, _, _, _, _]) rfl (by omega) hW (Nat.blt_eq.mp rfl) rfl rfl rfl ?_
          refine s_aldn (p' := 25) rfl rfl rfl ?_
          refine s_gf (p' := 28) rfl (rd_set (by omega) hW) rfl rfl ?_
          refine s_aldn (p' := 29) rfl rfl rfl ?_
          refine s_gf (p' := 32) rfl (rd_set (by omega) hW) rfl rfl ?_
          refine s_sp (p' := 33) (ls' := _) rfl rfl rfl ?_
          refine s_ial (p' := 34) rfl ((rd_setn (by omega)).trans a4) (inb_nI (by omega) (by omega)) rfl ?_
          rw [mI_cl (by omega), b4c]
          refine s_aldn (p' := 35) rfl rfl rfl ?_
          refine s_gf (p' := 38) rfl (rd_set (by omega) hW) rfl rfl ?_
          refine s_aldn (p' := 39) rfl rfl rfl ?_
          refine s_gf (p' := 42) rfl (rd_set (by omega) hW) rfl rfl ?_
          refine s_bal2 (p' := 43) rfl ((rd_setn (by omega)).trans a5) (inb_nI (by omega) (by omega)) rfl ?_
          rw [mI_cl (by omega), b5c]
          refine s_if (p' := 46) false rfl (by rw [qw]; rfl) rfl ?_
          refine s_con (p' := 47) rfl rfl ?_
          refine s_goto (p' := 51) rfl rfl ?_
          refine s_sp (p' := 52) (ls' := _) rfl rfl rfl ?_
          rw [mI_add]
          refine s_ias (p' := 53) rfl (by omega) ((rd_setn (by omega)).trans a4) (inb_nI (by omega) (by omega)) rfl ?_
          rw [mI_cl (by omega)]
          refine s_goto (p' := 0) rfl rfl ?_
          have pp := hy.pop bW (by omega) a4 (l1 := cl (c - 1) + 1) (by rw [if_pos qw])
          rw [if_pos ⟨by omega, qe⟩, pop_t qw] at hcb
          rw [hcb]
          have hw4 := pop_wf hw0 (show 0 < c by omega)
          rw [pop_t qw] at hw4
          have hl4 := hl.fr pp.2.1 hy (fun x hx => hx) hI
          exact (ih _ _ (by omega) (by show c - 1 ≤ i; omega) hw4 hl4 pp.1).imp fun o ho => by
            obtain ⟨h', e, q1, q2, q3⟩ := ho
            exact ⟨h', e, q1, q2, mo00 pp.2 q3⟩
        · obtain ⟨_, _, ⟨_, ⟨f2, a4, b4, _⟩, f3, a5, _, b5, _⟩, _⟩ := id hy
          have b4c := b4 (c - 1) (by omega)
          have b5c := b5 (c - 1) (by omega)
          rw [if_neg qw] at b4c
          refine s_aldn (p' := 15) rfl rfl rfl ?_
          refine s_sp (p' := 16) (ls' := _) rfl rfl rfl ?_
          refine s_gf (p' := 19) rfl hW rfl rfl ?_
          refine s_con (p' := 20) rfl rfl ?_
          refine s_sp (p' := 21) (ls' := _) rfl rfl rfl ?_
          rw [mI_sub (by omega)]
          refine s_pf (p' := 24) (fs' := [_, _, _, _, _, _, _, _, _, _, _]) rfl (by omega) hW (Nat.blt_eq.mp rfl) rfl rfl rfl ?_
          refine s_aldn (p' := 25) rfl rfl rfl ?_
          refine s_gf (p' := 28) rfl (rd_set (by omega) hW) rfl rfl ?_
          refine s_aldn (p' := 29) rfl rfl rfl ?_
          refine s_gf (p' := 32) rfl (rd_set (by omega) hW) rfl rfl ?_
          refine s_sp (p' := 33) (ls' := _) rfl rfl rfl ?_
          refine s_ial (p' := 34) rfl ((rd_setn (by omega)).trans a4) (inb_nI (by omega) (by omega)) rfl ?_
          rw [mI_cl (by omega), b4c]
          refine s_aldn (p' := 35) rfl rfl rfl ?_
          refine s_gf (p' := 38) rfl (rd_set (by omega) hW) rfl rfl ?_
          refine s_aldn (p' := 39) rfl rfl rfl ?_
          refine s_gf (p' := 42) rfl (rd_set (by omega) hW) rfl rfl ?_
          refine s_bal2 (p' := 43) rfl ((rd_setn (by omega)).trans a5) (inb_nI (by omega) (by omega)) rfl ?_
          rw [mI_cl (by omega), b5c]
          refine s_if (p' := 50) true rfl (by rw [Bool.eq_false_iff.mpr qw]; rfl) rfl ?_
          refine s_con (p' := 51) rfl rfl ?_
          refine s_sp (p' := 52) (ls' := _) rfl rfl rfl ?_
          rw [mI_dec2]
          refine s_ias (p' := 53) rfl (by omega) ((rd_setn (by omega)).trans a4) (inb_nI (by omega) (by omega)) rfl ?_
          rw [mI_cl (by omega)]
          refine s_goto (p' := 0) rfl rfl ?_
          have pp := hy.pop bW (by omega) a4 (l1 := cl (c - 1)) (by rw [if_neg qw])
          rw [if_pos ⟨by omega, qe⟩, pop_f qw] at hcb
          rw [hcb]
          have hw4 := pop_wf hw0 (show 0 < c by omega)
          rw [pop_f qw] at hw4
          have hl4 := hl.fr pp.2.1 hy (fun x hx => hx) hI
          exact (ih _ _ (by omega) (by show c - 1 ≤ i; omega) hw4 hl4 pp.1).imp fun o ho => by
            obtain ⟨h', e, q1, q2, q3⟩ := ho
            exact ⟨h', e, q1, q2, mo00 pp.2 q3⟩
      · refine s_if (p' := 56) true rfl (by rw [Bool.eq_false_iff.mpr qe]; rfl) rfl ?_
        refine s_ret rfl ?_
        rw [if_neg (fun e => qe e.2)] at hcb
        exact ⟨_, rfl, by rw [hcb]; exact hy, hl, mz_mo.rf _ _ _ _⟩
theorem cbk_st {K : Nat → Nat} : ∀ (i j : Nat) (r : SR), r.2.2.1 ≤ i → i ≤ j → cbk K i r = cbk K j r
  | 0, 0, _, _, _ => rfl
  | 0, j + 1, r, h, _ => by
    rw [cbk, cbk, if_neg (fun e => by have := e.1; omega)]
  | i + 1, 0, _, _, h2 => by omega
  | i + 1, j + 1, r, h, h2 => by
    rw [cbk, cbk]
    split
    · exact cbk_st i j _ (by rw [pop_c]; omega) (by omega)
    · rfl
theorem y_tes {I : Nat → Prop} {h : mj_H} {W np p l c t a S : Nat} {w wn : Bool} {v st : Nat → Int32} {cp cl : Nat → Nat} {cw : Nat → Bool} {K : Nat → Nat} {X : Nat → Nat → Nat → Nat} {z : CZ} {B : Nat → Nat} (bW : W + 8 < mj_CB) (hI : ∀ x, x ∈ wML W → ¬ I x) (hn : np ≤ 6) (hl : yLb I h np K X) (hy : yWl h W ((v, st, t), p, l, c, w, cp, cl, cw) z) (hc : c ≤ 20) (hp : p < np) (ha : a < K p) (hk : K p ≤ 30) (h200 : X p a 0 < 200) (su : ySu I h S (B 2) (B 3) (B 4)) (hb : B 3 = 60 ∨ B 3 = 61 ∨ B 3 = 62) : mj_Wp 7 392 (0, [some (.ref W), some (.ref S), some (.int (nI (bN wn))), some (.int (nI a))], [], h) (fun o => (hld v B = wn ∧ o = (.inl (some (.int (nI 1))), h)) ∨ (hld v B = (!wn) ∧ ∃ h', o = (.inl (some (.int (nI 0))), h') ∧ mj_rd h' W = some (wrC W t c 2) ∧ wWy h' W (2, 116, a, X p a 0, bN wn) ∧ mz_mo [W, W + 6, W + 7] 0 0 h h')) := by
  have hW : mj_rd h W = some (wrC W t c z.1) := hy.1
  obtain ⟨vf, k1, k2⟩ := hy.2.1.1
  obtain ⟨gs_, hsc⟩ : ∃ gs, mj_rd h S = some (.inr (25, gs)) := by
    obtain ⟨_, _, _, _, _, _, z1, _⟩ := id su
    exact ⟨_, z1.1⟩
  cases wn with
  | true =>
    refine s_aldn (p' := 1) rfl rfl rfl ?_
    refine s_aldn (p' := 2) rfl rfl rfl ?_
    refine s_gf (p' := 5) rfl hW rfl rfl ?_
    refine s_callV (p' := 8) (ls0 := [_, _, _, _]) rfl rfl rfl rfl rfl (mj_rcv_is hsc) rfl (y_hol su k1 k2 hb) (by first | decide | omega) rfl ?_
    refine s_ildn (p' := 9) rfl rfl rfl ?_
    by_cases qh : hld v B = true
    · refine s_icmp (p' := 12) false rfl (by rw [qh]; decide +kernel) rfl ?_
      refine s_con (p' := 13) rfl rfl ?_
      refine s_iret rfl rfl ?_
      exact Or.inl ⟨qh, rfl⟩
    · refine s_icmp (p' := 14) true rfl (by rw [Bool.eq_false_iff.mpr qh]; decide +kernel) rfl ?_
      refine s_aldn (p' := 15) rfl rfl rfl ?_
      refine s_bip (p' := 17) rfl rfl ?_
      refine s_ildn (p' := 18) rfl rfl rfl ?_
      refine s_callEV (p' := 21) (ls0 := [_, _, _]) rfl rfl rfl rfl rfl (mj_rcv_is hW) rfl (y_bks (lt := 116) (nu := a) bW hW hy.2.2.2 (by decide)) rfl rfl ?_
      rintro _ g ⟨rfl, w1, y1, m1⟩
      obtain ⟨lf, nf, a6, a7, _, z1, _⟩ := y1
      have z1 := z1 Nat.zero_lt_one
      refine s_sp (p' := 22) (ls' := _) rfl rfl rfl ?_
      refine s_aldn (p' := 23) rfl rfl rfl ?_
      refine s_con (p' := 24) rfl rfl ?_
      refine s_pf (p' := 27) (fs' := [_, _, _, _, _, _, _, _, _, _, _]) rfl (by omega) w1 (Nat.blt_eq.mp rfl) rfl rfl rfl ?_
      generalize hg2 : List.set g W _ = g2
      have w2 : mj_rd g2 W = some (wrC W t c 2) := by rw [← hg2]; exact rd_set (by omega) w1
      have m2 : mz_mo [W, W + 6, W + 7] 0 0 g g2 := by rw [← hg2]; exact mz_mo.s (mz_mo.rf _ _ _ _) (by omega) w1 rfl (Or.inl (by simp))
      have c6 : mj_rd g2 (W + 6) = some (.inl (3, (2, .inl lf))) := by rw [← hg2]; exact (rd_setn (by omega)).trans a6
      have c7 : mj_rd g2 (W + 7) = some (.inl (0, (2, .inl nf))) := by rw [← hg2]; exact (rd_setn (by omega)).trans a7
      clear hg2
      have hl2 : yLb I g2 np K X := hl.fr (mo00 m1 m2).1 hy (fun x hx => wML_m.mpr (by simp only [List.mem_cons, List.not_mem_nil, or_false] at hx; omega)) hI
      have r2 := hy.2.2.1.fr (mo00 m1 m2).1 (by simp only [List.mem_cons, List.not_mem_nil, or_false]; omega) (by simp only [List.mem_cons, List.not_mem_nil, or_false]; omega) (by simp only [List.mem_cons, List.not_mem_nil, or_false]; omega)
      refine s_aldn (p' := 28) rfl rfl rfl ?_
      refine s_gf (p' := 31) rfl w2 rfl rfl ?_
      refine s_con (p' := 32) rfl rfl ?_
      refine s_aldn (p' := 33) rfl rfl rfl ?_
      refine c_call (p' := 36) (kc := 5) (ls0 := [_]) rfl rfl rfl rfl rfl (mj_rcv_is w2) rfl rfl rfl ?_
      refine ((y_act hl2 w2 r2 hc hp hn)).imp ?_
      rintro o ⟨La, Ea, F, rfl, la, ac⟩
      show mj_Wp _ _ (36, _, _, _) _
      obtain ⟨_, pq, ra, _⟩ := ac a ha
      refine s_ildn (p' := 37) rfl rfl rfl ?_
      refine s_callV (p' := 42) (ls0 := [_, _]) rfl rfl rfl rfl rfl (by obtain ⟨_, _, _, zz, _⟩ := la; exact mj_rcv_is zz) rfl (y_get la ha) (by first | decide | omega) rfl ?_
      refine s_cco (p' := 45) rfl ra rfl ?_
      refine s_gf (p' := 48) rfl ra rfl rfl ?_
      refine s_cas (p' := 49) rfl (by omega) c6 (inb_nI (by omega) (by omega)) rfl ?_
      rw [mI_cl (by omega), ch_nar (by omega)]
      refine s_aldn (p' := 50) rfl rfl rfl ?_
      refine s_gf (p' := 53) rfl ((rd_setn (by omega)).trans w2) rfl rfl ?_
      refine s_con (p' := 54) rfl rfl ?_
      refine s_ildn (p' := 55) rfl rfl rfl ?_
      refine s_if (p' := 58) false rfl (by decide +kernel) rfl ?_
      refine s_con (p' := 59) rfl rfl ?_
      refine s_goto (p' := 63) rfl rfl ?_
      refine s_ias (p' := 64) rfl (by omega) ((rd_setn (by omega)).trans c7) (inb_nI (by omega) (by omega)) rfl ?_
      rw [mI_cl (by omega)]
      refine s_con (p' := 65) rfl rfl ?_
      refine s_iret rfl rfl ?_
      refine Or.inr ⟨by rw [Bool.eq_false_iff.mpr qh]; rfl, _, rfl, (rd_setn (by omega)).trans ((rd_setn (by omega)).trans w2), ⟨_, _, (rd_setn (by omega)).trans (rd_set (by omega) c6), rd_set (by omega) ((rd_setn (by omega)).trans c7), Nat.le_refl 2, fun _ => ⟨z1.1, z1.2⟩, fun _ => ⟨rfl, rfl⟩⟩, mo00 m1 (mo00 m2 (mz_mo.s (mz_mo.s (mz_mo.rf _ _ _ _) (by omega) c6 rfl (Or.inl (by simp))) (by omega) ((rd_setn (by omega)).trans c7) rfl (Or.inl (by simp))))⟩
  | false =>
    refine s_aldn (p' := 1) rfl rfl rfl ?_
    refine s_aldn (p' := 2) rfl rfl rfl ?_
    refine s_gf (p' := 5) rfl hW rfl rfl ?_
    refine s_callV (p' := 8) (ls0 := [_, _, _, _]) rfl rfl rfl rfl rfl (mj_rcv_is hsc) rfl (y_hol su k1 k2 hb) (by first | decide | omega) rfl ?_
    refine s_ildn (p' := 9) rfl rfl rfl ?_
    by_cases qh : hld v B = true
    · refine s_icmp (p' := 14) true rfl (by rw [qh]; decide +kernel) rfl ?_
      refine s_aldn (p' := 15) rfl rfl rfl ?_
      refine s_bip (p' := 17) rfl rfl ?_
      refine s_ildn (p' := 18) rfl rfl rfl ?_
      refine s_callEV (p' := 21) (ls0 := [_, _, _]) rfl rfl rfl rfl rfl (mj_rcv_is hW) rfl (y_bks (lt := 116) (nu := a) bW hW hy.2.2.2 (by decide)) rfl rfl ?_
      rintro _ g ⟨rfl, w1, y1, m1⟩
      obtain ⟨lf, nf, a6, a7, _, z1, _⟩ := y1
      have z1 := z1 Nat.zero_lt_one
      refine s_sp (p' := 22) (ls' := _) rfl rfl rfl ?_
      refine s_aldn (p' := 23) rfl rfl rfl ?_
      refine s_con (p' := 24) rfl rfl ?_
      refine s_pf (p' := 27) (fs' := [_, _, _, _, _, _, _, _, _, _, _]) rfl (by omega) w1 (Nat.blt_eq.mp rfl) rfl rfl rfl ?_
      generalize hg2 : List.set g W _ = g2
      have w2 : mj_rd g2 W = some (wrC W t c 2) := by rw [← hg2]; exact rd_set (by omega) w1
      have m2 : mz_mo [W, W + 6, W + 7] 0 0 g g2 := by rw [← hg2]; exact mz_mo.s (mz_mo.rf _ _ _ _) (by omega) w1 rfl (Or.inl (by simp))
      have c6 : mj_rd g2 (W + 6) = some (.inl (3, (2, .inl lf))) := by rw [← hg2]; exact (rd_setn (by omega)).trans a6
      have c7 : mj_rd g2 (W + 7) = some (.inl (0, (2, .inl nf))) := by rw [← hg2]; exact (rd_setn (by omega)).trans a7
      clear hg2
      have hl2 : yLb I g2 np K X := hl.fr (mo00 m1 m2).1 hy (fun x hx => wML_m.mpr (by simp only [List.mem_cons, List.not_mem_nil, or_false] at hx; omega)) hI
      have r2 := hy.2.2.1.fr (mo00 m1 m2).1 (by simp only [List.mem_cons, List.not_mem_nil, or_false]; omega) (by simp only [List.mem_cons, List.not_mem_nil, or_false]; omega) (by simp only [List.mem_cons, List.not_mem_nil, or_false]; omega)
      refine s_aldn (p' := 28) rfl rfl rfl ?_
      refine s_gf (p' := 31) rfl w2 rfl rfl ?_
      refine s_con (p' := 32) rfl rfl ?_
      refine s_aldn (p' := 33) rfl rfl rfl ?_
      refine c_call (p' := 36) (kc := 5) (ls0 := [_]) rfl rfl rfl rfl rfl (mj_rcv_is w2) rfl rfl rfl ?_
      refine ((y_act hl2 w2 r2 hc hp hn)).imp ?_
      rintro o ⟨La, Ea, F, rfl, la, ac⟩
      show mj_Wp _ _ (36, _, _, _) _
      obtain ⟨_, pq, ra, _⟩ := ac a ha
      refine s_ildn (p' := 37) rfl rfl rfl ?_
      refine s_callV (p' := 42) (ls0 := [_, _]) rfl rfl rfl rfl rfl (by obtain ⟨_, _, _, zz, _⟩ := la; exact mj_rcv_is zz) rfl (y_get la ha) (by first | decide | omega) rfl ?_
      refine s_cco (p' := 45) rfl ra rfl ?_
      refine s_gf (p' := 48) rfl ra rfl rfl ?_
      refine s_cas (p' := 49) rfl (by omega) c6 (inb_nI (by omega) (by omega)) rfl ?_
      rw [mI_cl (by omega), ch_nar (by omega)]
      refine s_aldn (p' := 50) rfl rfl rfl ?_
      refine s_gf (p' := 53) rfl ((rd_setn (by omega)).trans w2) rfl rfl ?_
      refine s_con (p' := 54) rfl rfl ?_
      refine s_ildn (p' := 55) rfl rfl rfl ?_
      refine s_if (p' := 62) true rfl (by decide +kernel) rfl ?_
      refine s_con (p' := 63) rfl rfl ?_
      refine s_ias (p' := 64) rfl (by omega) ((rd_setn (by omega)).trans c7) (inb_nI (by omega) (by omega)) rfl ?_
      rw [mI_cl (by omega)]
      refine s_con (p' := 65) rfl rfl ?_
      refine s_iret rfl rfl ?_
      refine Or.inr ⟨by rw [qh]; rfl, _, rfl, (rd_setn (by omega)).trans ((rd_setn (by omega)).trans w2), ⟨_, _, (rd_setn (by omega)).trans (rd_set (by omega) c6), rd_set (by omega) ((rd_setn (by omega)).trans c7), Nat.le_refl 2, fun _ => ⟨z1.1, z1.2⟩, fun _ => ⟨rfl, rfl⟩⟩, mo00 m1 (mo00 m2 (mz_mo.s (mz_mo.s (mz_mo.rf _ _ _ _) (by omega) c6 rfl (Or.inl (by simp))) (by omega) ((rd_setn (by omega)).trans c7) rfl (Or.inl (by simp))))⟩
    · refine s_icmp (p' := 12) false rfl (by rw [Bool.eq_false_iff.mpr qh]; decide +kernel) rfl ?_
      refine s_con (p' := 13) rfl rfl ?_
      refine s_iret rfl rfl ?_
      exact Or.inl ⟨Bool.eq_false_iff.mpr qh, rfl⟩
