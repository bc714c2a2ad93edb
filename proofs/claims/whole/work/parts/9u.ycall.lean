/-! The reference runs: calls. -/
theorem wRn.call {g : mj_H} {W p c q l1 a : Nat} {w b : Bool} {cp cl : Nat → Nat} {cw : Nat → Bool} {f1 f2 f3 : Nat → Int32} (hc : c < 20) (b1 : ∀ d, d < c → f1 d = nI (cp d)) (b1' : f1 c = nI p) (b2 : ∀ d, d < c → f2 d = nI (if cw d = true then cl d else cl d + 1)) (b3 : ∀ d, d < 21 → ∃ b, f3 d = nI (bN b)) (b3' : ∀ d, d < c → f3 d = nI (bN (cw d))) (b3'' : f3 c = nI (bN w))
    (e1 : mj_rd g (W + 3) = some (.inl (0, (21, .inl (upd f1 (c + 1) (nI q)))))) (e2 : mj_rd g (W + 4) = some (.inl (0, (21, .inl (upd (upd f2 c (nI (if w = true then a else a + 1))) (c + 1) (nI l1)))))) (e3 : mj_rd g (W + 5) = some (.inl (2, (21, .inl (upd f3 (c + 1) (nI (bN b))))))) : wRn g W (q, l1, c + 1, b, upN cp c p, upN cl c a, updB cw c w) := by
  refine ⟨⟨_, e1, fun d hd => ?_, if_pos rfl⟩, ⟨_, e2, fun d hd => ?_, if_pos rfl⟩, _, e3, fun d hd => ?_, fun d hd => ?_, if_pos rfl⟩
  · unfold upd upN
    rw [if_neg (by omega)]
    by_cases z : d = c
    · rw [if_pos z, z, b1']
    · rw [if_neg z]
      exact b1 d (by omega)
  · unfold upd upN updB
    rw [if_neg (by omega)]
    by_cases z : d = c
    · rw [if_pos z, if_pos z, if_pos z]
    · rw [if_neg z, if_neg z, if_neg z]
      exact b2 d (by omega)
  · unfold upd
    by_cases z : d = c + 1
    · rw [if_pos z]
      exact ⟨b, rfl⟩
    · rw [if_neg z]
      exact b3 d hd
  · unfold upd updB
    rw [if_neg (by omega)]
    by_cases z : d = c
    · rw [if_pos z, z, b3'']
    · rw [if_neg z]
      exact b3' d (by omega)
theorem y_cll {I : Nat → Prop} {h : mj_H} {W np p l c t a q : Nat} {w b : Bool} {v st : Nat → Int32} {cp cl : Nat → Nat} {cw : Nat → Bool} {K : Nat → Nat} {X : Nat → Nat → Nat → Nat} {z : CZ} (bW : W + 8 < mj_CB) (hI : ∀ x, x ∈ wML W → ¬ I x) (hn : np ≤ 6) (hl : yLb I h np K X) (hy : yWl h W ((v, st, t), p, l, c, w, cp, cl, cw) z) (hc : c ≤ 20) (hq : q < 100) (hk : ∀ p, p < np → K p ≤ 30) : mj_Wp 7 387 (0, [some (.ref W), some (.int (nI q)), some (.int (nI (bN b))), some (.int (nI a))], [], h) (mz_V fun rv h' => ((∃ r', (if np ≤ q then .inr (1, 112, q, 0, 0) else if 20 ≤ c then .inr (1, 100, 20, 0, 0) else .inl (q, (if b = true then 0 else K q), c + 1, b, upN cp c p, upN cl c a, updB cw c w) : SR ⊕ CZ) = .inl r' ∧ rv = .int (nI 1) ∧ yWl h' W ((v, st, t), r') z) ∨ ∃ z', (if np ≤ q then .inr (1, 112, q, 0, 0) else if 20 ≤ c then .inr (1, 100, 20, 0, 0) else .inl (q, (if b = true then 0 else K q), c + 1, b, upN cp c p, upN cl c a, updB cw c w) : SR ⊕ CZ) = .inr z' ∧ rv = .int (nI 0) ∧ yWl h' W ((v, st, t), p, l, c, w, cp, cl, cw) z') ∧ mz_mo (wML W) 0 0 h h') := by
  have hW : mj_rd h W = some (wrC W t c z.1) := hy.1
  have A0 := hW
  obtain ⟨⟨f1, B0, b1, b1'⟩, ⟨f2, C0, b2, _⟩, f3, D0, b3, b3', b3w⟩ := hy.2.2.1
  have m0 : mz_mo [W, W + 3, W + 4, W + 5] 0 0 h h := mz_mo.rf _ _ _ _
  obtain ⟨⟨m0_, m2_, m3_, m4_, m5_, m6_, m7_, m8_, m9_, m10_, r0⟩, Ep, PF, yl, hB, pr⟩ := id hl
  cases w with
  | true =>
    cases b with
    | true =>
      refine s_ildn (p' := 1) rfl rfl rfl ?_
      refine s_aldn (p' := 2) rfl rfl rfl ?_
      refine s_gf (p' := 5) rfl hW rfl rfl ?_
      refine s_gf (p' := 8) rfl r0 rfl rfl ?_
      refine s_callV (p' := 13) (ls0 := [_]) rfl rfl rfl rfl rfl (by obtain ⟨_, _, _, zz, _⟩ := yl; exact mj_rcv_is zz) rfl (by obtain ⟨_, _, _, zz, _⟩ := yl; exact y_siz zz) (by first | decide | omega) rfl ?_
      by_cases qn : q < np
      · refine s_icmp (p' := 24) true rfl ((ci_lt (by omega) (by omega)).trans (decide_eq_true (by omega))) rfl ?_
        refine s_aldn (p' := 25) rfl rfl rfl ?_
        refine s_gf (p' := 28) rfl hW rfl rfl ?_
        refine s_bip (p' := 30) rfl rfl ?_
        by_cases qc0 : c = 20
        · refine s_icmp (p' := 33) false rfl ((ci_ne (by omega) (by omega)).trans (decide_eq_false (by omega))) rfl ?_
          refine s_aldn (p' := 34) rfl rfl rfl ?_
          refine s_bip (p' := 36) rfl rfl ?_
          refine s_bip (p' := 38) rfl rfl ?_
          refine s_callEV (p' := 41) (ls0 := [_, _, _]) rfl rfl rfl rfl rfl (mj_rcv_is hW) rfl (y_bks (lt := 100) (nu := 20) bW hW hy.2.2.2 (by decide)) rfl rfl ?_
          rintro _ g ⟨rfl, w1, y1, m1⟩
          have yb := hy.b (z' := (1, 100, 20, 0, 0)) w1 y1 m1
          refine s_iret rfl rfl ?_
          exact ⟨_, _, rfl, Or.inr ⟨_, by rw [if_neg (by omega), if_pos (by omega)], rfl, yb.1⟩, yb.2⟩
        · refine s_icmp (p' := 42) true rfl ((ci_ne (by omega) (by omega)).trans (decide_eq_true (by omega))) rfl ?_
          have qc : c < 20 := by omega
          refine s_aldn (p' := 43) rfl rfl rfl ?_
          refine s_gf (p' := 46) rfl A0 rfl rfl ?_
          refine s_aldn (p' := 47) rfl rfl rfl ?_
          refine s_gf (p' := 50) rfl A0 rfl rfl ?_
          refine s_aldn (p' := 51) rfl rfl rfl ?_
          refine s_gf (p' := 54) rfl A0 rfl rfl ?_
          refine s_aldn (p' := 55) rfl rfl rfl ?_
          refine s_gf (p' := 58) rfl A0 rfl rfl ?_
          refine s_bal2 (p' := 59) rfl D0 (inb_nI (by omega) (by omega)) rfl ?_
          rw [mI_cl (by omega), b3w]
          refine s_if (p' := 62) false rfl (by decide +kernel) rfl ?_
          refine s_ildn (p' := 63) rfl rfl rfl ?_
          refine s_goto (p' := 69) rfl rfl ?_
          refine s_ias (p' := 70) rfl (by omega) C0 (inb_nI (by omega) (by omega)) rfl ?_
          rw [mI_cl (by omega)]
          generalize hg1 : List.set h (W + 4) _ = g1
          have m1 : mz_mo [W, W + 3, W + 4, W + 5] 0 0 h g1 := by rw [← hg1]; exact mz_mo.s m0 (by omega) C0 rfl (Or.inl (by simp))
          have A1 : mj_rd g1 (W) = some (wrC W t c z.1) := by rw [← hg1]; exact (rd_setn (by omega)).trans A0
          have B1 : mj_rd g1 (W + 3) = some (.inl (0, (21, .inl f1))) := by rw [← hg1]; exact (rd_setn (by omega)).trans B0
          have C1 : mj_rd g1 (W + 4) = some (.inl (0, (21, .inl (upd f2 c (nI (a)))))) := by rw [← hg1]; exact rd_set (by omega) C0
          have D1 : mj_rd g1 (W + 5) = some (.inl (2, (21, .inl f3))) := by rw [← hg1]; exact (rd_setn (by omega)).trans D0
          clear hg1
          refine s_aldn (p' := 71) rfl rfl rfl ?_
          refine s_sp (p' := 72) (ls' := _) rfl rfl rfl ?_
          refine s_gf (p' := 75) rfl A1 rfl rfl ?_
          refine s_con (p' := 76) rfl rfl ?_
          refine s_sp (p' := 77) (ls' := _) rfl rfl rfl ?_
          rw [mI_add]
          refine s_pf (p' := 80) (fs' := [_, _, _, _, _, _, _, _, _, _, _]) rfl (by omega) A1 (Nat.blt_eq.mp rfl) rfl rfl rfl ?_
          generalize hg2 : List.set g1 W _ = g2
          have m2 : mz_mo [W, W + 3, W + 4, W + 5] 0 0 h g2 := by rw [← hg2]; exact mz_mo.s m1 (by omega) A1 rfl (Or.inl (by simp))
          have A2 : mj_rd g2 (W) = some (wrC W t (c + 1) z.1) := by rw [← hg2]; exact rd_set (by omega) A1
          have B2 : mj_rd g2 (W + 3) = some (.inl (0, (21, .inl f1))) := by rw [← hg2]; exact (rd_setn (by omega)).trans B1
          have C2 : mj_rd g2 (W + 4) = some (.inl (0, (21, .inl (upd f2 c (nI (a)))))) := by rw [← hg2]; exact (rd_setn (by omega)).trans C1
          have D2 : mj_rd g2 (W + 5) = some (.inl (2, (21, .inl f3))) := by rw [← hg2]; exact (rd_setn (by omega)).trans D1
          clear hg2
          refine s_aldn (p' := 81) rfl rfl rfl ?_
          refine s_gf (p' := 84) rfl A2 rfl rfl ?_
          refine s_aldn (p' := 85) rfl rfl rfl ?_
          refine s_gf (p' := 88) rfl A2 rfl rfl ?_
          refine s_ildn (p' := 89) rfl rfl rfl ?_
          refine s_ias (p' := 90) rfl (by omega) B2 (inb_nI (by omega) (by omega)) rfl ?_
          rw [mI_cl (by omega)]
          generalize hg3 : List.set g2 (W + 3) _ = g3
          have m3 : mz_mo [W, W + 3, W + 4, W + 5] 0 0 h g3 := by rw [← hg3]; exact mz_mo.s m2 (by omega) B2 rfl (Or.inl (by simp))
          have A3 : mj_rd g3 (W) = some (wrC W t (c + 1) z.1) := by rw [← hg3]; exact (rd_setn (by omega)).trans A2
          have B3 : mj_rd g3 (W + 3) = some (.inl (0, (21, .inl (upd f1 (c + 1) (nI q))))) := by rw [← hg3]; exact rd_set (by omega) B2
          have C3 : mj_rd g3 (W + 4) = some (.inl (0, (21, .inl (upd f2 c (nI (a)))))) := by rw [← hg3]; exact (rd_setn (by omega)).trans C2
          have D3 : mj_rd g3 (W + 5) = some (.inl (2, (21, .inl f3))) := by rw [← hg3]; exact (rd_setn (by omega)).trans D2
          clear hg3
          refine s_aldn (p' := 91) rfl rfl rfl ?_
          refine s_gf (p' := 94) rfl A3 rfl rfl ?_
          refine s_aldn (p' := 95) rfl rfl rfl ?_
          refine s_gf (p' := 98) rfl A3 rfl rfl ?_
          refine s_ildn (p' := 99) rfl rfl rfl ?_
          refine s_bas2 (p' := 100) rfl (by omega) D3 (inb_nI (by omega) (by omega)) rfl ?_
          rw [mI_cl (by omega), show vp_nar .boolean (nI (bN true)) = nI (bN true) from by decide +kernel]
          generalize hg4 : List.set g3 (W + 5) _ = g4
          have m4 : mz_mo [W, W + 3, W + 4, W + 5] 0 0 h g4 := by rw [← hg4]; exact mz_mo.s m3 (by omega) D3 rfl (Or.inl (by simp))
          have A4 : mj_rd g4 (W) = some (wrC W t (c + 1) z.1) := by rw [← hg4]; exact (rd_setn (by omega)).trans A3
          have B4 : mj_rd g4 (W + 3) = some (.inl (0, (21, .inl (upd f1 (c + 1) (nI q))))) := by rw [← hg4]; exact (rd_setn (by omega)).trans B3
          have C4 : mj_rd g4 (W + 4) = some (.inl (0, (21, .inl (upd f2 c (nI (a)))))) := by rw [← hg4]; exact (rd_setn (by omega)).trans C3
          have D4 : mj_rd g4 (W + 5) = some (.inl (2, (21, .inl (upd f3 (c + 1) (nI (bN true)))))) := by rw [← hg4]; exact rd_set (by omega) D3
          clear hg4
          refine s_aldn (p' := 101) rfl rfl rfl ?_
          refine s_gf (p' := 104) rfl (by repeat (first | assumption | refine rd_app ?_ | rw [rd_setn (by first | assumption | omega)] | apply rd_set (by first | assumption | decide))) rfl rfl ?_
          refine s_aldn (p' := 105) rfl rfl rfl ?_
          refine s_gf (p' := 108) rfl A4 rfl rfl ?_
          refine s_ildn (p' := 109) rfl rfl rfl ?_
          refine s_if (p' := 112) false rfl (by decide +kernel) rfl ?_
          refine s_con (p' := 113) rfl rfl ?_
          refine s_goto (p' := 140) rfl rfl ?_
          refine s_ias (p' := 141) rfl (by omega) C4 (inb_nI (by omega) (by omega)) rfl ?_
          rw [mI_cl (by omega)]
          generalize hg5 : List.set g4 (W + 4) _ = g5
          have m5 : mz_mo [W, W + 3, W + 4, W + 5] 0 0 h g5 := by rw [← hg5]; exact mz_mo.s m4 (by omega) C4 rfl (Or.inl (by simp))
          have A5 : mj_rd g5 (W) = some (wrC W t (c + 1) z.1) := by rw [← hg5]; exact (rd_setn (by omega)).trans A4
          have B5 : mj_rd g5 (W + 3) = some (.inl (0, (21, .inl (upd f1 (c + 1) (nI q))))) := by rw [← hg5]; exact (rd_setn (by omega)).trans B4
          have C5 : mj_rd g5 (W + 4) = some (.inl (0, (21, .inl (upd (upd f2 c (nI (a))) (c + 1) (nI (0)))))) := by rw [← hg5]; exact rd_set (by omega) C4
          have D5 : mj_rd g5 (W + 5) = some (.inl (2, (21, .inl (upd f3 (c + 1) (nI (bN true)))))) := by rw [← hg5]; exact (rd_setn (by omega)).trans D4
          clear hg5
          have m5x : mz_fr [W, W + 3, W + 4, W + 5] h g5 := m5.1
          refine s_con (p' := 142) rfl rfl ?_
          refine s_iret rfl rfl ?_
          have rr := wRn.call (q := q) (l1 := 0) (a := a) (w := true) (b := true) qc b1 b1' b2 b3 b3' b3w B5 C5 D5
          exact ⟨_, _, rfl, Or.inl ⟨(q, 0, c + 1, true, upN cp c p, upN cl c a, updB cw c true), by rw [if_neg (by omega), if_neg (by omega)] <;> rfl, rfl, A5, hy.2.1.fr m5x (by simp only [List.mem_cons, List.not_mem_nil, or_false]; omega) (by simp only [List.mem_cons, List.not_mem_nil, or_false]; omega), rr, hy.2.2.2.fr m5x (by simp only [List.mem_cons, List.not_mem_nil, or_false]; omega) (by simp only [List.mem_cons, List.not_mem_nil, or_false]; omega)⟩, mo_w m5 (fun x hx => wML_m.mpr (by simp only [List.mem_cons, List.not_mem_nil, or_false] at hx; omega))⟩
      · refine s_icmp (p' := 16) false rfl ((ci_lt (by omega) (by omega)).trans (decide_eq_false (by omega))) rfl ?_
        refine s_aldn (p' := 17) rfl rfl rfl ?_
        refine s_bip (p' := 19) rfl rfl ?_
        refine s_ildn (p' := 20) rfl rfl rfl ?_
        refine s_callEV (p' := 23) (ls0 := [_, _, _]) rfl rfl rfl rfl rfl (mj_rcv_is hW) rfl (y_bks (lt := 112) (nu := q) bW hW hy.2.2.2 (by decide)) rfl rfl ?_
        rintro _ g ⟨rfl, w1, y1, m1⟩
        have yb := hy.b (z' := (1, 112, q, 0, 0)) w1 y1 m1
        refine s_iret rfl rfl ?_
        exact ⟨_, _, rfl, Or.inr ⟨_, by rw [if_pos (by omega)], rfl, yb.1⟩, yb.2⟩
    | false =>
      refine s_ildn (p' := 1) rfl rfl rfl ?_
      refine s_aldn (p' := 2) rfl rfl rfl ?_
      refine s_gf (p' := 5) rfl hW rfl rfl ?_
      refine s_gf (p' := 8) rfl r0 rfl rfl ?_
      refine s_callV (p' := 13) (ls0 := [_]) rfl rfl rfl rfl rfl (by obtain ⟨_, _, _, zz, _⟩ := yl; exact mj_rcv_is zz) rfl (by obtain ⟨_, _, _, zz, _⟩ := yl; exact y_siz zz) (by first | decide | omega) rfl ?_
      by_cases qn : q < np
      · refine s_icmp (p' := 24) true rfl ((ci_lt (by omega) (by omega)).trans (decide_eq_true (by omega))) rfl ?_
        refine s_aldn (p' := 25) rfl rfl rfl ?_
        refine s_gf (p' := 28) rfl hW rfl rfl ?_
        refine s_bip (p' := 30) rfl rfl ?_
        by_cases qc0 : c = 20
        · refine s_icmp (p' := 33) false rfl ((ci_ne (by omega) (by omega)).trans (decide_eq_false (by omega))) rfl ?_
          refine s_aldn (p' := 34) rfl rfl rfl ?_
          refine s_bip (p' := 36) rfl rfl ?_
          refine s_bip (p' := 38) rfl rfl ?_
          refine s_callEV (p' := 41) (ls0 := [_, _, _]) rfl rfl rfl rfl rfl (mj_rcv_is hW) rfl (y_bks (lt := 100) (nu := 20) bW hW hy.2.2.2 (by decide)) rfl rfl ?_
          rintro _ g ⟨rfl, w1, y1, m1⟩
          have yb := hy.b (z' := (1, 100, 20, 0, 0)) w1 y1 m1
          refine s_iret rfl rfl ?_
          exact ⟨_, _, rfl, Or.inr ⟨_, by rw [if_neg (by omega), if_pos (by omega)], rfl, yb.1⟩, yb.2⟩
        · refine s_icmp (p' := 42) true rfl ((ci_ne (by omega) (by omega)).trans (decide_eq_true (by omega))) rfl ?_
          have qc : c < 20 := by omega
          refine s_aldn (p' := 43) rfl rfl rfl ?_
          refine s_gf (p' := 46) rfl A0 rfl rfl ?_
          refine s_aldn (p' := 47) rfl rfl rfl ?_
          refine s_gf (p' := 50) rfl A0 rfl rfl ?_
          refine s_aldn (p' := 51) rfl rfl rfl ?_
          refine s_gf (p' := 54) rfl A0 rfl rfl ?_
          refine s_aldn (p' := 55) rfl rfl rfl ?_
          refine s_gf (p' := 58) rfl A0 rfl rfl ?_
          refine s_bal2 (p' := 59) rfl D0 (inb_nI (by omega) (by omega)) rfl ?_
          rw [mI_cl (by omega), b3w]
          refine s_if (p' := 62) false rfl (by decide +kernel) rfl ?_
          refine s_ildn (p' := 63) rfl rfl rfl ?_
          refine s_goto (p' := 69) rfl rfl ?_
          refine s_ias (p' := 70) rfl (by omega) C0 (inb_nI (by omega) (by omega)) rfl ?_
          rw [mI_cl (by omega)]
          generalize hg1 : List.set h (W + 4) _ = g1
          have m1 : mz_mo [W, W + 3, W + 4, W + 5] 0 0 h g1 := by rw [← hg1]; exact mz_mo.s m0 (by omega) C0 rfl (Or.inl (by simp))
          have A1 : mj_rd g1 (W) = some (wrC W t c z.1) := by rw [← hg1]; exact (rd_setn (by omega)).trans A0
          have B1 : mj_rd g1 (W + 3) = some (.inl (0, (21, .inl f1))) := by rw [← hg1]; exact (rd_setn (by omega)).trans B0
          have C1 : mj_rd g1 (W + 4) = some (.inl (0, (21, .inl (upd f2 c (nI (a)))))) := by rw [← hg1]; exact rd_set (by omega) C0
          have D1 : mj_rd g1 (W + 5) = some (.inl (2, (21, .inl f3))) := by rw [← hg1]; exact (rd_setn (by omega)).trans D0
          clear hg1
          refine s_aldn (p' := 71) rfl rfl rfl ?_
          refine s_sp (p' := 72) (ls' := _) rfl rfl rfl ?_
          refine s_gf (p' := 75) rfl A1 rfl rfl ?_
          refine s_con (p' := 76) rfl rfl ?_
          refine s_sp (p' := 77) (ls' := _) rfl rfl rfl ?_
          rw [mI_add]
          refine s_pf (p' := 80) (fs' := [_, _, _, _, _, _, _, _, _, _, _]) rfl (by omega) A1 (Nat.blt_eq.mp rfl) rfl rfl rfl ?_
          generalize hg2 : List.set g1 W _ = g2
          have m2 : mz_mo [W, W + 3, W + 4, W + 5] 0 0 h g2 := by rw [← hg2]; exact mz_mo.s m1 (by omega) A1 rfl (Or.inl (by simp))
          have A2 : mj_rd g2 (W) = some (wrC W t (c + 1) z.1) := by rw [← hg2]; exact rd_set (by omega) A1
          have B2 : mj_rd g2 (W + 3) = some (.inl (0, (21, .inl f1))) := by rw [← hg2]; exact (rd_setn (by omega)).trans B1
          have C2 : mj_rd g2 (W + 4) = some (.inl (0, (21, .inl (upd f2 c (nI (a)))))) := by rw [← hg2]; exact (rd_setn (by omega)).trans C1
          have D2 : mj_rd g2 (W + 5) = some (.inl (2, (21, .inl f3))) := by rw [← hg2]; exact (rd_setn (by omega)).trans D1
          clear hg2
          refine s_aldn (p' := 81) rfl rfl rfl ?_
          refine s_gf (p' := 84) rfl A2 rfl rfl ?_
          refine s_aldn (p' := 85) rfl rfl rfl ?_
          refine s_gf (p' := 88) rfl A2 rfl rfl ?_
          refine s_ildn (p' := 89) rfl rfl rfl ?_
          refine s_ias (p' := 90) rfl (by omega) B2 (inb_nI (by omega) (by omega)) rfl ?_
          rw [mI_cl (by omega)]
          generalize hg3 : List.set g2 (W + 3) _ = g3
          have m3 : mz_mo [W, W + 3, W + 4, W + 5] 0 0 h g3 := by rw [← hg3]; exact mz_mo.s m2 (by omega) B2 rfl (Or.inl (by simp))
          have A3 : mj_rd g3 (W) = some (wrC W t (c + 1) z.1) := by rw [← hg3]; exact (rd_setn (by omega)).trans A2
          have B3 : mj_rd g3 (W + 3) = some (.inl (0, (21, .inl (upd f1 (c + 1) (nI q))))) := by rw [← hg3]; exact rd_set (by omega) B2
          have C3 : mj_rd g3 (W + 4) = some (.inl (0, (21, .inl (upd f2 c (nI (a)))))) := by rw [← hg3]; exact (rd_setn (by omega)).trans C2
          have D3 : mj_rd g3 (W + 5) = some (.inl (2, (21, .inl f3))) := by rw [← hg3]; exact (rd_setn (by omega)).trans D2
          clear hg3
          refine s_aldn (p' := 91) rfl rfl rfl ?_
          refine s_gf (p' := 94) rfl A3 rfl rfl ?_
          refine s_aldn (p' := 95) rfl rfl rfl ?_
          refine s_gf (p' := 98) rfl A3 rfl rfl ?_
          refine s_ildn (p' := 99) rfl rfl rfl ?_
          refine s_bas2 (p' := 100) rfl (by omega) D3 (inb_nI (by omega) (by omega)) rfl ?_
          rw [mI_cl (by omega), show vp_nar .boolean (nI (bN false)) = nI (bN false) from by decide +kernel]
          generalize hg4 : List.set g3 (W + 5) _ = g4
          have m4 : mz_mo [W, W + 3, W + 4, W + 5] 0 0 h g4 := by rw [← hg4]; exact mz_mo.s m3 (by omega) D3 rfl (Or.inl (by simp))
          have A4 : mj_rd g4 (W) = some (wrC W t (c + 1) z.1) := by rw [← hg4]; exact (rd_setn (by omega)).trans A3
          have B4 : mj_rd g4 (W + 3) = some (.inl (0, (21, .inl (upd f1 (c + 1) (nI q))))) := by rw [← hg4]; exact (rd_setn (by omega)).trans B3
          have C4 : mj_rd g4 (W + 4) = some (.inl (0, (21, .inl (upd f2 c (nI (a)))))) := by rw [← hg4]; exact (rd_setn (by omega)).trans C3
          have D4 : mj_rd g4 (W + 5) = some (.inl (2, (21, .inl (upd f3 (c + 1) (nI (bN false)))))) := by rw [← hg4]; exact rd_set (by omega) D3
          clear hg4
          refine s_aldn (p' := 101) rfl rfl rfl ?_
          refine s_gf (p' := 104) rfl (by repeat (first | assumption | refine rd_app ?_ | rw [rd_setn (by first | assumption | omega)] | apply rd_set (by first | assumption | decide))) rfl rfl ?_
          refine s_aldn (p' := 105) rfl rfl rfl ?_
          refine s_gf (p' := 108) rfl A4 rfl rfl ?_
          refine s_ildn (p' := 109) rfl rfl rfl ?_
          refine s_if (p' := 116) true rfl (by decide +kernel) rfl ?_
          have hl4 := hl.fr m4.1 hy (fun x hx => wML_m.mpr (by simp only [List.mem_cons, List.not_mem_nil, or_false] at hx; omega)) hI
          obtain ⟨⟨n0, n2, n3, n4, n5, n6, n7, n8, n9, n10, r4⟩, Ep4, PF4, yl4, _, pr4⟩ := hl4
          obtain ⟨Lr, Tx, La, Ea, F, iD, rD, la, _, _, ac⟩ := pr4 q qn
          refine s_aldn (p' := 117) rfl rfl rfl ?_
          refine s_gf (p' := 120) rfl A4 rfl rfl ?_
          refine s_gf (p' := 123) rfl r4 rfl rfl ?_
          refine s_ildn (p' := 124) rfl rfl rfl ?_
          refine s_callV (p' := 129) (ls0 := [_, _]) rfl rfl rfl rfl rfl (by obtain ⟨_, _, _, zz, _⟩ := yl4; exact mj_rcv_is zz) rfl (y_get yl4 qn) (by first | decide | omega) rfl ?_
          refine s_cco (p' := 132) rfl rD rfl ?_
          refine s_gf (p' := 135) rfl rD rfl rfl ?_
          refine s_callV (p' := 140) (ls0 := [_]) rfl rfl rfl rfl rfl (by obtain ⟨_, _, _, zz, _⟩ := la; exact mj_rcv_is zz) rfl (by obtain ⟨_, _, _, zz, _⟩ := la; exact y_siz zz) (by first | decide | omega) rfl ?_
          refine s_ias (p' := 141) rfl (by omega) C4 (inb_nI (by omega) (by omega)) rfl ?_
          rw [mI_cl (by omega)]
          generalize hg5 : List.set g4 (W + 4) _ = g5
          have m5 : mz_mo [W, W + 3, W + 4, W + 5] 0 0 h g5 := by rw [← hg5]; exact mz_mo.s m4 (by omega) C4 rfl (Or.inl (by simp))
          have A5 : mj_rd g5 (W) = some (wrC W t (c + 1) z.1) := by rw [← hg5]; exact (rd_setn (by omega)).trans A4
          have B5 : mj_rd g5 (W + 3) = some (.inl (0, (21, .inl (upd f1 (c + 1) (nI q))))) := by rw [← hg5]; exact (rd_setn (by omega)).trans B4
          have C5 : mj_rd g5 (W + 4) = some (.inl (0, (21, .inl (upd (upd f2 c (nI (a))) (c + 1) (nI (K q)))))) := by rw [← hg5]; exact rd_set (by omega) C4
          have D5 : mj_rd g5 (W + 5) = some (.inl (2, (21, .inl (upd f3 (c + 1) (nI (bN false)))))) := by rw [← hg5]; exact (rd_setn (by omega)).trans D4
          clear hg5
          have m5x : mz_fr [W, W + 3, W + 4, W + 5] h g5 := m5.1
          refine s_con (p' := 142) rfl rfl ?_
          refine s_iret rfl rfl ?_
          have rr := wRn.call (q := q) (l1 := K q) (a := a) (w := true) (b := false) qc b1 b1' b2 b3 b3' b3w B5 C5 D5
          exact ⟨_, _, rfl, Or.inl ⟨(q, K q, c + 1, false, upN cp c p, upN cl c a, updB cw c true), by rw [if_neg (by omega), if_neg (by omega)] <;> rfl, rfl, A5, hy.2.1.fr m5x (by simp only [List.mem_cons, List.not_mem_nil, or_false]; omega) (by simp only [List.mem_cons, List.not_mem_nil, or_false]; omega), rr, hy.2.2.2.fr m5x (by simp only [List.mem_cons, List.not_mem_nil, or_false]; omega) (by simp only [List.mem_cons, List.not_mem_nil, or_false]; omega)⟩, mo_w m5 (fun x hx => wML_m.mpr (by simp only [List.mem_cons, List.not_mem_nil, or_false] at hx; omega))⟩
      · refine s_icmp (p' := 16) false rfl ((ci_lt (by omega) (by omega)).trans (decide_eq_false (by omega))) rfl ?_
        refine s_aldn (p' := 17) rfl rfl rfl ?_
        refine s_bip (p' := 19) rfl rfl ?_
        refine s_ildn (p' := 20) rfl rfl rfl ?_
        refine s_callEV (p' := 23) (ls0 := [_, _, _]) rfl rfl rfl rfl rfl (mj_rcv_is hW) rfl (y_bks (lt := 112) (nu := q) bW hW hy.2.2.2 (by decide)) rfl rfl ?_
        rintro _ g ⟨rfl, w1, y1, m1⟩
        have yb := hy.b (z' := (1, 112, q, 0, 0)) w1 y1 m1
        refine s_iret rfl rfl ?_
        exact ⟨_, _, rfl, Or.inr ⟨_, by rw [if_pos (by omega)], rfl, yb.1⟩, yb.2⟩
  | false =>
    cases b with
    | true =>
      refine s_ildn (p' := 1) rfl rfl rfl ?_
      refine s_aldn (p' := 2) rfl rfl rfl ?_
      refine s_gf (p' := 5) rfl hW rfl rfl ?_
      refine s_gf (p' := 8) rfl r0 rfl rfl ?_
      refine s_callV (p' := 13) (ls0 := [_]) rfl rfl rfl rfl rfl (by obtain ⟨_, _, _, zz, _⟩ := yl; exact mj_rcv_is zz) rfl (by obtain ⟨_, _, _, zz, _⟩ := yl; exact y_siz zz) (by first | decide | omega) rfl ?_
      by_cases qn : q < np
      · refine s_icmp (p' := 24) true rfl ((ci_lt (by omega) (by omega)).trans (decide_eq_true (by omega))) rfl ?_
        refine s_aldn (p' := 25) rfl rfl rfl ?_
        refine s_gf (p' := 28) rfl hW rfl rfl ?_
        refine s_bip (p' := 30) rfl rfl ?_
        by_cases qc0 : c = 20
        · refine s_icmp (p' := 33) false rfl ((ci_ne (by omega) (by omega)).trans (decide_eq_false (by omega))) rfl ?_
          refine s_aldn (p' := 34) rfl rfl rfl ?_
          refine s_bip (p' := 36) rfl rfl ?_
          refine s_bip (p' := 38) rfl rfl ?_
          refine s_callEV (p' := 41) (ls0 := [_, _, _]) rfl rfl rfl rfl rfl (mj_rcv_is hW) rfl (y_bks (lt := 100) (nu := 20) bW hW hy.2.2.2 (by decide)) rfl rfl ?_
          rintro _ g ⟨rfl, w1, y1, m1⟩
          have yb := hy.b (z' := (1, 100, 20, 0, 0)) w1 y1 m1
          refine s_iret rfl rfl ?_
          exact ⟨_, _, rfl, Or.inr ⟨_, by rw [if_neg (by omega), if_pos (by omega)], rfl, yb.1⟩, yb.2⟩
        · refine s_icmp (p' := 42) true rfl ((ci_ne (by omega) (by omega)).trans (decide_eq_true (by omega))) rfl ?_
          have qc : c < 20 := by omega
          refine s_aldn (p' := 43) rfl rfl rfl ?_
          refine s_gf (p' := 46) rfl A0 rfl rfl ?_
          refine s_aldn (p' := 47) rfl rfl rfl ?_
          refine s_gf (p' := 50) rfl A0 rfl rfl ?_
          refine s_aldn (p' := 51) rfl rfl rfl ?_
          refine s_gf (p' := 54) rfl A0 rfl rfl ?_
          refine s_aldn (p' := 55) rfl rfl rfl ?_
          refine s_gf (p' := 58) rfl A0 rfl rfl ?_
          refine s_bal2 (p' := 59) rfl D0 (inb_nI (by omega) (by omega)) rfl ?_
          rw [mI_cl (by omega), b3w]
          refine s_if (p' := 66) true rfl (by decide +kernel) rfl ?_
          refine s_ildn (p' := 67) rfl rfl rfl ?_
          refine s_con (p' := 68) rfl rfl ?_
          refine s_sp (p' := 69) (ls' := _) rfl rfl rfl ?_
          rw [mI_add]
          refine s_ias (p' := 70) rfl (by omega) C0 (inb_nI (by omega) (by omega)) rfl ?_
          rw [mI_cl (by omega)]
          generalize hg1 : List.set h (W + 4) _ = g1
          have m1 : mz_mo [W, W + 3, W + 4, W + 5] 0 0 h g1 := by rw [← hg1]; exact mz_mo.s m0 (by omega) C0 rfl (Or.inl (by simp))
          have A1 : mj_rd g1 (W) = some (wrC W t c z.1) := by rw [← hg1]; exact (rd_setn (by omega)).trans A0
          have B1 : mj_rd g1 (W + 3) = some (.inl (0, (21, .inl f1))) := by rw [← hg1]; exact (rd_setn (by omega)).trans B0
          have C1 : mj_rd g1 (W + 4) = some (.inl (0, (21, .inl (upd f2 c (nI (a + 1)))))) := by rw [← hg1]; exact rd_set (by omega) C0
          have D1 : mj_rd g1 (W + 5) = some (.inl (2, (21, .inl f3))) := by rw [← hg1]; exact (rd_setn (by omega)).trans D0
          clear hg1
          refine s_aldn (p' := 71) rfl rfl rfl ?_
          refine s_sp (p' := 72) (ls' := _) rfl rfl rfl ?_
          refine s_gf (p' := 75) rfl A1 rfl rfl ?_
          refine s_con (p' := 76) rfl rfl ?_
          refine s_sp (p' := 77) (ls' := _) rfl rfl rfl ?_
          rw [mI_add]
          refine s_pf (p' := 80) (fs' := [_, _, _, _, _, _, _, _, _, _, _]) rfl (by omega) A1 (Nat.blt_eq.mp rfl) rfl rfl rfl ?_
          generalize hg2 : List.set g1 W _ = g2
          have m2 : mz_mo [W, W + 3, W + 4, W + 5] 0 0 h g2 := by rw [← hg2]; exact mz_mo.s m1 (by omega) A1 rfl (Or.inl (by simp))
          have A2 : mj_rd g2 (W) = some (wrC W t (c + 1) z.1) := by rw [← hg2]; exact rd_set (by omega) A1
          have B2 : mj_rd g2 (W + 3) = some (.inl (0, (21, .inl f1))) := by rw [← hg2]; exact (rd_setn (by omega)).trans B1
          have C2 : mj_rd g2 (W + 4) = some (.inl (0, (21, .inl (upd f2 c (nI (a + 1)))))) := by rw [← hg2]; exact (rd_setn (by omega)).trans C1
          have D2 : mj_rd g2 (W + 5) = some (.inl (2, (21, .inl f3))) := by rw [← hg2]; exact (rd_setn (by omega)).trans D1
          clear hg2
          refine s_aldn (p' := 81) rfl rfl rfl ?_
          refine s_gf (p' := 84) rfl A2 rfl rfl ?_
          refine s_aldn (p' := 85) rfl rfl rfl ?_
          refine s_gf (p' := 88) rfl A2 rfl rfl ?_
          refine s_ildn (p' := 89) rfl rfl rfl ?_
          refine s_ias (p' := 90) rfl (by omega) B2 (inb_nI (by omega) (by omega)) rfl ?_
          rw [mI_cl (by omega)]
          generalize hg3 : List.set g2 (W + 3) _ = g3
          have m3 : mz_mo [W, W + 3, W + 4, W + 5] 0 0 h g3 := by rw [← hg3]; exact mz_mo.s m2 (by omega) B2 rfl (Or.inl (by simp))
          have A3 : mj_rd g3 (W) = some (wrC W t (c + 1) z.1) := by rw [← hg3]; exact (rd_setn (by omega)).trans A2
          have B3 : mj_rd g3 (W + 3) = some (.inl (0, (21, .inl (upd f1 (c + 1) (nI q))))) := by rw [← hg3]; exact rd_set (by omega) B2
          have C3 : mj_rd g3 (W + 4) = some (.inl (0, (21, .inl (upd f2 c (nI (a + 1)))))) := by rw [← hg3]; exact (rd_setn (by omega)).trans C2
          have D3 : mj_rd g3 (W + 5) = some (.inl (2, (21, .inl f3))) := by rw [← hg3]; exact (rd_setn (by omega)).trans D2
          clear hg3
          refine s_aldn (p' := 91) rfl rfl rfl ?_
          refine s_gf (p' := 94) rfl A3 rfl rfl ?_
          refine s_aldn (p' := 95) rfl rfl rfl ?_
          refine s_gf (p' := 98) rfl A3 rfl rfl ?_
          refine s_ildn (p' := 99) rfl rfl rfl ?_
          refine s_bas2 (p' := 100) rfl (by omega) D3 (inb_nI (by omega) (by omega)) rfl ?_
          rw [mI_cl (by omega), show vp_nar .boolean (nI (bN true)) = nI (bN true) from by decide +kernel]
          generalize hg4 : List.set g3 (W + 5) _ = g4
          have m4 : mz_mo [W, W + 3, W + 4, W + 5] 0 0 h g4 := by rw [← hg4]; exact mz_mo.s m3 (by omega) D3 rfl (Or.inl (by simp))
          have A4 : mj_rd g4 (W) = some (wrC W t (c + 1) z.1) := by rw [← hg4]; exact (rd_setn (by omega)).trans A3
          have B4 : mj_rd g4 (W + 3) = some (.inl (0, (21, .inl (upd f1 (c + 1) (nI q))))) := by rw [← hg4]; exact (rd_setn (by omega)).trans B3
          have C4 : mj_rd g4 (W + 4) = some (.inl (0, (21, .inl (upd f2 c (nI (a + 1)))))) := by rw [← hg4]; exact (rd_setn (by omega)).trans C3
          have D4 : mj_rd g4 (W + 5) = some (.inl (2, (21, .inl (upd f3 (c + 1) (nI (bN true)))))) := by rw [← hg4]; exact rd_set (by omega) D3
          clear hg4
          refine s_aldn (p' := 101) rfl rfl rfl ?_
          refine s_gf (p' := 104) rfl (by repeat (first | assumption | refine rd_app ?_ | rw [rd_setn (by first | assumption | omega)] | apply rd_set (by first | assumption | decide))) rfl rfl ?_
          refine s_aldn (p' := 105) rfl rfl rfl ?_
          refine s_gf (p' := 108) rfl A4 rfl rfl ?_
          refine s_ildn (p' := 109) rfl rfl rfl ?_
          refine s_if (p' := 112) false rfl (by decide +kernel) rfl ?_
          refine s_con (p' := 113) rfl rfl ?_
          refine s_goto (p' := 140) rfl rfl ?_
          refine s_ias (p' := 141) rfl (by omega) C4 (inb_nI (by omega) (by omega)) rfl ?_
          rw [mI_cl (by omega)]
          generalize hg5 : List.set g4 (W + 4) _ = g5
          have m5 : mz_mo [W, W + 3, W + 4, W + 5] 0 0 h g5 := by rw [← hg5]; exact mz_mo.s m4 (by omega) C4 rfl (Or.inl (by simp))
          have A5 : mj_rd g5 (W) = some (wrC W t (c + 1) z.1) := by rw [← hg5]; exact (rd_setn (by omega)).trans A4
          have B5 : mj_rd g5 (W + 3) = some (.inl (0, (21, .inl (upd f1 (c + 1) (nI q))))) := by rw [← hg5]; exact (rd_setn (by omega)).trans B4
          have C5 : mj_rd g5 (W + 4) = some (.inl (0, (21, .inl (upd (upd f2 c (nI (a + 1))) (c + 1) (nI (0)))))) := by rw [← hg5]; exact rd_set (by omega) C4
          have D5 : mj_rd g5 (W + 5) = some (.inl (2, (21, .inl (upd f3 (c + 1) (nI (bN true)))))) := by rw [← hg5]; exact (rd_setn (by omega)).trans D4
          clear hg5
          have m5x : mz_fr [W, W + 3, W + 4, W + 5] h g5 := m5.1
          refine s_con (p' := 142) rfl rfl ?_
          refine s_iret rfl rfl ?_
          have rr := wRn.call (q := q) (l1 := 0) (a := a) (w := false) (b := true) qc b1 b1' b2 b3 b3' b3w B5 C5 D5
          exact ⟨_, _, rfl, Or.inl ⟨(q, 0, c + 1, true, upN cp c p, upN cl c a, updB cw c false), by rw [if_neg (by omega), if_neg (by omega)] <;> rfl, rfl, A5, hy.2.1.fr m5x (by simp only [List.mem_cons, List.not_mem_nil, or_false]; omega) (by simp only [List.mem_cons, List.not_mem_nil, or_false]; omega), rr, hy.2.2.2.fr m5x (by simp only [List.mem_cons, List.not_mem_nil, or_false]; omega) (by simp only [List.mem_cons, List.not_mem_nil, or_false]; omega)⟩, mo_w m5 (fun x hx => wML_m.mpr (by simp only [List.mem_cons, List.not_mem_nil, or_false] at hx; omega))⟩
      · refine s_icmp (p' := 16) false rfl ((ci_lt (by omega) (by omega)).trans (decide_eq_false (by omega))) rfl ?_
        refine s_aldn (p' := 17) rfl rfl rfl ?_
        refine s_bip (p' := 19) rfl rfl ?_
        refine s_ildn (p' := 20) rfl rfl rfl ?_
        refine s_callEV (p' := 23) (ls0 := [_, _, _]) rfl rfl rfl rfl rfl (mj_rcv_is hW) rfl (y_bks (lt := 112) (nu := q) bW hW hy.2.2.2 (by decide)) rfl rfl ?_
        rintro _ g ⟨rfl, w1, y1, m1⟩
        have yb := hy.b (z' := (1, 112, q, 0, 0)) w1 y1 m1
        refine s_iret rfl rfl ?_
        exact ⟨_, _, rfl, Or.inr ⟨_, by rw [if_pos (by omega)], rfl, yb.1⟩, yb.2⟩
    | false =>
      refine s_ildn (p' := 1) rfl rfl rfl ?_
      refine s_aldn (p' := 2) rfl rfl rfl ?_
      refine s_gf (p' := 5) rfl hW rfl rfl ?_
      refine s_gf (p' := 8) rfl r0 rfl rfl ?_
      refine s_callV (p' := 13) (ls0 := [_]) rfl rfl rfl rfl rfl (by obtain ⟨_, _, _, zz, _⟩ := yl; exact mj_rcv_is zz) rfl (by obtain ⟨_, _, _, zz, _⟩ := yl; exact y_siz zz) (by first | decide | omega) rfl ?_
      by_cases qn : q < np
      · refine s_icmp (p' := 24) true rfl ((ci_lt (by omega) (by omega)).trans (decide_eq_true (by omega))) rfl ?_
        refine s_aldn (p' := 25) rfl rfl rfl ?_
        refine s_gf (p' := 28) rfl hW rfl rfl ?_
        refine s_bip (p' := 30) rfl rfl ?_
        by_cases qc0 : c = 20
        · refine s_icmp (p' := 33) false rfl ((ci_ne (by omega) (by omega)).trans (decide_eq_false (by omega))) rfl ?_
          refine s_aldn (p' := 34) rfl rfl rfl ?_
          refine s_bip (p' := 36) rfl rfl ?_
          refine s_bip (p' := 38) rfl rfl ?_
          refine s_callEV (p' := 41) (ls0 := [_, _, _]) rfl rfl rfl rfl rfl (mj_rcv_is hW) rfl (y_bks (lt := 100) (nu := 20) bW hW hy.2.2.2 (by decide)) rfl rfl ?_
          rintro _ g ⟨rfl, w1, y1, m1⟩
          have yb := hy.b (z' := (1, 100, 20, 0, 0)) w1 y1 m1
          refine s_iret rfl rfl ?_
          exact ⟨_, _, rfl, Or.inr ⟨_, by rw [if_neg (by omega), if_pos (by omega)], rfl, yb.1⟩, yb.2⟩
        · refine s_icmp (p' := 42) true rfl ((ci_ne (by omega) (by omega)).trans (decide_eq_true (by omega))) rfl ?_
          have qc : c < 20 := by omega
          refine s_aldn (p' := 43) rfl rfl rfl ?_
          refine s_gf (p' := 46) rfl A0 rfl rfl ?_
          refine s_aldn (p' := 47) rfl rfl rfl ?_
          refine s_gf (p' := 50) rfl A0 rfl rfl ?_
          refine s_aldn (p' := 51) rfl rfl rfl ?_
          refine s_gf (p' := 54) rfl A0 rfl rfl ?_
          refine s_aldn (p' := 55) rfl rfl rfl ?_
          refine s_gf (p' := 58) rfl A0 rfl rfl ?_
          refine s_bal2 (p' := 59) rfl D0 (inb_nI (by omega) (by omega)) rfl ?_
          rw [mI_cl (by omega), b3w]
          refine s_if (p' := 66) true rfl (by decide +kernel) rfl ?_
          refine s_ildn (p' := 67) rfl rfl rfl ?_
          refine s_con (p' := 68) rfl rfl ?_
          refine s_sp (p' := 69) (ls' := _) rfl rfl rfl ?_
          rw [mI_add]
          refine s_ias (p' := 70) rfl (by omega) C0 (inb_nI (by omega) (by omega)) rfl ?_
          rw [mI_cl (by omega)]
          generalize hg1 : List.set h (W + 4) _ = g1
          have m1 : mz_mo [W, W + 3, W + 4, W + 5] 0 0 h g1 := by rw [← hg1]; exact mz_mo.s m0 (by omega) C0 rfl (Or.inl (by simp))
          have A1 : mj_rd g1 (W) = some (wrC W t c z.1) := by rw [← hg1]; exact (rd_setn (by omega)).trans A0
          have B1 : mj_rd g1 (W + 3) = some (.inl (0, (21, .inl f1))) := by rw [← hg1]; exact (rd_setn (by omega)).trans B0
          have C1 : mj_rd g1 (W + 4) = some (.inl (0, (21, .inl (upd f2 c (nI (a + 1)))))) := by rw [← hg1]; exact rd_set (by omega) C0
          have D1 : mj_rd g1 (W + 5) = some (.inl (2, (21, .inl f3))) := by rw [← hg1]; exact (rd_setn (by omega)).trans D0
          clear hg1
          refine s_aldn (p' := 71) rfl rfl rfl ?_
          refine s_sp (p' := 72) (ls' := _) rfl rfl rfl ?_
          refine s_gf (p' := 75) rfl A1 rfl rfl ?_
          refine s_con (p' := 76) rfl rfl ?_
          refine s_sp (p' := 77) (ls' := _) rfl rfl rfl ?_
          rw [mI_add]
          refine s_pf (p' := 80) (fs' := [_, _, _, _, _, _, _, _, _, _, _]) rfl (by omega) A1 (Nat.blt_eq.mp rfl) rfl rfl rfl ?_
          generalize hg2 : List.set g1 W _ = g2
          have m2 : mz_mo [W, W + 3, W + 4, W + 5] 0 0 h g2 := by rw [← hg2]; exact mz_mo.s m1 (by omega) A1 rfl (Or.inl (by simp))
          have A2 : mj_rd g2 (W) = some (wrC W t (c + 1) z.1) := by rw [← hg2]; exact rd_set (by omega) A1
          have B2 : mj_rd g2 (W + 3) = some (.inl (0, (21, .inl f1))) := by rw [← hg2]; exact (rd_setn (by omega)).trans B1
          have C2 : mj_rd g2 (W + 4) = some (.inl (0, (21, .inl (upd f2 c (nI (a + 1)))))) := by rw [← hg2]; exact (rd_setn (by omega)).trans C1
          have D2 : mj_rd g2 (W + 5) = some (.inl (2, (21, .inl f3))) := by rw [← hg2]; exact (rd_setn (by omega)).trans D1
          clear hg2
          refine s_aldn (p' := 81) rfl rfl rfl ?_
          refine s_gf (p' := 84) rfl A2 rfl rfl ?_
          refine s_aldn (p' := 85) rfl rfl rfl ?_
          refine s_gf (p' := 88) rfl A2 rfl rfl ?_
          refine s_ildn (p' := 89) rfl rfl rfl ?_
          refine s_ias (p' := 90) rfl (by omega) B2 (inb_nI (by omega) (by omega)) rfl ?_
          rw [mI_cl (by omega)]
          generalize hg3 : List.set g2 (W + 3) _ = g3
          have m3 : mz_mo [W, W + 3, W + 4, W + 5] 0 0 h g3 := by rw [← hg3]; exact mz_mo.s m2 (by omega) B2 rfl (Or.inl (by simp))
          have A3 : mj_rd g3 (W) = some (wrC W t (c + 1) z.1) := by rw [← hg3]; exact (rd_setn (by omega)).trans A2
          have B3 : mj_rd g3 (W + 3) = some (.inl (0, (21, .inl (upd f1 (c + 1) (nI q))))) := by rw [← hg3]; exact rd_set (by omega) B2
          have C3 : mj_rd g3 (W + 4) = some (.inl (0, (21, .inl (upd f2 c (nI (a + 1)))))) := by rw [← hg3]; exact (rd_setn (by omega)).trans C2
          have D3 : mj_rd g3 (W + 5) = some (.inl (2, (21, .inl f3))) := by rw [← hg3]; exact (rd_setn (by omega)).trans D2
          clear hg3
          refine s_aldn (p' := 91) rfl rfl rfl ?_
          refine s_gf (p' := 94) rfl A3 rfl rfl ?_
          refine s_aldn (p' := 95) rfl rfl rfl ?_
          refine s_gf (p' := 98) rfl A3 rfl rfl ?_
          refine s_ildn (p' := 99) rfl rfl rfl ?_
          refine s_bas2 (p' := 100) rfl (by omega) D3 (inb_nI (by omega) (by omega)) rfl ?_
          rw [mI_cl (by omega), show vp_nar .boolean (nI (bN false)) = nI (bN false) from by decide +kernel]
          generalize hg4 : List.set g3 (W + 5) _ = g4
          have m4 : mz_mo [W, W + 3, W + 4, W + 5] 0 0 h g4 := by rw [← hg4]; exact mz_mo.s m3 (by omega) D3 rfl (Or.inl (by simp))
          have A4 : mj_rd g4 (W) = some (wrC W t (c + 1) z.1) := by rw [← hg4]; exact (rd_setn (by omega)).trans A3
          have B4 : mj_rd g4 (W + 3) = some (.inl (0, (21, .inl (upd f1 (c + 1) (nI q))))) := by rw [← hg4]; exact (rd_setn (by omega)).trans B3
          have C4 : mj_rd g4 (W + 4) = some (.inl (0, (21, .inl (upd f2 c (nI (a + 1)))))) := by rw [← hg4]; exact (rd_setn (by omega)).trans C3
          have D4 : mj_rd g4 (W + 5) = some (.inl (2, (21, .inl (upd f3 (c + 1) (nI (bN false)))))) := by rw [← hg4]; exact rd_set (by omega) D3
          clear hg4
          refine s_aldn (p' := 101) rfl rfl rfl ?_
          refine s_gf (p' := 104) rfl (by repeat (first | assumption | refine rd_app ?_ | rw [rd_setn (by first | assumption | omega)] | apply rd_set (by first | assumption | decide))) rfl rfl ?_
          refine s_aldn (p' := 105) rfl rfl rfl ?_
          refine s_gf (p' := 108) rfl A4 rfl rfl ?_
          refine s_ildn (p' := 109) rfl rfl rfl ?_
          refine s_if (p' := 116) true rfl (by decide +kernel) rfl ?_
          have hl4 := hl.fr m4.1 hy (fun x hx => wML_m.mpr (by simp only [List.mem_cons, List.not_mem_nil, or_false] at hx; omega)) hI
          obtain ⟨⟨n0, n2, n3, n4, n5, n6, n7, n8, n9, n10, r4⟩, Ep4, PF4, yl4, _, pr4⟩ := hl4
          obtain ⟨Lr, Tx, La, Ea, F, iD, rD, la, _, _, ac⟩ := pr4 q qn
          refine s_aldn (p' := 117) rfl rfl rfl ?_
          refine s_gf (p' := 120) rfl A4 rfl rfl ?_
          refine s_gf (p' := 123) rfl r4 rfl rfl ?_
          refine s_ildn (p' := 124) rfl rfl rfl ?_
          refine s_callV (p' := 129) (ls0 := [_, _]) rfl rfl rfl rfl rfl (by obtain ⟨_, _, _, zz, _⟩ := yl4; exact mj_rcv_is zz) rfl (y_get yl4 qn) (by first | decide | omega) rfl ?_
          refine s_cco (p' := 132) rfl rD rfl ?_
          refine s_gf (p' := 135) rfl rD rfl rfl ?_
          refine s_callV (p' := 140) (ls0 := [_]) rfl rfl rfl rfl rfl (by obtain ⟨_, _, _, zz, _⟩ := la; exact mj_rcv_is zz) rfl (by obtain ⟨_, _, _, zz, _⟩ := la; exact y_siz zz) (by first | decide | omega) rfl ?_
          refine s_ias (p' := 141) rfl (by omega) C4 (inb_nI (by omega) (by omega)) rfl ?_
          rw [mI_cl (by omega)]
          generalize hg5 : List.set g4 (W + 4) _ = g5
          have m5 : mz_mo [W, W + 3, W + 4, W + 5] 0 0 h g5 := by rw [← hg5]; exact mz_mo.s m4 (by omega) C4 rfl (Or.inl (by simp))
          have A5 : mj_rd g5 (W) = some (wrC W t (c + 1) z.1) := by rw [← hg5]; exact (rd_setn (by omega)).trans A4
          have B5 : mj_rd g5 (W + 3) = some (.inl (0, (21, .inl (upd f1 (c + 1) (nI q))))) := by rw [← hg5]; exact (rd_setn (by omega)).trans B4
          have C5 : mj_rd g5 (W + 4) = some (.inl (0, (21, .inl (upd (upd f2 c (nI (a + 1))) (c + 1) (nI (K q)))))) := by rw [← hg5]; exact rd_set (by omega) C4
          have D5 : mj_rd g5 (W + 5) = some (.inl (2, (21, .inl (upd f3 (c + 1) (nI (bN false)))))) := by rw [← hg5]; exact (rd_setn (by omega)).trans D4
          clear hg5
          have m5x : mz_fr [W, W + 3, W + 4, W + 5] h g5 := m5.1
          refine s_con (p' := 142) rfl rfl ?_
          refine s_iret rfl rfl ?_
          have rr := wRn.call (q := q) (l1 := K q) (a := a) (w := false) (b := false) qc b1 b1' b2 b3 b3' b3w B5 C5 D5
          exact ⟨_, _, rfl, Or.inl ⟨(q, K q, c + 1, false, upN cp c p, upN cl c a, updB cw c false), by rw [if_neg (by omega), if_neg (by omega)] <;> rfl, rfl, A5, hy.2.1.fr m5x (by simp only [List.mem_cons, List.not_mem_nil, or_false]; omega) (by simp only [List.mem_cons, List.not_mem_nil, or_false]; omega), rr, hy.2.2.2.fr m5x (by simp only [List.mem_cons, List.not_mem_nil, or_false]; omega) (by simp only [List.mem_cons, List.not_mem_nil, or_false]; omega)⟩, mo_w m5 (fun x hx => wML_m.mpr (by simp only [List.mem_cons, List.not_mem_nil, or_false] at hx; omega))⟩
      · refine s_icmp (p' := 16) false rfl ((ci_lt (by omega) (by omega)).trans (decide_eq_false (by omega))) rfl ?_
        refine s_aldn (p' := 17) rfl rfl rfl ?_
        refine s_bip (p' := 19) rfl rfl ?_
        refine s_ildn (p' := 20) rfl rfl rfl ?_
        refine s_callEV (p' := 23) (ls0 := [_, _, _]) rfl rfl rfl rfl rfl (mj_rcv_is hW) rfl (y_bks (lt := 112) (nu := q) bW hW hy.2.2.2 (by decide)) rfl rfl ?_
        rintro _ g ⟨rfl, w1, y1, m1⟩
        have yb := hy.b (z' := (1, 112, q, 0, 0)) w1 y1 m1
        refine s_iret rfl rfl ?_
        exact ⟨_, _, rfl, Or.inr ⟨_, by rw [if_pos (by omega)], rfl, yb.1⟩, yb.2⟩
