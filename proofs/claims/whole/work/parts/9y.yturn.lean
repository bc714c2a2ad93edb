/-! The reference: a run started, a run turned round. -/
def wrB (W t cn : Nat) (d : Int32) : mj_C := .inr (19, [.ref (W + 1), .ref (W + 2), .ref (W + 3), .ref (W + 4), .ref (W + 5), .ref (W + 6), .ref (W + 7), .int (nI t), .int d, .int (nI cn), .ref 400])
/-- the reference's world, begun or not -/
def yWb (h : mj_H) (W : Nat) (s : SV) : Prop := (∃ (cn : Nat) (d : Int32), mj_rd h W = some (wrB W s.2.2 cn d)) ∧ wSt h W s ∧ (∃ f : Nat → Int32, mj_rd h (W + 3) = some (.inl (0, (21, .inl f)))) ∧ (∃ f : Nat → Int32, mj_rd h (W + 4) = some (.inl (0, (21, .inl f)))) ∧ (∃ f : Nat → Int32, mj_rd h (W + 5) = some (.inl (2, (21, .inl f))) ∧ ∀ d, d < 21 → ∃ b, f d = nI (bN b)) ∧ ∃ lf nf : Nat → Int32, mj_rd h (W + 6) = some (.inl (3, (2, .inl lf))) ∧ mj_rd h (W + 7) = some (.inl (0, (2, .inl nf)))
theorem yWl.raw {h : mj_H} {W : Nat} {s : SV} {r : SR} {z : CZ} (a : yWl h W (s, r) z) : yWb h W s := by
  obtain ⟨p, l, c, w, cp, cl, cw⟩ := r
  obtain ⟨a0, st, ⟨⟨f3, a3, _⟩, ⟨f4, a4, _⟩, f5, a5, b5, _⟩, lf, nf, a6, a7, _⟩ := a
  exact ⟨⟨_, _, a0⟩, st, ⟨f3, a3⟩, ⟨f4, a4⟩, ⟨f5, a5, b5⟩, lf, nf, a6, a7⟩
theorem yWb.kd {h : mj_H} {W : Nat} {s : SV} (a : yWb h W s) {x : Nat} (hx : x ∈ wML W) : ∃ c, mj_rd h x = some c ∧ (∀ y, c ≠ .inl (6, y)) ∧ ∀ k fs, c = .inr (k, fs) → k = 19 := by
  obtain ⟨⟨_, _, a0⟩, ⟨⟨_, a1, _⟩, ⟨_, a2, _⟩, _⟩, ⟨_, a3⟩, ⟨_, a4⟩, ⟨_, a5, _⟩, _, _, a6, a7⟩ := a
  unfold wML at hx
  simp only [List.mem_cons, List.not_mem_nil, or_false] at hx
  rcases hx with rfl | rfl | rfl | rfl | rfl | rfl | rfl | rfl
  · exact ⟨_, a0, (fun _ e => by unfold wrB at e; cases e), fun k fs e => (Prod.mk.inj (Sum.inr.inj e)).1.symm⟩
  · exact ⟨_, a1, (fun _ e => by cases e), (fun _ _ e => by cases e)⟩
  · exact ⟨_, a2, (fun _ e => by cases e), (fun _ _ e => by cases e)⟩
  · exact ⟨_, a3, (fun _ e => by cases e), (fun _ _ e => by cases e)⟩
  · exact ⟨_, a4, (fun _ e => by cases e), (fun _ _ e => by cases e)⟩
  · exact ⟨_, a5, (fun _ e => by cases e), (fun _ _ e => by cases e)⟩
  · exact ⟨_, a6, (fun _ e => by cases e), (fun _ _ e => by cases e)⟩
  · exact ⟨_, a7, (fun _ e => by cases e), (fun _ _ e => by cases e)⟩
theorem yLb.fb {I : Nat → Prop} {h g : mj_H} {L : List Nat} {W np : Nat} {K : Nat → Nat} {X : Nat → Nat → Nat → Nat} {s : SV} (a : yLb I h np K X) (e : mz_fr L h g) (w : yWb h W s) (hL : ∀ x, x ∈ L → x ∈ wML W) (hI : ∀ x, x ∈ wML W → ¬ I x) : yLb I g np K X := by
  obtain ⟨⟨m0, m2, m3, m4, m5, m6, m7, m8, m9, m10, r⟩, Ep, PF, l, hB, pr⟩ := a
  have no : ∀ x k fs, mj_rd h x = some (.inr (k, fs)) → k ≠ 19 → x ∉ L := fun x k fs hr hk hx => by
    obtain ⟨c, c1, _, c3⟩ := w.kd (hL x hx)
    rw [hr] at c1
    exact hk (c3 k fs (Option.some.inj c1).symm)
  have m : Mv I I L h g := ⟨e, hB, fun a ha _ => ⟨fun hx => hI a (hL a hx) ha, ha⟩⟩
  refine ⟨⟨m0, m2, m3, m4, m5, m6, m7, m8, m9, m10, e _ (no _ _ _ r (by decide)) _ r⟩, Ep, PF, ?_, hB, fun p hp => (pr p hp).mv m⟩
  have l0 := l
  obtain ⟨cap, mc, ef, l1, l2, l3, l4, l5, l6⟩ := l0
  refine l.fr e (no _ _ _ l1 (by decide)) (fun hx => ?_) (fun j hj => ?_)
  · obtain ⟨c, c1, c2, _⟩ := w.kd (hL _ hx)
    rw [rdA_lt l2] at c1
    exact c2 _ (Option.some.inj c1).symm
  · obtain ⟨_, _, _, _, _, i1, r1, _⟩ := pr j hj
    exact no _ _ _ r1 (by decide)
theorem y_sts {I : Nat → Prop} {h : mj_H} {W np q : Nat} {b : Bool} {v st : Nat → Int32} {t : Nat} {K : Nat → Nat} {X : Nat → Nat → Nat → Nat} (cp cl : Nat → Nat) (cw : Nat → Bool) (bW : W + 8 < mj_CB) (hI : ∀ x, x ∈ wML W → ¬ I x) (hn : np ≤ 6) (hl : yLb I h np K X) (hy : yWb h W (v, st, t)) (hq : q < np) (hk : K q ≤ 30) : mj_Wp 7 378 (0, [some (.ref W), some (.int (nI q)), some (.int (nI (bN b)))], [], h) (mz_N fun h' => yWl h' W ((v, st, t), bgn K q b cp cl cw) z0 ∧ mz_mo (wML W) 0 0 h h') := by
  obtain ⟨⟨cn, dd, A0⟩, hst, ⟨f1, B0⟩, ⟨f2, C0⟩, ⟨f3, D0, b3⟩, lf, nf, a6, a7⟩ := id hy
  have m0 : mz_mo [W, W + 3, W + 4, W + 5] 0 0 h h := mz_mo.rf _ _ _ _
  cases b with
  | true =>
    refine s_aldn (p' := 1) rfl rfl rfl ?_
    refine s_con (p' := 2) rfl rfl ?_
    refine s_pf (p' := 5) (fs' := [_, _, _, _, _, _, _, _, _, _, _]) rfl (by omega) A0 (Nat.blt_eq.mp rfl) rfl rfl rfl ?_
    generalize hg1 : List.set h W _ = g1
    have m1 : mz_mo [W, W + 3, W + 4, W + 5] 0 0 h g1 := by rw [← hg1]; exact mz_mo.s m0 (by omega) A0 rfl (Or.inl (by simp))
    have A1 : mj_rd g1 (W) = some (wrC W t 0 cn) := by rw [← hg1]; exact rd_set (by omega) A0
    have B1 : mj_rd g1 (W + 3) = some (.inl (0, (21, .inl f1))) := by rw [← hg1]; exact (rd_setn (by omega)).trans B0
    have C1 : mj_rd g1 (W + 4) = some (.inl (0, (21, .inl f2))) := by rw [← hg1]; exact (rd_setn (by omega)).trans C0
    have D1 : mj_rd g1 (W + 5) = some (.inl (2, (21, .inl f3))) := by rw [← hg1]; exact (rd_setn (by omega)).trans D0
    clear hg1
    refine s_aldn (p' := 6) rfl rfl rfl ?_
    refine s_con (p' := 7) rfl rfl ?_
    refine s_pf (p' := 10) (fs' := [_, _, _, _, _, _, _, _, _, _, _]) rfl (by omega) A1 (Nat.blt_eq.mp rfl) rfl rfl rfl ?_
    generalize hg2 : List.set g1 W _ = g2
    have m2 : mz_mo [W, W + 3, W + 4, W + 5] 0 0 h g2 := by rw [← hg2]; exact mz_mo.s m1 (by omega) A1 rfl (Or.inl (by simp))
    have A2 : mj_rd g2 (W) = some (wrC W t 0 0) := by rw [← hg2]; exact rd_set (by omega) A1
    have B2 : mj_rd g2 (W + 3) = some (.inl (0, (21, .inl f1))) := by rw [← hg2]; exact (rd_setn (by omega)).trans B1
    have C2 : mj_rd g2 (W + 4) = some (.inl (0, (21, .inl f2))) := by rw [← hg2]; exact (rd_setn (by omega)).trans C1
    have D2 : mj_rd g2 (W + 5) = some (.inl (2, (21, .inl f3))) := by rw [← hg2]; exact (rd_setn (by omega)).trans D1
    clear hg2
    refine s_aldn (p' := 11) rfl rfl rfl ?_
    refine s_gf (p' := 14) rfl A2 rfl rfl ?_
    refine s_con (p' := 15) rfl rfl ?_
    refine s_ildn (p' := 16) rfl rfl rfl ?_
    refine s_ias (p' := 17) rfl (by omega) B2 (inb_nI (by omega) (by omega)) rfl ?_
    rw [mI_cl (by omega)]
    generalize hg3 : List.set g2 (W + 3) _ = g3
    have m3 : mz_mo [W, W + 3, W + 4, W + 5] 0 0 h g3 := by rw [← hg3]; exact mz_mo.s m2 (by omega) B2 rfl (Or.inl (by simp))
    have A3 : mj_rd g3 (W) = some (wrC W t 0 0) := by rw [← hg3]; exact (rd_setn (by omega)).trans A2
    have B3 : mj_rd g3 (W + 3) = some (.inl (0, (21, .inl (upd f1 0 (nI q))))) := by rw [← hg3]; exact rd_set (by omega) B2
    have C3 : mj_rd g3 (W + 4) = some (.inl (0, (21, .inl f2))) := by rw [← hg3]; exact (rd_setn (by omega)).trans C2
    have D3 : mj_rd g3 (W + 5) = some (.inl (2, (21, .inl f3))) := by rw [← hg3]; exact (rd_setn (by omega)).trans D2
    clear hg3
    refine s_aldn (p' := 18) rfl rfl rfl ?_
    refine s_gf (p' := 21) rfl A3 rfl rfl ?_
    refine s_con (p' := 22) rfl rfl ?_
    refine s_ildn (p' := 23) rfl rfl rfl ?_
    refine s_if (p' := 26) false rfl (by decide +kernel) rfl ?_
    refine s_con (p' := 27) rfl rfl ?_
    refine s_goto (p' := 54) rfl rfl ?_
    refine s_ias (p' := 55) rfl (by omega) C3 (inb_nI (by omega) (by omega)) rfl ?_
    rw [mI_cl (by omega)]
    generalize hg4 : List.set g3 (W + 4) _ = g4
    have m4 : mz_mo [W, W + 3, W + 4, W + 5] 0 0 h g4 := by rw [← hg4]; exact mz_mo.s m3 (by omega) C3 rfl (Or.inl (by simp))
    have A4 : mj_rd g4 (W) = some (wrC W t 0 0) := by rw [← hg4]; exact (rd_setn (by omega)).trans A3
    have B4 : mj_rd g4 (W + 3) = some (.inl (0, (21, .inl (upd f1 0 (nI q))))) := by rw [← hg4]; exact (rd_setn (by omega)).trans B3
    have C4 : mj_rd g4 (W + 4) = some (.inl (0, (21, .inl (upd f2 0 (nI (0)))))) := by rw [← hg4]; exact rd_set (by omega) C3
    have D4 : mj_rd g4 (W + 5) = some (.inl (2, (21, .inl f3))) := by rw [← hg4]; exact (rd_setn (by omega)).trans D3
    clear hg4
    refine s_aldn (p' := 56) rfl rfl rfl ?_
    refine s_gf (p' := 59) rfl A4 rfl rfl ?_
    refine s_con (p' := 60) rfl rfl ?_
    refine s_ildn (p' := 61) rfl rfl rfl ?_
    refine s_bas2 (p' := 62) rfl (by omega) D4 (inb_nI (by omega) (by omega)) rfl ?_
    rw [mI_cl (by omega), show vp_nar .boolean (nI (bN true)) = nI (bN true) from by decide +kernel]
    generalize hg5 : List.set g4 (W + 5) _ = g5
    have m5 : mz_mo [W, W + 3, W + 4, W + 5] 0 0 h g5 := by rw [← hg5]; exact mz_mo.s m4 (by omega) D4 rfl (Or.inl (by simp))
    have A5 : mj_rd g5 (W) = some (wrC W t 0 0) := by rw [← hg5]; exact (rd_setn (by omega)).trans A4
    have B5 : mj_rd g5 (W + 3) = some (.inl (0, (21, .inl (upd f1 0 (nI q))))) := by rw [← hg5]; exact (rd_setn (by omega)).trans B4
    have C5 : mj_rd g5 (W + 4) = some (.inl (0, (21, .inl (upd f2 0 (nI (0)))))) := by rw [← hg5]; exact (rd_setn (by omega)).trans C4
    have D5 : mj_rd g5 (W + 5) = some (.inl (2, (21, .inl (upd f3 0 (nI (bN true)))))) := by rw [← hg5]; exact rd_set (by omega) D4
    clear hg5
    refine s_ret rfl ?_
    refine ⟨_, rfl, ⟨A5, hst.fr m5.1 (by simp only [List.mem_cons, List.not_mem_nil, or_false]; omega) (by simp only [List.mem_cons, List.not_mem_nil, or_false]; omega), ⟨⟨_, B5, fun d hd => absurd hd (Nat.not_lt_zero d), if_pos rfl⟩, ⟨_, C5, fun d hd => absurd hd (Nat.not_lt_zero d), if_pos rfl⟩, _, D5, fun d hd => ?_, fun d hd => absurd hd (Nat.not_lt_zero d), if_pos rfl⟩, lf, nf, m5.1 _ (by simp only [List.mem_cons, List.not_mem_nil, or_false]; omega) _ a6, m5.1 _ (by simp only [List.mem_cons, List.not_mem_nil, or_false]; omega) _ a7, Nat.zero_le 2, fun e => absurd (show 0 < 0 from e) (by decide), fun e => absurd (show 1 < 0 from e) (by decide)⟩, mo_w m5 (fun x hx => wML_m.mpr (by simp only [List.mem_cons, List.not_mem_nil, or_false] at hx; omega))⟩
    unfold upd
    by_cases e : d = 0
    · rw [if_pos e]
      exact ⟨true, rfl⟩
    · rw [if_neg e]
      exact b3 d hd
  | false =>
    refine s_aldn (p' := 1) rfl rfl rfl ?_
    refine s_con (p' := 2) rfl rfl ?_
    refine s_pf (p' := 5) (fs' := [_, _, _, _, _, _, _, _, _, _, _]) rfl (by omega) A0 (Nat.blt_eq.mp rfl) rfl rfl rfl ?_
    generalize hg1 : List.set h W _ = g1
    have m1 : mz_mo [W, W + 3, W + 4, W + 5] 0 0 h g1 := by rw [← hg1]; exact mz_mo.s m0 (by omega) A0 rfl (Or.inl (by simp))
    have A1 : mj_rd g1 (W) = some (wrC W t 0 cn) := by rw [← hg1]; exact rd_set (by omega) A0
    have B1 : mj_rd g1 (W + 3) = some (.inl (0, (21, .inl f1))) := by rw [← hg1]; exact (rd_setn (by omega)).trans B0
    have C1 : mj_rd g1 (W + 4) = some (.inl (0, (21, .inl f2))) := by rw [← hg1]; exact (rd_setn (by omega)).trans C0
    have D1 : mj_rd g1 (W + 5) = some (.inl (2, (21, .inl f3))) := by rw [← hg1]; exact (rd_setn (by omega)).trans D0
    clear hg1
    refine s_aldn (p' := 6) rfl rfl rfl ?_
    refine s_con (p' := 7) rfl rfl ?_
    refine s_pf (p' := 10) (fs' := [_, _, _, _, _, _, _, _, _, _, _]) rfl (by omega) A1 (Nat.blt_eq.mp rfl) rfl rfl rfl ?_
    generalize hg2 : List.set g1 W _ = g2
    have m2 : mz_mo [W, W + 3, W + 4, W + 5] 0 0 h g2 := by rw [← hg2]; exact mz_mo.s m1 (by omega) A1 rfl (Or.inl (by simp))
    have A2 : mj_rd g2 (W) = some (wrC W t 0 0) := by rw [← hg2]; exact rd_set (by omega) A1
    have B2 : mj_rd g2 (W + 3) = some (.inl (0, (21, .inl f1))) := by rw [← hg2]; exact (rd_setn (by omega)).trans B1
    have C2 : mj_rd g2 (W + 4) = some (.inl (0, (21, .inl f2))) := by rw [← hg2]; exact (rd_setn (by omega)).trans C1
    have D2 : mj_rd g2 (W + 5) = some (.inl (2, (21, .inl f3))) := by rw [← hg2]; exact (rd_setn (by omega)).trans D1
    clear hg2
    refine s_aldn (p' := 11) rfl rfl rfl ?_
    refine s_gf (p' := 14) rfl A2 rfl rfl ?_
    refine s_con (p' := 15) rfl rfl ?_
    refine s_ildn (p' := 16) rfl rfl rfl ?_
    refine s_ias (p' := 17) rfl (by omega) B2 (inb_nI (by omega) (by omega)) rfl ?_
    rw [mI_cl (by omega)]
    generalize hg3 : List.set g2 (W + 3) _ = g3
    have m3 : mz_mo [W, W + 3, W + 4, W + 5] 0 0 h g3 := by rw [← hg3]; exact mz_mo.s m2 (by omega) B2 rfl (Or.inl (by simp))
    have A3 : mj_rd g3 (W) = some (wrC W t 0 0) := by rw [← hg3]; exact (rd_setn (by omega)).trans A2
    have B3 : mj_rd g3 (W + 3) = some (.inl (0, (21, .inl (upd f1 0 (nI q))))) := by rw [← hg3]; exact rd_set (by omega) B2
    have C3 : mj_rd g3 (W + 4) = some (.inl (0, (21, .inl f2))) := by rw [← hg3]; exact (rd_setn (by omega)).trans C2
    have D3 : mj_rd g3 (W + 5) = some (.inl (2, (21, .inl f3))) := by rw [← hg3]; exact (rd_setn (by omega)).trans D2
    clear hg3
    refine s_aldn (p' := 18) rfl rfl rfl ?_
    refine s_gf (p' := 21) rfl A3 rfl rfl ?_
    refine s_con (p' := 22) rfl rfl ?_
    refine s_ildn (p' := 23) rfl rfl rfl ?_
    refine s_if (p' := 30) true rfl (by decide +kernel) rfl ?_
    have hl3 := hl.fb m3.1 hy (fun x hx => wML_m.mpr (by simp only [List.mem_cons, List.not_mem_nil, or_false] at hx; omega)) hI
    obtain ⟨⟨n0, n2, n3, n4, n5, n6, n7, n8, n9, n10, r4⟩, Ep4, PF4, yl4, _, pr4⟩ := hl3
    obtain ⟨Lr, Tx, La, Ea, F, iD, rD, la, _, _, ac⟩ := pr4 q hq
    refine s_aldn (p' := 31) rfl rfl rfl ?_
    refine s_gf (p' := 34) rfl A3 rfl rfl ?_
    refine s_gf (p' := 37) rfl r4 rfl rfl ?_
    refine s_ildn (p' := 38) rfl rfl rfl ?_
    refine s_callV (p' := 43) (ls0 := [_, _]) rfl rfl rfl rfl rfl (by obtain ⟨_, _, _, zz, _⟩ := yl4; exact mj_rcv_is zz) rfl (y_get yl4 hq) (by first | decide | omega) rfl ?_
    refine s_cco (p' := 46) rfl rD rfl ?_
    refine s_gf (p' := 49) rfl rD rfl rfl ?_
    refine s_callV (p' := 54) (ls0 := [_]) rfl rfl rfl rfl rfl (by obtain ⟨_, _, _, zz, _⟩ := la; exact mj_rcv_is zz) rfl (by obtain ⟨_, _, _, zz, _⟩ := la; exact y_siz zz) (by first | decide | omega) rfl ?_
    refine s_ias (p' := 55) rfl (by omega) C3 (inb_nI (by omega) (by omega)) rfl ?_
    rw [mI_cl (by omega)]
    generalize hg4 : List.set g3 (W + 4) _ = g4
    have m4 : mz_mo [W, W + 3, W + 4, W + 5] 0 0 h g4 := by rw [← hg4]; exact mz_mo.s m3 (by omega) C3 rfl (Or.inl (by simp))
    have A4 : mj_rd g4 (W) = some (wrC W t 0 0) := by rw [← hg4]; exact (rd_setn (by omega)).trans A3
    have B4 : mj_rd g4 (W + 3) = some (.inl (0, (21, .inl (upd f1 0 (nI q))))) := by rw [← hg4]; exact (rd_setn (by omega)).trans B3
    have C4 : mj_rd g4 (W + 4) = some (.inl (0, (21, .inl (upd f2 0 (nI (K q)))))) := by rw [← hg4]; exact rd_set (by omega) C3
    have D4 : mj_rd g4 (W + 5) = some (.inl (2, (21, .inl f3))) := by rw [← hg4]; exact (rd_setn (by omega)).trans D3
    clear hg4
    refine s_aldn (p' := 56) rfl rfl rfl ?_
    refine s_gf (p' := 59) rfl A4 rfl rfl ?_
    refine s_con (p' := 60) rfl rfl ?_
    refine s_ildn (p' := 61) rfl rfl rfl ?_
    refine s_bas2 (p' := 62) rfl (by omega) D4 (inb_nI (by omega) (by omega)) rfl ?_
    rw [mI_cl (by omega), show vp_nar .boolean (nI (bN false)) = nI (bN false) from by decide +kernel]
    generalize hg5 : List.set g4 (W + 5) _ = g5
    have m5 : mz_mo [W, W + 3, W + 4, W + 5] 0 0 h g5 := by rw [← hg5]; exact mz_mo.s m4 (by omega) D4 rfl (Or.inl (by simp))
    have A5 : mj_rd g5 (W) = some (wrC W t 0 0) := by rw [← hg5]; exact (rd_setn (by omega)).trans A4
    have B5 : mj_rd g5 (W + 3) = some (.inl (0, (21, .inl (upd f1 0 (nI q))))) := by rw [← hg5]; exact (rd_setn (by omega)).trans B4
    have C5 : mj_rd g5 (W + 4) = some (.inl (0, (21, .inl (upd f2 0 (nI (K q)))))) := by rw [← hg5]; exact (rd_setn (by omega)).trans C4
    have D5 : mj_rd g5 (W + 5) = some (.inl (2, (21, .inl (upd f3 0 (nI (bN false)))))) := by rw [← hg5]; exact rd_set (by omega) D4
    clear hg5
    refine s_ret rfl ?_
    refine ⟨_, rfl, ⟨A5, hst.fr m5.1 (by simp only [List.mem_cons, List.not_mem_nil, or_false]; omega) (by simp only [List.mem_cons, List.not_mem_nil, or_false]; omega), ⟨⟨_, B5, fun d hd => absurd hd (Nat.not_lt_zero d), if_pos rfl⟩, ⟨_, C5, fun d hd => absurd hd (Nat.not_lt_zero d), if_pos rfl⟩, _, D5, fun d hd => ?_, fun d hd => absurd hd (Nat.not_lt_zero d), if_pos rfl⟩, lf, nf, m5.1 _ (by simp only [List.mem_cons, List.not_mem_nil, or_false]; omega) _ a6, m5.1 _ (by simp only [List.mem_cons, List.not_mem_nil, or_false]; omega) _ a7, Nat.zero_le 2, fun e => absurd (show 0 < 0 from e) (by decide), fun e => absurd (show 1 < 0 from e) (by decide)⟩, mo_w m5 (fun x hx => wML_m.mpr (by simp only [List.mem_cons, List.not_mem_nil, or_false] at hx; omega))⟩
    unfold upd
    by_cases e : d = 0
    · rw [if_pos e]
      exact ⟨false, rfl⟩
    · rw [if_neg e]
      exact b3 d hd
theorem wRn.flip {g : mj_H} {W p l c i : Nat} {w v : Bool} {cp cl : Nat → Nat} {cw cv : Nat → Bool} {f1 f2 f3 : Nat → Int32} (hi : i < c) (b1 : ∀ d, d < c → f1 d = nI (cp d)) (b1' : f1 c = nI p) (b2 : ∀ d, d < c → f2 d = nI (if cw d = true then cl d else cl d + 1)) (b2' : f2 c = nI l) (b3 : ∀ d, d < 21 → ∃ b, f3 d = nI (bN b)) (b3' : ∀ d, d < c → f3 d = nI (bN (cw d))) (b3w : f3 c = nI (bN w))
    (e1 : mj_rd g (W + 3) = some (.inl (0, (21, .inl f1)))) (e2 : mj_rd g (W + 4) = some (.inl (0, (21, .inl (upd f2 i (nI (if v = true then cl i else cl i + 1))))))) (e3 : mj_rd g (W + 5) = some (.inl (2, (21, .inl (upd f3 i (nI (bN v))))))) (hv : cv i = v) (ho : ∀ d, d ≠ i → cv d = cw d) : wRn g W (p, l, c, w, cp, cl, cv) := by
  refine ⟨⟨_, e1, b1, b1'⟩, ⟨_, e2, fun d hd => ?_, (if_neg (by omega)).trans b2'⟩, _, e3, fun d hd => ?_, fun d hd => ?_, (if_neg (by omega)).trans b3w⟩
  · unfold upd
    by_cases z : d = i
    · rw [if_pos z, z, hv]
    · rw [if_neg z, ho d z]
      exact b2 d hd
  · unfold upd
    by_cases z : d = i
    · rw [if_pos z]
      exact ⟨v, rfl⟩
    · rw [if_neg z]
      exact b3 d hd
  · unfold upd
    by_cases z : d = i
    · rw [if_pos z, z, hv]
    · rw [if_neg z, ho d z]
      exact b3' d hd
theorem wRn.flop {g : mj_H} {W p l c : Nat} {v : Bool} {cp cl : Nat → Nat} {cw : Nat → Bool} {f1 f2 f3 : Nat → Int32} (b1 : ∀ d, d < c → f1 d = nI (cp d)) (b1' : f1 c = nI p) (b2 : ∀ d, d < c → f2 d = nI (if cw d = true then cl d else cl d + 1)) (b2' : f2 c = nI l) (b3 : ∀ d, d < 21 → ∃ b, f3 d = nI (bN b)) (b3' : ∀ d, d < c → f3 d = nI (bN (cw d)))
    (e1 : mj_rd g (W + 3) = some (.inl (0, (21, .inl f1)))) (e2 : mj_rd g (W + 4) = some (.inl (0, (21, .inl f2)))) (e3 : mj_rd g (W + 5) = some (.inl (2, (21, .inl (upd f3 c (nI (bN v))))))) : wRn g W (p, l, c, v, cp, cl, cw) := by
  refine ⟨⟨_, e1, b1, b1'⟩, ⟨_, e2, b2, b2'⟩, _, e3, fun d hd => ?_, fun d hd => ?_, if_pos rfl⟩
  · unfold upd
    by_cases z : d = c
    · rw [if_pos z]
      exact ⟨v, rfl⟩
    · rw [if_neg z]
      exact b3 d hd
  · unfold upd
    rw [if_neg (by omega)]
    exact b3' d hd
theorem y_tuL {I : Nat → Prop} {W np p l c t : Nat} {v st : Nat → Int32} {cp cl : Nat → Nat} {cw : Nat → Bool} {K : Nat → Nat} {X : Nat → Nat → Nat → Nat} {z : CZ} (bW : W + 8 < mj_CB) (hI : ∀ x, x ∈ wML W → ¬ I x) (hp : pOk np K X) {w : Bool} (hw : wfR np K (p, l, c, w, cp, cl, cw)) : ∀ (n i : Nat) (h : mj_H), i + n = c → yLb I h np K X → yWl h W ((v, st, t), p, l, c, w, cp, cl, fun d => if d < i then !cw d else cw d) z → mj_Wp 9 380 (2, [some (.ref W), some (.int (nI i))], [], h) (mz_N fun h' => yWl h' W ((v, st, t), cbk K 20 (trn (p, l, c, w, cp, cl, cw))) z0 ∧ mz_mo (wML W) 0 0 h h')
  | 0, i, h, hi, hl, hy => by
    obtain rfl : i = c := by omega
    have hc : i ≤ 20 := hw.2.2.1
    obtain ⟨⟨f1, B0, b1, b1'⟩, ⟨f2, C0, b2, b2'⟩, f3, D0, b3, b3', b3w⟩ := id hy.2.2.1
    have A0 : mj_rd h W = some (wrC W t i z.1) := hy.1
    have m0 : mz_mo [W, W + 3, W + 4, W + 5] 0 0 h h := mz_mo.rf _ _ _ _
    cases w with
    | true =>
      refine s_ildn (p' := 3) rfl rfl rfl ?_
      refine s_aldn (p' := 4) rfl rfl rfl ?_
      refine s_gf (p' := 7) rfl A0 rfl rfl ?_
      refine s_icmp (p' := 10) false rfl ((ci_gt (by omega) (by omega)).trans (decide_eq_false (by omega))) rfl ?_
      refine s_aldn (p' := 11) rfl rfl rfl ?_
      refine s_gf (p' := 14) rfl A0 rfl rfl ?_
      refine s_ildn (p' := 15) rfl rfl rfl ?_
      refine s_aldn (p' := 16) rfl rfl rfl ?_
      refine s_gf (p' := 19) rfl A0 rfl rfl ?_
      refine s_ildn (p' := 20) rfl rfl rfl ?_
      refine s_bal2 (p' := 21) rfl D0 (inb_nI (by omega) (by omega)) rfl ?_
      rw [mI_cl (by omega), b3w]
      refine s_if (p' := 28) true rfl (by decide +kernel) rfl ?_
      refine s_con (p' := 29) rfl rfl ?_
      refine s_bas2 (p' := 30) rfl (by omega) D0 (inb_nI (by omega) (by omega)) rfl ?_
      rw [mI_cl (by omega), show vp_nar .boolean (nI 0) = nI (bN false) from by decide +kernel]
      generalize hg1 : List.set h (W + 5) _ = g1
      have m1 : mz_mo [W, W + 3, W + 4, W + 5] 0 0 h g1 := by rw [← hg1]; exact mz_mo.s m0 (by omega) D0 rfl (Or.inl (by simp))
      have A1 : mj_rd g1 (W) = some (wrC W t i z.1) := by rw [← hg1]; exact (rd_setn (by omega)).trans A0
      have B1 : mj_rd g1 (W + 3) = some (.inl (0, (21, .inl f1))) := by rw [← hg1]; exact (rd_setn (by omega)).trans B0
      have C1 : mj_rd g1 (W + 4) = some (.inl (0, (21, .inl f2))) := by rw [← hg1]; exact (rd_setn (by omega)).trans C0
      have D1 : mj_rd g1 (W + 5) = some (.inl (2, (21, .inl (upd f3 i (nI (bN false)))))) := by rw [← hg1]; exact rd_set (by omega) D0
      clear hg1
      refine s_ildn (p' := 31) rfl rfl rfl ?_
      refine s_aldn (p' := 32) rfl rfl rfl ?_
      refine s_gf (p' := 35) rfl A1 rfl rfl ?_
      refine s_icmp (p' := 61) true rfl ((ci_ge (by omega) (by omega)).trans (decide_eq_true (by omega))) rfl ?_
      refine s_inc (p' := 64) (ls' := [_, _]) rfl rfl rfl rfl rfl ?_
      rw [mI_add]
      refine s_goto (p' := 2) rfl rfl ?_
      refine s_ildn (p' := 3) rfl rfl rfl ?_
      refine s_aldn (p' := 4) rfl rfl rfl ?_
      refine s_gf (p' := 7) rfl A1 rfl rfl ?_
      refine s_icmp (p' := 67) true rfl ((ci_gt (by omega) (by omega)).trans (decide_eq_true (by omega))) rfl ?_
      refine s_aldn (p' := 68) rfl rfl rfl ?_
      refine s_con (p' := 69) rfl rfl ?_
      refine s_pf (p' := 72) (fs' := [_, _, _, _, _, _, _, _, _, _, _]) rfl (by omega) A1 (Nat.blt_eq.mp rfl) rfl rfl rfl ?_
      generalize hg2 : List.set g1 W _ = g2
      have m2 : mz_mo [W, W + 3, W + 4, W + 5] 0 0 h g2 := by rw [← hg2]; exact mz_mo.s m1 (by omega) A1 rfl (Or.inl (by simp))
      have A2 : mj_rd g2 (W) = some (wrC W t i 0) := by rw [← hg2]; exact rd_set (by omega) A1
      have B2 : mj_rd g2 (W + 3) = some (.inl (0, (21, .inl f1))) := by rw [← hg2]; exact (rd_setn (by omega)).trans B1
      have C2 : mj_rd g2 (W + 4) = some (.inl (0, (21, .inl f2))) := by rw [← hg2]; exact (rd_setn (by omega)).trans C1
      have D2 : mj_rd g2 (W + 5) = some (.inl (2, (21, .inl (upd f3 i (nI (bN false)))))) := by rw [← hg2]; exact (rd_setn (by omega)).trans D1
      clear hg2
      have rr := wRn.flop (v := false) b1 b1' b2 b2' b3 b3' B2 C2 D2
      have y2 : yWl g2 W ((v, st, t), trn (p, l, i, true, cp, cl, cw)) z0 := by
        obtain ⟨lf, nf, a6, a7, _⟩ := hy.2.2.2
        exact ⟨A2, hy.2.1.fr m2.1 (by simp only [List.mem_cons, List.not_mem_nil, or_false]; omega) (by simp only [List.mem_cons, List.not_mem_nil, or_false]; omega), rr, lf, nf, m2.1 _ (by simp only [List.mem_cons, List.not_mem_nil, or_false]; omega) _ a6, m2.1 _ (by simp only [List.mem_cons, List.not_mem_nil, or_false]; omega) _ a7, Nat.zero_le 2, fun e => absurd (show 0 < 0 from e) (by decide), fun e => absurd (show 1 < 0 from e) (by decide)⟩
      have hl2 := hl.fr m2.1 hy (fun x hx => wML_m.mpr (by simp only [List.mem_cons, List.not_mem_nil, or_false] at hx; omega)) hI
      refine s_aldn (p' := 73) rfl rfl rfl ?_
      refine s_callEN (p' := 76) (ls0 := [_]) rfl rfl rfl rfl rfl (mj_rcv_is A2) rfl (y_cbL bW hI hp.1 (fun p h => (hp.2 p h).1) 20 (trn (p, l, i, true, cp, cl, cw)) _ (Nat.le_refl 20) hc hw hl2 y2) rfl rfl ?_
      rintro g3 ⟨y3, _, m3⟩
      refine s_ret rfl ?_
      exact ⟨_, rfl, y3, mo00 (mo_w m2 (fun x hx => wML_m.mpr (by simp only [List.mem_cons, List.not_mem_nil, or_false] at hx; omega))) m3⟩
    | false =>
      refine s_ildn (p' := 3) rfl rfl rfl ?_
      refine s_aldn (p' := 4) rfl rfl rfl ?_
      refine s_gf (p' := 7) rfl A0 rfl rfl ?_
      refine s_icmp (p' := 10) false rfl ((ci_gt (by omega) (by omega)).trans (decide_eq_false (by omega))) rfl ?_
      refine s_aldn (p' := 11) rfl rfl rfl ?_
      refine s_gf (p' := 14) rfl A0 rfl rfl ?_
      refine s_ildn (p' := 15) rfl rfl rfl ?_
      refine s_aldn (p' := 16) rfl rfl rfl ?_
      refine s_gf (p' := 19) rfl A0 rfl rfl ?_
      refine s_ildn (p' := 20) rfl rfl rfl ?_
      refine s_bal2 (p' := 21) rfl D0 (inb_nI (by omega) (by omega)) rfl ?_
      rw [mI_cl (by omega), b3w]
      refine s_if (p' := 24) false rfl (by decide +kernel) rfl ?_
      refine s_con (p' := 25) rfl rfl ?_
      refine s_goto (p' := 29) rfl rfl ?_
      refine s_bas2 (p' := 30) rfl (by omega) D0 (inb_nI (by omega) (by omega)) rfl ?_
      rw [mI_cl (by omega), show vp_nar .boolean (nI 1) = nI (bN true) from by decide +kernel]
      generalize hg1 : List.set h (W + 5) _ = g1
      have m1 : mz_mo [W, W + 3, W + 4, W + 5] 0 0 h g1 := by rw [← hg1]; exact mz_mo.s m0 (by omega) D0 rfl (Or.inl (by simp))
      have A1 : mj_rd g1 (W) = some (wrC W t i z.1) := by rw [← hg1]; exact (rd_setn (by omega)).trans A0
      have B1 : mj_rd g1 (W + 3) = some (.inl (0, (21, .inl f1))) := by rw [← hg1]; exact (rd_setn (by omega)).trans B0
      have C1 : mj_rd g1 (W + 4) = some (.inl (0, (21, .inl f2))) := by rw [← hg1]; exact (rd_setn (by omega)).trans C0
      have D1 : mj_rd g1 (W + 5) = some (.inl (2, (21, .inl (upd f3 i (nI (bN true)))))) := by rw [← hg1]; exact rd_set (by omega) D0
      clear hg1
      refine s_ildn (p' := 31) rfl rfl rfl ?_
      refine s_aldn (p' := 32) rfl rfl rfl ?_
      refine s_gf (p' := 35) rfl A1 rfl rfl ?_
      refine s_icmp (p' := 61) true rfl ((ci_ge (by omega) (by omega)).trans (decide_eq_true (by omega))) rfl ?_
      refine s_inc (p' := 64) (ls' := [_, _]) rfl rfl rfl rfl rfl ?_
      rw [mI_add]
      refine s_goto (p' := 2) rfl rfl ?_
      refine s_ildn (p' := 3) rfl rfl rfl ?_
      refine s_aldn (p' := 4) rfl rfl rfl ?_
      refine s_gf (p' := 7) rfl A1 rfl rfl ?_
      refine s_icmp (p' := 67) true rfl ((ci_gt (by omega) (by omega)).trans (decide_eq_true (by omega))) rfl ?_
      refine s_aldn (p' := 68) rfl rfl rfl ?_
      refine s_con (p' := 69) rfl rfl ?_
      refine s_pf (p' := 72) (fs' := [_, _, _, _, _, _, _, _, _, _, _]) rfl (by omega) A1 (Nat.blt_eq.mp rfl) rfl rfl rfl ?_
      generalize hg2 : List.set g1 W _ = g2
      have m2 : mz_mo [W, W + 3, W + 4, W + 5] 0 0 h g2 := by rw [← hg2]; exact mz_mo.s m1 (by omega) A1 rfl (Or.inl (by simp))
      have A2 : mj_rd g2 (W) = some (wrC W t i 0) := by rw [← hg2]; exact rd_set (by omega) A1
      have B2 : mj_rd g2 (W + 3) = some (.inl (0, (21, .inl f1))) := by rw [← hg2]; exact (rd_setn (by omega)).trans B1
      have C2 : mj_rd g2 (W + 4) = some (.inl (0, (21, .inl f2))) := by rw [← hg2]; exact (rd_setn (by omega)).trans C1
      have D2 : mj_rd g2 (W + 5) = some (.inl (2, (21, .inl (upd f3 i (nI (bN true)))))) := by rw [← hg2]; exact (rd_setn (by omega)).trans D1
      clear hg2
      have rr := wRn.flop (v := true) b1 b1' b2 b2' b3 b3' B2 C2 D2
      have y2 : yWl g2 W ((v, st, t), trn (p, l, i, false, cp, cl, cw)) z0 := by
        obtain ⟨lf, nf, a6, a7, _⟩ := hy.2.2.2
        exact ⟨A2, hy.2.1.fr m2.1 (by simp only [List.mem_cons, List.not_mem_nil, or_false]; omega) (by simp only [List.mem_cons, List.not_mem_nil, or_false]; omega), rr, lf, nf, m2.1 _ (by simp only [List.mem_cons, List.not_mem_nil, or_false]; omega) _ a6, m2.1 _ (by simp only [List.mem_cons, List.not_mem_nil, or_false]; omega) _ a7, Nat.zero_le 2, fun e => absurd (show 0 < 0 from e) (by decide), fun e => absurd (show 1 < 0 from e) (by decide)⟩
      have hl2 := hl.fr m2.1 hy (fun x hx => wML_m.mpr (by simp only [List.mem_cons, List.not_mem_nil, or_false] at hx; omega)) hI
      refine s_aldn (p' := 73) rfl rfl rfl ?_
      refine s_callEN (p' := 76) (ls0 := [_]) rfl rfl rfl rfl rfl (mj_rcv_is A2) rfl (y_cbL bW hI hp.1 (fun p h => (hp.2 p h).1) 20 (trn (p, l, i, false, cp, cl, cw)) _ (Nat.le_refl 20) hc hw hl2 y2) rfl rfl ?_
      rintro g3 ⟨y3, _, m3⟩
      refine s_ret rfl ?_
      exact ⟨_, rfl, y3, mo00 (mo_w m2 (fun x hx => wML_m.mpr (by simp only [List.mem_cons, List.not_mem_nil, or_false] at hx; omega))) m3⟩
  | n + 1, i, h, hi, hl, hy => by
    have hc : c ≤ 20 := hw.2.2.1
    have ih := y_tuL bW hI hp hw n (i + 1) (z := z) (v := v) (st := st) (t := t)
    obtain ⟨⟨f1, B0, b1, b1'⟩, ⟨f2, C0, b2, b2'⟩, f3, D0, b3, b3', b3w⟩ := id hy.2.2.1
    have A0 : mj_rd h W = some (wrC W t c z.1) := hy.1
    have m0 : mz_mo [W, W + 3, W + 4, W + 5] 0 0 h h := mz_mo.rf _ _ _ _
    have e3 : f3 i = nI (bN (cw i)) := by simpa only [Nat.lt_irrefl, if_false, ↓reduceIte] using b3' i (by omega)
    have e2 : f2 i = nI (if cw i = true then cl i else cl i + 1) := by simpa only [Nat.lt_irrefl, if_false, ↓reduceIte] using b2 i (by omega)
    refine s_ildn (p' := 3) rfl rfl rfl ?_
    refine s_aldn (p' := 4) rfl rfl rfl ?_
    refine s_gf (p' := 7) rfl A0 rfl rfl ?_
    refine s_icmp (p' := 10) false rfl ((ci_gt (by omega) (by omega)).trans (decide_eq_false (by omega))) rfl ?_
    refine s_aldn (p' := 11) rfl rfl rfl ?_
    refine s_gf (p' := 14) rfl A0 rfl rfl ?_
    refine s_ildn (p' := 15) rfl rfl rfl ?_
    refine s_aldn (p' := 16) rfl rfl rfl ?_
    refine s_gf (p' := 19) rfl A0 rfl rfl ?_
    refine s_ildn (p' := 20) rfl rfl rfl ?_
    refine s_bal2 (p' := 21) rfl D0 (inb_nI (by omega) (by omega)) rfl ?_
    rw [mI_cl (by omega), e3]
    by_cases qw : cw i = true
    · refine s_if (p' := 28) true rfl (by rw [qw]; decide +kernel) rfl ?_
      rw [if_pos qw] at e2
      refine s_con (p' := 29) rfl rfl ?_
      refine s_bas2 (p' := 30) rfl (by omega) D0 (inb_nI (by omega) (by omega)) rfl ?_
      rw [mI_cl (by omega), show vp_nar .boolean (nI 0) = nI (bN false) from by decide +kernel]
      generalize hg1 : List.set h (W + 5) _ = g1
      have m1 : mz_mo [W, W + 3, W + 4, W + 5] 0 0 h g1 := by rw [← hg1]; exact mz_mo.s m0 (by omega) D0 rfl (Or.inl (by simp))
      have A1 : mj_rd g1 (W) = some (wrC W t c z.1) := by rw [← hg1]; exact (rd_setn (by omega)).trans A0
      have B1 : mj_rd g1 (W + 3) = some (.inl (0, (21, .inl f1))) := by rw [← hg1]; exact (rd_setn (by omega)).trans B0
      have C1 : mj_rd g1 (W + 4) = some (.inl (0, (21, .inl f2))) := by rw [← hg1]; exact (rd_setn (by omega)).trans C0
      have D1 : mj_rd g1 (W + 5) = some (.inl (2, (21, .inl (upd f3 i (nI (bN false)))))) := by rw [← hg1]; exact rd_set (by omega) D0
      clear hg1
      refine s_ildn (p' := 31) rfl rfl rfl ?_
      refine s_aldn (p' := 32) rfl rfl rfl ?_
      refine s_gf (p' := 35) rfl A1 rfl rfl ?_
      refine s_icmp (p' := 38) false rfl ((ci_ge (by omega) (by omega)).trans (decide_eq_false (by omega))) rfl ?_
      refine s_aldn (p' := 39) rfl rfl rfl ?_
      refine s_gf (p' := 42) rfl A1 rfl rfl ?_
      refine s_ildn (p' := 43) rfl rfl rfl ?_
      refine s_sp (p' := 44) (ls' := _) rfl rfl rfl ?_
      refine s_ial (p' := 45) rfl C1 (inb_nI (by omega) (by omega)) rfl ?_
      rw [mI_cl (by omega), e2]
      refine s_aldn (p' := 46) rfl rfl rfl ?_
      refine s_gf (p' := 49) rfl A1 rfl rfl ?_
      refine s_ildn (p' := 50) rfl rfl rfl ?_
      refine s_bal2 (p' := 51) rfl D1 (inb_nI (by omega) (by omega)) rfl ?_
      rw [mI_cl (by omega), show upd f3 i (nI (bN false)) i = nI (bN false) from if_pos rfl]
      refine s_if (p' := 58) true rfl (by decide +kernel) rfl ?_
      refine s_con (p' := 59) rfl rfl ?_
      refine s_sp (p' := 60) (ls' := _) rfl rfl rfl ?_
      rw [mI_add]
      refine s_ias (p' := 61) rfl (by omega) C1 (inb_nI (by omega) (by omega)) rfl ?_
      rw [mI_cl (by omega)]
      generalize hg2 : List.set g1 (W + 4) _ = g2
      have m2 : mz_mo [W, W + 3, W + 4, W + 5] 0 0 h g2 := by rw [← hg2]; exact mz_mo.s m1 (by omega) C1 rfl (Or.inl (by simp))
      have A2 : mj_rd g2 (W) = some (wrC W t c z.1) := by rw [← hg2]; exact (rd_setn (by omega)).trans A1
      have B2 : mj_rd g2 (W + 3) = some (.inl (0, (21, .inl f1))) := by rw [← hg2]; exact (rd_setn (by omega)).trans B1
      have C2 : mj_rd g2 (W + 4) = some (.inl (0, (21, .inl (upd f2 i (nI (cl i + 1)))))) := by rw [← hg2]; exact rd_set (by omega) C1
      have D2 : mj_rd g2 (W + 5) = some (.inl (2, (21, .inl (upd f3 i (nI (bN false)))))) := by rw [← hg2]; exact (rd_setn (by omega)).trans D1
      clear hg2
      refine s_inc (p' := 64) (ls' := [_, _]) rfl rfl rfl rfl rfl ?_
      rw [mI_add]
      refine s_goto (p' := 2) rfl rfl ?_
      have rr := wRn.flip (v := false) (cv := fun d => if d < i + 1 then !cw d else cw d) (by omega) b1 b1' b2 b2' b3 b3' b3w B2 C2 D2 (by show (if i < i + 1 then !cw i else cw i) = _; rw [if_pos (Nat.lt_succ_self i), qw]; rfl) (fun d hd => by
        show (if d < i + 1 then !cw d else cw d) = if d < i then !cw d else cw d
        by_cases q2 : d < i
        · rw [if_pos q2, if_pos (by omega)]
        · rw [if_neg q2, if_neg (by omega)])
      have y2 : yWl g2 W ((v, st, t), p, l, c, w, cp, cl, fun d => if d < i + 1 then !cw d else cw d) z := ⟨A2, hy.2.1.fr m2.1 (by simp only [List.mem_cons, List.not_mem_nil, or_false]; omega) (by simp only [List.mem_cons, List.not_mem_nil, or_false]; omega), rr, hy.2.2.2.fr m2.1 (by simp only [List.mem_cons, List.not_mem_nil, or_false]; omega) (by simp only [List.mem_cons, List.not_mem_nil, or_false]; omega)⟩
      exact (ih g2 (by omega) (hl.fr m2.1 hy (fun x hx => wML_m.mpr (by simp only [List.mem_cons, List.not_mem_nil, or_false] at hx; omega)) hI) y2).imp fun o ho => by
        obtain ⟨h', e, q1, q2⟩ := ho
        exact ⟨h', e, q1, mo00 (mo_w m2 (fun x hx => wML_m.mpr (by simp only [List.mem_cons, List.not_mem_nil, or_false] at hx; omega))) q2⟩
    · refine s_if (p' := 24) false rfl (by rw [Bool.eq_false_iff.mpr qw]; decide +kernel) rfl ?_
      rw [if_neg qw] at e2
      refine s_con (p' := 25) rfl rfl ?_
      refine s_goto (p' := 29) rfl rfl ?_
      refine s_bas2 (p' := 30) rfl (by omega) D0 (inb_nI (by omega) (by omega)) rfl ?_
      rw [mI_cl (by omega), show vp_nar .boolean (nI 1) = nI (bN true) from by decide +kernel]
      generalize hg1 : List.set h (W + 5) _ = g1
      have m1 : mz_mo [W, W + 3, W + 4, W + 5] 0 0 h g1 := by rw [← hg1]; exact mz_mo.s m0 (by omega) D0 rfl (Or.inl (by simp))
      have A1 : mj_rd g1 (W) = some (wrC W t c z.1) := by rw [← hg1]; exact (rd_setn (by omega)).trans A0
      have B1 : mj_rd g1 (W + 3) = some (.inl (0, (21, .inl f1))) := by rw [← hg1]; exact (rd_setn (by omega)).trans B0
      have C1 : mj_rd g1 (W + 4) = some (.inl (0, (21, .inl f2))) := by rw [← hg1]; exact (rd_setn (by omega)).trans C0
      have D1 : mj_rd g1 (W + 5) = some (.inl (2, (21, .inl (upd f3 i (nI (bN true)))))) := by rw [← hg1]; exact rd_set (by omega) D0
      clear hg1
      refine s_ildn (p' := 31) rfl rfl rfl ?_
      refine s_aldn (p' := 32) rfl rfl rfl ?_
      refine s_gf (p' := 35) rfl A1 rfl rfl ?_
      refine s_icmp (p' := 38) false rfl ((ci_ge (by omega) (by omega)).trans (decide_eq_false (by omega))) rfl ?_
      refine s_aldn (p' := 39) rfl rfl rfl ?_
      refine s_gf (p' := 42) rfl A1 rfl rfl ?_
      refine s_ildn (p' := 43) rfl rfl rfl ?_
      refine s_sp (p' := 44) (ls' := _) rfl rfl rfl ?_
      refine s_ial (p' := 45) rfl C1 (inb_nI (by omega) (by omega)) rfl ?_
      rw [mI_cl (by omega), e2]
      refine s_aldn (p' := 46) rfl rfl rfl ?_
      refine s_gf (p' := 49) rfl A1 rfl rfl ?_
      refine s_ildn (p' := 50) rfl rfl rfl ?_
      refine s_bal2 (p' := 51) rfl D1 (inb_nI (by omega) (by omega)) rfl ?_
      rw [mI_cl (by omega), show upd f3 i (nI (bN true)) i = nI (bN true) from if_pos rfl]
      refine s_if (p' := 54) false rfl (by decide +kernel) rfl ?_
      refine s_con (p' := 55) rfl rfl ?_
      refine s_goto (p' := 59) rfl rfl ?_
      refine s_sp (p' := 60) (ls' := _) rfl rfl rfl ?_
      rw [mI_dec2]
      refine s_ias (p' := 61) rfl (by omega) C1 (inb_nI (by omega) (by omega)) rfl ?_
      rw [mI_cl (by omega)]
      generalize hg2 : List.set g1 (W + 4) _ = g2
      have m2 : mz_mo [W, W + 3, W + 4, W + 5] 0 0 h g2 := by rw [← hg2]; exact mz_mo.s m1 (by omega) C1 rfl (Or.inl (by simp))
      have A2 : mj_rd g2 (W) = some (wrC W t c z.1) := by rw [← hg2]; exact (rd_setn (by omega)).trans A1
      have B2 : mj_rd g2 (W + 3) = some (.inl (0, (21, .inl f1))) := by rw [← hg2]; exact (rd_setn (by omega)).trans B1
      have C2 : mj_rd g2 (W + 4) = some (.inl (0, (21, .inl (upd f2 i (nI (cl i)))))) := by rw [← hg2]; exact rd_set (by omega) C1
      have D2 : mj_rd g2 (W + 5) = some (.inl (2, (21, .inl (upd f3 i (nI (bN true)))))) := by rw [← hg2]; exact (rd_setn (by omega)).trans D1
      clear hg2
      refine s_inc (p' := 64) (ls' := [_, _]) rfl rfl rfl rfl rfl ?_
      rw [mI_add]
      refine s_goto (p' := 2) rfl rfl ?_
      have rr := wRn.flip (v := true) (cv := fun d => if d < i + 1 then !cw d else cw d) (by omega) b1 b1' b2 b2' b3 b3' b3w B2 C2 D2 (by show (if i < i + 1 then !cw i else cw i) = _; rw [if_pos (Nat.lt_succ_self i), Bool.eq_false_iff.mpr qw]; rfl) (fun d hd => by
        show (if d < i + 1 then !cw d else cw d) = if d < i then !cw d else cw d
        by_cases q2 : d < i
        · rw [if_pos q2, if_pos (by omega)]
        · rw [if_neg q2, if_neg (by omega)])
      have y2 : yWl g2 W ((v, st, t), p, l, c, w, cp, cl, fun d => if d < i + 1 then !cw d else cw d) z := ⟨A2, hy.2.1.fr m2.1 (by simp only [List.mem_cons, List.not_mem_nil, or_false]; omega) (by simp only [List.mem_cons, List.not_mem_nil, or_false]; omega), rr, hy.2.2.2.fr m2.1 (by simp only [List.mem_cons, List.not_mem_nil, or_false]; omega) (by simp only [List.mem_cons, List.not_mem_nil, or_false]; omega)⟩
      exact (ih g2 (by omega) (hl.fr m2.1 hy (fun x hx => wML_m.mpr (by simp only [List.mem_cons, List.not_mem_nil, or_false] at hx; omega)) hI) y2).imp fun o ho => by
        obtain ⟨h', e, q1, q2⟩ := ho
        exact ⟨h', e, q1, mo00 (mo_w m2 (fun x hx => wML_m.mpr (by simp only [List.mem_cons, List.not_mem_nil, or_false] at hx; omega))) q2⟩
theorem y_trn {h : mj_H} {I : Nat → Prop} {W np p l c t : Nat} {v st : Nat → Int32} {cp cl : Nat → Nat} {cw : Nat → Bool} {K : Nat → Nat} {X : Nat → Nat → Nat → Nat} {z : CZ} (bW : W + 8 < mj_CB) (hI : ∀ x, x ∈ wML W → ¬ I x) (hp : pOk np K X) {w : Bool} (hw : wfR np K (p, l, c, w, cp, cl, cw)) (hl : yLb I h np K X) (hy : yWl h W ((v, st, t), p, l, c, w, cp, cl, cw) z) : mj_Wp 9 380 (0, [some (.ref W), none], [], h) (mz_N fun h' => yWl h' W ((v, st, t), cbk K 20 (trn (p, l, c, w, cp, cl, cw))) z0 ∧ mz_mo (wML W) 0 0 h h') := by
  refine s_con (p' := 1) rfl rfl ?_
  refine s_istn (p' := 2) (ls' := [_, _]) rfl rfl rfl rfl ?_
  refine y_tuL (z := z) bW hI hp hw c 0 h (Nat.zero_add c) hl ?_
  exact hy
