/-! The reference runs: runs. -/
theorem y_rnL {I : Nat → Prop} {W np m : Nat} {K : Nat → Nat} {X : Nat → Nat → Nat → Nat} (bW : W + 8 < mj_CB) (hI : ∀ x, x ∈ wML W → ¬ I x) (hp : pOk np K X) (hm : m ≤ 500) : ∀ (i d : Nat) (s : SS) (z : CZ) (h : mj_H), d + i = m → wfR np K s.2 → nrm K s.2 → (z = z0 ∨ (0 < i ∧ edd K s.2 = false)) → yLb I h np K X → yWl h W s z → mj_Wp 13 384 (2, [some (.ref W), some (.int (nI m)), some (.int (nI d))], [], h) (mz_V fun rv h' => rv = .int (nI (d + (rns np K X i s).1)) ∧ yWl h' W (rns np K X i s).2.1 (rns np K X i s).2.2 ∧ mz_mo (wML W) 0 0 h h')
  | 0, d, s, z, h, hd, hw, hn, hz, hl, hy => by
    obtain rfl : d = m := by omega
    obtain rfl : z = z0 := hz.resolve_right (fun e => absurd e.1 (by omega))
    refine s_ildn (p' := 3) rfl rfl rfl ?_
    refine s_ildn (p' := 4) rfl rfl rfl ?_
    refine s_icmp (p' := 27) true rfl ((ci_ge (by omega) (by omega)).trans (decide_eq_true (by omega))) rfl ?_
    refine s_ildn (p' := 28) rfl rfl rfl ?_
    refine s_iret rfl rfl ?_
    exact ⟨_, _, rfl, rfl, hy, mz_mo.rf _ _ _ _⟩
  | i + 1, d, s, z, h, hd, hw, hn, hz, hl, hy => by
    have ih := y_rnL bW hI hp hm i (d + 1)
    obtain ⟨⟨v, st, t⟩, p, l, c, w, cp, cl, cw⟩ := s
    have hw0 := hw
    obtain ⟨h1, h2, h3, h4⟩ := hw
    have hk := (hp.2 p h1).1
    have hW : mj_rd h W = some (wrC W t c z.1) := hy.1
    refine s_ildn (p' := 3) rfl rfl rfl ?_
    refine s_ildn (p' := 4) rfl rfl rfl ?_
    refine s_icmp (p' := 7) false rfl ((ci_ge (by omega) (by omega)).trans (decide_eq_false (by omega))) rfl ?_
    refine s_aldn (p' := 8) rfl rfl rfl ?_
    refine s_callV (p' := 11) (ls0 := [_]) rfl rfl rfl rfl rfl (mj_rcv_is hW) rfl (y_end hl hW hy.2.2.1 h3 h1 hp.1 hk h2 h4) (by first | decide | omega) rfl ?_
    by_cases qe : edd K (p, l, c, w, cp, cl, cw) = true
    · refine s_if (p' := 27) true rfl (by rw [qe]; rfl) rfl ?_
      refine s_ildn (p' := 28) rfl rfl rfl ?_
      refine s_iret rfl rfl ?_
      obtain rfl : z = z0 := hz.resolve_right (fun e => by rw [show edd K (p, l, c, w, cp, cl, cw) = false from e.2] at qe; cases qe)
      rw [show rns np K X (i + 1) ((v, st, t), p, l, c, w, cp, cl, cw) = (0, ((v, st, t), p, l, c, w, cp, cl, cw), z0) from if_pos qe]
      exact ⟨_, _, rfl, rfl, hy, mz_mo.rf _ _ _ _⟩
    · refine s_if (p' := 14) false rfl (by rw [Bool.eq_false_iff.mpr qe]; rfl) rfl ?_
      refine s_aldn (p' := 15) rfl rfl rfl ?_
      refine s_callEV (p' := 18) (ls0 := [_, _, _, _, _, _]) rfl rfl rfl rfl rfl (mj_rcv_is hW) rfl (y_sps bW hI hp hl hy hw0 (nrm_edg hn (Bool.eq_false_iff.mpr qe))) rfl rfl ?_
      rintro _ h1_ ⟨⟨s1, e1, rfl, y1⟩ | ⟨z1, e1, rfl, y1⟩, m1⟩
      · have hrn : rns np K X (i + 1) ((v, st, t), p, l, c, w, cp, cl, cw) = ((rns np K X i (s1.1, cbk K 20 s1.2)).1 + 1, (rns np K X i (s1.1, cbk K 20 s1.2)).2) := by
          rw [rns, if_neg qe, e1]
        rw [hrn]
        have hw1 := stp_wf hp hw0 (nrm_edg hn (Bool.eq_false_iff.mpr qe)) e1
        have hl1 := hl.fr m1.1 hy (fun x hx => hx) hI
        refine s_if (p' := 21) false rfl (by decide +kernel) rfl ?_
        refine s_inc (p' := 24) (ls' := [_, _, _]) rfl rfl rfl rfl rfl ?_
        rw [mI_add]
        refine s_goto (p' := 2) rfl rfl ?_
        refine (ih (s1.1, cbk K 20 s1.2) z0 h1_ (by omega) (cbk_wf 20 _ hw1) (cbk_nrm 20 _ ?_) (Or.inl rfl) hl1 y1).imp fun o ho => ?_
        · obtain ⟨_, p1, l1, c1, w1, cp1, cl1, cw1⟩ := s1
          exact hw1.2.2.1
        · obtain ⟨rv, h', e, q1, q2, q4⟩ := ho
          refine ⟨rv, h', e, ?_, q2, mo00 m1 q4⟩
          rw [q1, show d + 1 + (rns np K X i (s1.1, cbk K 20 s1.2)).1 = d + ((rns np K X i (s1.1, cbk K 20 s1.2)).1 + 1) by omega]
      · have hrn : rns np K X (i + 1) ((v, st, t), p, l, c, w, cp, cl, cw) = (0, ((v, st, t), p, l, c, w, cp, cl, cw), z1) := by
          rw [rns, if_neg qe, e1]
        rw [hrn]
        refine s_if (p' := 27) true rfl (by decide +kernel) rfl ?_
        refine s_ildn (p' := 28) rfl rfl rfl ?_
        refine s_iret rfl rfl ?_
        exact ⟨_, _, rfl, rfl, y1, m1⟩
theorem y_rns {h : mj_H} {I : Nat → Prop} {W np m : Nat} {K : Nat → Nat} {X : Nat → Nat → Nat → Nat} (bW : W + 8 < mj_CB) (hI : ∀ x, x ∈ wML W → ¬ I x) (hp : pOk np K X) (hm : m ≤ 500) {s : SS} {z : CZ} (hw : wfR np K s.2) (hn : nrm K s.2) (hz : z = z0 ∨ (0 < m ∧ edd K s.2 = false)) (hl : yLb I h np K X) (hy : yWl h W s z) : mj_Wp 13 384 (0, [some (.ref W), some (.int (nI m)), none], [], h) (mz_V fun rv h' => rv = .int (nI ((rns np K X m s).1)) ∧ yWl h' W (rns np K X m s).2.1 (rns np K X m s).2.2 ∧ mz_mo (wML W) 0 0 h h') := by
  refine s_con (p' := 1) rfl rfl ?_
  refine s_istn (p' := 2) (ls' := [_, _, _]) rfl rfl rfl rfl ?_
  refine (y_rnL bW hI hp hm m 0 s z h (Nat.zero_add m) hw hn hz hl hy).imp fun o ho => ?_
  obtain ⟨rv, h', e, q1, q4⟩ := ho
  exact ⟨rv, h', e, by rw [q1, Nat.zero_add], q4⟩
