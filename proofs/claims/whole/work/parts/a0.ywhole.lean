/-! The reference: a world run from an end. -/
theorem y_who {I : Nat → Prop} {h : mj_H} {W np q : Nat} {b : Bool} {v st : Nat → Int32} {t : Nat} {K : Nat → Nat} {X : Nat → Nat → Nat → Nat} (cp cl : Nat → Nat) (cw : Nat → Bool) (bW : W + 8 < mj_CB) (hI : ∀ x, x ∈ wML W → ¬ I x) (hp : pOk np K X) (hl : yLb I h np K X) (hy : yWb h W (v, st, t)) (hq : q < np) : mj_Wp 14 409 (0, [some (.ref 400), some (.ref W), some (.int (nI q)), some (.int (nI (bN b))), none], [], h) (mz_V fun rv h' => rv = .int (nI (if edd K (rns np K X 500 ((v, st, t), bgn K q b cp cl cw)).2.1.2 = true then (rns np K X 500 ((v, st, t), bgn K q b cp cl cw)).1 else 4294967295)) ∧ yWl h' W (rns np K X 500 ((v, st, t), bgn K q b cp cl cw)).2.1 (rns np K X 500 ((v, st, t), bgn K q b cp cl cw)).2.2 ∧ mz_mo (wML W) 0 0 h h') := by
  refine s_aldn (p' := 1) rfl rfl rfl ?_
  refine s_ildn (p' := 2) rfl rfl rfl ?_
  refine s_ildn (p' := 3) rfl rfl rfl ?_
  refine s_callEN (p' := 6) (ls0 := [_, _, _]) rfl rfl rfl rfl rfl (by obtain ⟨⟨_, _, zz⟩, _⟩ := id hy; exact mj_rcv_is zz) rfl (y_sts cp cl cw bW hI hp.1 hl hy hq (hp.2 q hq).1) rfl rfl ?_
  rintro h1 ⟨y1, m1⟩
  have hl1 := hl.fb m1.1 hy (fun x hx => hx) hI
  refine s_aldn (p' := 7) rfl rfl rfl ?_
  refine s_sip (p' := 10) rfl rfl ?_
  refine s_callEV (p' := 13) (ls0 := [_, _, _]) rfl rfl rfl rfl rfl (mj_rcv_is y1.1) rfl (y_rns (m := 500) bW hI hp (by decide) (bgn_wf hq) bgn_nrm (Or.inl rfl) hl1 y1) rfl rfl ?_
  rintro _ h2 ⟨rfl, y2, m2⟩
  have hl2 := hl1.fr m2.1 y1 (fun x hx => hx) hI
  have m12 := mo00 m1 m2
  have wf4 := (rns_wf hp 500 ((v, st, t), bgn K q b cp cl cw) (bgn_wf hq) bgn_nrm).1
  generalize (rns np K X 500 ((v, st, t), bgn K q b cp cl cw)) = R at *
  obtain ⟨n4, ⟨⟨v4, st4, t4⟩, p4, l4, c4, w4, cp4, cl4, cw4⟩, z5⟩ := R
  obtain ⟨k1, k2, k3, k4⟩ := wf4
  refine s_ist (p' := 15) (ls' := [_, _, _, _, _]) rfl rfl rfl rfl ?_
  refine s_aldn (p' := 16) rfl rfl rfl ?_
  refine s_callV (p' := 19) (ls0 := [_]) rfl rfl rfl rfl rfl (mj_rcv_is y2.1) rfl (y_end hl2 y2.1 y2.2.2.1 k3 k1 hp.1 (hp.2 p4 k1).1 k2 k4) (by first | decide | omega) rfl ?_
  by_cases qe : edd K (p4, l4, c4, w4, cp4, cl4, cw4) = true
  · refine s_if (p' := 22) false rfl (by rw [qe]; decide +kernel) rfl ?_
    refine s_ild (p' := 24) rfl rfl rfl ?_
    refine s_goto (p' := 28) rfl rfl ?_
    refine s_iret rfl rfl ?_
    exact ⟨_, _, rfl, by rw [if_pos (show edd K (p4, l4, c4, w4, cp4, cl4, cw4) = true from qe)], y2, m12⟩
  · refine s_if (p' := 27) true rfl (by rw [Bool.eq_false_iff.mpr qe]; decide +kernel) rfl ?_
    refine s_con (p' := 28) rfl rfl ?_
    refine s_iret rfl rfl ?_
    exact ⟨_, _, rfl, by rw [if_neg (show ¬ edd K (p4, l4, c4, w4, cp4, cl4, cw4) = true from qe)], y2, m12⟩
