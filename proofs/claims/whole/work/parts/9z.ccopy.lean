/-! The class: a store copied. -/
theorem x_cpy {h : mj_H} {S T : Nat} {s s0 : SV} (bS : S + 2 < mj_CB) (bT : T + 2 < mj_CB) (hd : S + 3 ≤ T ∨ T + 3 ≤ S) (hS : cSt h S s) (hT : cSt h T s0) : mj_Wp 0 194 (0, [some (.ref T), some (.ref S)], [], h) (mz_N fun h' => cSt h' T s ∧ mz_mo [T, T + 1, T + 2] 0 0 h h') := by
  obtain ⟨r0, ⟨vf, v1, v2⟩, ⟨tf, t1, t2⟩, k⟩ := hS
  obtain ⟨q0, ⟨vg, w1, _⟩, ⟨tg, u1, _⟩, _⟩ := hT
  have A0 := r0
  have B0 := v1
  have C0 := t1
  have D0 := q0
  have E0 := w1
  have F0 := u1
  have m0 : mz_mo [T, T + 1, T + 2] 0 0 h h := mz_mo.rf _ _ _ _
  refine s_aldn (p' := 1) rfl rfl rfl ?_
  refine s_gf (p' := 4) rfl A0 rfl rfl ?_
  refine s_con (p' := 5) rfl rfl ?_
  refine s_aldn (p' := 6) rfl rfl rfl ?_
  refine s_gf (p' := 9) rfl D0 rfl rfl ?_
  refine s_con (p' := 10) rfl rfl ?_
  refine s_bip (p' := 12) rfl rfl ?_
  refine s_primN (p' := 15) (q := 0) rfl rfl rfl rfl rfl rfl (p_cpyI (Nat.blt_eq.mpr (by omega)) (Nat.blt_eq.mpr (by omega)) (mj_rdA_is B0 (by decide)) (mj_rdA_is E0 (by decide)) rfl) rfl ?_
  generalize hg1 : List.set h (T + 1) _ = g1
  have m1 : mz_mo [T, T + 1, T + 2] 0 0 h g1 := by rw [← hg1]; exact mz_mo.s m0 (by omega) E0 rfl (Or.inl (by simp))
  have A1 : mj_rd g1 (S) = some (stC_ S s.2.2) := by rw [← hg1]; exact (rd_setn (by omega)).trans A0
  have B1 : mj_rd g1 (S + 1) = some (.inl (0, (8, .inl vf))) := by rw [← hg1]; exact (rd_setn (by omega)).trans B0
  have C1 : mj_rd g1 (S + 2) = some (.inl (0, (20, .inl tf))) := by rw [← hg1]; exact (rd_setn (by omega)).trans C0
  have D1 : mj_rd g1 (T) = some (stC_ T s0.2.2) := by rw [← hg1]; exact (rd_setn (by omega)).trans D0
  have E1 : mj_rd g1 (T + 1) = some (.inl (0, (8, .inl (va_cpy vf vg 0 0 8)))) := by rw [← hg1]; exact rd_set (by omega) E0
  have F1 : mj_rd g1 (T + 2) = some (.inl (0, (20, .inl tg))) := by rw [← hg1]; exact (rd_setn (by omega)).trans F0
  clear hg1
  refine s_aldn (p' := 16) rfl rfl rfl ?_
  refine s_gf (p' := 19) rfl A1 rfl rfl ?_
  refine s_con (p' := 20) rfl rfl ?_
  refine s_aldn (p' := 21) rfl rfl rfl ?_
  refine s_gf (p' := 24) rfl D1 rfl rfl ?_
  refine s_con (p' := 25) rfl rfl ?_
  refine s_bip (p' := 27) rfl rfl ?_
  refine s_primN (p' := 30) (q := 0) rfl rfl rfl rfl rfl rfl (p_cpyI (Nat.blt_eq.mpr (by omega)) (Nat.blt_eq.mpr (by omega)) (mj_rdA_is C1 (by decide)) (mj_rdA_is F1 (by decide)) rfl) rfl ?_
  generalize hg2 : List.set g1 (T + 2) _ = g2
  have m2 : mz_mo [T, T + 1, T + 2] 0 0 h g2 := by rw [← hg2]; exact mz_mo.s m1 (by omega) F1 rfl (Or.inl (by simp))
  have A2 : mj_rd g2 (S) = some (stC_ S s.2.2) := by rw [← hg2]; exact (rd_setn (by omega)).trans A1
  have B2 : mj_rd g2 (S + 1) = some (.inl (0, (8, .inl vf))) := by rw [← hg2]; exact (rd_setn (by omega)).trans B1
  have C2 : mj_rd g2 (S + 2) = some (.inl (0, (20, .inl tf))) := by rw [← hg2]; exact (rd_setn (by omega)).trans C1
  have D2 : mj_rd g2 (T) = some (stC_ T s0.2.2) := by rw [← hg2]; exact (rd_setn (by omega)).trans D1
  have E2 : mj_rd g2 (T + 1) = some (.inl (0, (8, .inl (va_cpy vf vg 0 0 8)))) := by rw [← hg2]; exact (rd_setn (by omega)).trans E1
  have F2 : mj_rd g2 (T + 2) = some (.inl (0, (20, .inl (va_cpy tf tg 0 0 20)))) := by rw [← hg2]; exact rd_set (by omega) F1
  clear hg2
  refine s_aldn (p' := 31) rfl rfl rfl ?_
  refine s_aldn (p' := 32) rfl rfl rfl ?_
  refine s_gf (p' := 35) rfl A2 rfl rfl ?_
  refine s_pf (p' := 38) (fs' := [_, _, _]) rfl (by omega) D2 (Nat.blt_eq.mp rfl) rfl rfl rfl ?_
  generalize hg3 : List.set g2 T _ = g3
  have m3 : mz_mo [T, T + 1, T + 2] 0 0 h g3 := by rw [← hg3]; exact mz_mo.s m2 (by omega) D2 rfl (Or.inl (by simp))
  have A3 : mj_rd g3 (S) = some (stC_ S s.2.2) := by rw [← hg3]; exact (rd_setn (by omega)).trans A2
  have B3 : mj_rd g3 (S + 1) = some (.inl (0, (8, .inl vf))) := by rw [← hg3]; exact (rd_setn (by omega)).trans B2
  have C3 : mj_rd g3 (S + 2) = some (.inl (0, (20, .inl tf))) := by rw [← hg3]; exact (rd_setn (by omega)).trans C2
  have D3 : mj_rd g3 (T) = some (stC_ T s.2.2) := by rw [← hg3]; exact rd_set (by omega) D2
  have E3 : mj_rd g3 (T + 1) = some (.inl (0, (8, .inl (va_cpy vf vg 0 0 8)))) := by rw [← hg3]; exact (rd_setn (by omega)).trans E2
  have F3 : mj_rd g3 (T + 2) = some (.inl (0, (20, .inl (va_cpy tf tg 0 0 20)))) := by rw [← hg3]; exact (rd_setn (by omega)).trans F2
  clear hg3
  refine s_ret rfl ?_
  refine ⟨_, rfl, ⟨D3, ⟨_, E3, fun j hj => ?_⟩, ⟨_, F3, fun j hj => ?_⟩, k⟩, m3⟩
  · unfold va_cpy
    rw [if_pos ⟨Nat.zero_le j, by omega⟩, Nat.zero_add, Nat.sub_zero]
    exact v2 j hj
  · unfold va_cpy
    rw [if_pos ⟨Nat.zero_le j, by omega⟩, Nat.zero_add, Nat.sub_zero]
    exact t2 j hj
theorem rns_wf {np : Nat} {K : Nat → Nat} {X : Nat → Nat → Nat → Nat} (hp : pOk np K X) : ∀ (i : Nat) (s : SS), wfR np K s.2 → nrm K s.2 → wfR np K (rns np K X i s).2.1.2 ∧ nrm K (rns np K X i s).2.1.2 ∧ (rns np K X i s).1 ≤ i ∧ ((rns np K X i s).2.2 = z0 ∨ edd K (rns np K X i s).2.1.2 = false)
  | 0, s, hw, hn => ⟨hw, hn, Nat.le_refl 0, Or.inl rfl⟩
  | i + 1, s, hw, hn => by
    cases qe : edd K s.2 with
    | true =>
      rw [show rns np K X (i + 1) s = (0, s, z0) from if_pos qe]
      exact ⟨hw, hn, Nat.zero_le _, Or.inl rfl⟩
    | false =>
      cases e1 : stp np K X s with
      | inr z1 =>
        have hrn : rns np K X (i + 1) s = (0, s, z1) := by rw [rns, if_neg (by rw [qe]; decide), e1]
        rw [hrn]
        exact ⟨hw, hn, Nat.zero_le _, Or.inr qe⟩
      | inl s1 =>
        have hrn : rns np K X (i + 1) s = ((rns np K X i (s1.1, cbk K 20 s1.2)).1 + 1, (rns np K X i (s1.1, cbk K 20 s1.2)).2) := by rw [rns, if_neg (by rw [qe]; decide), e1]
        rw [hrn]
        have hw1 := stp_wf hp hw (nrm_edg hn qe) e1
        have hc : s1.2.2.2.1 ≤ 20 := by
          obtain ⟨_, p1, l1, c1, w1, cp1, cl1, cw1⟩ := s1
          exact hw1.2.2.1
        have ih := rns_wf hp i (s1.1, cbk K 20 s1.2) (cbk_wf 20 _ hw1) (cbk_nrm 20 _ hc)
        exact ⟨ih.1, ih.2.1, Nat.succ_le_succ ih.2.2.1, ih.2.2.2⟩
theorem bgn_wf {np q : Nat} {K : Nat → Nat} {b : Bool} {cp cl : Nat → Nat} {cw : Nat → Bool} (hq : q < np) : wfR np K (bgn K q b cp cl cw) := ⟨hq, by split <;> omega, Nat.zero_le _, fun d hd => absurd hd (Nat.not_lt_zero d)⟩
theorem bgn_cbk {q : Nat} {K : Nat → Nat} {b : Bool} {cp cl : Nat → Nat} {cw : Nat → Bool} (i : Nat) : cbk K i (bgn K q b cp cl cw) = bgn K q b cp cl cw := by
  cases i with
  | zero => rfl
  | succ i =>
    rw [cbk]
    exact if_neg (fun e => absurd e.1 (Nat.not_lt_zero 0))
theorem bgn_nrm {q : Nat} {K : Nat → Nat} {b : Bool} {cp cl : Nat → Nat} {cw : Nat → Bool} : nrm K (bgn K q b cp cl cw) := fun e => absurd e.1 (Nat.not_lt_zero 0)
/-- the class's own cell -/
def xC_ (gs pl : Value) (sd be : Int64) : mj_C := .inr (0, [.ref 1, .ref 38, .ref 299, .ref 336, .ref 373, .ref 375, .ref 378, .ref 381, .ref 387, .ref 393, gs, pl, .ref 397, .ref 398, .ref 399, .long sd, .long be])
theorem x_try {h : mj_H} {np q j : Nat} {y : Int32} {v st : Nat → Int32} {t b p l c : Nat} {w : Bool} {cp cl : Nat → Nat} {cw : Nat → Bool} {z : CZ} {s0 : SV} {gs pl : Value} {sd be : Int64} {K : Nat → Nat} {X : Nat → Nat → Nat → Nat} (hp : pOk np K X) (h0 : mj_rd h 0 = some (xC_ gs pl sd be)) (hS : cSt h 375 (v, st, t)) (hT : cSt h 378 s0) (hR : cRb h 387 378 b (p, l, c, w, cp, cl, cw) z) (hl : cLb h np K X) (hq : q < np) (hj : j < 8) : mj_Wp 8 201 (0, [some (.ref 0), some (.int (nI q)), some (.int (nI j)), some (.int y)], [], h) (mz_V fun rv h' => rv = .int (nI (bN (edd K (rns np K X 500 ((upd v j y, st, t), bgn K q true cp cl cw)).2.1.2))) ∧ cSt h' 378 (rns np K X 500 ((upd v j y, st, t), bgn K q true cp cl cw)).2.1.1 ∧ cRn h' 387 378 (rns np K X 500 ((upd v j y, st, t), bgn K q true cp cl cw)).2.1.2 (rns np K X 500 ((upd v j y, st, t), bgn K q true cp cl cw)).2.2 ∧ mz_mo (cML 387 378) 0 0 h h') := by
  refine s_aldn (p' := 1) rfl rfl rfl ?_
  refine s_gf (p' := 4) rfl h0 rfl rfl ?_
  refine s_aldn (p' := 5) rfl rfl rfl ?_
  refine s_gf (p' := 8) rfl h0 rfl rfl ?_
  refine s_callEN (p' := 11) (ls0 := [_, _]) rfl rfl rfl rfl rfl (mj_rcv_is hT.1) rfl (x_cpy (by decide) (by decide) (Or.inl (by decide)) hS hT) rfl rfl ?_
  rintro h1 ⟨s1, m1⟩
  have z1 := m1.1 0 (by simp only [List.mem_cons, List.not_mem_nil, or_false]; omega) _ h0
  refine s_aldn (p' := 12) rfl rfl rfl ?_
  refine s_gf (p' := 15) rfl z1 rfl rfl ?_
  refine s_ildn (p' := 16) rfl rfl rfl ?_
  refine s_ildn (p' := 17) rfl rfl rfl ?_
  refine s_callEN (p' := 20) (ls0 := [_, _, _]) rfl rfl rfl rfl rfl (mj_rcv_is s1.1) rfl (x_spt (by decide) s1 hj) rfl rfl ?_
  rintro h2 ⟨s2, m2⟩
  have z2 := m2.1 0 (by simp only [List.mem_cons, List.not_mem_nil, or_false]; omega) _ z1
  have m12 : mz_mo [378, 378 + 1, 378 + 2] 0 0 h h2 := mo00 m1 (m2.wk (fun y hy => Or.inl (by simp only [List.mem_cons, List.not_mem_nil, or_false] at hy ⊢; omega)) (Nat.le_refl _) (Nat.le_refl _))
  have r2 : cRb h2 387 378 b (p, l, c, w, cp, cl, cw) z := ⟨m12.1 387 (by simp only [List.mem_cons, List.not_mem_nil, or_false]; omega) _ hR.1, hR.2.1.fr m12.1 (by simp only [List.mem_cons, List.not_mem_nil, or_false]; omega) (by simp only [List.mem_cons, List.not_mem_nil, or_false]; omega) (by simp only [List.mem_cons, List.not_mem_nil, or_false]; omega), hR.2.2.fr m12.1 (by simp only [List.mem_cons, List.not_mem_nil, or_false]; omega) (by simp only [List.mem_cons, List.not_mem_nil, or_false]; omega)⟩
  have hl2 := hl.fr m12.1 (fun x hx => by simp only [List.mem_cons, List.not_mem_nil, or_false] at hx; omega)
  refine s_aldn (p' := 21) rfl rfl rfl ?_
  refine s_gf (p' := 24) rfl z2 rfl rfl ?_
  refine s_ildn (p' := 25) rfl rfl rfl ?_
  refine s_con (p' := 26) rfl rfl ?_
  refine s_callEN (p' := 29) (ls0 := [_, _, _]) rfl rfl rfl rfl rfl (mj_rcv_is r2.1) rfl (x_bgn (v := true) (by decide) r2 (by decide) hl2 hq) rfl rfl ?_
  rintro h3 ⟨r3, m3⟩
  have z3 := m3.1 0 (by simp only [List.mem_cons, List.not_mem_nil, or_false]; omega) _ z2
  have s3 := s2.R (R := 387) (by decide) m3
  have hl3 := hl2.fr m3.1 (fun x hx => by rw [List.mem_singleton] at hx; omega)
  refine s_aldn (p' := 30) rfl rfl rfl ?_
  refine s_gf (p' := 33) rfl z3 rfl rfl ?_
  refine s_sip (p' := 36) rfl rfl ?_
  refine s_callEV (p' := 39) (ls0 := [_, _, _]) rfl rfl rfl rfl rfl (mj_rcv_is r3.c0) rfl (x_adv (m := 500) (by decide) (by decide) (by decide) hp (by decide) (bgn_wf hq) hl3 s3 r3) rfl rfl ?_
  rintro _ h4 ⟨rfl, s4, r4, m4⟩
  rw [bgn_cbk] at s4 r4
  have z4 := m4.1 0 (by simp only [cML, List.mem_cons, List.not_mem_nil, or_false]; omega) _ z3
  have hl4 := hl3.fr m4.1 (fun x hx => cML_ge (by decide) (by decide) hx)
  have wf4 := (rns_wf hp 500 ((upd v j y, st, t), bgn K q true cp cl cw) (bgn_wf hq) bgn_nrm).1
  generalize (rns np K X 500 ((upd v j y, st, t), bgn K q true cp cl cw)) = R at *
  obtain ⟨n4, ⟨sv4, p4, l4, c4, w4, cp4, cl4, cw4⟩, z5⟩ := R
  obtain ⟨k1, k2, k3, k4⟩ := wf4
  have k5 := (hp.2 p4 k1).1
  refine s_sp (p' := 40) (ls' := _) rfl rfl rfl ?_
  refine s_aldn (p' := 41) rfl rfl rfl ?_
  refine s_gf (p' := 44) rfl z4 rfl rfl ?_
  refine s_callV (p' := 47) (ls0 := [_]) rfl rfl rfl rfl rfl (mj_rcv_is r4.c1) rfl (x_edd (by decide) r4 hl4 k1 k5 (by omega) k3) (by first | decide | omega) rfl ?_
  refine s_iret rfl (by cases edd K (p4, l4, c4, w4, cp4, cl4, cw4) <;> decide +kernel) ?_
  exact ⟨_, _, rfl, rfl, s4, r4, mo00 (mo_ml m12 (fun x hx => cML_m.mpr (by simp only [List.mem_cons, List.not_mem_nil, or_false] at hx; omega))) (mo00 (mo_ml m3 (fun x hx => cML_m.mpr (by simp only [List.mem_cons, List.not_mem_nil, or_false] at hx; omega))) m4)⟩
