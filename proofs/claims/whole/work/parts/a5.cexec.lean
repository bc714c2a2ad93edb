/-! The class: a run begun, going on, as a whole; what becomes of a variable. -/
theorem cRn.bz {h : mj_H} {R S q : Nat} {v : Bool} {K : Nat → Nat} {cp cl : Nat → Nat} {cw : Nat → Bool} {z : CZ} (a : cRn h R S (bgn K q v cp cl cw) z) : cRn h R S (bgn K q v (fun _ => 0) (fun _ => 0) (fun _ => false)) z := by
  obtain ⟨a0, ⟨⟨f1, a1, _⟩, ⟨f2, a2, _⟩, f3, a3, b3, _⟩, y⟩ := a
  exact ⟨a0, ⟨⟨f1, a1, fun d hd => absurd hd (Nat.not_lt_zero d)⟩, ⟨f2, a2, fun d hd => absurd hd (Nat.not_lt_zero d)⟩, f3, a3, b3, fun d hd => absurd hd (Nat.not_lt_zero d)⟩, y⟩
theorem trn_wf {np : Nat} {K : Nat → Nat} {r : SR} (h : wfR np K r) : wfR np K (trn r) := by
  obtain ⟨p, l, c, w, cp, cl, cw⟩ := r
  exact h
theorem cbk_id {K : Nat → Nat} {r : SR} (h : nrm K r) : ∀ i, cbk K i r = r
  | 0 => rfl
  | i + 1 => by
    rw [cbk]
    exact if_neg h
theorem x_isc {h : mj_H} {c : Nat} (hc : c < 65536) : mj_run 0 86 (0, [some (.int (nI c))], [], h) (.inl (some (.int (nI (bN (vB c))))), h) := by
  have e := x_isv (h := h) (c := c) (by omega)
  rw [show sgn c = c from if_neg (by omega)] at e
  exact e
theorem x_hasF {h : mj_H} {np : Nat} (a2 : mj_rd h 38 = some (.inr (6, [.ref 39, .ref 40, .int (nI np)]))) (hn : np ≤ 6) {p : Int32} (hpr : p.toInt < 0 ∨ (np : Int) ≤ p.toInt) : mj_run 0 134 (0, [some (.ref 38), some (.int p)], [], h) (.inl (some (.int (nI 0))), h) := by
  refine s_ildn (p' := 1) rfl rfl rfl ?_
  by_cases q1 : p.toInt < 0
  · refine s_if (p' := 16) true rfl ((cg_lt (w := 0) (by decide +kernel)).trans (decide_eq_true (by omega))) rfl ?_
    refine s_con (p' := 17) rfl rfl ?_
    exact s_iret rfl rfl rfl
  · refine s_if (p' := 4) false rfl ((cg_lt (w := 0) (by decide +kernel)).trans (decide_eq_false (by omega))) rfl ?_
    refine s_ildn (p' := 5) rfl rfl rfl ?_
    refine s_aldn (p' := 6) rfl rfl rfl ?_
    refine s_gf (p' := 9) rfl a2 rfl rfl ?_
    refine s_icmp (p' := 16) true rfl ((cg_ge (mI_ti (by omega))).trans (decide_eq_true (by omega))) rfl ?_
    refine s_con (p' := 17) rfl rfl ?_
    exact s_iret rfl rfl rfl
theorem x_try0 {h : mj_H} {np q j : Nat} {y : Int32} {v st : Nat → Int32} {t b p l c : Nat} {w : Bool} {cp cl : Nat → Nat} {cw : Nat → Bool} {z : CZ} {s0 : SV} {gs pl : Value} {sd be : Int64} {K : Nat → Nat} {X : Nat → Nat → Nat → Nat} (hp : pOk np K X) (h0 : mj_rd h 0 = some (xC_ gs pl sd be)) (hS : cSt h 375 (v, st, t)) (hT : cSt h 378 s0) (hR : cRb h 387 378 b (p, l, c, w, cp, cl, cw) z) (hl : cLb h np K X) (hq : q < np) (hj : j < 8) : mj_Wp 8 201 (0, [some (.ref 0), some (.int (nI q)), some (.int (nI j)), some (.int y)], [], h) (mz_V fun rv h' => rv = .int (nI (bN (edd K (rns np K X 500 ((upd v j y, st, t), bgn K q true (fun _ => 0) (fun _ => 0) (fun _ => false))).2.1.2))) ∧ cSt h' 378 (rns np K X 500 ((upd v j y, st, t), bgn K q true (fun _ => 0) (fun _ => 0) (fun _ => false))).2.1.1 ∧ cRn h' 387 378 (rns np K X 500 ((upd v j y, st, t), bgn K q true (fun _ => 0) (fun _ => 0) (fun _ => false))).2.1.2 (rns np K X 500 ((upd v j y, st, t), bgn K q true (fun _ => 0) (fun _ => 0) (fun _ => false))).2.2 ∧ mz_mo (cML 387 378) 0 0 h h') := by
  refine s_aldn (p' := 1) rfl rfl rfl ?_
  refine s_gf (p' := 4) rfl h0 rfl rfl ?_
  refine s_aldn (p' := 5) rfl rfl rfl ?_
  refine s_gf (p' := 8) rfl h0 rfl rfl ?_
  refine s_callEN (p' := 11) (ls0 := [_, _]) rfl rfl rfl rfl rfl (mj_rcv_is hT.1) rfl (x_cpy (by decide) (by decide) (Or.inl (by decide)) hS hT) rfl rfl ?_
  rintro h1 ⟨s1, m1⟩
  have z1 := m1.1 0 (by simp only [List.mem_cons, List.not_mem_nil, or_false]; omega) _ h0
  refine s_aldn (p' := 12) rfl rfl rfl ?_
  refine s_gf (p' := 15) rfl z1 rfl rfl ?_
  refine s_ildn (p' := 16) rfl rfl rfl ?_
  refine s_ildn (p' := 17) rfl rfl rfl ?_
  refine s_callEN (p' := 20) (ls0 := [_, _, _]) rfl rfl rfl rfl rfl (mj_rcv_is s1.1) rfl (x_spt (by decide) s1 hj) rfl rfl ?_
  rintro h2 ⟨s2, m2⟩
  have z2 := m2.1 0 (by simp only [List.mem_cons, List.not_mem_nil, or_false]; omega) _ z1
  have m12 : mz_mo [378, 378 + 1, 378 + 2] 0 0 h h2 := mo00 m1 (m2.wk (fun y hy => Or.inl (by simp only [List.mem_cons, List.not_mem_nil, or_false] at hy ⊢; omega)) (Nat.le_refl _) (Nat.le_refl _))
  have r2 : cRb h2 387 378 b (p, l, c, w, cp, cl, cw) z := ⟨m12.1 387 (by simp only [List.mem_cons, List.not_mem_nil, or_false]; omega) _ hR.1, hR.2.1.fr m12.1 (by simp only [List.mem_cons, List.not_mem_nil, or_false]; omega) (by simp only [List.mem_cons, List.not_mem_nil, or_false]; omega) (by simp only [List.mem_cons, List.not_mem_nil, or_false]; omega), hR.2.2.fr m12.1 (by simp only [List.mem_cons, List.not_mem_nil, or_false]; omega) (by simp only [List.mem_cons, List.not_mem_nil, or_false]; omega)⟩
  have hl2 := hl.fr m12.1 (fun x hx => by simp only [List.mem_cons, List.not_mem_nil, or_false] at hx; omega)
  refine s_aldn (p' := 21) rfl rfl rfl ?_
  refine s_gf (p' := 24) rfl z2 rfl rfl ?_
  refine s_ildn (p' := 25) rfl rfl rfl ?_
  refine s_con (p' := 26) rfl rfl ?_
  refine s_callEN (p' := 29) (ls0 := [_, _, _]) rfl rfl rfl rfl rfl (mj_rcv_is r2.1) rfl (x_bgn (v := true) (by decide) r2 (by decide) hl2 hq) rfl rfl ?_
  rintro h3 ⟨r3, m3⟩
  replace r3 := r3.bz
  have z3 := m3.1 0 (by simp only [List.mem_cons, List.not_mem_nil, or_false]; omega) _ z2
  have s3 := s2.R (R := 387) (by decide) m3
  have hl3 := hl2.fr m3.1 (fun x hx => by rw [List.mem_singleton] at hx; omega)
  refine s_aldn (p' := 30) rfl rfl rfl ?_
  refine s_gf (p' := 33) rfl z3 rfl rfl ?_
  refine s_sip (p' := 36) rfl rfl ?_
  refine s_callEV (p' := 39) (ls0 := [_, _, _]) rfl rfl rfl rfl rfl (mj_rcv_is r3.c0) rfl (x_adv (m := 500) (by decide) (by decide) (by decide) hp (by decide) (bgn_wf hq) hl3 s3 r3) rfl rfl ?_
  rintro _ h4 ⟨rfl, s4, r4, m4⟩
  rw [bgn_cbk] at s4 r4
  have z4 := m4.1 0 (by simp only [cML, List.mem_cons, List.not_mem_nil, or_false]; omega) _ z3
  have hl4 := hl3.fr m4.1 (fun x hx => cML_ge (by decide) (by decide) hx)
  have wf4 := (rns_wf hp 500 ((upd v j y, st, t), bgn K q true (fun _ => 0) (fun _ => 0) (fun _ => false)) (bgn_wf hq) bgn_nrm).1
  generalize (rns np K X 500 ((upd v j y, st, t), bgn K q true (fun _ => 0) (fun _ => 0) (fun _ => false))) = R at *
  obtain ⟨n4, ⟨sv4, p4, l4, c4, w4, cp4, cl4, cw4⟩, z5⟩ := R
  obtain ⟨k1, k2, k3, k4⟩ := wf4
  have k5 := (hp.2 p4 k1).1
  refine s_sp (p' := 40) (ls' := _) rfl rfl rfl ?_
  refine s_aldn (p' := 41) rfl rfl rfl ?_
  refine s_gf (p' := 44) rfl z4 rfl rfl ?_
  refine s_callV (p' := 47) (ls0 := [_]) rfl rfl rfl rfl rfl (mj_rcv_is r4.c1) rfl (x_edd (by decide) r4 hl4 k1 k5 (by omega) k3) (by first | decide | omega) rfl ?_
  refine s_iret rfl (by cases edd K (p4, l4, c4, w4, cp4, cl4, cw4) <;> decide +kernel) ?_
  exact ⟨_, _, rfl, rfl, s4, r4, mo00 (mo_ml m12 (fun x hx => cML_m.mpr (by simp only [List.mem_cons, List.not_mem_nil, or_false] at hx; omega))) (mo00 (mo_ml m3 (fun x hx => cML_m.mpr (by simp only [List.mem_cons, List.not_mem_nil, or_false] at hx; omega))) m4)⟩
theorem x_sta0 {h : mj_H} {gs pl : Value} {sd be : Int64} (h0 : mj_rd h 0 = some (xC_ gs pl sd be)) {b p l c : Nat} {w : Bool} {cp cl : Nat → Nat} {cw : Nat → Bool} {z : CZ} (hR : cRb h 381 375 0 (p, l, c, w, cp, cl, cw) z) : mj_run 0 16 (0, [some (.ref 0)], [], h) (.inl (some (.int (nI 45))), h) := by
  refine s_aldn (p' := 1) rfl rfl rfl ?_
  refine s_gf (p' := 4) rfl h0 rfl rfl ?_
  refine s_gf (p' := 7) rfl hR.1 rfl rfl ?_
  refine s_if (p' := 10) false rfl (by decide +kernel) rfl ?_
  refine s_bip (p' := 12) rfl rfl ?_
  exact s_iret rfl (by decide +kernel) rfl
theorem x_staB {h : mj_H} {np : Nat} {K : Nat → Nat} {X : Nat → Nat → Nat → Nat} {gs pl : Value} {sd be : Int64} (h0 : mj_rd h 0 = some (xC_ gs pl sd be)) (hl : cLb h np K X) {b p l c : Nat} {w : Bool} {cp cl : Nat → Nat} {cw : Nat → Bool} {z : CZ} (hR : cRn h 381 375 (p, l, c, w, cp, cl, cw) z) (hz : 0 < z.1) : mj_run 4 16 (0, [some (.ref 0)], [], h) (.inl (some (.int (nI 98))), h) := by
  refine s_aldn (p' := 1) rfl rfl rfl ?_
  refine s_gf (p' := 4) rfl h0 rfl rfl ?_
  refine s_gf (p' := 7) rfl hR.c1 rfl rfl ?_
  refine s_if (p' := 13) true rfl (by decide +kernel) rfl ?_
  refine s_aldn (p' := 14) rfl rfl rfl ?_
  refine s_gf (p' := 17) rfl h0 rfl rfl ?_
  refine c_call (p' := 20) (kc := 3) (ls0 := [_]) rfl rfl rfl rfl rfl (mj_rcv_is hR.c1) rfl rfl rfl ?_
  refine s_aldn (p' := 1) rfl rfl rfl ?_
  refine s_gf (p' := 4) rfl hR.c1 rfl rfl ?_
  refine s_if (p' := 7) false rfl ((cz_le (by have := hR.2.2; obtain ⟨_, _, _, _, k, _⟩ := this; omega)).trans (decide_eq_false (by omega))) rfl ?_
  refine s_con (p' := 8) rfl rfl ?_
  refine s_goto (p' := 12) rfl rfl ?_
  refine c_iret rfl rfl ?_
  refine s_if (p' := 23) false rfl (by decide +kernel) rfl ?_
  refine s_bip (p' := 25) rfl rfl ?_
  exact s_iret rfl (by decide +kernel) rfl
theorem x_staE {h : mj_H} {np : Nat} {K : Nat → Nat} {X : Nat → Nat → Nat → Nat} {gs pl : Value} {sd be : Int64} (h0 : mj_rd h 0 = some (xC_ gs pl sd be)) (hl : cLb h np K X) {b p l c : Nat} {w : Bool} {cp cl : Nat → Nat} {cw : Nat → Bool} {z : CZ} (hR : cRn h 381 375 (p, l, c, w, cp, cl, cw) z) (hz : ¬ 0 < z.1) (hw : wfR np K (p, l, c, w, cp, cl, cw)) (hK : ∀ p, p < np → K p ≤ 30) (he : edd K (p, l, c, w, cp, cl, cw) = true) : mj_run 4 16 (0, [some (.ref 0)], [], h) (.inl (some (.int (nI 101))), h) := by
  refine s_aldn (p' := 1) rfl rfl rfl ?_
  refine s_gf (p' := 4) rfl h0 rfl rfl ?_
  refine s_gf (p' := 7) rfl hR.c1 rfl rfl ?_
  refine s_if (p' := 13) true rfl (by decide +kernel) rfl ?_
  refine s_aldn (p' := 14) rfl rfl rfl ?_
  refine s_gf (p' := 17) rfl h0 rfl rfl ?_
  refine c_call (p' := 20) (kc := 3) (ls0 := [_]) rfl rfl rfl rfl rfl (mj_rcv_is hR.c1) rfl rfl rfl ?_
  refine s_aldn (p' := 1) rfl rfl rfl ?_
  refine s_gf (p' := 4) rfl hR.c1 rfl rfl ?_
  refine s_if (p' := 11) true rfl ((cz_le (by have := hR.2.2; obtain ⟨_, _, _, _, k, _⟩ := this; omega)).trans (decide_eq_true (by omega))) rfl ?_
  refine s_con (p' := 12) rfl rfl ?_
  refine c_iret rfl rfl ?_
  refine s_if (p' := 26) true rfl (by decide +kernel) rfl ?_
  refine s_aldn (p' := 27) rfl rfl rfl ?_
  refine s_gf (p' := 30) rfl h0 rfl rfl ?_
  refine s_callV (p' := 33) (ls0 := [_]) rfl rfl rfl rfl rfl (mj_rcv_is hR.c1) rfl (x_edd (by decide) hR hl hw.1 (hK p hw.1) (by have := hK p hw.1; have := hw.2.1; omega) hw.2.2.1) (by first | decide | omega) rfl ?_
  refine s_if (p' := 36) false rfl (by rw [he]; decide +kernel) rfl ?_
  refine s_bip (p' := 38) rfl rfl ?_
  refine s_goto (p' := 43) rfl rfl ?_
  exact s_iret rfl (by decide +kernel) rfl
theorem x_staG {h : mj_H} {np : Nat} {K : Nat → Nat} {X : Nat → Nat → Nat → Nat} {gs pl : Value} {sd be : Int64} (h0 : mj_rd h 0 = some (xC_ gs pl sd be)) (hl : cLb h np K X) {b p l c : Nat} {w : Bool} {cp cl : Nat → Nat} {cw : Nat → Bool} {z : CZ} (hR : cRn h 381 375 (p, l, c, w, cp, cl, cw) z) (hz : ¬ 0 < z.1) (hw : wfR np K (p, l, c, w, cp, cl, cw)) (hK : ∀ p, p < np → K p ≤ 30) (he : edd K (p, l, c, w, cp, cl, cw) = false) : mj_run 4 16 (0, [some (.ref 0)], [], h) (.inl (some (.int (nI 103))), h) := by
  refine s_aldn (p' := 1) rfl rfl rfl ?_
  refine s_gf (p' := 4) rfl h0 rfl rfl ?_
  refine s_gf (p' := 7) rfl hR.c1 rfl rfl ?_
  refine s_if (p' := 13) true rfl (by decide +kernel) rfl ?_
  refine s_aldn (p' := 14) rfl rfl rfl ?_
  refine s_gf (p' := 17) rfl h0 rfl rfl ?_
  refine c_call (p' := 20) (kc := 3) (ls0 := [_]) rfl rfl rfl rfl rfl (mj_rcv_is hR.c1) rfl rfl rfl ?_
  refine s_aldn (p' := 1) rfl rfl rfl ?_
  refine s_gf (p' := 4) rfl hR.c1 rfl rfl ?_
  refine s_if (p' := 11) true rfl ((cz_le (by have := hR.2.2; obtain ⟨_, _, _, _, k, _⟩ := this; omega)).trans (decide_eq_true (by omega))) rfl ?_
  refine s_con (p' := 12) rfl rfl ?_
  refine c_iret rfl rfl ?_
  refine s_if (p' := 26) true rfl (by decide +kernel) rfl ?_
  refine s_aldn (p' := 27) rfl rfl rfl ?_
  refine s_gf (p' := 30) rfl h0 rfl rfl ?_
  refine s_callV (p' := 33) (ls0 := [_]) rfl rfl rfl rfl rfl (mj_rcv_is hR.c1) rfl (x_edd (by decide) hR hl hw.1 (hK p hw.1) (by have := hK p hw.1; have := hw.2.1; omega) hw.2.2.1) (by first | decide | omega) rfl ?_
  refine s_if (p' := 41) true rfl (by rw [he]; decide +kernel) rfl ?_
  refine s_bip (p' := 43) rfl rfl ?_
  exact s_iret rfl (by decide +kernel) rfl
theorem x_strT {h : mj_H} {np : Nat} {K : Nat → Nat} {X : Nat → Nat → Nat → Nat} {gs pl : Value} {sd be : Int64} (h0 : mj_rd h 0 = some (xC_ gs pl sd be)) (hl : cLb h np K X) {p : Int32} (hpr : p.toInt < 0 ∨ (np : Int) ≤ p.toInt) {w : Bool} : mj_run 1 154 (0, [some (.ref 0), some (.int p), some (.int (nI (bN w)))], [], h) (.inr h.length, h ++ [.inr (14, [])]) := by
  refine s_aldn (p' := 1) rfl rfl rfl ?_
  refine s_gf (p' := 4) rfl h0 rfl rfl ?_
  refine s_ildn (p' := 5) rfl rfl rfl ?_
  refine s_callV (p' := 8) (ls0 := [_, _]) rfl rfl rfl rfl rfl (mj_rcv_is hl.2.1) rfl (x_hasF hl.2.1 hl.1 hpr) (by first | decide | omega) rfl ?_
  refine s_if (p' := 11) false rfl (by decide +kernel) rfl ?_
  exact s_thr rfl (Nat.le_of_ble_eq_true rfl) rfl
theorem x_str {h : mj_H} {np : Nat} {K : Nat → Nat} {X : Nat → Nat → Nat → Nat} {gs pl : Value} {sd be : Int64} (h0 : mj_rd h 0 = some (xC_ gs pl sd be)) (hl : cLb h np K X) {q : Nat} (hq : q < np) {b p l c : Nat} {w v : Bool} {cp cl : Nat → Nat} {cw : Nat → Bool} {z : CZ} (hR : cRb h 381 375 b (p, l, c, w, cp, cl, cw) z) : mj_Wp 3 154 (0, [some (.ref 0), some (.int (nI q)), some (.int (nI (bN v)))], [], h) (mz_V fun rv h' => rv = .int (nI (if v = true then 0 else K q)) ∧ cRn h' 381 375 (bgn K q v (fun _ => 0) (fun _ => 0) (fun _ => false)) z0 ∧ mz_mo [381] 0 0 h h') := by
  refine s_aldn (p' := 1) rfl rfl rfl ?_
  refine s_gf (p' := 4) rfl h0 rfl rfl ?_
  refine s_ildn (p' := 5) rfl rfl rfl ?_
  refine s_callV (p' := 8) (ls0 := [_, _]) rfl rfl rfl rfl rfl (mj_rcv_is hl.2.1) rfl (x_lhas hl.2.1 hl.1 (by have := hl.1; omega)) (by first | decide | omega) rfl ?_
  refine s_if (p' := 21) true rfl (by rw [decide_eq_true hq]; decide +kernel) rfl ?_
  refine s_aldn (p' := 22) rfl rfl rfl ?_
  refine s_gf (p' := 25) rfl h0 rfl rfl ?_
  refine s_ildn (p' := 26) rfl rfl rfl ?_
  refine s_ildn (p' := 27) rfl rfl rfl ?_
  refine s_callEN (p' := 30) (ls0 := [_, _, _]) rfl rfl rfl rfl rfl (mj_rcv_is hR.1) rfl (x_bgn (v := v) (by decide) hR (by decide) hl hq) rfl rfl ?_
  rintro h1 ⟨r1, m1⟩
  replace r1 := r1.bz
  have z1 := m1.1 0 (by decide) _ h0
  refine s_aldn (p' := 31) rfl rfl rfl ?_
  refine s_gf (p' := 34) rfl z1 rfl rfl ?_
  refine s_gf (p' := 37) rfl r1.c0 rfl rfl ?_
  refine s_iret rfl rfl ?_
  exact ⟨_, _, rfl, rfl, r1, m1⟩
theorem x_goT1 {h : mj_H} {p w : Int32} (hpr : p.toInt < 1 ∨ (500 : Int) < p.toInt) : mj_run 0 158 (0, [some (.ref 0), some (.int p), some (.int w), none], [], h) (.inr h.length, h ++ [.inr (13, [])]) := by
  refine s_ildn (p' := 1) rfl rfl rfl ?_
  refine s_con (p' := 2) rfl rfl ?_
  by_cases q1 : p.toInt < 1
  · refine s_icmp (p' := 12) true rfl ((cg_lt (mI_ti (by decide))).trans (decide_eq_true (by omega))) rfl ?_
    exact s_thr rfl (Nat.le_of_ble_eq_true rfl) rfl
  · refine s_icmp (p' := 5) false rfl ((cg_lt (mI_ti (by decide))).trans (decide_eq_false (by omega))) rfl ?_
    refine s_ildn (p' := 6) rfl rfl rfl ?_
    refine s_sip (p' := 9) rfl rfl ?_
    refine s_icmp (p' := 12) false rfl ((cg_le (mI_ti (by decide))).trans (decide_eq_false (by omega))) rfl ?_
    exact s_thr rfl (Nat.le_of_ble_eq_true rfl) rfl
theorem x_goT2 {h : mj_H} {gs pl : Value} {sd be : Int64} (h0 : mj_rd h 0 = some (xC_ gs pl sd be)) {m : Nat} (hm1 : 1 ≤ m) (hm : m ≤ 500) {b p l c : Nat} {w : Bool} {cp cl : Nat → Nat} {cw : Nat → Bool} {z : CZ} {u : Int32} (hR : cRb h 381 375 0 (p, l, c, w, cp, cl, cw) z) : mj_run 0 158 (0, [some (.ref 0), some (.int (nI m)), some (.int u), none], [], h) (.inr h.length, h ++ [.inr (11, [])]) := by
  refine s_ildn (p' := 1) rfl rfl rfl ?_
  refine s_con (p' := 2) rfl rfl ?_
  refine s_icmp (p' := 5) false rfl ((ci_lt (by omega) (by omega)).trans (decide_eq_false (by omega))) rfl ?_
  refine s_ildn (p' := 6) rfl rfl rfl ?_
  refine s_sip (p' := 9) rfl rfl ?_
  refine s_icmp (p' := 22) true rfl ((ci_le (by omega) (by omega)).trans (decide_eq_true (by omega))) rfl ?_
  refine s_aldn (p' := 23) rfl rfl rfl ?_
  refine s_gf (p' := 26) rfl h0 rfl rfl ?_
  refine s_gf (p' := 29) rfl hR.1 rfl rfl ?_
  refine s_if (p' := 32) false rfl (by decide +kernel) rfl ?_
  exact s_thr rfl (Nat.le_of_ble_eq_true rfl) rfl
theorem x_go0 {h : mj_H} {np : Nat} {K : Nat → Nat} {X : Nat → Nat → Nat → Nat} {gs pl : Value} {sd be : Int64} (h0 : mj_rd h 0 = some (xC_ gs pl sd be)) (hl : cLb h np K X) (hp : pOk np K X) {m : Nat} (hm1 : 1 ≤ m) (hm : m ≤ 500) {s : SV} {p l c : Nat} {w : Bool} {cp cl : Nat → Nat} {cw : Nat → Bool} {z : CZ} (hS : cSt h 375 s) (hR : cRn h 381 375 (p, l, c, w, cp, cl, cw) z) (hw : wfR np K (p, l, c, w, cp, cl, cw)) (hn : nrm K (p, l, c, w, cp, cl, cw)) : mj_Wp 7 158 (0, [some (.ref 0), some (.int (nI m)), some (.int (nI 0)), none], [], h) (mz_V fun rv h' => rv = .int (nI (rns np K X m (s, (p, l, c, w, cp, cl, cw))).1) ∧ mj_rd h' 0 = some (xC_ gs pl (sd + Int32.toInt64 (nI (rns np K X m (s, (p, l, c, w, cp, cl, cw))).1)) be) ∧ cSt h' 375 (rns np K X m (s, (p, l, c, w, cp, cl, cw))).2.1.1 ∧ cRn h' 381 375 (rns np K X m (s, (p, l, c, w, cp, cl, cw))).2.1.2 (rns np K X m (s, (p, l, c, w, cp, cl, cw))).2.2 ∧ mz_mo (0 :: cML 381 375) 0 0 h h') := by
  refine s_ildn (p' := 1) rfl rfl rfl ?_
  refine s_con (p' := 2) rfl rfl ?_
  refine s_icmp (p' := 5) false rfl ((ci_lt (by omega) (by omega)).trans (decide_eq_false (by omega))) rfl ?_
  refine s_ildn (p' := 6) rfl rfl rfl ?_
  refine s_sip (p' := 9) rfl rfl ?_
  refine s_icmp (p' := 22) true rfl ((ci_le (by omega) (by omega)).trans (decide_eq_true (by omega))) rfl ?_
  refine s_aldn (p' := 23) rfl rfl rfl ?_
  refine s_gf (p' := 26) rfl h0 rfl rfl ?_
  refine s_gf (p' := 29) rfl hR.c1 rfl rfl ?_
  refine s_if (p' := 42) true rfl (by decide +kernel) rfl ?_
  refine s_ildn (p' := 43) rfl rfl rfl ?_
  refine s_if (p' := 53) true rfl (by decide +kernel) rfl ?_
  refine s_aldn (p' := 54) rfl rfl rfl ?_
  refine s_gf (p' := 57) rfl h0 rfl rfl ?_
  refine s_ildn (p' := 58) rfl rfl rfl ?_
  refine s_callEV (p' := 61) (ls0 := [_, _, _]) rfl rfl rfl rfl rfl (mj_rcv_is hR.c0) rfl (x_adv (m := m) (by decide) (by decide) (by decide) hp hm hw hl hS hR) rfl rfl ?_
  rintro _ h4 ⟨rfl, s4, r4, m4⟩
  rw [cbk_id hn] at s4 r4 ⊢
  have z4 := m4.1 0 (by decide) _ h0
  have m04 := m4
  refine s_istn (p' := 62) (ls' := [_, _, _, _]) rfl rfl rfl rfl ?_
  refine s_aldn (p' := 63) rfl rfl rfl ?_
  refine s_sp (p' := 64) (ls' := _) rfl rfl rfl ?_
  refine s_gf (p' := 67) rfl z4 rfl rfl ?_
  refine s_ildn (p' := 68) rfl rfl rfl ?_
  refine s_sp (p' := 69) (ls' := _) rfl rfl rfl ?_
  refine s_sp (p' := 70) (ls' := _) rfl rfl rfl ?_
  refine s_pf (p' := 73) (fs' := [_, _, _, _, _, _, _, _, _, _, _, _, _, _, _, _, _]) rfl (by decide) z4 (Nat.blt_eq.mp rfl) rfl rfl rfl ?_
  generalize hg : List.set h4 0 _ = h5
  have m5 : mz_mo [0] 0 0 h4 h5 := by rw [← hg]; exact mz_mo.s (mz_mo.rf _ _ _ _) (by decide) z4 rfl (Or.inl (by simp))
  have z5 : mj_rd h5 0 = some (xC_ gs pl (sd + Int32.toInt64 (nI (rns np K X m (s, (p, l, c, w, cp, cl, cw))).1)) be) := by rw [← hg]; exact rd_set (by decide) z4
  clear hg
  refine s_ildn (p' := 74) rfl rfl rfl ?_
  refine s_iret rfl rfl ?_
  exact ⟨_, _, rfl, rfl, z5, s4.fr m5.1 (by decide) (by decide) (by decide), r4.fr m5.1 (by decide), mo00 (m04.wk (fun y hy => Or.inl (List.mem_cons_of_mem _ hy)) (Nat.le_refl _) (Nat.le_refl _)) (m5.wk (fun y hy => Or.inl (by rw [List.mem_singleton] at hy; rw [hy]; exact List.mem_cons_self)) (Nat.le_refl _) (Nat.le_refl _))⟩
theorem x_go1 {h : mj_H} {np : Nat} {K : Nat → Nat} {X : Nat → Nat → Nat → Nat} {gs pl : Value} {sd be : Int64} (h0 : mj_rd h 0 = some (xC_ gs pl sd be)) (hl : cLb h np K X) (hp : pOk np K X) {m : Nat} (hm1 : 1 ≤ m) (hm : m ≤ 500) {s : SV} {p l c : Nat} {w : Bool} {cp cl : Nat → Nat} {cw : Nat → Bool} {z : CZ} (hS : cSt h 375 s) (hR : cRn h 381 375 (p, l, c, w, cp, cl, cw) z) (hw : wfR np K (p, l, c, w, cp, cl, cw)) : mj_Wp 7 158 (0, [some (.ref 0), some (.int (nI m)), some (.int (nI 1)), none], [], h) (mz_V fun rv h' => rv = .int (nI (rns np K X m (s, (cbk K 20 (trn (p, l, c, w, cp, cl, cw))))).1) ∧ mj_rd h' 0 = some (xC_ gs pl (sd + Int32.toInt64 (nI (rns np K X m (s, (cbk K 20 (trn (p, l, c, w, cp, cl, cw))))).1)) be) ∧ cSt h' 375 (rns np K X m (s, (cbk K 20 (trn (p, l, c, w, cp, cl, cw))))).2.1.1 ∧ cRn h' 381 375 (rns np K X m (s, (cbk K 20 (trn (p, l, c, w, cp, cl, cw))))).2.1.2 (rns np K X m (s, (cbk K 20 (trn (p, l, c, w, cp, cl, cw))))).2.2 ∧ mz_mo (0 :: cML 381 375) 0 0 h h') := by
  refine s_ildn (p' := 1) rfl rfl rfl ?_
  refine s_con (p' := 2) rfl rfl ?_
  refine s_icmp (p' := 5) false rfl ((ci_lt (by omega) (by omega)).trans (decide_eq_false (by omega))) rfl ?_
  refine s_ildn (p' := 6) rfl rfl rfl ?_
  refine s_sip (p' := 9) rfl rfl ?_
  refine s_icmp (p' := 22) true rfl ((ci_le (by omega) (by omega)).trans (decide_eq_true (by omega))) rfl ?_
  refine s_aldn (p' := 23) rfl rfl rfl ?_
  refine s_gf (p' := 26) rfl h0 rfl rfl ?_
  refine s_gf (p' := 29) rfl hR.c1 rfl rfl ?_
  refine s_if (p' := 42) true rfl (by decide +kernel) rfl ?_
  refine s_ildn (p' := 43) rfl rfl rfl ?_
  refine s_if (p' := 46) false rfl (by decide +kernel) rfl ?_
  refine s_aldn (p' := 47) rfl rfl rfl ?_
  refine s_gf (p' := 50) rfl h0 rfl rfl ?_
  refine s_callEN (p' := 53) (ls0 := [_, _]) rfl rfl rfl rfl rfl (mj_rcv_is hR.c1) rfl (x_trn (by decide) hw.2.2.1 hR) rfl rfl ?_
  rintro h3 ⟨r3, m3⟩
  have z3 := m3.1 0 (by decide) _ h0
  have s3 := hS.fr m3.1 (by decide) (by decide) (by decide)
  have hl3 := hl.fr m3.1 (fun x hx => by simp only [List.mem_cons, List.not_mem_nil, or_false] at hx; omega)
  refine s_aldn (p' := 54) rfl rfl rfl ?_
  refine s_gf (p' := 57) rfl z3 rfl rfl ?_
  refine s_ildn (p' := 58) rfl rfl rfl ?_
  refine s_callEV (p' := 61) (ls0 := [_, _, _]) rfl rfl rfl rfl rfl (mj_rcv_is r3.c0) rfl (x_adv (m := m) (by decide) (by decide) (by decide) hp hm (trn_wf hw) hl3 s3 r3) rfl rfl ?_
  rintro _ h4 ⟨rfl, s4, r4, m4⟩
  have z4 := m4.1 0 (by decide) _ z3
  have m04 : mz_mo (cML 381 375) 0 0 h h4 := mo00 (mo_ml m3 (fun x hx => cML_m.mpr (by simp only [List.mem_cons, List.not_mem_nil, or_false] at hx; omega))) m4
  refine s_istn (p' := 62) (ls' := [_, _, _, _]) rfl rfl rfl rfl ?_
  refine s_aldn (p' := 63) rfl rfl rfl ?_
  refine s_sp (p' := 64) (ls' := _) rfl rfl rfl ?_
  refine s_gf (p' := 67) rfl z4 rfl rfl ?_
  refine s_ildn (p' := 68) rfl rfl rfl ?_
  refine s_sp (p' := 69) (ls' := _) rfl rfl rfl ?_
  refine s_sp (p' := 70) (ls' := _) rfl rfl rfl ?_
  refine s_pf (p' := 73) (fs' := [_, _, _, _, _, _, _, _, _, _, _, _, _, _, _, _, _]) rfl (by decide) z4 (Nat.blt_eq.mp rfl) rfl rfl rfl ?_
  generalize hg : List.set h4 0 _ = h5
  have m5 : mz_mo [0] 0 0 h4 h5 := by rw [← hg]; exact mz_mo.s (mz_mo.rf _ _ _ _) (by decide) z4 rfl (Or.inl (by simp))
  have z5 : mj_rd h5 0 = some (xC_ gs pl (sd + Int32.toInt64 (nI (rns np K X m (s, (cbk K 20 (trn (p, l, c, w, cp, cl, cw))))).1)) be) := by rw [← hg]; exact rd_set (by decide) z4
  clear hg
  refine s_ildn (p' := 74) rfl rfl rfl ?_
  refine s_iret rfl rfl ?_
  exact ⟨_, _, rfl, rfl, z5, s4.fr m5.1 (by decide) (by decide) (by decide), r4.fr m5.1 (by decide), mo00 (m04.wk (fun y hy => Or.inl (List.mem_cons_of_mem _ hy)) (Nat.le_refl _) (Nat.le_refl _)) (m5.wk (fun y hy => Or.inl (by rw [List.mem_singleton] at hy; rw [hy]; exact List.mem_cons_self)) (Nat.le_refl _) (Nat.le_refl _))⟩
theorem x_runT {h : mj_H} {np : Nat} {K : Nat → Nat} {X : Nat → Nat → Nat → Nat} {gs pl : Value} {sd be : Int64} (h0 : mj_rd h 0 = some (xC_ gs pl sd be)) (hl : cLb h np K X) {p : Int32} (hpr : p.toInt < 0 ∨ (np : Int) ≤ p.toInt) {w : Int32} : mj_run 1 193 (0, [some (.ref 0), some (.int p), some (.int w), none], [], h) (.inr h.length, h ++ [.inr (14, [])]) := by
  refine s_aldn (p' := 1) rfl rfl rfl ?_
  refine s_gf (p' := 4) rfl h0 rfl rfl ?_
  refine s_ildn (p' := 5) rfl rfl rfl ?_
  refine s_callV (p' := 8) (ls0 := [_, _]) rfl rfl rfl rfl rfl (mj_rcv_is hl.2.1) rfl (x_hasF hl.2.1 hl.1 hpr) (by first | decide | omega) rfl ?_
  refine s_if (p' := 11) false rfl (by decide +kernel) rfl ?_
  exact s_thr rfl (Nat.le_of_ble_eq_true rfl) rfl
theorem x_run {h : mj_H} {np : Nat} {K : Nat → Nat} {X : Nat → Nat → Nat → Nat} {gs pl : Value} {sd be : Int64} (h0 : mj_rd h 0 = some (xC_ gs pl sd be)) (hl : cLb h np K X) {q : Nat} (hq : q < np) (hp : pOk np K X) {s s0 : SV} {b p l c : Nat} {w v : Bool} {cp cl : Nat → Nat} {cw : Nat → Bool} {z : CZ} (hS : cSt h 375 s) (hT : cSt h 378 s0) (hR : cRb h 387 378 b (p, l, c, w, cp, cl, cw) z) (he : edd K (rns np K X 500 (s, bgn K q v (fun _ => 0) (fun _ => 0) (fun _ => false))).2.1.2 = true) : mj_Wp 9 193 (0, [some (.ref 0), some (.int (nI q)), some (.int (nI (bN v))), none], [], h) (mz_V fun rv h' => rv = .int (nI (rns np K X 500 (s, bgn K q v (fun _ => 0) (fun _ => 0) (fun _ => false))).1) ∧ mj_rd h' 0 = some (xC_ gs pl (sd + Int32.toInt64 (nI (rns np K X 500 (s, bgn K q v (fun _ => 0) (fun _ => 0) (fun _ => false))).1)) be) ∧ cSt h' 375 (rns np K X 500 (s, bgn K q v (fun _ => 0) (fun _ => 0) (fun _ => false))).2.1.1 ∧ (∃ s0, cSt h' 378 s0) ∧ (∃ r z, cRb h' 387 378 1 r z) ∧ mz_mo ([0, 375, 376, 377] ++ cML 387 378) 0 0 h h') := by
  refine s_aldn (p' := 1) rfl rfl rfl ?_
  refine s_gf (p' := 4) rfl h0 rfl rfl ?_
  refine s_ildn (p' := 5) rfl rfl rfl ?_
  refine s_callV (p' := 8) (ls0 := [_, _]) rfl rfl rfl rfl rfl (mj_rcv_is hl.2.1) rfl (x_lhas hl.2.1 hl.1 (by have := hl.1; omega)) (by first | decide | omega) rfl ?_
  refine s_if (p' := 21) true rfl (by rw [decide_eq_true hq]; decide +kernel) rfl ?_
  refine s_aldn (p' := 22) rfl rfl rfl ?_
  refine s_gf (p' := 25) rfl h0 rfl rfl ?_
  refine s_aldn (p' := 26) rfl rfl rfl ?_
  refine s_gf (p' := 29) rfl h0 rfl rfl ?_
  refine s_callEN (p' := 32) (ls0 := [_, _]) rfl rfl rfl rfl rfl (mj_rcv_is hT.1) rfl (x_cpy (by decide) (by decide) (Or.inl (by decide)) hS hT) rfl rfl ?_
  rintro h1 ⟨s1, m1⟩
  have z1 := m1.1 0 (by decide) _ h0
  have q1 := hS.fr m1.1 (by decide) (by decide) (by decide)
  have r1 : cRb h1 387 378 b (p, l, c, w, cp, cl, cw) z := ⟨m1.1 387 (by decide) _ hR.1, hR.2.1.fr m1.1 (by decide) (by decide) (by decide), hR.2.2.fr m1.1 (by decide) (by decide)⟩
  have hl1 := hl.fr m1.1 (fun x hx => by simp only [List.mem_cons, List.not_mem_nil, or_false] at hx; omega)
  refine s_aldn (p' := 33) rfl rfl rfl ?_
  refine s_gf (p' := 36) rfl z1 rfl rfl ?_
  refine s_ildn (p' := 37) rfl rfl rfl ?_
  refine s_ildn (p' := 38) rfl rfl rfl ?_
  refine s_callEN (p' := 41) (ls0 := [_, _, _]) rfl rfl rfl rfl rfl (mj_rcv_is r1.1) rfl (x_bgn (v := v) (by decide) r1 (by decide) hl1 hq) rfl rfl ?_
  rintro h2 ⟨r2, m2⟩
  replace r2 := r2.bz
  have z2 := m2.1 0 (by decide) _ z1
  have q2 := q1.fr m2.1 (by decide) (by decide) (by decide)
  have s2 := s1.R (R := 387) (by decide) m2
  have hl2 := hl1.fr m2.1 (fun x hx => by rw [List.mem_singleton] at hx; omega)
  refine s_aldn (p' := 42) rfl rfl rfl ?_
  refine s_gf (p' := 45) rfl z2 rfl rfl ?_
  refine s_sip (p' := 48) rfl rfl ?_
  refine s_callEV (p' := 51) (ls0 := [_, _, _]) rfl rfl rfl rfl rfl (mj_rcv_is r2.c0) rfl (x_adv (m := 500) (by decide) (by decide) (by decide) hp (by decide) (bgn_wf hq) hl2 s2 r2) rfl rfl ?_
  rintro _ h4 ⟨rfl, s4, r4, m4⟩
  rw [bgn_cbk] at s4 r4 ⊢
  have z4 := m4.1 0 (by decide) _ z2
  have q4 := q2.fr m4.1 (by decide) (by decide) (by decide)
  have hl4 := hl2.fr m4.1 (fun x hx => cML_ge (by decide) (by decide) hx)
  have wf4 := (rns_wf hp 500 (s, bgn K q v (fun _ => 0) (fun _ => 0) (fun _ => false)) (bgn_wf hq) bgn_nrm).1
  have m04 : mz_mo (cML 387 378) 0 0 h h4 := mo00 (mo_ml m1 (fun x hx => cML_m.mpr (by simp only [List.mem_cons, List.not_mem_nil, or_false] at hx; omega))) (mo00 (mo_ml m2 (fun x hx => cML_m.mpr (by rw [List.mem_singleton] at hx; omega))) m4)
  generalize (rns np K X 500 (s, bgn K q v (fun _ => 0) (fun _ => 0) (fun _ => false))) = R at *
  obtain ⟨n4, ⟨sv4, p4, l4, c4, w4, cp4, cl4, cw4⟩, z9⟩ := R
  obtain ⟨k1, k2, k3, k4⟩ := wf4
  have k5 := (hp.2 p4 k1).1
  refine s_istn (p' := 52) (ls' := [_, _, _, _]) rfl rfl rfl rfl ?_
  refine s_aldn (p' := 53) rfl rfl rfl ?_
  refine s_gf (p' := 56) rfl z4 rfl rfl ?_
  refine s_callV (p' := 59) (ls0 := [_]) rfl rfl rfl rfl rfl (mj_rcv_is r4.c1) rfl (x_edd (by decide) r4 hl4 k1 k5 (by omega) k3) (by first | decide | omega) rfl ?_
  refine s_if (p' := 73) true rfl (by rw [show edd K (p4, l4, c4, w4, cp4, cl4, cw4) = true from he]; decide +kernel) rfl ?_
  refine s_aldn (p' := 74) rfl rfl rfl ?_
  refine s_gf (p' := 77) rfl z4 rfl rfl ?_
  refine s_aldn (p' := 78) rfl rfl rfl ?_
  refine s_gf (p' := 81) rfl z4 rfl rfl ?_
  refine s_callEN (p' := 84) (ls0 := [_, _]) rfl rfl rfl rfl rfl (mj_rcv_is q4.1) rfl (x_cpy (by decide) (by decide) (Or.inr (by decide)) s4 q4) rfl rfl ?_
  rintro h5 ⟨s5, m5⟩
  have z5 := m5.1 0 (by decide) _ z4
  have s6 := s4.fr m5.1 (by decide) (by decide) (by decide)
  have r6 := r4.fr m5.1 (by decide)
  refine s_aldn (p' := 85) rfl rfl rfl ?_
  refine s_sp (p' := 86) (ls' := _) rfl rfl rfl ?_
  refine s_gf (p' := 89) rfl z5 rfl rfl ?_
  refine s_ildn (p' := 90) rfl rfl rfl ?_
  refine s_sp (p' := 91) (ls' := _) rfl rfl rfl ?_
  refine s_sp (p' := 92) (ls' := _) rfl rfl rfl ?_
  refine s_pf (p' := 95) (fs' := [_, _, _, _, _, _, _, _, _, _, _, _, _, _, _, _, _]) rfl (by decide) z5 (Nat.blt_eq.mp rfl) rfl rfl rfl ?_
  generalize hg : List.set h5 0 _ = h6
  have m6 : mz_mo [0] 0 0 h5 h6 := by rw [← hg]; exact mz_mo.s (mz_mo.rf _ _ _ _) (by decide) z5 rfl (Or.inl (by simp))
  have z6 : mj_rd h6 0 = some (xC_ gs pl (sd + Int32.toInt64 (nI n4)) be) := by rw [← hg]; exact rd_set (by decide) z5
  clear hg
  refine s_ildn (p' := 96) rfl rfl rfl ?_
  refine s_iret rfl rfl ?_
  exact ⟨_, _, rfl, rfl, z6, s5.fr m6.1 (by decide) (by decide) (by decide), ⟨_, s6.fr m6.1 (by decide) (by decide) (by decide)⟩, ⟨_, _, (r6.fr m6.1 (by decide)).b⟩, mo00 (mo00 (m04.wk (fun y hy => Or.inl (List.mem_append_right _ hy)) (Nat.le_refl _) (Nat.le_refl _)) (m5.wk (fun y hy => Or.inl (by simp only [List.mem_cons, List.not_mem_nil, or_false] at hy; rcases hy with rfl | rfl | rfl <;> simp)) (Nat.le_refl _) (Nat.le_refl _))) (m6.wk (fun y hy => Or.inl (by rw [List.mem_singleton] at hy; rw [hy]; simp)) (Nat.le_refl _) (Nat.le_refl _))⟩
theorem x_runE {h : mj_H} {np : Nat} {K : Nat → Nat} {X : Nat → Nat → Nat → Nat} {gs pl : Value} {sd be : Int64} (h0 : mj_rd h 0 = some (xC_ gs pl sd be)) (hl : cLb h np K X) {q : Nat} (hq : q < np) (hp : pOk np K X) {s s0 : SV} {b p l c : Nat} {w v : Bool} {cp cl : Nat → Nat} {cw : Nat → Bool} {z : CZ} (hS : cSt h 375 s) (hT : cSt h 378 s0) (hR : cRb h 387 378 b (p, l, c, w, cp, cl, cw) z) (he : edd K (rns np K X 500 (s, bgn K q v (fun _ => 0) (fun _ => 0) (fun _ => false))).2.1.2 = false) (hb : h.length + 10 < mj_CB) : mj_Wp 9 193 (0, [some (.ref 0), some (.int (nI q)), some (.int (nI (bN v))), none], [], h) (fun o => ∃ (qq : Nat) (g : mj_H), o = (.inr qq, g) ∧ qq < mj_CB ∧ mj_rd g qq = some (.inr (15, [])) ∧ (∃ s0, cSt g 378 s0) ∧ (∃ r z, cRb g 387 378 1 r z) ∧ mz_mo (cML 387 378) 1 6 h g) := by
  refine s_aldn (p' := 1) rfl rfl rfl ?_
  refine s_gf (p' := 4) rfl h0 rfl rfl ?_
  refine s_ildn (p' := 5) rfl rfl rfl ?_
  refine s_callV (p' := 8) (ls0 := [_, _]) rfl rfl rfl rfl rfl (mj_rcv_is hl.2.1) rfl (x_lhas hl.2.1 hl.1 (by have := hl.1; omega)) (by first | decide | omega) rfl ?_
  refine s_if (p' := 21) true rfl (by rw [decide_eq_true hq]; decide +kernel) rfl ?_
  refine s_aldn (p' := 22) rfl rfl rfl ?_
  refine s_gf (p' := 25) rfl h0 rfl rfl ?_
  refine s_aldn (p' := 26) rfl rfl rfl ?_
  refine s_gf (p' := 29) rfl h0 rfl rfl ?_
  refine s_callEN (p' := 32) (ls0 := [_, _]) rfl rfl rfl rfl rfl (mj_rcv_is hT.1) rfl (x_cpy (by decide) (by decide) (Or.inl (by decide)) hS hT) rfl rfl ?_
  rintro h1 ⟨s1, m1⟩
  have z1 := m1.1 0 (by decide) _ h0
  have q1 := hS.fr m1.1 (by decide) (by decide) (by decide)
  have r1 : cRb h1 387 378 b (p, l, c, w, cp, cl, cw) z := ⟨m1.1 387 (by decide) _ hR.1, hR.2.1.fr m1.1 (by decide) (by decide) (by decide), hR.2.2.fr m1.1 (by decide) (by decide)⟩
  have hl1 := hl.fr m1.1 (fun x hx => by simp only [List.mem_cons, List.not_mem_nil, or_false] at hx; omega)
  refine s_aldn (p' := 33) rfl rfl rfl ?_
  refine s_gf (p' := 36) rfl z1 rfl rfl ?_
  refine s_ildn (p' := 37) rfl rfl rfl ?_
  refine s_ildn (p' := 38) rfl rfl rfl ?_
  refine s_callEN (p' := 41) (ls0 := [_, _, _]) rfl rfl rfl rfl rfl (mj_rcv_is r1.1) rfl (x_bgn (v := v) (by decide) r1 (by decide) hl1 hq) rfl rfl ?_
  rintro h2 ⟨r2, m2⟩
  replace r2 := r2.bz
  have z2 := m2.1 0 (by decide) _ z1
  have q2 := q1.fr m2.1 (by decide) (by decide) (by decide)
  have s2 := s1.R (R := 387) (by decide) m2
  have hl2 := hl1.fr m2.1 (fun x hx => by rw [List.mem_singleton] at hx; omega)
  refine s_aldn (p' := 42) rfl rfl rfl ?_
  refine s_gf (p' := 45) rfl z2 rfl rfl ?_
  refine s_sip (p' := 48) rfl rfl ?_
  refine s_callEV (p' := 51) (ls0 := [_, _, _]) rfl rfl rfl rfl rfl (mj_rcv_is r2.c0) rfl (x_adv (m := 500) (by decide) (by decide) (by decide) hp (by decide) (bgn_wf hq) hl2 s2 r2) rfl rfl ?_
  rintro _ h4 ⟨rfl, s4, r4, m4⟩
  rw [bgn_cbk] at s4 r4 ⊢
  have z4 := m4.1 0 (by decide) _ z2
  have q4 := q2.fr m4.1 (by decide) (by decide) (by decide)
  have hl4 := hl2.fr m4.1 (fun x hx => cML_ge (by decide) (by decide) hx)
  have wf4 := (rns_wf hp 500 (s, bgn K q v (fun _ => 0) (fun _ => 0) (fun _ => false)) (bgn_wf hq) bgn_nrm).1
  have m04 : mz_mo (cML 387 378) 0 0 h h4 := mo00 (mo_ml m1 (fun x hx => cML_m.mpr (by simp only [List.mem_cons, List.not_mem_nil, or_false] at hx; omega))) (mo00 (mo_ml m2 (fun x hx => cML_m.mpr (by rw [List.mem_singleton] at hx; omega))) m4)
  generalize (rns np K X 500 (s, bgn K q v (fun _ => 0) (fun _ => 0) (fun _ => false))) = R at *
  obtain ⟨n4, ⟨sv4, p4, l4, c4, w4, cp4, cl4, cw4⟩, z9⟩ := R
  obtain ⟨k1, k2, k3, k4⟩ := wf4
  have k5 := (hp.2 p4 k1).1
  refine s_istn (p' := 52) (ls' := [_, _, _, _]) rfl rfl rfl rfl ?_
  refine s_aldn (p' := 53) rfl rfl rfl ?_
  refine s_gf (p' := 56) rfl z4 rfl rfl ?_
  refine s_callV (p' := 59) (ls0 := [_]) rfl rfl rfl rfl rfl (mj_rcv_is r4.c1) rfl (x_edd (by decide) r4 hl4 k1 k5 (by omega) k3) (by first | decide | omega) rfl ?_
  refine s_if (p' := 62) false rfl (by rw [show edd K (p4, l4, c4, w4, cp4, cl4, cw4) = false from he]; decide +kernel) rfl ?_
  refine s_thr rfl (Nat.le_of_ble_eq_true rfl) ?_
  exact ⟨_, _, rfl, by have := mo_le m04; omega, rd_nw (Nat.blt_eq.mpr (by have := mo_le m04; omega)) rfl, s4.fr (mz_mo.ap [] _ _).1 (by simp) (by simp) (by simp) |> fun q => ⟨_, q⟩, ⟨_, _, (r4.fr (mz_mo.ap [] _ _).1 (by simp)).b⟩, m04.tr (mz_mo.ap [] _ _) (fun y hy => by cases hy) (by decide) (Nat.le_refl _)⟩
theorem x_imgT {h : mj_H} {np : Nat} {K : Nat → Nat} {X : Nat → Nat → Nat → Nat} {gs pl : Value} {sd be : Int64} (h0 : mj_rd h 0 = some (xC_ gs pl sd be)) (hl : cLb h np K X) {p : Int32} (hpr : p.toInt < 0 ∨ (np : Int) ≤ p.toInt) {v y : Int32} : mj_run 1 200 (0, [some (.ref 0), some (.int p), some (.int v), some (.int y)], [], h) (.inr h.length, h ++ [.inr (14, [])]) := by
  refine s_aldn (p' := 1) rfl rfl rfl ?_
  refine s_gf (p' := 4) rfl h0 rfl rfl ?_
  refine s_ildn (p' := 5) rfl rfl rfl ?_
  refine s_callV (p' := 8) (ls0 := [_, _]) rfl rfl rfl rfl rfl (mj_rcv_is hl.2.1) rfl (x_hasF hl.2.1 hl.1 hpr) (by first | decide | omega) rfl ?_
  refine s_if (p' := 11) false rfl (by decide +kernel) rfl ?_
  exact s_thr rfl (Nat.le_of_ble_eq_true rfl) rfl
theorem x_imgV {h : mj_H} {np : Nat} {K : Nat → Nat} {X : Nat → Nat → Nat → Nat} {gs pl : Value} {sd be : Int64} (h0 : mj_rd h 0 = some (xC_ gs pl sd be)) (hl : cLb h np K X) {q : Nat} (hq : q < np) {v : Nat} {y : Int32} (hv : v < 65536) (hvb : vB v = false) : mj_run 1 200 (0, [some (.ref 0), some (.int (nI q)), some (.int (nI v)), some (.int y)], [], h) (.inr h.length, h ++ [.inr (13, [])]) := by
  refine s_aldn (p' := 1) rfl rfl rfl ?_
  refine s_gf (p' := 4) rfl h0 rfl rfl ?_
  refine s_ildn (p' := 5) rfl rfl rfl ?_
  refine s_callV (p' := 8) (ls0 := [_, _]) rfl rfl rfl rfl rfl (mj_rcv_is hl.2.1) rfl (x_lhas hl.2.1 hl.1 (by have := hl.1; omega)) (by first | decide | omega) rfl ?_
  refine s_if (p' := 21) true rfl (by rw [decide_eq_true hq]; decide +kernel) rfl ?_
  refine s_ildn (p' := 22) rfl rfl rfl ?_
  refine s_callV (p' := 25) (ls0 := [_]) rfl rfl rfl rfl rfl rfl rfl (x_isc hv) (by first | decide | omega) rfl ?_
  refine s_if (p' := 28) false rfl (by rw [hvb]; decide +kernel) rfl ?_
  exact s_thr rfl (Nat.le_of_ble_eq_true rfl) rfl
theorem x_img {h : mj_H} {np : Nat} {K : Nat → Nat} {X : Nat → Nat → Nat → Nat} {gs pl : Value} {sd be : Int64} (h0 : mj_rd h 0 = some (xC_ gs pl sd be)) (hl : cLb h np K X) {q : Nat} (hq : q < np) (hp : pOk np K X) {sv st : Nat → Int32} {t : Nat} {s0 : SV} {j b p l c : Nat} {y : Int32} {w : Bool} {cp cl : Nat → Nat} {cw : Nat → Bool} {z : CZ} (hS : cSt h 375 (sv, st, t)) (hT : cSt h 378 s0) (hR : cRb h 387 378 b (p, l, c, w, cp, cl, cw) z) (hj : j < 8) (he : edd K (rns np K X 500 ((upd sv j y, st, t), bgn K q true (fun _ => 0) (fun _ => 0) (fun _ => false))).2.1.2 = true) : mj_Wp 10 200 (0, [some (.ref 0), some (.int (nI q)), some (.int (nI (97 + j))), some (.int y)], [], h) (mz_V fun rv h' => rv = .int ((rns np K X 500 ((upd sv j y, st, t), bgn K q true (fun _ => 0) (fun _ => 0) (fun _ => false))).2.1.1.1 j) ∧ (∃ s0, cSt h' 378 s0) ∧ (∃ r z, cRb h' 387 378 1 r z) ∧ mz_mo (cML 387 378) 0 0 h h') := by
  refine s_aldn (p' := 1) rfl rfl rfl ?_
  refine s_gf (p' := 4) rfl h0 rfl rfl ?_
  refine s_ildn (p' := 5) rfl rfl rfl ?_
  refine s_callV (p' := 8) (ls0 := [_, _]) rfl rfl rfl rfl rfl (mj_rcv_is hl.2.1) rfl (x_lhas hl.2.1 hl.1 (by have := hl.1; omega)) (by first | decide | omega) rfl ?_
  refine s_if (p' := 21) true rfl (by rw [decide_eq_true hq]; decide +kernel) rfl ?_
  refine s_ildn (p' := 22) rfl rfl rfl ?_
  refine s_callV (p' := 25) (ls0 := [_]) rfl rfl rfl rfl rfl rfl rfl (x_isc (c := 97 + j) (by omega)) (by first | decide | omega) rfl ?_
  refine s_if (p' := 38) true rfl (by rw [show vB (97 + j) = true from decide_eq_true (by omega)]; decide +kernel) rfl ?_
  refine s_aldn (p' := 39) rfl rfl rfl ?_
  refine s_ildn (p' := 40) rfl rfl rfl ?_
  refine s_ildn (p' := 41) rfl rfl rfl ?_
  refine s_bip (p' := 43) rfl rfl ?_
  refine s_sp (p' := 44) (ls' := _) rfl rfl rfl ?_
  rw [mI_sub (by omega), show 97 + j - 97 = j by omega]
  refine s_ildn (p' := 45) rfl rfl rfl ?_
  refine s_callEV (p' := 48) (ls0 := [_, _, _, _]) rfl rfl rfl rfl rfl (mj_rcv_is h0) rfl (x_try0 hp h0 hS hT hR hl hq hj (y := y)) rfl rfl ?_
  rintro _ h1 ⟨rfl, s1, r1, m1⟩
  have z1 := m1.1 0 (by decide) _ h0
  have wf4 := (rns_wf hp 500 ((upd sv j y, st, t), bgn K q true (fun _ => 0) (fun _ => 0) (fun _ => false)) (bgn_wf hq) bgn_nrm).1
  generalize (rns np K X 500 ((upd sv j y, st, t), bgn K q true (fun _ => 0) (fun _ => 0) (fun _ => false))) = R at *
  obtain ⟨n4, ⟨⟨sv4, st4, t4⟩, r4⟩, z9⟩ := R
  refine s_if (p' := 62) true rfl (by rw [show edd K r4 = true from he]; decide +kernel) rfl ?_
  refine s_aldn (p' := 63) rfl rfl rfl ?_
  refine s_gf (p' := 66) rfl z1 rfl rfl ?_
  refine s_ildn (p' := 67) rfl rfl rfl ?_
  refine s_bip (p' := 69) rfl rfl ?_
  refine s_sp (p' := 70) (ls' := _) rfl rfl rfl ?_
  rw [mI_sub (by omega), show 97 + j - 97 = j by omega]
  refine s_callV (p' := 73) (ls0 := [_, _]) rfl rfl rfl rfl rfl (mj_rcv_is s1.1) rfl (x_val (by decide) s1 hj) (by first | decide | omega) rfl ?_
  refine s_iret rfl rfl ?_
  exact ⟨_, _, rfl, rfl, ⟨_, s1⟩, ⟨_, _, r1.b⟩, m1⟩
theorem x_imgE {h : mj_H} {np : Nat} {K : Nat → Nat} {X : Nat → Nat → Nat → Nat} {gs pl : Value} {sd be : Int64} (h0 : mj_rd h 0 = some (xC_ gs pl sd be)) (hl : cLb h np K X) {q : Nat} (hq : q < np) (hp : pOk np K X) {sv st : Nat → Int32} {t : Nat} {s0 : SV} {j b p l c : Nat} {y : Int32} {w : Bool} {cp cl : Nat → Nat} {cw : Nat → Bool} {z : CZ} (hS : cSt h 375 (sv, st, t)) (hT : cSt h 378 s0) (hR : cRb h 387 378 b (p, l, c, w, cp, cl, cw) z) (hj : j < 8) (he : edd K (rns np K X 500 ((upd sv j y, st, t), bgn K q true (fun _ => 0) (fun _ => 0) (fun _ => false))).2.1.2 = false) (hb : h.length + 10 < mj_CB) : mj_Wp 10 200 (0, [some (.ref 0), some (.int (nI q)), some (.int (nI (97 + j))), some (.int y)], [], h) (fun o => ∃ (qq : Nat) (g : mj_H), o = (.inr qq, g) ∧ qq < mj_CB ∧ mj_rd g qq = some (.inr (12, [])) ∧ (∃ s0, cSt g 378 s0) ∧ (∃ r z, cRb g 387 378 1 r z) ∧ mz_mo (cML 387 378) 1 6 h g) := by
  refine s_aldn (p' := 1) rfl rfl rfl ?_
  refine s_gf (p' := 4) rfl h0 rfl rfl ?_
  refine s_ildn (p' := 5) rfl rfl rfl ?_
  refine s_callV (p' := 8) (ls0 := [_, _]) rfl rfl rfl rfl rfl (mj_rcv_is hl.2.1) rfl (x_lhas hl.2.1 hl.1 (by have := hl.1; omega)) (by first | decide | omega) rfl ?_
  refine s_if (p' := 21) true rfl (by rw [decide_eq_true hq]; decide +kernel) rfl ?_
  refine s_ildn (p' := 22) rfl rfl rfl ?_
  refine s_callV (p' := 25) (ls0 := [_]) rfl rfl rfl rfl rfl rfl rfl (x_isc (c := 97 + j) (by omega)) (by first | decide | omega) rfl ?_
  refine s_if (p' := 38) true rfl (by rw [show vB (97 + j) = true from decide_eq_true (by omega)]; decide +kernel) rfl ?_
  refine s_aldn (p' := 39) rfl rfl rfl ?_
  refine s_ildn (p' := 40) rfl rfl rfl ?_
  refine s_ildn (p' := 41) rfl rfl rfl ?_
  refine s_bip (p' := 43) rfl rfl ?_
  refine s_sp (p' := 44) (ls' := _) rfl rfl rfl ?_
  rw [mI_sub (by omega), show 97 + j - 97 = j by omega]
  refine s_ildn (p' := 45) rfl rfl rfl ?_
  refine s_callEV (p' := 48) (ls0 := [_, _, _, _]) rfl rfl rfl rfl rfl (mj_rcv_is h0) rfl (x_try0 hp h0 hS hT hR hl hq hj (y := y)) rfl rfl ?_
  rintro _ h1 ⟨rfl, s1, r1, m1⟩
  have z1 := m1.1 0 (by decide) _ h0
  have wf4 := (rns_wf hp 500 ((upd sv j y, st, t), bgn K q true (fun _ => 0) (fun _ => 0) (fun _ => false)) (bgn_wf hq) bgn_nrm).1
  generalize (rns np K X 500 ((upd sv j y, st, t), bgn K q true (fun _ => 0) (fun _ => 0) (fun _ => false))) = R at *
  obtain ⟨n4, ⟨⟨sv4, st4, t4⟩, r4⟩, z9⟩ := R
  refine s_if (p' := 51) false rfl (by rw [show edd K r4 = false from he]; decide +kernel) rfl ?_
  refine s_thr rfl (Nat.le_of_ble_eq_true rfl) ?_
  exact ⟨_, _, rfl, by have := mo_le m1; omega, rd_nw (Nat.blt_eq.mpr (by have := mo_le m1; omega)) rfl, ⟨_, s1.fr (mz_mo.ap [] _ _).1 (by simp) (by simp) (by simp)⟩, ⟨_, _, (r1.fr (mz_mo.ap [] _ _).1 (by simp)).b⟩, m1.tr (mz_mo.ap [] _ _) (fun y hy => by cases hy) (by decide) (Nat.le_refl _)⟩
