/-! The reference: a run begun, going on, as a whole; what becomes of a variable. -/
theorem yLb.gn {I : Nat → Prop} {h g : mj_H} {L : List Nat} {np : Nat} {K : Nat → Nat} {X : Nat → Nat → Nat → Nat} (a : yLb I h np K X) (e : mz_fr L h g) (h4 : ∃ (m0 m2 m3 m4 m5 m6 m7 m8 m9 m10 : Value), mj_rd g 400 = some (.inr (17, [m0, .ref 401, m2, m3, m4, m5, m6, m7, m8, m9, m10]))) (hL : ∀ x, x ∈ L → ¬ I x ∧ x ≠ 401 ∧ ∃ c, mj_rd h x = some c ∧ ∀ y, c ≠ .inl (6, y)) : yLb I g np K X := by
  obtain ⟨_, Ep, PF, l, hB, pr⟩ := a
  have m : Mv I I L h g := ⟨e, hB, fun a ha _ => ⟨fun hx => (hL a hx).1 ha, ha⟩⟩
  refine ⟨h4, Ep, PF, ?_, hB, fun p hp => (pr p hp).mv m⟩
  have l0 := l
  obtain ⟨cap, mc, ef, l1, l2, l3, l4, l5, l6⟩ := l0
  refine l.fr e (fun hx => (hL _ hx).2.1 rfl) (fun hx => ?_) (fun j hj hx => ?_)
  · obtain ⟨c, c1, c2⟩ := (hL _ hx).2.2
    rw [rdA_lt l2] at c1
    exact c2 _ (Option.some.inj c1).symm
  · obtain ⟨_, _, _, _, _, i1, _⟩ := pr j hj
    exact (hL _ hx).1 i1
theorem m4s {h : mj_H} {th th' : Int32} {ty ty' wa nw nx wa' nw' nx' : Value} {sd be sd' be' : Int64} (h4 : mj_rd h 400 = some (yC_ th ty sd be wa nw nx)) : mz_mo [400] 0 0 h (h.set 400 (yC_ th' ty' sd' be' wa' nw' nx')) := mz_mo.s (mz_mo.rf _ _ _ _) (by decide) h4 rfl (Or.inl (by simp))
theorem yLb.th {I : Nat → Prop} {h : mj_H} {np : Nat} {K : Nat → Nat} {X : Nat → Nat → Nat → Nat} (a : yLb I h np K X) {th th' : Int32} {ty ty' wa nw nx wa' nw' nx' : Value} {sd be sd' be' : Int64} (h4 : mj_rd h 400 = some (yC_ th ty sd be wa nw nx)) (hI4 : ¬ I 400) : yLb I (h.set 400 (yC_ th' ty' sd' be' wa' nw' nx')) np K X :=
  a.gn (L := [400]) (m4s (th' := th') (ty' := ty') (sd' := sd') (be' := be') (wa' := wa') (nw' := nw') (nx' := nx') h4).1 ⟨_, _, _, _, _, _, _, _, _, _, rd_set (by decide) h4⟩ (fun x hx => by
    rw [List.mem_singleton] at hx
    subst hx
    exact ⟨hI4, by decide, _, h4, fun y e => by cases e⟩)
theorem yLb.ap {I : Nat → Prop} {h g : mj_H} {np : Nat} {K : Nat → Nat} {X : Nat → Nat → Nat → Nat} (a : yLb I h np K X) (e : mz_fr [] h g) : yLb I g np K X := by
  obtain ⟨m0, m2, m3, m4, m5, m6, m7, m8, m9, m10, r⟩ := a.1
  exact a.gn e ⟨m0, m2, m3, m4, m5, m6, m7, m8, m9, m10, e _ List.not_mem_nil _ r⟩ (fun x hx => absurd hx List.not_mem_nil)
theorem yWl.fr {h g : mj_H} {L : List Nat} {W : Nat} {s : SS} {z : CZ} (a : yWl h W s z) (e : mz_fr L h g) (hL : ∀ x, x ∈ L → x < W ∨ W + 8 ≤ x) : yWl g W s z := by
  have no : ∀ k, k < 8 → W + k ∉ L := fun k hk hx => by have := hL _ hx; omega
  obtain ⟨a0, st, rn, wy⟩ := a
  exact ⟨e _ (no 0 (by decide)) _ a0, st.fr e (no 1 (by decide)) (no 2 (by decide)), rn.fr e (no 3 (by decide)) (no 4 (by decide)) (no 5 (by decide)), wy.fr e (no 6 (by decide)) (no 7 (by decide))⟩
theorem yWb.row {h : mj_H} {W j t : Nat} {v st : Nat → Int32} {vf : Nat → Int32} {y : Int32} (bW : W + 8 < mj_CB) (a : yWb h W (v, st, t)) (a1 : mj_rd h (W + 1) = some (.inl (0, (8, .inl vf)))) (b1 : ∀ k, k < 8 → vf k = v k) (hj : j < 8) : yWb (h.set (W + 1) (.inl (0, (8, .inl (upd vf j y))))) W (upd v j y, st, t) := by
  have m : mz_mo [W + 1] 0 0 h (h.set (W + 1) (.inl (0, (8, .inl (upd vf j y))))) := mz_mo.s (mz_mo.rf _ _ _ _) (by omega) a1 rfl (Or.inl (by simp))
  have e := m.1
  obtain ⟨⟨cn, d, a0⟩, ⟨_, ⟨tf, c2, c3⟩, k⟩, ⟨f3, a3⟩, ⟨f4, a4⟩, ⟨f5, a5, b5⟩, lf, nf, a6, a7⟩ := a
  have no : ∀ i, i ≠ 1 → W + i ∉ [W + 1] := fun i hi hx => by rw [List.mem_singleton] at hx; omega
  refine ⟨⟨cn, d, e _ (no 0 (by decide)) _ a0⟩, ⟨⟨_, rd_set (by omega) a1, fun i hi => upd_ag (b1 i hi)⟩, ⟨tf, e _ (no 2 (by decide)) _ c2, c3⟩, k⟩, ⟨f3, e _ (no 3 (by decide)) _ a3⟩, ⟨f4, e _ (no 4 (by decide)) _ a4⟩, ⟨f5, e _ (no 5 (by decide)) _ a5, b5⟩, lf, nf, e _ (no 6 (by decide)) _ a6, e _ (no 7 (by decide)) _ a7⟩
theorem y_isp {I : Nat → Prop} {h : mj_H} {np : Nat} {K : Nat → Nat} {X : Nat → Nat → Nat → Nat} (hl : yLb I h np K X) (hn : np ≤ 6) {q : Nat} (hq : q < np) : mj_run 1 357 (0, [some (.ref 400), some (.int (nI q))], [], h) (.inl (some (.int (nI 1))), h) := by
  obtain ⟨⟨m0, m2, m3, m4, m5, m6, m7, m8, m9, m10, r0⟩, Ep, PF, yl, hB, pr⟩ := id hl
  obtain ⟨cap, mc, ef, l1, _⟩ := yl
  refine s_ildn (p' := 1) rfl rfl rfl ?_
  refine s_con (p' := 2) rfl rfl ?_
  refine s_aldn (p' := 3) rfl rfl rfl ?_
  refine s_gf (p' := 6) rfl r0 rfl rfl ?_
  refine s_callV (p' := 11) (ls0 := [_]) rfl rfl rfl rfl rfl (mj_rcv_is l1) rfl (y_siz l1) (by first | decide | omega) rfl ?_
  refine s_con (p' := 12) rfl rfl ?_
  refine s_sp (p' := 13) (ls' := _) rfl rfl rfl ?_
  rw [mI_sub (by omega)]
  refine s_callV (p' := 16) (ls0 := [_, _, _]) rfl rfl rfl rfl rfl rfl rfl (y_btw (by omega) (by decide) (by omega)) (by first | decide | omega) rfl ?_
  rw [decide_eq_true (show 0 ≤ q ∧ q ≤ np - 1 by omega)]
  exact s_iret rfl (by decide +kernel) rfl
theorem y_ispF0 {I : Nat → Prop} {h : mj_H} {np : Nat} {K : Nat → Nat} {X : Nat → Nat → Nat → Nat} (hl : yLb I h np K X)  (hz : np = 0) {p : Int32} (hpr : p.toInt < 0 ∨ (np : Int) ≤ p.toInt) : mj_run 2 357 (0, [some (.ref 400), some (.int p)], [], h) (.inl (some (.int (nI 0))), h) := by
  subst hz
  obtain ⟨⟨m0, m2, m3, m4, m5, m6, m7, m8, m9, m10, r0⟩, Ep, PF, yl, hB, pr⟩ := id hl
  obtain ⟨cap, mc, ef, l1, _⟩ := yl
  refine s_ildn (p' := 1) rfl rfl rfl ?_
  refine s_con (p' := 2) rfl rfl ?_
  refine s_aldn (p' := 3) rfl rfl rfl ?_
  refine s_gf (p' := 6) rfl r0 rfl rfl ?_
  refine s_callV (p' := 11) (ls0 := [_]) rfl rfl rfl rfl rfl (mj_rcv_is l1) rfl (y_siz l1) (by first | decide | omega) rfl ?_
  refine s_con (p' := 12) rfl rfl ?_
  refine s_sp (p' := 13) (ls' := _) rfl rfl rfl ?_
  rw [show nI 0 - nI 1 = nI 4294967295 from by decide +kernel]
  refine c_call (p' := 16) (kc := 1) (ls0 := [_, _, _]) rfl rfl rfl rfl rfl rfl rfl rfl rfl ?_
  refine s_ildn (p' := 1) rfl rfl rfl ?_
  refine s_ildn (p' := 2) rfl rfl rfl ?_
  by_cases q1 : p.toInt < 0
  · refine s_icmp (p' := 14) true rfl ((ch_gt (w := 0) (by decide +kernel)).trans (decide_eq_true (by omega))) rfl ?_
    refine s_con (p' := 15) rfl rfl ?_
    refine c_iret rfl rfl ?_
    exact s_iret rfl rfl rfl
  · refine s_icmp (p' := 5) false rfl ((ch_gt (w := 0) (by decide +kernel)).trans (decide_eq_false (by omega))) rfl ?_
    refine s_ildn (p' := 6) rfl rfl rfl ?_
    refine s_ildn (p' := 7) rfl rfl rfl ?_
    refine s_icmp (p' := 14) true rfl ((cg_gt (w := -1) (by decide +kernel)).trans (decide_eq_true (by omega))) rfl ?_
    refine s_con (p' := 15) rfl rfl ?_
    refine c_iret rfl rfl ?_
    exact s_iret rfl rfl rfl
theorem y_ispF1 {I : Nat → Prop} {h : mj_H} {np : Nat} {K : Nat → Nat} {X : Nat → Nat → Nat → Nat} (hl : yLb I h np K X)  (hn : np ≤ 6) (hz : 0 < np) {p : Int32} (hpr : p.toInt < 0 ∨ (np : Int) ≤ p.toInt) : mj_run 2 357 (0, [some (.ref 400), some (.int p)], [], h) (.inl (some (.int (nI 0))), h) := by
  obtain ⟨⟨m0, m2, m3, m4, m5, m6, m7, m8, m9, m10, r0⟩, Ep, PF, yl, hB, pr⟩ := id hl
  obtain ⟨cap, mc, ef, l1, _⟩ := yl
  refine s_ildn (p' := 1) rfl rfl rfl ?_
  refine s_con (p' := 2) rfl rfl ?_
  refine s_aldn (p' := 3) rfl rfl rfl ?_
  refine s_gf (p' := 6) rfl r0 rfl rfl ?_
  refine s_callV (p' := 11) (ls0 := [_]) rfl rfl rfl rfl rfl (mj_rcv_is l1) rfl (y_siz l1) (by first | decide | omega) rfl ?_
  refine s_con (p' := 12) rfl rfl ?_
  refine s_sp (p' := 13) (ls' := _) rfl rfl rfl ?_
  rw [mI_sub (by omega)]
  refine c_call (p' := 16) (kc := 1) (ls0 := [_, _, _]) rfl rfl rfl rfl rfl rfl rfl rfl rfl ?_
  refine s_ildn (p' := 1) rfl rfl rfl ?_
  refine s_ildn (p' := 2) rfl rfl rfl ?_
  by_cases q1 : p.toInt < 0
  · refine s_icmp (p' := 14) true rfl ((ch_gt (w := 0) (by decide +kernel)).trans (decide_eq_true (by omega))) rfl ?_
    refine s_con (p' := 15) rfl rfl ?_
    refine c_iret rfl rfl ?_
    exact s_iret rfl rfl rfl
  · refine s_icmp (p' := 5) false rfl ((ch_gt (w := 0) (by decide +kernel)).trans (decide_eq_false (by omega))) rfl ?_
    refine s_ildn (p' := 6) rfl rfl rfl ?_
    refine s_ildn (p' := 7) rfl rfl rfl ?_
    refine s_icmp (p' := 14) true rfl ((cg_gt (mI_ti (by omega))).trans (decide_eq_true (by omega))) rfl ?_
    refine s_con (p' := 15) rfl rfl ?_
    refine c_iret rfl rfl ?_
    exact s_iret rfl rfl rfl
theorem y_ispF {I : Nat → Prop} {h : mj_H} {np : Nat} {K : Nat → Nat} {X : Nat → Nat → Nat → Nat} (hl : yLb I h np K X) (hn : np ≤ 6) {p : Int32} (hpr : p.toInt < 0 ∨ (np : Int) ≤ p.toInt) : mj_run 2 357 (0, [some (.ref 400), some (.int p)], [], h) (.inl (some (.int (nI 0))), h) := by
  by_cases q : np = 0
  · exact y_ispF0 hl q hpr
  · exact y_ispF1 hl hn (by omega) hpr
theorem y_isvC {h : mj_H} {v : Nat} (hv : v < 65536) : mj_run 1 373 (0, [some (.int (nI v))], [], h) (.inl (some (.int (nI (bN (vB v))))), h) := by
  refine s_ildn (p' := 1) rfl rfl rfl ?_
  refine s_bip (p' := 3) rfl rfl ?_
  refine s_bip (p' := 5) rfl rfl ?_
  refine s_callV (p' := 8) (ls0 := [_, _, _]) rfl rfl rfl rfl rfl rfl rfl (y_btw (by omega) (by decide) (by decide)) (by decide) rfl ?_
  exact s_iret rfl (by cases (decide (97 ≤ v ∧ v ≤ 104)) <;> decide +kernel) rfl
theorem y_strT {I : Nat → Prop} {h : mj_H} {np : Nat} {K : Nat → Nat} {X : Nat → Nat → Nat → Nat} (hl : yLb I h np K X) (hn : np ≤ 6) {th : Int32} {sd be : Int64} {ty wa nw nx : Value} (h4 : mj_rd h 400 = some (yC_ th ty sd be wa nw nx)) (hI4 : ¬ I 400) {p : Int32} (hpr : p.toInt < 0 ∨ (np : Int) ≤ p.toInt) {u : Int32} : mj_Wp 4 377 (0, [some (.ref 400), some (.int p), some (.int u)], [], h) (mz_V fun rv h' => rv = .int (nI 0) ∧ mj_rd h' 400 = some (yC_ (nI 1) ty sd be wa nw nx) ∧ mz_mo [400] 0 0 h h') := by
  refine s_aldn (p' := 1) rfl rfl rfl ?_
  refine s_aldn (p' := 2) rfl rfl rfl ?_
  refine s_ildn (p' := 3) rfl rfl rfl ?_
  refine s_callV (p' := 6) (ls0 := [_, _]) rfl rfl rfl rfl rfl (mj_rcv_is h4) rfl (y_ispF hl hn hpr) (by first | decide | omega) rfl ?_
  refine s_if (p' := 13) true rfl (by decide +kernel) rfl ?_
  refine s_con (p' := 14) rfl rfl ?_
  refine c_call (p' := 17) (kc := 3) (ls0 := [_, _]) rfl rfl rfl rfl rfl (mj_rcv_is h4) rfl rfl rfl ?_
  refine s_aldn (p' := 1) rfl rfl rfl ?_
  refine s_ildn (p' := 2) rfl rfl rfl ?_
  refine s_pf (p' := 5) (fs' := [_, _, _, _, _, _, _, _, _, _, _]) rfl (by decide) h4 (Nat.blt_eq.mp rfl) rfl rfl rfl ?_
  have hlx := yLb.th (th' := nI 1) (ty' := ty) (sd' := sd) (be' := be) (wa' := wa) (nw' := nw) (nx' := nx) hl h4 hI4
  have mx := m4s (th' := nI 1) (ty' := ty) (sd' := sd) (be' := be) (wa' := wa) (nw' := nw) (nx' := nx) h4
  have y1 : mj_rd (List.set h 400 (yC_ (nI 1) ty sd be wa nw nx)) 400 = some (yC_ (nI 1) ty sd be wa nw nx) := rd_set (by decide) h4
  generalize hg : List.set h 400 _ = k1 at *
  clear hg
  refine s_ildn (p' := 6) rfl rfl rfl ?_
  refine s_if (p' := 9) false rfl (by decide +kernel) rfl ?_
  refine s_con (p' := 10) rfl rfl ?_
  refine s_goto (p' := 14) rfl rfl ?_
  refine c_iret rfl rfl ?_
  refine s_if (p' := 20) false rfl (by decide +kernel) rfl ?_
  refine s_con (p' := 21) rfl rfl ?_
  refine s_iret rfl rfl ?_
  exact ⟨_, _, rfl, rfl, y1, mx⟩
theorem y_str {I : Nat → Prop} {h : mj_H} {np : Nat} {K : Nat → Nat} {X : Nat → Nat → Nat → Nat} (hl : yLb I h np K X) (hn : np ≤ 6) {th : Int32} {sd be : Int64} {ty wa nw nx : Value} (h4 : mj_rd h 400 = some (yC_ th ty sd be wa nw nx)) (hI4 : ¬ I 400) (hI : ∀ x, x ∈ wML 402 → ¬ I x) {q : Nat} (hq : q < np) {v : Bool} {s : SV} (cp cl : Nat → Nat) (cw : Nat → Bool) (hy : yWb h 402 s) (hk : K q ≤ 30) : mj_Wp 9 377 (0, [some (.ref 400), some (.int (nI q)), some (.int (nI (bN v)))], [], h) (mz_V fun rv h' => rv = .int (nI (if v = true then 0 else K q)) ∧ mj_rd h' 400 = some (yC_ (nI 0) ty sd be wa nw nx) ∧ yWl h' 402 (s, bgn K q v cp cl cw) z0 ∧ mz_mo (400 :: wML 402) 0 0 h h') := by
  obtain ⟨v0, st0, t0⟩ := s
  refine s_aldn (p' := 1) rfl rfl rfl ?_
  refine s_aldn (p' := 2) rfl rfl rfl ?_
  refine s_ildn (p' := 3) rfl rfl rfl ?_
  refine s_callV (p' := 6) (ls0 := [_, _]) rfl rfl rfl rfl rfl (mj_rcv_is h4) rfl (y_isp hl hn hq) (by first | decide | omega) rfl ?_
  refine s_if (p' := 9) false rfl (by decide +kernel) rfl ?_
  refine s_con (p' := 10) rfl rfl ?_
  refine s_goto (p' := 14) rfl rfl ?_
  refine c_call (p' := 17) (kc := 3) (ls0 := [_, _]) rfl rfl rfl rfl rfl (mj_rcv_is h4) rfl rfl rfl ?_
  refine s_aldn (p' := 1) rfl rfl rfl ?_
  refine s_ildn (p' := 2) rfl rfl rfl ?_
  refine s_pf (p' := 5) (fs' := [_, _, _, _, _, _, _, _, _, _, _]) rfl (by decide) h4 (Nat.blt_eq.mp rfl) rfl rfl rfl ?_
  have hlx := yLb.th (th' := nI 0) (ty' := ty) (sd' := sd) (be' := be) (wa' := wa) (nw' := nw) (nx' := nx) hl h4 hI4
  have mx := m4s (th' := nI 0) (ty' := ty) (sd' := sd) (be' := be) (wa' := wa) (nw' := nw) (nx' := nx) h4
  have y1 : mj_rd (List.set h 400 (yC_ (nI 0) ty sd be wa nw nx)) 400 = some (yC_ (nI 0) ty sd be wa nw nx) := rd_set (by decide) h4
  generalize hg : List.set h 400 _ = k1 at *
  clear hg
  have w1 := hy.fr mx.1 (fun x hx => by rw [List.mem_singleton] at hx; omega)
  refine s_ildn (p' := 6) rfl rfl rfl ?_
  refine s_if (p' := 13) true rfl (by decide +kernel) rfl ?_
  refine s_con (p' := 14) rfl rfl ?_
  refine c_iret rfl rfl ?_
  refine s_if (p' := 22) true rfl (by decide +kernel) rfl ?_
  refine s_aldn (p' := 23) rfl rfl rfl ?_
  refine s_gf (p' := 26) rfl y1 rfl rfl ?_
  refine s_ildn (p' := 27) rfl rfl rfl ?_
  refine s_ildn (p' := 28) rfl rfl rfl ?_
  refine s_callEN (p' := 31) (ls0 := [_, _, _]) rfl rfl rfl rfl rfl (by obtain ⟨⟨_, _, zz⟩, _⟩ := id w1; exact mj_rcv_is zz) rfl (y_sts (b := v) cp cl cw (by decide) hI hn hlx w1 hq hk) rfl rfl ?_
  rintro h2 ⟨w2, m2⟩
  have y2 := m2.1 400 (by decide) _ y1
  obtain ⟨r2, _, ⟨_, ⟨f4, a4, _, b4⟩, _⟩, _⟩ := id w2
  refine s_aldn (p' := 32) rfl rfl rfl ?_
  refine s_gf (p' := 35) rfl y2 rfl rfl ?_
  refine s_gf (p' := 38) rfl r2 rfl rfl ?_
  refine s_con (p' := 39) rfl rfl ?_
  refine s_ial (p' := 40) rfl a4 (by decide) rfl ?_
  rw [show f4 (Int32.toNatClampNeg (nI 0)) = nI (if v = true then 0 else K q) from b4]
  refine s_iret rfl rfl ?_
  exact ⟨_, _, rfl, rfl, y2, w2, mo00 (mx.wk (fun y hy => Or.inl (by rw [List.mem_singleton] at hy; rw [hy]; exact List.mem_cons_self)) (Nat.le_refl _) (Nat.le_refl _)) (m2.wk (fun y hy => Or.inl (List.mem_cons_of_mem _ hy)) (Nat.le_refl _) (Nat.le_refl _))⟩
theorem y_bt5 {h : mj_H} {p : Int32} (hpr : p.toInt < 1 ∨ (500 : Int) < p.toInt) : mj_run 0 311 (0, [some (.int p), some (.int (nI 1)), some (.int (nI 500))], [], h) (.inl (some (.int (nI 0))), h) := by
  refine s_ildn (p' := 1) rfl rfl rfl ?_
  refine s_ildn (p' := 2) rfl rfl rfl ?_
  by_cases q1 : p.toInt < 1
  · refine s_icmp (p' := 14) true rfl ((ch_gt (mI_ti (by decide))).trans (decide_eq_true (by omega))) rfl ?_
    refine s_con (p' := 15) rfl rfl ?_
    exact s_iret rfl rfl rfl
  · refine s_icmp (p' := 5) false rfl ((ch_gt (mI_ti (by decide))).trans (decide_eq_false (by omega))) rfl ?_
    refine s_ildn (p' := 6) rfl rfl rfl ?_
    refine s_ildn (p' := 7) rfl rfl rfl ?_
    refine s_icmp (p' := 14) true rfl ((cg_gt (mI_ti (by decide))).trans (decide_eq_true (by omega))) rfl ?_
    refine s_con (p' := 15) rfl rfl ?_
    exact s_iret rfl rfl rfl
theorem y_goT1 {I : Nat → Prop} {h : mj_H} {np : Nat} {K : Nat → Nat} {X : Nat → Nat → Nat → Nat} (hl : yLb I h np K X) (hn : np ≤ 6) {th : Int32} {sd be : Int64} {ty wa nw nx : Value} (h4 : mj_rd h 400 = some (yC_ th ty sd be wa nw nx)) (hI4 : ¬ I 400) {p : Int32} (hpr : p.toInt < 1 ∨ (500 : Int) < p.toInt) {u : Int32} : mj_Wp 4 379 (0, [some (.ref 400), some (.int p), some (.int u), none], [], h) (mz_V fun rv h' => rv = .int (nI 0) ∧ mj_rd h' 400 = some (yC_ (nI 1) ty sd be wa nw nx) ∧ mz_mo [400] 0 0 h h') := by
  refine s_aldn (p' := 1) rfl rfl rfl ?_
  refine s_ildn (p' := 2) rfl rfl rfl ?_
  refine s_con (p' := 3) rfl rfl ?_
  refine s_sip (p' := 6) rfl rfl ?_
  refine s_callV (p' := 9) (ls0 := [_, _, _]) rfl rfl rfl rfl rfl rfl rfl (y_bt5 hpr) (by first | decide | omega) rfl ?_
  refine s_if (p' := 12) false rfl (by decide +kernel) rfl ?_
  refine s_con (p' := 13) rfl rfl ?_
  refine s_goto (p' := 32) rfl rfl ?_
  refine c_call (p' := 35) (kc := 3) (ls0 := [_, _]) rfl rfl rfl rfl rfl (mj_rcv_is h4) rfl rfl rfl ?_
  refine s_aldn (p' := 1) rfl rfl rfl ?_
  refine s_ildn (p' := 2) rfl rfl rfl ?_
  refine s_pf (p' := 5) (fs' := [_, _, _, _, _, _, _, _, _, _, _]) rfl (by decide) h4 (Nat.blt_eq.mp rfl) rfl rfl rfl ?_
  have hlx := yLb.th (th' := nI 1) (ty' := ty) (sd' := sd) (be' := be) (wa' := wa) (nw' := nw) (nx' := nx) hl h4 hI4
  have mx := m4s (th' := nI 1) (ty' := ty) (sd' := sd) (be' := be) (wa' := wa) (nw' := nw) (nx' := nx) h4
  have y1 : mj_rd (List.set h 400 (yC_ (nI 1) ty sd be wa nw nx)) 400 = some (yC_ (nI 1) ty sd be wa nw nx) := rd_set (by decide) h4
  generalize hg : List.set h 400 _ = k1 at *
  clear hg
  refine s_ildn (p' := 6) rfl rfl rfl ?_
  refine s_if (p' := 9) false rfl (by decide +kernel) rfl ?_
  refine s_con (p' := 10) rfl rfl ?_
  refine s_goto (p' := 14) rfl rfl ?_
  refine c_iret rfl rfl ?_
  refine s_if (p' := 38) false rfl (by decide +kernel) rfl ?_
  refine s_con (p' := 39) rfl rfl ?_
  refine s_iret rfl rfl ?_
  exact ⟨_, _, rfl, rfl, y1, mx⟩
theorem y_goT2 {I : Nat → Prop} {h : mj_H} {np : Nat} {K : Nat → Nat} {X : Nat → Nat → Nat → Nat} (hl : yLb I h np K X) (hn : np ≤ 6) {th : Int32} {sd be : Int64} {ty wa nw nx : Value} (h4 : mj_rd h 400 = some (yC_ th ty sd be wa nw nx)) (hI4 : ¬ I 400) {m : Nat} (hm1 : 1 ≤ m) (hm : m ≤ 500) {u : Int32} {t cn : Nat} (hW : mj_rd h 402 = some (wrB 402 t cn (nI 4294967295))) : mj_Wp 4 379 (0, [some (.ref 400), some (.int (nI m)), some (.int u), none], [], h) (mz_V fun rv h' => rv = .int (nI 0) ∧ mj_rd h' 400 = some (yC_ (nI 2) ty sd be wa nw nx) ∧ mz_mo [400] 0 0 h h') := by
  refine s_aldn (p' := 1) rfl rfl rfl ?_
  refine s_ildn (p' := 2) rfl rfl rfl ?_
  refine s_con (p' := 3) rfl rfl ?_
  refine s_sip (p' := 6) rfl rfl ?_
  refine s_callV (p' := 9) (ls0 := [_, _, _]) rfl rfl rfl rfl rfl rfl rfl (y_btw (by omega) (by decide) (by decide)) (by first | decide | omega) rfl ?_
  refine s_if (p' := 16) true rfl (by rw [decide_eq_true (show 1 ≤ m ∧ m ≤ 500 from ⟨hm1, hm⟩)]; decide +kernel) rfl ?_
  refine s_aldn (p' := 17) rfl rfl rfl ?_
  refine s_gf (p' := 20) rfl h4 rfl rfl ?_
  refine s_gf (p' := 23) rfl hW rfl rfl ?_
  refine s_con (p' := 24) rfl rfl ?_
  refine s_icmp (p' := 27) false rfl (by decide +kernel) rfl ?_
  refine s_con (p' := 28) rfl rfl ?_
  refine s_goto (p' := 32) rfl rfl ?_
  refine c_call (p' := 35) (kc := 3) (ls0 := [_, _]) rfl rfl rfl rfl rfl (mj_rcv_is h4) rfl rfl rfl ?_
  refine s_aldn (p' := 1) rfl rfl rfl ?_
  refine s_ildn (p' := 2) rfl rfl rfl ?_
  refine s_pf (p' := 5) (fs' := [_, _, _, _, _, _, _, _, _, _, _]) rfl (by decide) h4 (Nat.blt_eq.mp rfl) rfl rfl rfl ?_
  have hlx := yLb.th (th' := nI 2) (ty' := ty) (sd' := sd) (be' := be) (wa' := wa) (nw' := nw) (nx' := nx) hl h4 hI4
  have mx := m4s (th' := nI 2) (ty' := ty) (sd' := sd) (be' := be) (wa' := wa) (nw' := nw) (nx' := nx) h4
  have y1 : mj_rd (List.set h 400 (yC_ (nI 2) ty sd be wa nw nx)) 400 = some (yC_ (nI 2) ty sd be wa nw nx) := rd_set (by decide) h4
  generalize hg : List.set h 400 _ = k1 at *
  clear hg
  refine s_ildn (p' := 6) rfl rfl rfl ?_
  refine s_if (p' := 9) false rfl (by decide +kernel) rfl ?_
  refine s_con (p' := 10) rfl rfl ?_
  refine s_goto (p' := 14) rfl rfl ?_
  refine c_iret rfl rfl ?_
  refine s_if (p' := 38) false rfl (by decide +kernel) rfl ?_
  refine s_con (p' := 39) rfl rfl ?_
  refine s_iret rfl rfl ?_
  exact ⟨_, _, rfl, rfl, y1, mx⟩
theorem y_go0 {I : Nat → Prop} {h : mj_H} {np : Nat} {K : Nat → Nat} {X : Nat → Nat → Nat → Nat} (hl : yLb I h np K X) (hn : np ≤ 6) {th : Int32} {sd be : Int64} {ty wa nw nx : Value} (h4 : mj_rd h 400 = some (yC_ th ty sd be wa nw nx)) (hI4 : ¬ I 400) (hI : ∀ x, x ∈ wML 402 → ¬ I x) (hp : pOk np K X) {m : Nat} (hm1 : 1 ≤ m) (hm : m ≤ 500) {v0 st0 : Nat → Int32} {t0 : Nat} {p l c : Nat} {w : Bool} {cp cl : Nat → Nat} {cw : Nat → Bool} {z : CZ} (hy : yWl h 402 ((v0, st0, t0), (p, l, c, w, cp, cl, cw)) z) (hw : wfR np K (p, l, c, w, cp, cl, cw)) (hnr : nrm K (p, l, c, w, cp, cl, cw)) (hz : z = z0 ∨ (0 < m ∧ edd K (p, l, c, w, cp, cl, cw) = false)) : mj_Wp 15 379 (0, [some (.ref 400), some (.int (nI m)), some (.int (nI 0)), none], [], h) (mz_V fun rv h' => rv = .int (nI (rns np K X m ((v0, st0, t0), (p, l, c, w, cp, cl, cw))).1) ∧ mj_rd h' 400 = some (yC_ (nI 0) ty (sd + Int32.toInt64 (nI (rns np K X m ((v0, st0, t0), (p, l, c, w, cp, cl, cw))).1)) be wa nw nx) ∧ yWl h' 402 (rns np K X m ((v0, st0, t0), (p, l, c, w, cp, cl, cw))).2.1 (rns np K X m ((v0, st0, t0), (p, l, c, w, cp, cl, cw))).2.2 ∧ mz_mo (400 :: wML 402) 0 0 h h') := by
  refine s_aldn (p' := 1) rfl rfl rfl ?_
  refine s_ildn (p' := 2) rfl rfl rfl ?_
  refine s_con (p' := 3) rfl rfl ?_
  refine s_sip (p' := 6) rfl rfl ?_
  refine s_callV (p' := 9) (ls0 := [_, _, _]) rfl rfl rfl rfl rfl rfl rfl (y_btw (by omega) (by decide) (by decide)) (by first | decide | omega) rfl ?_
  refine s_if (p' := 16) true rfl (by rw [decide_eq_true (show 1 ≤ m ∧ m ≤ 500 from ⟨hm1, hm⟩)]; decide +kernel) rfl ?_
  refine s_aldn (p' := 17) rfl rfl rfl ?_
  refine s_gf (p' := 20) rfl h4 rfl rfl ?_
  refine s_gf (p' := 23) rfl hy.1 rfl rfl ?_
  refine s_con (p' := 24) rfl rfl ?_
  refine s_icmp (p' := 31) true rfl ((cg_ne (w := -1) (by decide +kernel)).trans (decide_eq_true (by rw [mI_ti (by have : c ≤ 20 := hw.2.2.1; show c < 2147483648; omega)]; show ¬ ((c : Nat) : Int) = -1; omega))) rfl ?_
  refine s_con (p' := 32) rfl rfl ?_
  refine c_call (p' := 35) (kc := 3) (ls0 := [_, _]) rfl rfl rfl rfl rfl (mj_rcv_is h4) rfl rfl rfl ?_
  refine s_aldn (p' := 1) rfl rfl rfl ?_
  refine s_ildn (p' := 2) rfl rfl rfl ?_
  refine s_pf (p' := 5) (fs' := [_, _, _, _, _, _, _, _, _, _, _]) rfl (by decide) h4 (Nat.blt_eq.mp rfl) rfl rfl rfl ?_
  have hlx := yLb.th (th' := nI 0) (ty' := ty) (sd' := sd) (be' := be) (wa' := wa) (nw' := nw) (nx' := nx) hl h4 hI4
  have mx := m4s (th' := nI 0) (ty' := ty) (sd' := sd) (be' := be) (wa' := wa) (nw' := nw) (nx' := nx) h4
  have y1 : mj_rd (List.set h 400 (yC_ (nI 0) ty sd be wa nw nx)) 400 = some (yC_ (nI 0) ty sd be wa nw nx) := rd_set (by decide) h4
  generalize hg : List.set h 400 _ = k1 at *
  clear hg
  have w1 := hy.fr mx.1 (fun x hx => by rw [List.mem_singleton] at hx; omega)
  refine s_ildn (p' := 6) rfl rfl rfl ?_
  refine s_if (p' := 13) true rfl (by decide +kernel) rfl ?_
  refine s_con (p' := 14) rfl rfl ?_
  refine c_iret rfl rfl ?_
  refine s_if (p' := 40) true rfl (by decide +kernel) rfl ?_
  refine s_ildn (p' := 41) rfl rfl rfl ?_
  refine s_if (p' := 51) true rfl (by decide +kernel) rfl ?_
  refine s_aldn (p' := 52) rfl rfl rfl ?_
  refine s_gf (p' := 55) rfl y1 rfl rfl ?_
  refine s_ildn (p' := 56) rfl rfl rfl ?_
  refine s_callEV (p' := 59) (ls0 := [_, _, _]) rfl rfl rfl rfl rfl (mj_rcv_is w1.1) rfl (y_rns (m := m) (by decide) hI hp hm hw hnr hz hlx w1) rfl rfl ?_
  rintro _ h4_ ⟨rfl, w4, m4⟩
  have y4 := m4.1 400 (by decide) _ y1
  have mx9 := mx.wk (L' := 400 :: wML 402) (k := 0) (z := 0) (fun y hy => Or.inl (by rw [List.mem_singleton] at hy; rw [hy]; exact List.mem_cons_self)) (Nat.le_refl _) (Nat.le_refl _)
  have m04 : mz_mo (400 :: wML 402) 0 0 h h4_ := mo00 mx9 (m4.wk (fun y hy => Or.inl (List.mem_cons_of_mem _ hy)) (Nat.le_refl _) (Nat.le_refl _))
  refine s_istn (p' := 60) (ls' := [_, _, _, _]) rfl rfl rfl rfl ?_
  refine s_aldn (p' := 61) rfl rfl rfl ?_
  refine s_sp (p' := 62) (ls' := _) rfl rfl rfl ?_
  refine s_gf (p' := 65) rfl y4 rfl rfl ?_
  refine s_ildn (p' := 66) rfl rfl rfl ?_
  refine s_sp (p' := 67) (ls' := _) rfl rfl rfl ?_
  refine s_sp (p' := 68) (ls' := _) rfl rfl rfl ?_
  refine s_pf (p' := 71) (fs' := [_, _, _, _, _, _, _, _, _, _, _]) rfl (by decide) y4 (Nat.blt_eq.mp rfl) rfl rfl rfl ?_
  have m5 := m4s (th' := nI 0) (ty' := ty) (sd' := sd + Int32.toInt64 (nI (rns np K X m ((v0, st0, t0), (p, l, c, w, cp, cl, cw))).1)) (be' := be) (wa' := wa) (nw' := nw) (nx' := nx) y4
  have y5 : mj_rd (List.set h4_ 400 (yC_ (nI 0) ty (sd + Int32.toInt64 (nI (rns np K X m ((v0, st0, t0), (p, l, c, w, cp, cl, cw))).1)) be wa nw nx)) 400 = some (yC_ (nI 0) ty (sd + Int32.toInt64 (nI (rns np K X m ((v0, st0, t0), (p, l, c, w, cp, cl, cw))).1)) be wa nw nx) := rd_set (by decide) y4
  have w5 := w4.fr m5.1 (fun x hx => by rw [List.mem_singleton] at hx; omega)
  refine s_ildn (p' := 72) rfl rfl rfl ?_
  refine s_iret rfl rfl ?_
  exact ⟨_, _, rfl, rfl, y5, w5, mo00 m04 (m5.wk (fun y hy => Or.inl (by rw [List.mem_singleton] at hy; rw [hy]; exact List.mem_cons_self)) (Nat.le_refl _) (Nat.le_refl _))⟩
theorem y_go1 {I : Nat → Prop} {h : mj_H} {np : Nat} {K : Nat → Nat} {X : Nat → Nat → Nat → Nat} (hl : yLb I h np K X) (hn : np ≤ 6) {th : Int32} {sd be : Int64} {ty wa nw nx : Value} (h4 : mj_rd h 400 = some (yC_ th ty sd be wa nw nx)) (hI4 : ¬ I 400) (hI : ∀ x, x ∈ wML 402 → ¬ I x) (hp : pOk np K X) {m : Nat} (hm1 : 1 ≤ m) (hm : m ≤ 500) {v0 st0 : Nat → Int32} {t0 : Nat} {p l c : Nat} {w : Bool} {cp cl : Nat → Nat} {cw : Nat → Bool} {z : CZ} (hy : yWl h 402 ((v0, st0, t0), (p, l, c, w, cp, cl, cw)) z) (hw : wfR np K (p, l, c, w, cp, cl, cw)) : mj_Wp 15 379 (0, [some (.ref 400), some (.int (nI m)), some (.int (nI 1)), none], [], h) (mz_V fun rv h' => rv = .int (nI (rns np K X m ((v0, st0, t0), (cbk K 20 (trn (p, l, c, w, cp, cl, cw))))).1) ∧ mj_rd h' 400 = some (yC_ (nI 0) ty (sd + Int32.toInt64 (nI (rns np K X m ((v0, st0, t0), (cbk K 20 (trn (p, l, c, w, cp, cl, cw))))).1)) be wa nw nx) ∧ yWl h' 402 (rns np K X m ((v0, st0, t0), (cbk K 20 (trn (p, l, c, w, cp, cl, cw))))).2.1 (rns np K X m ((v0, st0, t0), (cbk K 20 (trn (p, l, c, w, cp, cl, cw))))).2.2 ∧ mz_mo (400 :: wML 402) 0 0 h h') := by
  refine s_aldn (p' := 1) rfl rfl rfl ?_
  refine s_ildn (p' := 2) rfl rfl rfl ?_
  refine s_con (p' := 3) rfl rfl ?_
  refine s_sip (p' := 6) rfl rfl ?_
  refine s_callV (p' := 9) (ls0 := [_, _, _]) rfl rfl rfl rfl rfl rfl rfl (y_btw (by omega) (by decide) (by decide)) (by first | decide | omega) rfl ?_
  refine s_if (p' := 16) true rfl (by rw [decide_eq_true (show 1 ≤ m ∧ m ≤ 500 from ⟨hm1, hm⟩)]; decide +kernel) rfl ?_
  refine s_aldn (p' := 17) rfl rfl rfl ?_
  refine s_gf (p' := 20) rfl h4 rfl rfl ?_
  refine s_gf (p' := 23) rfl hy.1 rfl rfl ?_
  refine s_con (p' := 24) rfl rfl ?_
  refine s_icmp (p' := 31) true rfl ((cg_ne (w := -1) (by decide +kernel)).trans (decide_eq_true (by rw [mI_ti (by have : c ≤ 20 := hw.2.2.1; show c < 2147483648; omega)]; show ¬ ((c : Nat) : Int) = -1; omega))) rfl ?_
  refine s_con (p' := 32) rfl rfl ?_
  refine c_call (p' := 35) (kc := 3) (ls0 := [_, _]) rfl rfl rfl rfl rfl (mj_rcv_is h4) rfl rfl rfl ?_
  refine s_aldn (p' := 1) rfl rfl rfl ?_
  refine s_ildn (p' := 2) rfl rfl rfl ?_
  refine s_pf (p' := 5) (fs' := [_, _, _, _, _, _, _, _, _, _, _]) rfl (by decide) h4 (Nat.blt_eq.mp rfl) rfl rfl rfl ?_
  have hlx := yLb.th (th' := nI 0) (ty' := ty) (sd' := sd) (be' := be) (wa' := wa) (nw' := nw) (nx' := nx) hl h4 hI4
  have mx := m4s (th' := nI 0) (ty' := ty) (sd' := sd) (be' := be) (wa' := wa) (nw' := nw) (nx' := nx) h4
  have y1 : mj_rd (List.set h 400 (yC_ (nI 0) ty sd be wa nw nx)) 400 = some (yC_ (nI 0) ty sd be wa nw nx) := rd_set (by decide) h4
  generalize hg : List.set h 400 _ = k1 at *
  clear hg
  have w1 := hy.fr mx.1 (fun x hx => by rw [List.mem_singleton] at hx; omega)
  refine s_ildn (p' := 6) rfl rfl rfl ?_
  refine s_if (p' := 13) true rfl (by decide +kernel) rfl ?_
  refine s_con (p' := 14) rfl rfl ?_
  refine c_iret rfl rfl ?_
  refine s_if (p' := 40) true rfl (by decide +kernel) rfl ?_
  refine s_ildn (p' := 41) rfl rfl rfl ?_
  refine s_if (p' := 44) false rfl (by decide +kernel) rfl ?_
  refine s_aldn (p' := 45) rfl rfl rfl ?_
  refine s_gf (p' := 48) rfl y1 rfl rfl ?_
  refine s_callEN (p' := 51) (ls0 := [_, _]) rfl rfl rfl rfl rfl (mj_rcv_is w1.1) rfl (y_trn (by decide) hI hp hw hlx w1) rfl rfl ?_
  rintro h2 ⟨w2, m2⟩
  have y2 := m2.1 400 (by decide) _ y1
  have hl2 := hlx.fr m2.1 w1 (fun x hx => hx) hI
  refine s_aldn (p' := 52) rfl rfl rfl ?_
  refine s_gf (p' := 55) rfl y2 rfl rfl ?_
  refine s_ildn (p' := 56) rfl rfl rfl ?_
  refine s_callEV (p' := 59) (ls0 := [_, _, _]) rfl rfl rfl rfl rfl (mj_rcv_is w2.1) rfl (y_rns (m := m) (by decide) hI hp hm (cbk_wf 20 _ (trn_wf hw)) (cbk_nrm 20 _ hw.2.2.1) (Or.inl rfl) hl2 w2) rfl rfl ?_
  rintro _ h4_ ⟨rfl, w4, m4⟩
  have y4 := m4.1 400 (by decide) _ y2
  have mx9 := mx.wk (L' := 400 :: wML 402) (k := 0) (z := 0) (fun y hy => Or.inl (by rw [List.mem_singleton] at hy; rw [hy]; exact List.mem_cons_self)) (Nat.le_refl _) (Nat.le_refl _)
  have m04 : mz_mo (400 :: wML 402) 0 0 h h4_ := mo00 (mo00 mx9 (m2.wk (fun y hy => Or.inl (List.mem_cons_of_mem _ hy)) (Nat.le_refl _) (Nat.le_refl _))) (m4.wk (fun y hy => Or.inl (List.mem_cons_of_mem _ hy)) (Nat.le_refl _) (Nat.le_refl _))
  refine s_istn (p' := 60) (ls' := [_, _, _, _]) rfl rfl rfl rfl ?_
  refine s_aldn (p' := 61) rfl rfl rfl ?_
  refine s_sp (p' := 62) (ls' := _) rfl rfl rfl ?_
  refine s_gf (p' := 65) rfl y4 rfl rfl ?_
  refine s_ildn (p' := 66) rfl rfl rfl ?_
  refine s_sp (p' := 67) (ls' := _) rfl rfl rfl ?_
  refine s_sp (p' := 68) (ls' := _) rfl rfl rfl ?_
  refine s_pf (p' := 71) (fs' := [_, _, _, _, _, _, _, _, _, _, _]) rfl (by decide) y4 (Nat.blt_eq.mp rfl) rfl rfl rfl ?_
  have m5 := m4s (th' := nI 0) (ty' := ty) (sd' := sd + Int32.toInt64 (nI (rns np K X m ((v0, st0, t0), (cbk K 20 (trn (p, l, c, w, cp, cl, cw))))).1)) (be' := be) (wa' := wa) (nw' := nw) (nx' := nx) y4
  have y5 : mj_rd (List.set h4_ 400 (yC_ (nI 0) ty (sd + Int32.toInt64 (nI (rns np K X m ((v0, st0, t0), (cbk K 20 (trn (p, l, c, w, cp, cl, cw))))).1)) be wa nw nx)) 400 = some (yC_ (nI 0) ty (sd + Int32.toInt64 (nI (rns np K X m ((v0, st0, t0), (cbk K 20 (trn (p, l, c, w, cp, cl, cw))))).1)) be wa nw nx) := rd_set (by decide) y4
  have w5 := w4.fr m5.1 (fun x hx => by rw [List.mem_singleton] at hx; omega)
  refine s_ildn (p' := 72) rfl rfl rfl ?_
  refine s_iret rfl rfl ?_
  exact ⟨_, _, rfl, rfl, y5, w5, mo00 m04 (m5.wk (fun y hy => Or.inl (by rw [List.mem_singleton] at hy; rw [hy]; exact List.mem_cons_self)) (Nat.le_refl _) (Nat.le_refl _))⟩
theorem y_sta0 {I : Nat → Prop} {h : mj_H} {np : Nat} {K : Nat → Nat} {X : Nat → Nat → Nat → Nat} (hl : yLb I h np K X) (hn : np ≤ 6) {th : Int32} {sd be : Int64} {ty wa nw nx : Value} (h4 : mj_rd h 400 = some (yC_ th ty sd be wa nw nx)) (hI4 : ¬ I 400) {t cn : Nat} (hW : mj_rd h 402 = some (wrB 402 t cn (nI 4294967295))) : mj_Wp 8 397 (0, [some (.ref 400)], [], h) (mz_V fun rv h' => rv = .int (nI 45) ∧ mj_rd h' 400 = some (yC_ (nI 0) ty sd be wa nw nx) ∧ mz_mo [400] 0 0 h h') := by
  refine s_aldn (p' := 1) rfl rfl rfl ?_
  refine s_con (p' := 2) rfl rfl ?_
  refine s_pf (p' := 5) (fs' := [_, _, _, _, _, _, _, _, _, _, _]) rfl (by decide) h4 (Nat.blt_eq.mp rfl) rfl rfl rfl ?_
  have hlx := yLb.th (th' := nI 0) (ty' := ty) (sd' := sd) (be' := be) (wa' := wa) (nw' := nw) (nx' := nx) hl h4 hI4
  have mx := m4s (th' := nI 0) (ty' := ty) (sd' := sd) (be' := be) (wa' := wa) (nw' := nw) (nx' := nx) h4
  have y1 : mj_rd (List.set h 400 (yC_ (nI 0) ty sd be wa nw nx)) 400 = some (yC_ (nI 0) ty sd be wa nw nx) := rd_set (by decide) h4
  generalize hg : List.set h 400 _ = k1 at *
  clear hg
  have w1 := mx.1 402 (by decide) _ hW
  refine s_aldn (p' := 6) rfl rfl rfl ?_
  refine s_gf (p' := 9) rfl y1 rfl rfl ?_
  refine s_gf (p' := 12) rfl w1 rfl rfl ?_
  refine s_con (p' := 13) rfl rfl ?_
  refine s_icmp (p' := 16) false rfl (by decide +kernel) rfl ?_
  refine s_bip (p' := 18) rfl rfl ?_
  refine s_goto (p' := 53) rfl rfl ?_
  refine s_iret rfl (by decide +kernel) ?_
  exact ⟨_, _, rfl, rfl, y1, mx⟩
theorem y_staB {I : Nat → Prop} {h : mj_H} {np : Nat} {K : Nat → Nat} {X : Nat → Nat → Nat → Nat} (hl : yLb I h np K X) (hn : np ≤ 6) {th : Int32} {sd be : Int64} {ty wa nw nx : Value} (h4 : mj_rd h 400 = some (yC_ th ty sd be wa nw nx)) (hI4 : ¬ I 400) {s : SV} {p l c : Nat} {w : Bool} {cp cl : Nat → Nat} {cw : Nat → Bool} {z : CZ} (hy : yWl h 402 (s, (p, l, c, w, cp, cl, cw)) z) (hw : wfR np K (p, l, c, w, cp, cl, cw)) (hz : 0 < z.1) : mj_Wp 8 397 (0, [some (.ref 400)], [], h) (mz_V fun rv h' => rv = .int (nI 98) ∧ mj_rd h' 400 = some (yC_ (nI 0) ty sd be wa nw nx) ∧ mz_mo [400] 0 0 h h') := by
  refine s_aldn (p' := 1) rfl rfl rfl ?_
  refine s_con (p' := 2) rfl rfl ?_
  refine s_pf (p' := 5) (fs' := [_, _, _, _, _, _, _, _, _, _, _]) rfl (by decide) h4 (Nat.blt_eq.mp rfl) rfl rfl rfl ?_
  have hlx := yLb.th (th' := nI 0) (ty' := ty) (sd' := sd) (be' := be) (wa' := wa) (nw' := nw) (nx' := nx) hl h4 hI4
  have mx := m4s (th' := nI 0) (ty' := ty) (sd' := sd) (be' := be) (wa' := wa) (nw' := nw) (nx' := nx) h4
  have y1 : mj_rd (List.set h 400 (yC_ (nI 0) ty sd be wa nw nx)) 400 = some (yC_ (nI 0) ty sd be wa nw nx) := rd_set (by decide) h4
  generalize hg : List.set h 400 _ = k1 at *
  clear hg
  have w1 := hy.fr mx.1 (fun x hx => by rw [List.mem_singleton] at hx; omega)
  refine s_aldn (p' := 6) rfl rfl rfl ?_
  refine s_gf (p' := 9) rfl y1 rfl rfl ?_
  refine s_gf (p' := 12) rfl w1.1 rfl rfl ?_
  refine s_con (p' := 13) rfl rfl ?_
  refine s_icmp (p' := 21) true rfl ((cg_ne (w := -1) (by decide +kernel)).trans (decide_eq_true (by rw [mI_ti (by have : c ≤ 20 := hw.2.2.1; show c < 2147483648; omega)]; show ¬ ((c : Nat) : Int) = -1; omega))) rfl ?_
  refine s_aldn (p' := 22) rfl rfl rfl ?_
  refine s_gf (p' := 25) rfl y1 rfl rfl ?_
  refine s_gf (p' := 28) rfl w1.1 rfl rfl ?_
  refine s_if (p' := 31) false rfl ((cz_le (by have := hy.2.2.2; obtain ⟨_, _, _, _, k, _⟩ := this; omega)).trans (decide_eq_false (by omega))) rfl ?_
  refine s_bip (p' := 33) rfl rfl ?_
  refine s_goto (p' := 53) rfl rfl ?_
  refine s_iret rfl (by decide +kernel) ?_
  exact ⟨_, _, rfl, rfl, y1, mx⟩
theorem y_staE {I : Nat → Prop} {h : mj_H} {np : Nat} {K : Nat → Nat} {X : Nat → Nat → Nat → Nat} (hl : yLb I h np K X) (hn : np ≤ 6) {th : Int32} {sd be : Int64} {ty wa nw nx : Value} (h4 : mj_rd h 400 = some (yC_ th ty sd be wa nw nx)) (hI4 : ¬ I 400) {s : SV} {p l c : Nat} {w : Bool} {cp cl : Nat → Nat} {cw : Nat → Bool} {z : CZ} (hy : yWl h 402 (s, (p, l, c, w, cp, cl, cw)) z) (hw : wfR np K (p, l, c, w, cp, cl, cw)) (hz : ¬ 0 < z.1) (hK : ∀ p, p < np → K p ≤ 30) (he : edd K (p, l, c, w, cp, cl, cw) = true) : mj_Wp 8 397 (0, [some (.ref 400)], [], h) (mz_V fun rv h' => rv = .int (nI 101) ∧ mj_rd h' 400 = some (yC_ (nI 0) ty sd be wa nw nx) ∧ mz_mo [400] 0 0 h h') := by
  refine s_aldn (p' := 1) rfl rfl rfl ?_
  refine s_con (p' := 2) rfl rfl ?_
  refine s_pf (p' := 5) (fs' := [_, _, _, _, _, _, _, _, _, _, _]) rfl (by decide) h4 (Nat.blt_eq.mp rfl) rfl rfl rfl ?_
  have hlx := yLb.th (th' := nI 0) (ty' := ty) (sd' := sd) (be' := be) (wa' := wa) (nw' := nw) (nx' := nx) hl h4 hI4
  have mx := m4s (th' := nI 0) (ty' := ty) (sd' := sd) (be' := be) (wa' := wa) (nw' := nw) (nx' := nx) h4
  have y1 : mj_rd (List.set h 400 (yC_ (nI 0) ty sd be wa nw nx)) 400 = some (yC_ (nI 0) ty sd be wa nw nx) := rd_set (by decide) h4
  generalize hg : List.set h 400 _ = k1 at *
  clear hg
  have w1 := hy.fr mx.1 (fun x hx => by rw [List.mem_singleton] at hx; omega)
  refine s_aldn (p' := 6) rfl rfl rfl ?_
  refine s_gf (p' := 9) rfl y1 rfl rfl ?_
  refine s_gf (p' := 12) rfl w1.1 rfl rfl ?_
  refine s_con (p' := 13) rfl rfl ?_
  refine s_icmp (p' := 21) true rfl ((cg_ne (w := -1) (by decide +kernel)).trans (decide_eq_true (by rw [mI_ti (by have : c ≤ 20 := hw.2.2.1; show c < 2147483648; omega)]; show ¬ ((c : Nat) : Int) = -1; omega))) rfl ?_
  refine s_aldn (p' := 22) rfl rfl rfl ?_
  refine s_gf (p' := 25) rfl y1 rfl rfl ?_
  refine s_gf (p' := 28) rfl w1.1 rfl rfl ?_
  refine s_if (p' := 36) true rfl ((cz_le (by have := hy.2.2.2; obtain ⟨_, _, _, _, k, _⟩ := this; omega)).trans (decide_eq_true (by omega))) rfl ?_
  refine s_aldn (p' := 37) rfl rfl rfl ?_
  refine s_gf (p' := 40) rfl y1 rfl rfl ?_
  refine s_callV (p' := 43) (ls0 := [_]) rfl rfl rfl rfl rfl (mj_rcv_is w1.1) rfl (y_end hlx w1.1 w1.2.2.1 hw.2.2.1 hw.1 hn (hK p hw.1) hw.2.1 hw.2.2.2) (by first | decide | omega) rfl ?_
  refine s_if (p' := 46) false rfl (by rw [he]; decide +kernel) rfl ?_
  refine s_bip (p' := 48) rfl rfl ?_
  refine s_goto (p' := 53) rfl rfl ?_
  refine s_iret rfl (by decide +kernel) ?_
  exact ⟨_, _, rfl, rfl, y1, mx⟩
theorem y_staG {I : Nat → Prop} {h : mj_H} {np : Nat} {K : Nat → Nat} {X : Nat → Nat → Nat → Nat} (hl : yLb I h np K X) (hn : np ≤ 6) {th : Int32} {sd be : Int64} {ty wa nw nx : Value} (h4 : mj_rd h 400 = some (yC_ th ty sd be wa nw nx)) (hI4 : ¬ I 400) {s : SV} {p l c : Nat} {w : Bool} {cp cl : Nat → Nat} {cw : Nat → Bool} {z : CZ} (hy : yWl h 402 (s, (p, l, c, w, cp, cl, cw)) z) (hw : wfR np K (p, l, c, w, cp, cl, cw)) (hz : ¬ 0 < z.1) (hK : ∀ p, p < np → K p ≤ 30) (he : edd K (p, l, c, w, cp, cl, cw) = false) : mj_Wp 8 397 (0, [some (.ref 400)], [], h) (mz_V fun rv h' => rv = .int (nI 103) ∧ mj_rd h' 400 = some (yC_ (nI 0) ty sd be wa nw nx) ∧ mz_mo [400] 0 0 h h') := by
  refine s_aldn (p' := 1) rfl rfl rfl ?_
  refine s_con (p' := 2) rfl rfl ?_
  refine s_pf (p' := 5) (fs' := [_, _, _, _, _, _, _, _, _, _, _]) rfl (by decide) h4 (Nat.blt_eq.mp rfl) rfl rfl rfl ?_
  have hlx := yLb.th (th' := nI 0) (ty' := ty) (sd' := sd) (be' := be) (wa' := wa) (nw' := nw) (nx' := nx) hl h4 hI4
  have mx := m4s (th' := nI 0) (ty' := ty) (sd' := sd) (be' := be) (wa' := wa) (nw' := nw) (nx' := nx) h4
  have y1 : mj_rd (List.set h 400 (yC_ (nI 0) ty sd be wa nw nx)) 400 = some (yC_ (nI 0) ty sd be wa nw nx) := rd_set (by decide) h4
  generalize hg : List.set h 400 _ = k1 at *
  clear hg
  have w1 := hy.fr mx.1 (fun x hx => by rw [List.mem_singleton] at hx; omega)
  refine s_aldn (p' := 6) rfl rfl rfl ?_
  refine s_gf (p' := 9) rfl y1 rfl rfl ?_
  refine s_gf (p' := 12) rfl w1.1 rfl rfl ?_
  refine s_con (p' := 13) rfl rfl ?_
  refine s_icmp (p' := 21) true rfl ((cg_ne (w := -1) (by decide +kernel)).trans (decide_eq_true (by rw [mI_ti (by have : c ≤ 20 := hw.2.2.1; show c < 2147483648; omega)]; show ¬ ((c : Nat) : Int) = -1; omega))) rfl ?_
  refine s_aldn (p' := 22) rfl rfl rfl ?_
  refine s_gf (p' := 25) rfl y1 rfl rfl ?_
  refine s_gf (p' := 28) rfl w1.1 rfl rfl ?_
  refine s_if (p' := 36) true rfl ((cz_le (by have := hy.2.2.2; obtain ⟨_, _, _, _, k, _⟩ := this; omega)).trans (decide_eq_true (by omega))) rfl ?_
  refine s_aldn (p' := 37) rfl rfl rfl ?_
  refine s_gf (p' := 40) rfl y1 rfl rfl ?_
  refine s_callV (p' := 43) (ls0 := [_]) rfl rfl rfl rfl rfl (mj_rcv_is w1.1) rfl (y_end hlx w1.1 w1.2.2.1 hw.2.2.1 hw.1 hn (hK p hw.1) hw.2.1 hw.2.2.2) (by first | decide | omega) rfl ?_
  refine s_if (p' := 51) true rfl (by rw [he]; decide +kernel) rfl ?_
  refine s_bip (p' := 53) rfl rfl ?_
  refine s_iret rfl (by decide +kernel) ?_
  exact ⟨_, _, rfl, rfl, y1, mx⟩
theorem y_runT {I : Nat → Prop} {h : mj_H} {np : Nat} {K : Nat → Nat} {X : Nat → Nat → Nat → Nat} (hl : yLb I h np K X) (hn : np ≤ 6) {th : Int32} {sd be : Int64} {ty wa nw nx : Value} (h4 : mj_rd h 400 = some (yC_ th ty sd be wa nw nx)) (hI4 : ¬ I 400) {p : Int32} (hpr : p.toInt < 0 ∨ (np : Int) ≤ p.toInt) {u : Int32} : mj_Wp 4 406 (0, [some (.ref 400), some (.int p), some (.int u), none, none], [], h) (mz_V fun rv h' => rv = .int (nI 0) ∧ mj_rd h' 400 = some (yC_ (nI 1) ty sd be wa nw nx) ∧ mz_mo [400] 0 0 h h') := by
  refine s_aldn (p' := 1) rfl rfl rfl ?_
  refine s_aldn (p' := 2) rfl rfl rfl ?_
  refine s_ildn (p' := 3) rfl rfl rfl ?_
  refine s_callV (p' := 6) (ls0 := [_, _]) rfl rfl rfl rfl rfl (mj_rcv_is h4) rfl (y_ispF hl hn hpr) (by first | decide | omega) rfl ?_
  refine s_if (p' := 13) true rfl (by decide +kernel) rfl ?_
  refine s_con (p' := 14) rfl rfl ?_
  refine c_call (p' := 17) (kc := 3) (ls0 := [_, _]) rfl rfl rfl rfl rfl (mj_rcv_is h4) rfl rfl rfl ?_
  refine s_aldn (p' := 1) rfl rfl rfl ?_
  refine s_ildn (p' := 2) rfl rfl rfl ?_
  refine s_pf (p' := 5) (fs' := [_, _, _, _, _, _, _, _, _, _, _]) rfl (by decide) h4 (Nat.blt_eq.mp rfl) rfl rfl rfl ?_
  have hlx := yLb.th (th' := nI 1) (ty' := ty) (sd' := sd) (be' := be) (wa' := wa) (nw' := nw) (nx' := nx) hl h4 hI4
  have mx := m4s (th' := nI 1) (ty' := ty) (sd' := sd) (be' := be) (wa' := wa) (nw' := nw) (nx' := nx) h4
  have y1 : mj_rd (List.set h 400 (yC_ (nI 1) ty sd be wa nw nx)) 400 = some (yC_ (nI 1) ty sd be wa nw nx) := rd_set (by decide) h4
  generalize hg : List.set h 400 _ = k1 at *
  clear hg
  refine s_ildn (p' := 6) rfl rfl rfl ?_
  refine s_if (p' := 9) false rfl (by decide +kernel) rfl ?_
  refine s_con (p' := 10) rfl rfl ?_
  refine s_goto (p' := 14) rfl rfl ?_
  refine c_iret rfl rfl ?_
  refine s_if (p' := 20) false rfl (by decide +kernel) rfl ?_
  refine s_con (p' := 21) rfl rfl ?_
  refine s_iret rfl rfl ?_
  exact ⟨_, _, rfl, rfl, y1, mx⟩
theorem y_run {I : Nat → Prop} {h : mj_H} {np : Nat} {K : Nat → Nat} {X : Nat → Nat → Nat → Nat} (hl : yLb I h np K X) (hn : np ≤ 6) {th : Int32} {sd be : Int64} {ty wa nw nx : Value} (h4 : mj_rd h 400 = some (yC_ th ty sd be wa nw nx)) (hI4 : ¬ I 400) (hI : ∀ x, x ∈ wML 402 → ¬ I x) (hIl : ∀ a, I a → a < h.length) (hN : 414 ≤ h.length) (hb : h.length + 20 < mj_CB) (hp : pOk np K X) {q : Nat} (hq : q < np) {v : Bool} {v0 st0 : Nat → Int32} {t0 : Nat} (cp cl : Nat → Nat) (cw : Nat → Bool) (hy : yWb h 402 (v0, st0, t0)) (he : edd K (rns np K X 500 ((v0, st0, t0), bgn K q v cp cl cw)).2.1.2 = true) : mj_Wp 16 406 (0, [some (.ref 400), some (.int (nI q)), some (.int (nI (bN v))), none, none], [], h) (mz_V fun rv h' => rv = .int (nI (rns np K X 500 ((v0, st0, t0), bgn K q v cp cl cw)).1) ∧ mj_rd h' 400 = some (yC_ (nI 0) ty (sd + Int32.toInt64 (nI (rns np K X 500 ((v0, st0, t0), bgn K q v cp cl cw)).1)) be wa nw nx) ∧ yWb h' 402 (rns np K X 500 ((v0, st0, t0), bgn K q v cp cl cw)).2.1.1 ∧ (∀ (cx : Nat) (dx : Int32), mj_rd h 402 = some (wrB 402 t0 cx dx) → mj_rd h' 402 = some (wrB 402 (rns np K X 500 ((v0, st0, t0), bgn K q v cp cl cw)).2.1.1.2.2 cx dx)) ∧ mz_mo [400, 402, 403, 404] 8 106 h h') := by
  refine s_aldn (p' := 1) rfl rfl rfl ?_
  refine s_aldn (p' := 2) rfl rfl rfl ?_
  refine s_ildn (p' := 3) rfl rfl rfl ?_
  refine s_callV (p' := 6) (ls0 := [_, _]) rfl rfl rfl rfl rfl (mj_rcv_is h4) rfl (y_isp hl hn hq) (by first | decide | omega) rfl ?_
  refine s_if (p' := 9) false rfl (by decide +kernel) rfl ?_
  refine s_con (p' := 10) rfl rfl ?_
  refine s_goto (p' := 14) rfl rfl ?_
  refine c_call (p' := 17) (kc := 3) (ls0 := [_, _]) rfl rfl rfl rfl rfl (mj_rcv_is h4) rfl rfl rfl ?_
  refine s_aldn (p' := 1) rfl rfl rfl ?_
  refine s_ildn (p' := 2) rfl rfl rfl ?_
  refine s_pf (p' := 5) (fs' := [_, _, _, _, _, _, _, _, _, _, _]) rfl (by decide) h4 (Nat.blt_eq.mp rfl) rfl rfl rfl ?_
  have hlx := yLb.th (th' := nI 0) (ty' := ty) (sd' := sd) (be' := be) (wa' := wa) (nw' := nw) (nx' := nx) hl h4 hI4
  have mx := m4s (th' := nI 0) (ty' := ty) (sd' := sd) (be' := be) (wa' := wa) (nw' := nw) (nx' := nx) h4
  have y1 : mj_rd (List.set h 400 (yC_ (nI 0) ty sd be wa nw nx)) 400 = some (yC_ (nI 0) ty sd be wa nw nx) := rd_set (by decide) h4
  generalize hg : List.set h 400 _ = k1 at *
  clear hg
  have w1 := hy.fr mx.1 (fun x hx => by rw [List.mem_singleton] at hx; omega)
  have ln1 : k1.length = h.length := mx.leq rfl
  refine s_ildn (p' := 6) rfl rfl rfl ?_
  refine s_if (p' := 13) true rfl (by decide +kernel) rfl ?_
  refine s_con (p' := 14) rfl rfl ?_
  refine c_iret rfl rfl ?_
  refine s_if (p' := 22) true rfl (by decide +kernel) rfl ?_
  refine s_aldn (p' := 23) rfl rfl rfl ?_
  refine s_gf (p' := 26) rfl y1 rfl rfl ?_
  refine s_callEV (p' := 29) (ls0 := [_, _]) rfl rfl rfl rfl rfl (by obtain ⟨⟨_, _, zz⟩, _⟩ := id w1; exact mj_rcv_is zz) rfl (y_lik ln1 (by omega) (by omega) w1) rfl rfl ?_
  rintro _ h2 ⟨rfl, w2, m2⟩
  have y2 := m2.1 400 List.not_mem_nil _ y1
  have hl2 := hlx.ap m2.1
  have v2 := w1.fr m2.1 (fun x hx => absurd hx List.not_mem_nil)
  have hIN : ∀ x, x ∈ wML h.length → ¬ I x := fun x hx q => by have := hIl x q; have := wML_m.mp hx; omega
  refine s_astn (p' := 30) (ls' := [_, _, _, _, _]) rfl rfl rfl rfl ?_
  refine s_aldn (p' := 31) rfl rfl rfl ?_
  refine s_aldn (p' := 32) rfl rfl rfl ?_
  refine s_ildn (p' := 33) rfl rfl rfl ?_
  refine s_ildn (p' := 34) rfl rfl rfl ?_
  refine s_callEV (p' := 37) (ls0 := [_, _, _, _, _]) rfl rfl rfl rfl rfl (mj_rcv_is y2) rfl (y_who (b := v) cp cl cw (by omega) hIN hp hl2 w2 hq) rfl rfl ?_
  rintro _ h3 ⟨rfl, w3, m3⟩
  have y3 := m3.1 400 (fun e => by have := wML_m.mp e; omega) _ y2
  have hl3 := hl2.fb m3.1 w2 (fun x hx => hx) hIN
  have v3 := v2.fr m3.1 (fun x hx => by have := wML_m.mp hx; omega)
  have le3 := (rns_wf hp 500 ((v0, st0, t0), bgn K q v cp cl cw) (bgn_wf hq) bgn_nrm).2.2.1
  rw [show edd K (rns np K X 500 ((v0, st0, t0), bgn K q v cp cl cw)).2.1.2 = true from he]
  generalize (rns np K X 500 ((v0, st0, t0), bgn K q v cp cl cw)) = R at *
  obtain ⟨n4, ⟨sv4, r4⟩, z9⟩ := R
  have m03 : mz_mo [400] 8 106 h h3 := mx.tr (m2.tr m3 (L := []) (fun y hy => Or.inr (by have := wML_m.mp hy; omega)) (Nat.le_refl _) (Nat.le_refl _)) (fun y hy => by cases hy) (Nat.le_refl _) (Nat.le_refl _)
  refine s_ist (p' := 39) (ls' := [_, _, _, _, _]) rfl rfl rfl rfl ?_
  refine s_aldn (p' := 40) rfl rfl rfl ?_
  refine s_ild (p' := 42) rfl rfl rfl ?_
  refine s_con (p' := 43) rfl rfl ?_
  refine s_icmp (p' := 50) true rfl ((cg_ne (w := -1) (by decide +kernel)).trans (decide_eq_true (by show ¬ (nI n4).toInt = -1; rw [mI_ti (by omega)]; omega))) rfl ?_
  refine s_con (p' := 51) rfl rfl ?_
  refine c_call (p' := 54) (kc := 3) (ls0 := [_, _]) rfl rfl rfl rfl rfl (mj_rcv_is y3) rfl rfl rfl ?_
  refine s_aldn (p' := 1) rfl rfl rfl ?_
  refine s_ildn (p' := 2) rfl rfl rfl ?_
  refine s_pf (p' := 5) (fs' := [_, _, _, _, _, _, _, _, _, _, _]) rfl (by decide) y3 (Nat.blt_eq.mp rfl) rfl rfl rfl ?_
  have hly := yLb.th (th' := nI 0) (ty' := ty) (sd' := sd) (be' := be) (wa' := wa) (nw' := nw) (nx' := nx) hl3 y3 hI4
  have my := m4s (th' := nI 0) (ty' := ty) (sd' := sd) (be' := be) (wa' := wa) (nw' := nw) (nx' := nx) y3
  have y4 : mj_rd (List.set h3 400 (yC_ (nI 0) ty sd be wa nw nx)) 400 = some (yC_ (nI 0) ty sd be wa nw nx) := rd_set (by decide) y3
  generalize hg : List.set h3 400 _ = k4 at *
  clear hg
  have w4 := w3.fr my.1 (fun x hx => by rw [List.mem_singleton] at hx; omega)
  have v4 := v3.fr my.1 (fun x hx => by rw [List.mem_singleton] at hx; omega)
  refine s_ildn (p' := 6) rfl rfl rfl ?_
  refine s_if (p' := 13) true rfl (by decide +kernel) rfl ?_
  refine s_con (p' := 14) rfl rfl ?_
  refine c_iret rfl rfl ?_
  refine s_if (p' := 59) true rfl (by decide +kernel) rfl ?_
  refine s_aldn (p' := 60) rfl rfl rfl ?_
  refine s_gf (p' := 63) rfl y4 rfl rfl ?_
  refine s_aldn (p' := 64) rfl rfl rfl ?_
  refine s_callEN (p' := 67) (ls0 := [_, _]) rfl rfl rfl rfl rfl (by obtain ⟨⟨_, _, zz⟩, _⟩ := id v4; exact mj_rcv_is zz) rfl (y_tks (by omega) (by decide) (Or.inr (by omega)) w4.raw v4) rfl rfl ?_
  rintro h5 ⟨v5, kd5, m5⟩
  have y5 := m5.1 400 (by decide) _ y4
  refine s_aldn (p' := 68) rfl rfl rfl ?_
  refine s_sp (p' := 69) (ls' := _) rfl rfl rfl ?_
  refine s_gf (p' := 72) rfl y5 rfl rfl ?_
  refine s_ild (p' := 74) rfl rfl rfl ?_
  refine s_sp (p' := 75) (ls' := _) rfl rfl rfl ?_
  refine s_sp (p' := 76) (ls' := _) rfl rfl rfl ?_
  refine s_pf (p' := 79) (fs' := [_, _, _, _, _, _, _, _, _, _, _]) rfl (by decide) y5 (Nat.blt_eq.mp rfl) rfl rfl rfl ?_
  have m6 := m4s (th' := nI 0) (ty' := ty) (sd' := sd + Int32.toInt64 (nI n4)) (be' := be) (wa' := wa) (nw' := nw) (nx' := nx) y5
  have y6 : mj_rd (List.set h5 400 (yC_ (nI 0) ty (sd + Int32.toInt64 (nI n4)) be wa nw nx)) 400 = some (yC_ (nI 0) ty (sd + Int32.toInt64 (nI n4)) be wa nw nx) := rd_set (by decide) y5
  have v6 := v5.fr m6.1 (fun x hx => by rw [List.mem_singleton] at hx; omega)
  refine s_ild (p' := 81) rfl rfl rfl ?_
  refine s_iret rfl rfl ?_
  exact ⟨_, _, rfl, rfl, y6, v6, fun cx dx hx => m6.1 402 (by decide) _ (kd5 cx dx (my.1 402 (by decide) _ (m03.1 402 (by decide) _ hx))), ((m03.tr my (fun y hy => Or.inl hy) (Nat.le_refl _) (Nat.le_refl _)).wk (L' := [400, 402, 403, 404]) (fun y hy => Or.inl (by rw [List.mem_singleton] at hy; rw [hy]; simp)) (Nat.le_refl _) (Nat.le_refl _)).tr (mo00 (m5.wk (L' := [400, 402, 403, 404]) (k := 0) (z := 0) (fun y hy => Or.inl (List.mem_cons_of_mem _ hy)) (Nat.le_refl _) (Nat.le_refl _)) (m6.wk (fun y hy => Or.inl (by rw [List.mem_singleton] at hy; rw [hy]; simp)) (Nat.le_refl _) (Nat.le_refl _))) (fun y hy => Or.inl hy) (Nat.le_refl _) (Nat.le_refl _)⟩
theorem y_runE {I : Nat → Prop} {h : mj_H} {np : Nat} {K : Nat → Nat} {X : Nat → Nat → Nat → Nat} (hl : yLb I h np K X) (hn : np ≤ 6) {th : Int32} {sd be : Int64} {ty wa nw nx : Value} (h4 : mj_rd h 400 = some (yC_ th ty sd be wa nw nx)) (hI4 : ¬ I 400) (hI : ∀ x, x ∈ wML 402 → ¬ I x) (hIl : ∀ a, I a → a < h.length) (hN : 414 ≤ h.length) (hb : h.length + 20 < mj_CB) (hp : pOk np K X) {q : Nat} (hq : q < np) {v : Bool} {v0 st0 : Nat → Int32} {t0 : Nat} (cp cl : Nat → Nat) (cw : Nat → Bool) (hy : yWb h 402 (v0, st0, t0)) (he : edd K (rns np K X 500 ((v0, st0, t0), bgn K q v cp cl cw)).2.1.2 = false) : mj_Wp 16 406 (0, [some (.ref 400), some (.int (nI q)), some (.int (nI (bN v))), none, none], [], h) (mz_V fun rv h' => rv = .int (nI 0) ∧ mj_rd h' 400 = some (yC_ (nI 2) ty sd be wa nw nx) ∧ mz_mo [400] 8 106 h h') := by
  refine s_aldn (p' := 1) rfl rfl rfl ?_
  refine s_aldn (p' := 2) rfl rfl rfl ?_
  refine s_ildn (p' := 3) rfl rfl rfl ?_
  refine s_callV (p' := 6) (ls0 := [_, _]) rfl rfl rfl rfl rfl (mj_rcv_is h4) rfl (y_isp hl hn hq) (by first | decide | omega) rfl ?_
  refine s_if (p' := 9) false rfl (by decide +kernel) rfl ?_
  refine s_con (p' := 10) rfl rfl ?_
  refine s_goto (p' := 14) rfl rfl ?_
  refine c_call (p' := 17) (kc := 3) (ls0 := [_, _]) rfl rfl rfl rfl rfl (mj_rcv_is h4) rfl rfl rfl ?_
  refine s_aldn (p' := 1) rfl rfl rfl ?_
  refine s_ildn (p' := 2) rfl rfl rfl ?_
  refine s_pf (p' := 5) (fs' := [_, _, _, _, _, _, _, _, _, _, _]) rfl (by decide) h4 (Nat.blt_eq.mp rfl) rfl rfl rfl ?_
  have hlx := yLb.th (th' := nI 0) (ty' := ty) (sd' := sd) (be' := be) (wa' := wa) (nw' := nw) (nx' := nx) hl h4 hI4
  have mx := m4s (th' := nI 0) (ty' := ty) (sd' := sd) (be' := be) (wa' := wa) (nw' := nw) (nx' := nx) h4
  have y1 : mj_rd (List.set h 400 (yC_ (nI 0) ty sd be wa nw nx)) 400 = some (yC_ (nI 0) ty sd be wa nw nx) := rd_set (by decide) h4
  generalize hg : List.set h 400 _ = k1 at *
  clear hg
  have w1 := hy.fr mx.1 (fun x hx => by rw [List.mem_singleton] at hx; omega)
  have ln1 : k1.length = h.length := mx.leq rfl
  refine s_ildn (p' := 6) rfl rfl rfl ?_
  refine s_if (p' := 13) true rfl (by decide +kernel) rfl ?_
  refine s_con (p' := 14) rfl rfl ?_
  refine c_iret rfl rfl ?_
  refine s_if (p' := 22) true rfl (by decide +kernel) rfl ?_
  refine s_aldn (p' := 23) rfl rfl rfl ?_
  refine s_gf (p' := 26) rfl y1 rfl rfl ?_
  refine s_callEV (p' := 29) (ls0 := [_, _]) rfl rfl rfl rfl rfl (by obtain ⟨⟨_, _, zz⟩, _⟩ := id w1; exact mj_rcv_is zz) rfl (y_lik ln1 (by omega) (by omega) w1) rfl rfl ?_
  rintro _ h2 ⟨rfl, w2, m2⟩
  have y2 := m2.1 400 List.not_mem_nil _ y1
  have hl2 := hlx.ap m2.1
  have v2 := w1.fr m2.1 (fun x hx => absurd hx List.not_mem_nil)
  have hIN : ∀ x, x ∈ wML h.length → ¬ I x := fun x hx q => by have := hIl x q; have := wML_m.mp hx; omega
  refine s_astn (p' := 30) (ls' := [_, _, _, _, _]) rfl rfl rfl rfl ?_
  refine s_aldn (p' := 31) rfl rfl rfl ?_
  refine s_aldn (p' := 32) rfl rfl rfl ?_
  refine s_ildn (p' := 33) rfl rfl rfl ?_
  refine s_ildn (p' := 34) rfl rfl rfl ?_
  refine s_callEV (p' := 37) (ls0 := [_, _, _, _, _]) rfl rfl rfl rfl rfl (mj_rcv_is y2) rfl (y_who (b := v) cp cl cw (by omega) hIN hp hl2 w2 hq) rfl rfl ?_
  rintro _ h3 ⟨rfl, w3, m3⟩
  have y3 := m3.1 400 (fun e => by have := wML_m.mp e; omega) _ y2
  have hl3 := hl2.fb m3.1 w2 (fun x hx => hx) hIN
  have v3 := v2.fr m3.1 (fun x hx => by have := wML_m.mp hx; omega)
  have le3 := (rns_wf hp 500 ((v0, st0, t0), bgn K q v cp cl cw) (bgn_wf hq) bgn_nrm).2.2.1
  rw [show edd K (rns np K X 500 ((v0, st0, t0), bgn K q v cp cl cw)).2.1.2 = false from he]
  generalize (rns np K X 500 ((v0, st0, t0), bgn K q v cp cl cw)) = R at *
  obtain ⟨n4, ⟨sv4, r4⟩, z9⟩ := R
  have m03 : mz_mo [400] 8 106 h h3 := mx.tr (m2.tr m3 (L := []) (fun y hy => Or.inr (by have := wML_m.mp hy; omega)) (Nat.le_refl _) (Nat.le_refl _)) (fun y hy => by cases hy) (Nat.le_refl _) (Nat.le_refl _)
  refine s_ist (p' := 39) (ls' := [_, _, _, _, _]) rfl rfl rfl rfl ?_
  refine s_aldn (p' := 40) rfl rfl rfl ?_
  refine s_ild (p' := 42) rfl rfl rfl ?_
  refine s_con (p' := 43) rfl rfl ?_
  refine s_icmp (p' := 46) false rfl (by rw [if_neg (by decide)]; decide +kernel) rfl ?_
  refine s_con (p' := 47) rfl rfl ?_
  refine s_goto (p' := 51) rfl rfl ?_
  refine c_call (p' := 54) (kc := 3) (ls0 := [_, _]) rfl rfl rfl rfl rfl (mj_rcv_is y3) rfl rfl rfl ?_
  refine s_aldn (p' := 1) rfl rfl rfl ?_
  refine s_ildn (p' := 2) rfl rfl rfl ?_
  refine s_pf (p' := 5) (fs' := [_, _, _, _, _, _, _, _, _, _, _]) rfl (by decide) y3 (Nat.blt_eq.mp rfl) rfl rfl rfl ?_
  have hly := yLb.th (th' := nI 2) (ty' := ty) (sd' := sd) (be' := be) (wa' := wa) (nw' := nw) (nx' := nx) hl3 y3 hI4
  have my := m4s (th' := nI 2) (ty' := ty) (sd' := sd) (be' := be) (wa' := wa) (nw' := nw) (nx' := nx) y3
  have y4 : mj_rd (List.set h3 400 (yC_ (nI 2) ty sd be wa nw nx)) 400 = some (yC_ (nI 2) ty sd be wa nw nx) := rd_set (by decide) y3
  generalize hg : List.set h3 400 _ = k4 at *
  clear hg
  have w4 := w3.fr my.1 (fun x hx => by rw [List.mem_singleton] at hx; omega)
  have v4 := v3.fr my.1 (fun x hx => by rw [List.mem_singleton] at hx; omega)
  refine s_ildn (p' := 6) rfl rfl rfl ?_
  refine s_if (p' := 9) false rfl (by decide +kernel) rfl ?_
  refine s_con (p' := 10) rfl rfl ?_
  refine s_goto (p' := 14) rfl rfl ?_
  refine c_iret rfl rfl ?_
  refine s_if (p' := 57) false rfl (by decide +kernel) rfl ?_
  refine s_con (p' := 58) rfl rfl ?_
  refine s_iret rfl rfl ?_
  exact ⟨_, _, rfl, rfl, y4, m03.tr my (fun y hy => Or.inl hy) (Nat.le_refl _) (Nat.le_refl _)⟩
theorem y_imgT {I : Nat → Prop} {h : mj_H} {np : Nat} {K : Nat → Nat} {X : Nat → Nat → Nat → Nat} (hl : yLb I h np K X) (hn : np ≤ 6) {th : Int32} {sd be : Int64} {ty wa nw nx : Value} (h4 : mj_rd h 400 = some (yC_ th ty sd be wa nw nx)) (hI4 : ¬ I 400) {p : Int32} (hpr : p.toInt < 0 ∨ (np : Int) ≤ p.toInt) {u y : Int32} : mj_Wp 4 412 (0, [some (.ref 400), some (.int p), some (.int u), some (.int y), none], [], h) (mz_V fun rv h' => rv = .int (nI 0) ∧ mj_rd h' 400 = some (yC_ (nI 1) ty sd be wa nw nx) ∧ mz_mo [400] 0 0 h h') := by
  refine s_aldn (p' := 1) rfl rfl rfl ?_
  refine s_aldn (p' := 2) rfl rfl rfl ?_
  refine s_ildn (p' := 3) rfl rfl rfl ?_
  refine s_callV (p' := 6) (ls0 := [_, _]) rfl rfl rfl rfl rfl (mj_rcv_is h4) rfl (y_ispF hl hn hpr) (by first | decide | omega) rfl ?_
  refine s_if (p' := 9) false rfl (by decide +kernel) rfl ?_
  refine s_con (p' := 10) rfl rfl ?_
  refine s_goto (p' := 25) rfl rfl ?_
  refine c_call (p' := 28) (kc := 3) (ls0 := [_, _]) rfl rfl rfl rfl rfl (mj_rcv_is h4) rfl rfl rfl ?_
  refine s_aldn (p' := 1) rfl rfl rfl ?_
  refine s_ildn (p' := 2) rfl rfl rfl ?_
  refine s_pf (p' := 5) (fs' := [_, _, _, _, _, _, _, _, _, _, _]) rfl (by decide) h4 (Nat.blt_eq.mp rfl) rfl rfl rfl ?_
  have hlx := yLb.th (th' := nI 1) (ty' := ty) (sd' := sd) (be' := be) (wa' := wa) (nw' := nw) (nx' := nx) hl h4 hI4
  have mx := m4s (th' := nI 1) (ty' := ty) (sd' := sd) (be' := be) (wa' := wa) (nw' := nw) (nx' := nx) h4
  have y1 : mj_rd (List.set h 400 (yC_ (nI 1) ty sd be wa nw nx)) 400 = some (yC_ (nI 1) ty sd be wa nw nx) := rd_set (by decide) h4
  generalize hg : List.set h 400 _ = k1 at *
  clear hg
  refine s_ildn (p' := 6) rfl rfl rfl ?_
  refine s_if (p' := 9) false rfl (by decide +kernel) rfl ?_
  refine s_con (p' := 10) rfl rfl ?_
  refine s_goto (p' := 14) rfl rfl ?_
  refine c_iret rfl rfl ?_
  refine s_if (p' := 31) false rfl (by decide +kernel) rfl ?_
  refine s_con (p' := 32) rfl rfl ?_
  refine s_iret rfl rfl ?_
  exact ⟨_, _, rfl, rfl, y1, mx⟩
theorem y_imgV {I : Nat → Prop} {h : mj_H} {np : Nat} {K : Nat → Nat} {X : Nat → Nat → Nat → Nat} (hl : yLb I h np K X) (hn : np ≤ 6) {th : Int32} {sd be : Int64} {ty wa nw nx : Value} (h4 : mj_rd h 400 = some (yC_ th ty sd be wa nw nx)) (hI4 : ¬ I 400) {q v : Nat} (hq : q < np) {y : Int32} (hv : v < 65536) (hvb : vB v = false) : mj_Wp 4 412 (0, [some (.ref 400), some (.int (nI q)), some (.int (nI v)), some (.int y), none], [], h) (mz_V fun rv h' => rv = .int (nI 0) ∧ mj_rd h' 400 = some (yC_ (nI 2) ty sd be wa nw nx) ∧ mz_mo [400] 0 0 h h') := by
  refine s_aldn (p' := 1) rfl rfl rfl ?_
  refine s_aldn (p' := 2) rfl rfl rfl ?_
  refine s_ildn (p' := 3) rfl rfl rfl ?_
  refine s_callV (p' := 6) (ls0 := [_, _]) rfl rfl rfl rfl rfl (mj_rcv_is h4) rfl (y_isp hl hn hq) (by first | decide | omega) rfl ?_
  refine s_if (p' := 13) true rfl (by decide +kernel) rfl ?_
  refine s_ildn (p' := 14) rfl rfl rfl ?_
  refine s_callV (p' := 17) (ls0 := [_]) rfl rfl rfl rfl rfl rfl rfl (y_isvC hv) (by first | decide | omega) rfl ?_
  refine s_if (p' := 20) false rfl (by rw [hvb]; decide +kernel) rfl ?_
  refine s_con (p' := 21) rfl rfl ?_
  refine s_goto (p' := 25) rfl rfl ?_
  refine c_call (p' := 28) (kc := 3) (ls0 := [_, _]) rfl rfl rfl rfl rfl (mj_rcv_is h4) rfl rfl rfl ?_
  refine s_aldn (p' := 1) rfl rfl rfl ?_
  refine s_ildn (p' := 2) rfl rfl rfl ?_
  refine s_pf (p' := 5) (fs' := [_, _, _, _, _, _, _, _, _, _, _]) rfl (by decide) h4 (Nat.blt_eq.mp rfl) rfl rfl rfl ?_
  have hlx := yLb.th (th' := nI 2) (ty' := ty) (sd' := sd) (be' := be) (wa' := wa) (nw' := nw) (nx' := nx) hl h4 hI4
  have mx := m4s (th' := nI 2) (ty' := ty) (sd' := sd) (be' := be) (wa' := wa) (nw' := nw) (nx' := nx) h4
  have y1 : mj_rd (List.set h 400 (yC_ (nI 2) ty sd be wa nw nx)) 400 = some (yC_ (nI 2) ty sd be wa nw nx) := rd_set (by decide) h4
  generalize hg : List.set h 400 _ = k1 at *
  clear hg
  refine s_ildn (p' := 6) rfl rfl rfl ?_
  refine s_if (p' := 9) false rfl (by decide +kernel) rfl ?_
  refine s_con (p' := 10) rfl rfl ?_
  refine s_goto (p' := 14) rfl rfl ?_
  refine c_iret rfl rfl ?_
  refine s_if (p' := 31) false rfl (by decide +kernel) rfl ?_
  refine s_con (p' := 32) rfl rfl ?_
  refine s_iret rfl rfl ?_
  exact ⟨_, _, rfl, rfl, y1, mx⟩
theorem y_img {I : Nat → Prop} {h : mj_H} {np : Nat} {K : Nat → Nat} {X : Nat → Nat → Nat → Nat} (hl : yLb I h np K X) (hn : np ≤ 6) {th : Int32} {sd be : Int64} {ty wa nw nx : Value} (h4 : mj_rd h 400 = some (yC_ th ty sd be wa nw nx)) (hI4 : ¬ I 400) (hI : ∀ x, x ∈ wML 402 → ¬ I x) (hIl : ∀ a, I a → a < h.length) (hN : 414 ≤ h.length) (hb : h.length + 20 < mj_CB) (hp : pOk np K X) {q : Nat} (hq : q < np) {v0 st0 : Nat → Int32} {t0 j : Nat} {y : Int32} (hj : j < 8) (cp cl : Nat → Nat) (cw : Nat → Bool) (hy : yWb h 402 (v0, st0, t0)) (he : edd K (rns np K X 500 ((upd v0 j y, st0, t0), bgn K q true cp cl cw)).2.1.2 = true) : mj_Wp 16 412 (0, [some (.ref 400), some (.int (nI q)), some (.int (nI (97 + j))), some (.int y), none], [], h) (mz_V fun rv h' => rv = .int ((rns np K X 500 ((upd v0 j y, st0, t0), bgn K q true cp cl cw)).2.1.1.1 j) ∧ mj_rd h' 400 = some (yC_ (nI 0) ty sd be wa nw nx) ∧ mz_mo [400] 8 106 h h') := by
  refine s_aldn (p' := 1) rfl rfl rfl ?_
  refine s_aldn (p' := 2) rfl rfl rfl ?_
  refine s_ildn (p' := 3) rfl rfl rfl ?_
  refine s_callV (p' := 6) (ls0 := [_, _]) rfl rfl rfl rfl rfl (mj_rcv_is h4) rfl (y_isp hl hn hq) (by first | decide | omega) rfl ?_
  refine s_if (p' := 13) true rfl (by decide +kernel) rfl ?_
  refine s_ildn (p' := 14) rfl rfl rfl ?_
  refine s_callV (p' := 17) (ls0 := [_]) rfl rfl rfl rfl rfl rfl rfl (y_isvC (v := 97 + j) (by omega)) (by first | decide | omega) rfl ?_
  refine s_if (p' := 24) true rfl (by rw [show vB (97 + j) = true from decide_eq_true (by omega)]; decide +kernel) rfl ?_
  refine s_con (p' := 25) rfl rfl ?_
  refine c_call (p' := 28) (kc := 3) (ls0 := [_, _]) rfl rfl rfl rfl rfl (mj_rcv_is h4) rfl rfl rfl ?_
  refine s_aldn (p' := 1) rfl rfl rfl ?_
  refine s_ildn (p' := 2) rfl rfl rfl ?_
  refine s_pf (p' := 5) (fs' := [_, _, _, _, _, _, _, _, _, _, _]) rfl (by decide) h4 (Nat.blt_eq.mp rfl) rfl rfl rfl ?_
  have hlx := yLb.th (th' := nI 0) (ty' := ty) (sd' := sd) (be' := be) (wa' := wa) (nw' := nw) (nx' := nx) hl h4 hI4
  have mx := m4s (th' := nI 0) (ty' := ty) (sd' := sd) (be' := be) (wa' := wa) (nw' := nw) (nx' := nx) h4
  have y1 : mj_rd (List.set h 400 (yC_ (nI 0) ty sd be wa nw nx)) 400 = some (yC_ (nI 0) ty sd be wa nw nx) := rd_set (by decide) h4
  generalize hg : List.set h 400 _ = k1 at *
  clear hg
  have w1 := hy.fr mx.1 (fun x hx => by rw [List.mem_singleton] at hx; omega)
  have ln1 : k1.length = h.length := mx.leq rfl
  refine s_ildn (p' := 6) rfl rfl rfl ?_
  refine s_if (p' := 13) true rfl (by decide +kernel) rfl ?_
  refine s_con (p' := 14) rfl rfl ?_
  refine c_iret rfl rfl ?_
  refine s_if (p' := 33) true rfl (by decide +kernel) rfl ?_
  refine s_aldn (p' := 34) rfl rfl rfl ?_
  refine s_gf (p' := 37) rfl y1 rfl rfl ?_
  refine s_callEV (p' := 40) (ls0 := [_, _]) rfl rfl rfl rfl rfl (by obtain ⟨⟨_, _, zz⟩, _⟩ := id w1; exact mj_rcv_is zz) rfl (y_lik ln1 (by omega) (by omega) w1) rfl rfl ?_
  rintro _ h2 ⟨rfl, w2, m2⟩
  have y2 := m2.1 400 List.not_mem_nil _ y1
  have hl2 := hlx.ap m2.1
  have v2 := w1.fr m2.1 (fun x hx => absurd hx List.not_mem_nil)
  have hIN : ∀ x, x ∈ wML h.length → ¬ I x := fun x hx q => by have := hIl x q; have := wML_m.mp hx; omega
  obtain ⟨⟨cn2, d2, a0⟩, ⟨⟨vf, a1, b1⟩, st2, tt2⟩, rest2⟩ := id w2
  refine s_ast (p' := 42) (ls' := [_, _, _, _, _]) rfl rfl rfl rfl ?_
  refine s_ald (p' := 44) rfl rfl rfl ?_
  refine s_gf (p' := 47) rfl a0 rfl rfl ?_
  refine s_ildn (p' := 48) rfl rfl rfl ?_
  refine s_bip (p' := 50) rfl rfl ?_
  refine s_sp (p' := 51) (ls' := _) rfl rfl rfl ?_
  rw [mI_sub (by omega), show 97 + j - 97 = j by omega]
  refine s_ildn (p' := 52) rfl rfl rfl ?_
  refine s_ias (p' := 53) rfl (by omega) a1 (inb_nI (by omega) (by omega)) rfl ?_
  rw [mI_cl (by omega)]
  have m5 : mz_mo [h.length + 1] 0 0 h2 (List.set h2 (h.length + 1) (.inl (0, (8, .inl (upd vf j y))))) := mz_mo.s (mz_mo.rf _ _ _ _) (by omega) a1 rfl (Or.inl (by simp))
  have w5 := w2.row (y := y) (by omega) a1 b1 hj
  have y5 := m5.1 400 (fun e => by rw [List.mem_singleton] at e; omega) _ y2
  have hl5 := hl2.fb m5.1 w2 (fun x hx => by rw [List.mem_singleton] at hx; exact wML_m.mpr (by omega)) hIN
  generalize hg : List.set h2 (h.length + 1) _ = h5 at *
  clear hg
  refine s_aldn (p' := 54) rfl rfl rfl ?_
  refine s_aldn (p' := 55) rfl rfl rfl ?_
  refine s_ald (p' := 57) rfl rfl rfl ?_
  refine s_ildn (p' := 58) rfl rfl rfl ?_
  refine s_con (p' := 59) rfl rfl ?_
  refine s_callEV (p' := 62) (ls0 := [_, _, _, _, _]) rfl rfl rfl rfl rfl (mj_rcv_is y5) rfl (y_who (b := true) cp cl cw (by omega) hIN hp hl5 w5 hq) rfl rfl ?_
  rintro _ h3 ⟨rfl, w3, m3⟩
  have y3 := m3.1 400 (fun e => by have := wML_m.mp e; omega) _ y5
  have hl3 := hl5.fb m3.1 w5 (fun x hx => hx) hIN
  have le3 := (rns_wf hp 500 ((upd v0 j y, st0, t0), bgn K q true cp cl cw) (bgn_wf hq) bgn_nrm).2.2.1
  rw [show edd K (rns np K X 500 ((upd v0 j y, st0, t0), bgn K q true cp cl cw)).2.1.2 = true from he]
  generalize (rns np K X 500 ((upd v0 j y, st0, t0), bgn K q true cp cl cw)) = R at *
  obtain ⟨n4, ⟨⟨sv4, st4, t4⟩, r4⟩, z9⟩ := R
  have m03 : mz_mo [400] 8 106 h h3 := mx.tr (m2.tr ((m5.wk (L' := wML h.length) (k := 0) (z := 0) (fun y hy => Or.inl (by rw [List.mem_singleton] at hy; exact wML_m.mpr (by omega))) (Nat.le_refl _) (Nat.le_refl _)).tr m3 (fun y hy => Or.inl hy) (Nat.le_refl _) (Nat.le_refl _)) (L := []) (fun y hy => Or.inr (by have := wML_m.mp hy; omega)) (Nat.le_refl _) (Nat.le_refl _)) (fun y hy => by cases hy) (Nat.le_refl _) (Nat.le_refl _)
  refine s_con (p' := 63) rfl rfl ?_
  refine s_icmp (p' := 70) true rfl ((cg_ne (w := -1) (by decide +kernel)).trans (decide_eq_true (by show ¬ (nI n4).toInt = -1; rw [mI_ti (by omega)]; omega))) rfl ?_
  refine s_con (p' := 71) rfl rfl ?_
  refine c_call (p' := 74) (kc := 3) (ls0 := [_, _]) rfl rfl rfl rfl rfl (mj_rcv_is y3) rfl rfl rfl ?_
  refine s_aldn (p' := 1) rfl rfl rfl ?_
  refine s_ildn (p' := 2) rfl rfl rfl ?_
  refine s_pf (p' := 5) (fs' := [_, _, _, _, _, _, _, _, _, _, _]) rfl (by decide) y3 (Nat.blt_eq.mp rfl) rfl rfl rfl ?_
  have hly := yLb.th (th' := nI 0) (ty' := ty) (sd' := sd) (be' := be) (wa' := wa) (nw' := nw) (nx' := nx) hl3 y3 hI4
  have my := m4s (th' := nI 0) (ty' := ty) (sd' := sd) (be' := be) (wa' := wa) (nw' := nw) (nx' := nx) y3
  have y4 : mj_rd (List.set h3 400 (yC_ (nI 0) ty sd be wa nw nx)) 400 = some (yC_ (nI 0) ty sd be wa nw nx) := rd_set (by decide) y3
  generalize hg : List.set h3 400 _ = k4 at *
  clear hg
  have w4 := w3.fr my.1 (fun x hx => by rw [List.mem_singleton] at hx; omega)
  refine s_ildn (p' := 6) rfl rfl rfl ?_
  refine s_if (p' := 13) true rfl (by decide +kernel) rfl ?_
  refine s_con (p' := 14) rfl rfl ?_
  refine c_iret rfl rfl ?_
  refine s_if (p' := 81) true rfl (by decide +kernel) rfl ?_
  obtain ⟨u0, ⟨⟨uf, u1, u2⟩, _⟩, _⟩ := id w4
  refine s_ald (p' := 83) rfl rfl rfl ?_
  refine s_gf (p' := 86) rfl u0 rfl rfl ?_
  refine s_ildn (p' := 87) rfl rfl rfl ?_
  refine s_bip (p' := 89) rfl rfl ?_
  refine s_sp (p' := 90) (ls' := _) rfl rfl rfl ?_
  rw [mI_sub (by omega), show 97 + j - 97 = j by omega]
  refine s_ial (p' := 91) rfl u1 (inb_nI (by omega) (by omega)) rfl ?_
  rw [mI_cl (by omega), show uf j = sv4 j from u2 j hj]
  refine s_iret rfl rfl ?_
  exact ⟨_, _, rfl, rfl, y4, m03.tr my (fun y hy => Or.inl hy) (Nat.le_refl _) (Nat.le_refl _)⟩
theorem y_imgE {I : Nat → Prop} {h : mj_H} {np : Nat} {K : Nat → Nat} {X : Nat → Nat → Nat → Nat} (hl : yLb I h np K X) (hn : np ≤ 6) {th : Int32} {sd be : Int64} {ty wa nw nx : Value} (h4 : mj_rd h 400 = some (yC_ th ty sd be wa nw nx)) (hI4 : ¬ I 400) (hI : ∀ x, x ∈ wML 402 → ¬ I x) (hIl : ∀ a, I a → a < h.length) (hN : 414 ≤ h.length) (hb : h.length + 20 < mj_CB) (hp : pOk np K X) {q : Nat} (hq : q < np) {v0 st0 : Nat → Int32} {t0 j : Nat} {y : Int32} (hj : j < 8) (cp cl : Nat → Nat) (cw : Nat → Bool) (hy : yWb h 402 (v0, st0, t0)) (he : edd K (rns np K X 500 ((upd v0 j y, st0, t0), bgn K q true cp cl cw)).2.1.2 = false) : mj_Wp 16 412 (0, [some (.ref 400), some (.int (nI q)), some (.int (nI (97 + j))), some (.int y), none], [], h) (mz_V fun rv h' => rv = .int (nI 0) ∧ mj_rd h' 400 = some (yC_ (nI 3) ty sd be wa nw nx) ∧ mz_mo [400] 8 106 h h') := by
  refine s_aldn (p' := 1) rfl rfl rfl ?_
  refine s_aldn (p' := 2) rfl rfl rfl ?_
  refine s_ildn (p' := 3) rfl rfl rfl ?_
  refine s_callV (p' := 6) (ls0 := [_, _]) rfl rfl rfl rfl rfl (mj_rcv_is h4) rfl (y_isp hl hn hq) (by first | decide | omega) rfl ?_
  refine s_if (p' := 13) true rfl (by decide +kernel) rfl ?_
  refine s_ildn (p' := 14) rfl rfl rfl ?_
  refine s_callV (p' := 17) (ls0 := [_]) rfl rfl rfl rfl rfl rfl rfl (y_isvC (v := 97 + j) (by omega)) (by first | decide | omega) rfl ?_
  refine s_if (p' := 24) true rfl (by rw [show vB (97 + j) = true from decide_eq_true (by omega)]; decide +kernel) rfl ?_
  refine s_con (p' := 25) rfl rfl ?_
  refine c_call (p' := 28) (kc := 3) (ls0 := [_, _]) rfl rfl rfl rfl rfl (mj_rcv_is h4) rfl rfl rfl ?_
  refine s_aldn (p' := 1) rfl rfl rfl ?_
  refine s_ildn (p' := 2) rfl rfl rfl ?_
  refine s_pf (p' := 5) (fs' := [_, _, _, _, _, _, _, _, _, _, _]) rfl (by decide) h4 (Nat.blt_eq.mp rfl) rfl rfl rfl ?_
  have hlx := yLb.th (th' := nI 0) (ty' := ty) (sd' := sd) (be' := be) (wa' := wa) (nw' := nw) (nx' := nx) hl h4 hI4
  have mx := m4s (th' := nI 0) (ty' := ty) (sd' := sd) (be' := be) (wa' := wa) (nw' := nw) (nx' := nx) h4
  have y1 : mj_rd (List.set h 400 (yC_ (nI 0) ty sd be wa nw nx)) 400 = some (yC_ (nI 0) ty sd be wa nw nx) := rd_set (by decide) h4
  generalize hg : List.set h 400 _ = k1 at *
  clear hg
  have w1 := hy.fr mx.1 (fun x hx => by rw [List.mem_singleton] at hx; omega)
  have ln1 : k1.length = h.length := mx.leq rfl
  refine s_ildn (p' := 6) rfl rfl rfl ?_
  refine s_if (p' := 13) true rfl (by decide +kernel) rfl ?_
  refine s_con (p' := 14) rfl rfl ?_
  refine c_iret rfl rfl ?_
  refine s_if (p' := 33) true rfl (by decide +kernel) rfl ?_
  refine s_aldn (p' := 34) rfl rfl rfl ?_
  refine s_gf (p' := 37) rfl y1 rfl rfl ?_
  refine s_callEV (p' := 40) (ls0 := [_, _]) rfl rfl rfl rfl rfl (by obtain ⟨⟨_, _, zz⟩, _⟩ := id w1; exact mj_rcv_is zz) rfl (y_lik ln1 (by omega) (by omega) w1) rfl rfl ?_
  rintro _ h2 ⟨rfl, w2, m2⟩
  have y2 := m2.1 400 List.not_mem_nil _ y1
  have hl2 := hlx.ap m2.1
  have v2 := w1.fr m2.1 (fun x hx => absurd hx List.not_mem_nil)
  have hIN : ∀ x, x ∈ wML h.length → ¬ I x := fun x hx q => by have := hIl x q; have := wML_m.mp hx; omega
  obtain ⟨⟨cn2, d2, a0⟩, ⟨⟨vf, a1, b1⟩, st2, tt2⟩, rest2⟩ := id w2
  refine s_ast (p' := 42) (ls' := [_, _, _, _, _]) rfl rfl rfl rfl ?_
  refine s_ald (p' := 44) rfl rfl rfl ?_
  refine s_gf (p' := 47) rfl a0 rfl rfl ?_
  refine s_ildn (p' := 48) rfl rfl rfl ?_
  refine s_bip (p' := 50) rfl rfl ?_
  refine s_sp (p' := 51) (ls' := _) rfl rfl rfl ?_
  rw [mI_sub (by omega), show 97 + j - 97 = j by omega]
  refine s_ildn (p' := 52) rfl rfl rfl ?_
  refine s_ias (p' := 53) rfl (by omega) a1 (inb_nI (by omega) (by omega)) rfl ?_
  rw [mI_cl (by omega)]
  have m5 : mz_mo [h.length + 1] 0 0 h2 (List.set h2 (h.length + 1) (.inl (0, (8, .inl (upd vf j y))))) := mz_mo.s (mz_mo.rf _ _ _ _) (by omega) a1 rfl (Or.inl (by simp))
  have w5 := w2.row (y := y) (by omega) a1 b1 hj
  have y5 := m5.1 400 (fun e => by rw [List.mem_singleton] at e; omega) _ y2
  have hl5 := hl2.fb m5.1 w2 (fun x hx => by rw [List.mem_singleton] at hx; exact wML_m.mpr (by omega)) hIN
  generalize hg : List.set h2 (h.length + 1) _ = h5 at *
  clear hg
  refine s_aldn (p' := 54) rfl rfl rfl ?_
  refine s_aldn (p' := 55) rfl rfl rfl ?_
  refine s_ald (p' := 57) rfl rfl rfl ?_
  refine s_ildn (p' := 58) rfl rfl rfl ?_
  refine s_con (p' := 59) rfl rfl ?_
  refine s_callEV (p' := 62) (ls0 := [_, _, _, _, _]) rfl rfl rfl rfl rfl (mj_rcv_is y5) rfl (y_who (b := true) cp cl cw (by omega) hIN hp hl5 w5 hq) rfl rfl ?_
  rintro _ h3 ⟨rfl, w3, m3⟩
  have y3 := m3.1 400 (fun e => by have := wML_m.mp e; omega) _ y5
  have hl3 := hl5.fb m3.1 w5 (fun x hx => hx) hIN
  have le3 := (rns_wf hp 500 ((upd v0 j y, st0, t0), bgn K q true cp cl cw) (bgn_wf hq) bgn_nrm).2.2.1
  rw [show edd K (rns np K X 500 ((upd v0 j y, st0, t0), bgn K q true cp cl cw)).2.1.2 = false from he]
  generalize (rns np K X 500 ((upd v0 j y, st0, t0), bgn K q true cp cl cw)) = R at *
  obtain ⟨n4, ⟨⟨sv4, st4, t4⟩, r4⟩, z9⟩ := R
  have m03 : mz_mo [400] 8 106 h h3 := mx.tr (m2.tr ((m5.wk (L' := wML h.length) (k := 0) (z := 0) (fun y hy => Or.inl (by rw [List.mem_singleton] at hy; exact wML_m.mpr (by omega))) (Nat.le_refl _) (Nat.le_refl _)).tr m3 (fun y hy => Or.inl hy) (Nat.le_refl _) (Nat.le_refl _)) (L := []) (fun y hy => Or.inr (by have := wML_m.mp hy; omega)) (Nat.le_refl _) (Nat.le_refl _)) (fun y hy => by cases hy) (Nat.le_refl _) (Nat.le_refl _)
  refine s_con (p' := 63) rfl rfl ?_
  refine s_icmp (p' := 66) false rfl (by rw [if_neg (by decide)]; decide +kernel) rfl ?_
  refine s_con (p' := 67) rfl rfl ?_
  refine s_goto (p' := 71) rfl rfl ?_
  refine c_call (p' := 74) (kc := 3) (ls0 := [_, _]) rfl rfl rfl rfl rfl (mj_rcv_is y3) rfl rfl rfl ?_
  refine s_aldn (p' := 1) rfl rfl rfl ?_
  refine s_ildn (p' := 2) rfl rfl rfl ?_
  refine s_pf (p' := 5) (fs' := [_, _, _, _, _, _, _, _, _, _, _]) rfl (by decide) y3 (Nat.blt_eq.mp rfl) rfl rfl rfl ?_
  have hly := yLb.th (th' := nI 3) (ty' := ty) (sd' := sd) (be' := be) (wa' := wa) (nw' := nw) (nx' := nx) hl3 y3 hI4
  have my := m4s (th' := nI 3) (ty' := ty) (sd' := sd) (be' := be) (wa' := wa) (nw' := nw) (nx' := nx) y3
  have y4 : mj_rd (List.set h3 400 (yC_ (nI 3) ty sd be wa nw nx)) 400 = some (yC_ (nI 3) ty sd be wa nw nx) := rd_set (by decide) y3
  generalize hg : List.set h3 400 _ = k4 at *
  clear hg
  have w4 := w3.fr my.1 (fun x hx => by rw [List.mem_singleton] at hx; omega)
  refine s_ildn (p' := 6) rfl rfl rfl ?_
  refine s_if (p' := 9) false rfl (by decide +kernel) rfl ?_
  refine s_con (p' := 10) rfl rfl ?_
  refine s_goto (p' := 14) rfl rfl ?_
  refine c_iret rfl rfl ?_
  refine s_if (p' := 77) false rfl (by decide +kernel) rfl ?_
  refine s_con (p' := 78) rfl rfl ?_
  refine s_goto (p' := 91) rfl rfl ?_
  refine s_iret rfl rfl ?_
  exact ⟨_, _, rfl, rfl, y4, m03.tr my (fun y hy => Or.inl hy) (Nat.le_refl _) (Nat.le_refl _)⟩
