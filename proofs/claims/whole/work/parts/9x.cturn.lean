/-! The class: a run begun, a run turned round. -/
def rnB (R S b cn p l c : Nat) (w : Bool) : mj_C := .inr (8, [.ref 38, .ref S, .ref (R + 1), .ref (R + 2), .ref (R + 3), .ref (R + 4), .ref (R + 5), .int (nI cn), .int (nI b), .int (nI p), .int (nI l), .int (nI c), .int (nI (bN w))])
/-- the class's run, begun or not -/
def cRb (h : mj_H) (R S b : Nat) (r : SR) (z : CZ) : Prop := mj_rd h R = some (rnB R S b z.1 r.1 r.2.1 r.2.2.1 r.2.2.2.1) ∧ cRw_ h R r.2.2.1 r.2.2.2.2.1 r.2.2.2.2.2.1 r.2.2.2.2.2.2 ∧ cWy h R z
theorem cRn.b {h : mj_H} {R S : Nat} {r : SR} {z : CZ} (a : cRn h R S r z) : cRb h R S 1 r z := a
theorem cRb.n {h : mj_H} {R S : Nat} {r : SR} {z : CZ} (a : cRb h R S 1 r z) : cRn h R S r z := a
theorem cRb.bg {h : mj_H} {R S b p l c : Nat} {w : Bool} {cp cl : Nat → Nat} {cw : Nat → Bool} {z : CZ} (bR : R + 6 < mj_CB) (a : cRb h R S b (p, l, c, w, cp, cl, cw) z) : cRn (h.set R (rnC R S z.1 p l c w)) R S (p, l, c, w, cp, cl, cw) z ∧ mz_mo [R] 0 0 h (h.set R (rnC R S z.1 p l c w)) := by
  have m : mz_mo [R] 0 0 h (h.set R (rnC R S z.1 p l c w)) := mz_mo.s (mz_mo.rf _ _ _ _) (by omega) a.1 rfl (Or.inl (by simp))
  exact ⟨⟨rd_set (by omega) a.1, a.2.1.fr m.1 (by simp) (by simp) (by simp), a.2.2.fr m.1 (by simp) (by simp)⟩, m⟩
theorem cRn.sw {h : mj_H} {R S p l c : Nat} {w : Bool} {cp cl : Nat → Nat} {cw : Nat → Bool} {z : CZ} (bR : R + 6 < mj_CB) (hR : cRn h R S (p, l, c, w, cp, cl, cw) z) {f3 : Nat → Int32} (a3 : mj_rd h (R + 3) = some (.inl (2, (20, .inl f3)))) (b3 : ∀ d, d < 20 → ∃ b, f3 d = nI (bN b)) (b4 : ∀ d, d < c → f3 d = nI (bN (cw d))) {i : Nat} {b : Bool} {cv : Nat → Bool} (he : ∀ d, d < c → cv d = if d = i then b else cw d) : cRn (h.set (R + 3) (.inl (2, (20, .inl (upd f3 i (nI (bN b))))))) R S (p, l, c, w, cp, cl, cv) z ∧ mz_mo [R + 3] 0 0 h (h.set (R + 3) (.inl (2, (20, .inl (upd f3 i (nI (bN b))))))) := by
  have m : mz_mo [R + 3] 0 0 h (h.set (R + 3) (.inl (2, (20, .inl (upd f3 i (nI (bN b))))))) := mz_mo.s (mz_mo.rf _ _ _ _) (by omega) a3 rfl (Or.inl (by simp))
  obtain ⟨k0, ⟨⟨f1, a1, b1⟩, ⟨f2, a2, b2⟩, _⟩, wy⟩ := hR
  refine ⟨⟨m.1 _ (by simp) _ k0, ⟨⟨f1, m.1 _ (by simp) _ a1, b1⟩, ⟨f2, m.1 _ (by simp) _ a2, b2⟩, _, rd_set (by omega) a3, fun d hd => ?_, fun d hd => ?_⟩, wy.fr m.1 (by simp) (by simp)⟩, m⟩
  · unfold upd
    by_cases q : d = i
    · rw [if_pos q]
      exact ⟨b, rfl⟩
    · rw [if_neg q]
      exact b3 d hd
  · show upd f3 i (nI (bN b)) d = nI (bN (cv d))
    have hd : d < c := hd
    rw [he d hd]
    unfold upd
    by_cases q : d = i
    · rw [if_pos q, if_pos q]
    · rw [if_neg q, if_neg q]
      exact b4 d hd
theorem x_bgn {h : mj_H} {R S b p l c : Nat} {w : Bool} {cp cl : Nat → Nat} {cw : Nat → Bool} {z : CZ} (bR : R + 6 < mj_CB) (hR : cRb h R S b (p, l, c, w, cp, cl, cw) z) (hR3 : 336 ≤ R) {np q : Nat} {v : Bool} {K : Nat → Nat} {X : Nat → Nat → Nat → Nat} (hl : cLb h np K X) (hq : q < np) : mj_Wp 2 155 (0, [some (.ref R), some (.int (nI q)), some (.int (nI (bN v)))], [], h) (mz_N fun h' => cRn h' R S (bgn K q v cp cl cw) z0 ∧ mz_mo [R] 0 0 h h') := by
  refine s_aldn (p' := 1) rfl rfl rfl ?_
  refine s_con (p' := 2) rfl rfl ?_
  refine s_pf (p' := 5) (fs' := [_, _, _, _, _, _, _, _, _, _, _, _, _]) rfl (by omega) hR.1 (Nat.blt_eq.mp rfl) rfl rfl rfl ?_
  generalize hg1 : List.set _ R _ = h1_
  have r1 : cRn h1_ R S (p, l, c, w, cp, cl, cw) z := by rw [← hg1]; exact (hR.bg bR).1
  have m1 : mz_mo [R] 0 0 h h1_ := by rw [← hg1]; exact (hR.bg bR).2
  clear hg1
  refine s_aldn (p' := 6) rfl rfl rfl ?_
  refine s_con (p' := 7) rfl rfl ?_
  refine s_pf (p' := 10) (fs' := [_, _, _, _, _, _, _, _, _, _, _, _, _]) rfl (by omega) r1.c1 (Nat.blt_eq.mp rfl) rfl rfl rfl ?_
  generalize hg2 : List.set _ R _ = h2_
  have r2 : cRn h2_ R S (p, l, c, w, cp, cl, cw) z0 := by rw [← hg2]; exact r1.z bR
  have m2 : mz_mo [R] 0 0 h1_ h2_ := by rw [← hg2]; exact mo_R bR r1 rfl
  clear hg2
  refine s_aldn (p' := 11) rfl rfl rfl ?_
  refine s_con (p' := 12) rfl rfl ?_
  refine s_pf (p' := 15) (fs' := [_, _, _, _, _, _, _, _, _, _, _, _, _]) rfl (by omega) r2.c1 (Nat.blt_eq.mp rfl) rfl rfl rfl ?_
  generalize hg3 : List.set _ R _ = h3_
  have r3 : cRn h3_ R S (p, l, 0, w, cp, cl, cw) z0 := by rw [← hg3]; exact r2.rs bR p l 0 w (Nat.zero_le c)
  have m3 : mz_mo [R] 0 0 h2_ h3_ := by rw [← hg3]; exact mo_R bR r2 rfl
  clear hg3
  have m13 := mo00 m1 (mo00 m2 m3)
  have hl3 := hl.fr m13.1 (fun x hx => by rw [List.mem_singleton.mp hx]; omega)
  refine s_aldn (p' := 16) rfl rfl rfl ?_
  refine s_ildn (p' := 17) rfl rfl rfl ?_
  refine s_ildn (p' := 18) rfl rfl rfl ?_
  refine s_callEN (p' := 21) (ls0 := [_, _, _]) rfl rfl rfl rfl rfl (mj_rcv_is r3.c1) rfl (x_ent bR r3 hR3 hl3 (b := v) hq) rfl rfl ?_
  rintro h4_ ⟨r4, m4⟩
  refine s_ret rfl ?_
  exact ⟨_, rfl, r4, mo00 m13 m4⟩
theorem x_trL {R S p l c : Nat} {w : Bool} {cp cl : Nat → Nat} {cw : Nat → Bool} {z : CZ} (bR : R + 6 < mj_CB) (hc : c ≤ 20) : ∀ (n i : Nat) (h : mj_H), i + n = c → cRn h R S (p, l, c, w, cp, cl, fun d => if d < i then !cw d else cw d) z → mj_Wp 0 159 (18, [some (.ref R), some (.int (nI i))], [], h) (mz_N fun h' => cRn h' R S (p, l, c, w, cp, cl, fun d => if d < c then !cw d else cw d) z ∧ mz_mo [R + 3] 0 0 h h')
  | 0, i, h, hi, hR => by
    obtain rfl : i = c := by omega
    refine s_ildn (p' := 19) rfl rfl rfl ?_
    refine s_aldn (p' := 20) rfl rfl rfl ?_
    refine s_gf (p' := 23) rfl hR.c1 rfl rfl ?_
    refine s_icmp (p' := 61) true rfl ((ci_ge (by omega) (by omega)).trans (decide_eq_true (by omega))) rfl ?_
    refine s_ret rfl ?_
    exact ⟨_, rfl, hR, mz_mo.rf _ _ _ _⟩
  | n + 1, i, h, hi, hR => by
    have ih := x_trL (S := S) (p := p) (l := l) (w := w) (cp := cp) (cl := cl) (cw := cw) (z := z) bR hc n (i + 1)
    obtain ⟨_, ⟨_, _, f3, a3, b3, b4⟩, _⟩ := id hR
    have e4 := b4 i (by show i < c; omega)
    dsimp only at e4
    rw [if_neg (Nat.lt_irrefl i)] at e4
    refine s_ildn (p' := 19) rfl rfl rfl ?_
    refine s_aldn (p' := 20) rfl rfl rfl ?_
    refine s_gf (p' := 23) rfl hR.c1 rfl rfl ?_
    refine s_icmp (p' := 26) false rfl ((ci_ge (by omega) (by omega)).trans (decide_eq_false (by omega))) rfl ?_
    refine s_ildn (p' := 27) rfl rfl rfl ?_
    refine s_aldn (p' := 28) rfl rfl rfl ?_
    refine s_gf (p' := 31) rfl hR.c1 rfl rfl ?_
    refine s_len (p' := 32) rfl (mj_rdA_is a3 (by decide)) (by decide) rfl ?_
    refine s_icmp (p' := 35) false rfl ((ci_ge (by omega) (by omega)).trans (decide_eq_false (by omega))) rfl ?_
    refine s_aldn (p' := 36) rfl rfl rfl ?_
    refine s_gf (p' := 39) rfl hR.c1 rfl rfl ?_
    refine s_ildn (p' := 40) rfl rfl rfl ?_
    refine s_aldn (p' := 41) rfl rfl rfl ?_
    refine s_gf (p' := 44) rfl hR.c1 rfl rfl ?_
    refine s_ildn (p' := 45) rfl rfl rfl ?_
    refine s_bal2 (p' := 46) rfl a3 (inb_nI (by omega) (by omega)) rfl ?_
    rw [mI_cl (by omega), e4]
    by_cases qw : cw i = true
    · refine s_if (p' := 53) true rfl (by rw [qw]; decide +kernel) rfl ?_
      refine s_con (p' := 54) rfl rfl ?_
      refine s_bas2 (p' := 55) rfl (by omega) a3 (inb_nI (by omega) (by omega)) rfl ?_
      rw [mI_cl (by omega), show vp_nar .boolean (nI 0) = nI (bN false) from by decide +kernel]
      have sw := hR.sw bR a3 b3 b4 (i := i) (b := false) (cv := fun d => if d < i + 1 then !cw d else cw d) (fun d hd => by
        show (if d < i + 1 then !cw d else cw d) = if d = i then false else if d < i then !cw d else cw d
        by_cases q : d = i
        · rw [if_pos q, if_pos (by omega), q, qw]; rfl
        · rw [if_neg q]
          by_cases q2 : d < i
          · rw [if_pos q2, if_pos (by omega)]
          · rw [if_neg q2, if_neg (by omega)])
      generalize hg : List.set h _ _ = g
      rw [hg] at sw
      clear hg
      refine s_inc (p' := 58) (ls' := [_, _]) rfl rfl rfl rfl rfl ?_
      rw [mI_add]
      refine s_goto (p' := 18) rfl rfl ?_
      exact (ih g (by omega) sw.1).imp fun o ho => by
        obtain ⟨h', e, q1, q2⟩ := ho
        exact ⟨h', e, q1, mo00 sw.2 q2⟩
    · refine s_if (p' := 49) false rfl (by rw [Bool.eq_false_iff.mpr qw]; decide +kernel) rfl ?_
      refine s_con (p' := 50) rfl rfl ?_
      refine s_goto (p' := 54) rfl rfl ?_
      refine s_bas2 (p' := 55) rfl (by omega) a3 (inb_nI (by omega) (by omega)) rfl ?_
      rw [mI_cl (by omega), show vp_nar .boolean (nI 1) = nI (bN true) from by decide +kernel]
      have sw := hR.sw bR a3 b3 b4 (i := i) (b := true) (cv := fun d => if d < i + 1 then !cw d else cw d) (fun d hd => by
        show (if d < i + 1 then !cw d else cw d) = if d = i then true else if d < i then !cw d else cw d
        by_cases q : d = i
        · rw [if_pos q, if_pos (by omega), q, (Bool.eq_false_iff.mpr qw)]; rfl
        · rw [if_neg q]
          by_cases q2 : d < i
          · rw [if_pos q2, if_pos (by omega)]
          · rw [if_neg q2, if_neg (by omega)])
      generalize hg : List.set h _ _ = g
      rw [hg] at sw
      clear hg
      refine s_inc (p' := 58) (ls' := [_, _]) rfl rfl rfl rfl rfl ?_
      rw [mI_add]
      refine s_goto (p' := 18) rfl rfl ?_
      exact (ih g (by omega) sw.1).imp fun o ho => by
        obtain ⟨h', e, q1, q2⟩ := ho
        exact ⟨h', e, q1, mo00 sw.2 q2⟩
theorem x_trn {h : mj_H} {R S p l c : Nat} {w : Bool} {cp cl : Nat → Nat} {cw : Nat → Bool} {z : CZ} (bR : R + 6 < mj_CB) (hc : c ≤ 20) (hR : cRn h R S (p, l, c, w, cp, cl, cw) z) : mj_Wp 0 159 (0, [some (.ref R), none], [], h) (mz_N fun h' => cRn h' R S (trn (p, l, c, w, cp, cl, cw)) z ∧ mz_mo [R, R + 3] 0 0 h h') := by
  cases w with
  | true =>
    refine s_aldn (p' := 1) rfl rfl rfl ?_
    refine s_aldn (p' := 2) rfl rfl rfl ?_
    refine s_gf (p' := 5) rfl hR.c1 rfl rfl ?_
    refine s_if (p' := 12) true rfl (by decide +kernel) rfl ?_
    refine s_con (p' := 13) rfl rfl ?_
    refine s_pf (p' := 16) (fs' := [_, _, _, _, _, _, _, _, _, _, _, _, _]) rfl (by omega) hR.c1 (Nat.blt_eq.mp rfl) rfl rfl rfl ?_
    generalize hg1 : List.set _ R _ = h1_
    have r1 : cRn h1_ R S (p, l, c, false, cp, cl, fun d => if d < 0 then !cw d else cw d) z := by rw [← hg1]; exact hR.rs bR p l c false (Nat.le_refl _)
    have m1 : mz_mo [R] 0 0 h h1_ := by rw [← hg1]; exact mo_R bR hR rfl
    clear hg1
    refine s_con (p' := 17) rfl rfl ?_
    refine s_istn (p' := 18) (ls' := [_, _]) rfl rfl rfl rfl ?_
    exact (x_trL bR hc c 0 h1_ (Nat.zero_add c) r1).imp fun o ho => by
      obtain ⟨h', e, q1, q2⟩ := ho
      exact ⟨h', e, q1, mo00 (m1.wk (fun y hy => Or.inl (by simp only [List.mem_cons, List.not_mem_nil, or_false] at hy ⊢; omega)) (Nat.le_refl _) (Nat.le_refl _)) (q2.wk (fun y hy => Or.inl (by simp only [List.mem_cons, List.not_mem_nil, or_false] at hy ⊢; omega)) (Nat.le_refl _) (Nat.le_refl _))⟩
  | false =>
    refine s_aldn (p' := 1) rfl rfl rfl ?_
    refine s_aldn (p' := 2) rfl rfl rfl ?_
    refine s_gf (p' := 5) rfl hR.c1 rfl rfl ?_
    refine s_if (p' := 8) false rfl (by decide +kernel) rfl ?_
    refine s_con (p' := 9) rfl rfl ?_
    refine s_goto (p' := 13) rfl rfl ?_
    refine s_pf (p' := 16) (fs' := [_, _, _, _, _, _, _, _, _, _, _, _, _]) rfl (by omega) hR.c1 (Nat.blt_eq.mp rfl) rfl rfl rfl ?_
    generalize hg1 : List.set _ R _ = h1_
    have r1 : cRn h1_ R S (p, l, c, true, cp, cl, fun d => if d < 0 then !cw d else cw d) z := by rw [← hg1]; exact hR.rs bR p l c true (Nat.le_refl _)
    have m1 : mz_mo [R] 0 0 h h1_ := by rw [← hg1]; exact mo_R bR hR rfl
    clear hg1
    refine s_con (p' := 17) rfl rfl ?_
    refine s_istn (p' := 18) (ls' := [_, _]) rfl rfl rfl rfl ?_
    exact (x_trL bR hc c 0 h1_ (Nat.zero_add c) r1).imp fun o ho => by
      obtain ⟨h', e, q1, q2⟩ := ho
      exact ⟨h', e, q1, mo00 (m1.wk (fun y hy => Or.inl (by simp only [List.mem_cons, List.not_mem_nil, or_false] at hy ⊢; omega)) (Nat.le_refl _) (Nat.le_refl _)) (q2.wk (fun y hy => Or.inl (by simp only [List.mem_cons, List.not_mem_nil, or_false] at hy ⊢; omega)) (Nat.le_refl _) (Nat.le_refl _))⟩
