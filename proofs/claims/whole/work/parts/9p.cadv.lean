/-! The class runs: so many steps; begun; turned. -/
abbrev z0 : CZ := (0, 0, 0, 0, 0)
theorem cRn.z {h : mj_H} {R S p l c : Nat} {w : Bool} {cp cl : Nat → Nat} {cw : Nat → Bool} {z : CZ} (bR : R + 6 < mj_CB) (hR : cRn h R S (p, l, c, w, cp, cl, cw) z) : cRn (h.set R (rnC R S 0 p l c w)) R S (p, l, c, w, cp, cl, cw) z0 := by
  obtain ⟨a, hw, lf, nf, a4, a5, b⟩ := hR
  have f1 : mz_fr [R] h (h.set R (rnC R S 0 p l c w)) := mz_fr.s (by simp) (mz_fr.rf _ _)
  exact ⟨rd_set (by omega) a, hw.fr f1 (by simp) (by simp) (by simp), lf, nf, (rd_setn (by omega)).trans a4, (rd_setn (by omega)).trans a5, Nat.zero_le 2, fun e => absurd (show 0 < 0 from e) (by decide), fun e => absurd (show 1 < 0 from e) (by decide)⟩
theorem cML_ge {R S x : Nat} (hSR : S + 3 ≤ R) (hS3 : 336 ≤ S) (hx : x ∈ cML R S) : 336 ≤ x := by
  rw [cML_m] at hx
  omega
theorem mR_ml {h g : mj_H} {R : Nat} (S : Nat) (m : mz_mo [R] 0 0 h g) : mz_mo (cML R S) 0 0 h g := mo_ml m (fun x hx => cML_m.mpr (by rw [List.mem_singleton] at hx; omega))
theorem cSt.R {h g : mj_H} {R S : Nat} {s : SV} (c : cSt h S s) (hSR : S + 3 ≤ R) (m : mz_mo [R] 0 0 h g) : cSt g S s := c.fr m.1 (by rw [List.mem_singleton]; omega) (by rw [List.mem_singleton]; omega) (by rw [List.mem_singleton]; omega)
theorem nrm_edg {K : Nat → Nat} {r : SR} (hn : nrm K r) (he : edd K r = false) : edg K r = false := by
  cases q : edg K r with
  | false => rfl
  | true =>
    unfold edd at he
    rw [q, Bool.and_true] at he
    have := of_decide_eq_false he
    exact absurd ⟨by omega, q⟩ hn
theorem x_adL {R S np m : Nat} {K : Nat → Nat} {X : Nat → Nat → Nat → Nat} (bR : R + 6 < mj_CB) (hSR : S + 3 ≤ R) (hS3 : 336 ≤ S) (hp : pOk np K X) (hm : m ≤ 500) : ∀ (i d : Nat) (s : SS) (h : mj_H), d + i = m → wfR np K s.2 → nrm K s.2 → cLb h np K X → cSt h S s.1 → cRn h R S s.2 z0 → mj_Wp 6 160 (11, [some (.ref R), some (.int (nI m)), some (.int (nI d))], [], h) (mz_V fun rv h' => rv = .int (nI (d + (rns np K X i s).1)) ∧ cSt h' S (rns np K X i s).2.1.1 ∧ cRn h' R S (rns np K X i s).2.1.2 (rns np K X i s).2.2 ∧ mz_mo (cML R S) 0 0 h h')
  | 0, d, s, h, hd, hw, hn, hl, hS, hR => by
    obtain rfl : d = m := by omega
    refine s_ildn (p' := 12) rfl rfl rfl ?_
    refine s_ildn (p' := 13) rfl rfl rfl ?_
    refine s_icmp (p' := 40) true rfl ((ci_ge (by omega) (by omega)).trans (decide_eq_true (by omega))) rfl ?_
    refine s_ildn (p' := 41) rfl rfl rfl ?_
    refine s_iret rfl rfl ?_
    exact ⟨_, _, rfl, rfl, hS, hR, mz_mo.rf _ _ _ _⟩
  | i + 1, d, s, h, hd, hw, hn, hl, hS, hR => by
    have ih := x_adL bR hSR hS3 hp hm i (d + 1)
    obtain ⟨⟨v, st, t⟩, p, l, c, w, cp, cl, cw⟩ := s
    have hw0 := hw
    obtain ⟨h1, h2, h3, h4⟩ := hw
    have hk := (hp.2 p h1).1
    refine s_ildn (p' := 12) rfl rfl rfl ?_
    refine s_ildn (p' := 13) rfl rfl rfl ?_
    refine s_icmp (p' := 16) false rfl ((ci_ge (by omega) (by omega)).trans (decide_eq_false (by omega))) rfl ?_
    refine s_aldn (p' := 17) rfl rfl rfl ?_
    refine s_callV (p' := 20) (ls0 := [_]) rfl rfl rfl rfl rfl (mj_rcv_is hR.c1) rfl (x_edd bR hR hl h1 hk (by omega) h3) (by first | decide | omega) rfl ?_
    by_cases qe : edd K (p, l, c, w, cp, cl, cw) = true
    · refine s_if (p' := 40) true rfl (by rw [qe]; rfl) rfl ?_
      refine s_ildn (p' := 41) rfl rfl rfl ?_
      refine s_iret rfl rfl ?_
      rw [show rns np K X (i + 1) ((v, st, t), p, l, c, w, cp, cl, cw) = (0, ((v, st, t), p, l, c, w, cp, cl, cw), z0) from if_pos qe]
      exact ⟨_, _, rfl, rfl, hS, hR, mz_mo.rf _ _ _ _⟩
    · refine s_if (p' := 23) false rfl (by rw [Bool.eq_false_iff.mpr qe]; rfl) rfl ?_
      refine s_aldn (p' := 24) rfl rfl rfl ?_
      refine s_callEV (p' := 27) (ls0 := [_, _, _, _]) rfl rfl rfl rfl rfl (mj_rcv_is hR.c1) rfl (x_stp bR hSR hS3 hp hw0 (nrm_edg hn (Bool.eq_false_iff.mpr qe)) hl hS hR) rfl rfl ?_
      rintro _ h1_ ⟨⟨s1, e1, rfl, hS1, hR1⟩ | ⟨z1, e1, rfl, hS1, hR1⟩, m1⟩
      · have hrn : rns np K X (i + 1) ((v, st, t), p, l, c, w, cp, cl, cw) = ((rns np K X i (s1.1, cbk K 20 s1.2)).1 + 1, (rns np K X i (s1.1, cbk K 20 s1.2)).2) := by
          rw [rns, if_neg qe, e1]
        rw [hrn]
        have hw1 := stp_wf hp hw0 (nrm_edg hn (Bool.eq_false_iff.mpr qe)) e1
        have hl1 := hl.fr m1.1 (fun x hx => cML_ge hSR hS3 hx)
        refine s_if (p' := 30) false rfl (by decide +kernel) rfl ?_
        refine s_aldn (p' := 31) rfl rfl rfl ?_
        refine s_callEN (p' := 34) (ls0 := [_, _, _]) rfl rfl rfl rfl rfl (mj_rcv_is hR1.c0) rfl (x_cbk bR (by omega) (fun p h => (hp.2 p h).1) hw1 hl1 hR1) rfl rfl ?_
        rintro h2_ ⟨hR2, m2⟩
        refine s_inc (p' := 37) (ls' := [_, _, _]) rfl rfl rfl rfl rfl ?_
        rw [mI_add]
        refine s_goto (p' := 11) rfl rfl ?_
        refine (ih (s1.1, cbk K 20 s1.2) h2_ (by omega) (cbk_wf 20 _ hw1) (cbk_nrm 20 _ ?_) (hl1.fr m2.1 (fun x hx => by rw [List.mem_singleton.mp hx]; omega)) (hS1.R hSR m2) hR2).imp fun o ho => ?_
        · obtain ⟨_, p1, l1, c1, w1, cp1, cl1, cw1⟩ := s1
          exact hw1.2.2.1
        · obtain ⟨rv, h', e, q1, q2, q3, q4⟩ := ho
          refine ⟨rv, h', e, ?_, q2, q3, mo00 m1 (mo00 (mR_ml S m2) q4)⟩
          rw [q1, show d + 1 + (rns np K X i (s1.1, cbk K 20 s1.2)).1 = d + ((rns np K X i (s1.1, cbk K 20 s1.2)).1 + 1) by omega]
      · have hrn : rns np K X (i + 1) ((v, st, t), p, l, c, w, cp, cl, cw) = (0, ((v, st, t), p, l, c, w, cp, cl, cw), z1) := by
          rw [rns, if_neg qe, e1]
        rw [hrn]
        refine s_if (p' := 40) true rfl (by decide +kernel) rfl ?_
        refine s_ildn (p' := 41) rfl rfl rfl ?_
        refine s_iret rfl rfl ?_
        exact ⟨_, _, rfl, rfl, hS1, hR1, m1⟩
theorem x_adv {h : mj_H} {R S np m : Nat} {K : Nat → Nat} {X : Nat → Nat → Nat → Nat} (bR : R + 6 < mj_CB) (hSR : S + 3 ≤ R) (hS3 : 336 ≤ S) (hp : pOk np K X) (hm : m ≤ 500) {s : SV} {r : SR} {z : CZ} (hw : wfR np K r) (hl : cLb h np K X) (hS : cSt h S s) (hR : cRn h R S r z) : mj_Wp 6 160 (0, [some (.ref R), some (.int (nI m)), none], [], h) (mz_V fun rv h' => rv = .int (nI ((rns np K X m (s, cbk K 20 r)).1)) ∧ cSt h' S (rns np K X m (s, cbk K 20 r)).2.1.1 ∧ cRn h' R S (rns np K X m (s, cbk K 20 r)).2.1.2 (rns np K X m (s, cbk K 20 r)).2.2 ∧ mz_mo (cML R S) 0 0 h h') := by
  obtain ⟨p, l, c, w, cp, cl, cw⟩ := r
  have hw0 := hw
  refine s_aldn (p' := 1) rfl rfl rfl ?_
  refine s_con (p' := 2) rfl rfl ?_
  refine s_pf (p' := 5) (fs' := [_, _, _, _, _, _, _, _, _, _, _, _, _]) rfl (by omega) hR.c1 (Nat.blt_eq.mp rfl) rfl rfl rfl ?_
  generalize hg1 : List.set h R _ = h1_
  have r1 : cRn h1_ R S (p, l, c, w, cp, cl, cw) z0 := by rw [← hg1]; exact hR.z bR
  have m1 : mz_mo [R] 0 0 h h1_ := by rw [← hg1]; exact mo_R bR hR rfl
  clear hg1
  have hl1 := hl.fr m1.1 (fun x hx => by rw [List.mem_singleton.mp hx]; omega)
  refine s_aldn (p' := 6) rfl rfl rfl ?_
  refine s_callEN (p' := 9) (ls0 := [_, _, _]) rfl rfl rfl rfl rfl (mj_rcv_is r1.c1) rfl (x_cbk bR (by omega) (fun p h => (hp.2 p h).1) hw0 hl1 r1) rfl rfl ?_
  rintro h2_ ⟨r2, m2⟩
  refine s_con (p' := 10) rfl rfl ?_
  refine s_istn (p' := 11) (ls' := [_, _, _]) rfl rfl rfl rfl ?_
  refine (x_adL bR hSR hS3 hp hm m 0 (s, cbk K 20 (p, l, c, w, cp, cl, cw)) h2_ (Nat.zero_add m) (cbk_wf 20 _ hw0) (cbk_nrm 20 _ hw0.2.2.1) (hl1.fr m2.1 (fun x hx => by rw [List.mem_singleton.mp hx]; omega)) ((hS.R hSR m1).R hSR m2) r2).imp fun o ho => ?_
  obtain ⟨rv, h', e, q1, q2, q3, q4⟩ := ho
  exact ⟨rv, h', e, by rw [q1, Nat.zero_add], q2, q3, mo00 (mR_ml S m1) (mo00 (mR_ml S m2) q4)⟩
