/-! The reference: invert, questions about procedures. -/
theorem y_invT {I : Nat → Prop} {h : mj_H} {np Ep : Nat} {N : Nat → Nat} {F : Nat → Nat → Nat} {K : Nat → Nat} {X : Nat → Nat → Nat → Nat} {PF : Nat → Nat} (hl : yLi I h np N F K X PF Ep) (hn6 : np ≤ 6) {th : Int32} {sd be : Int64} {ty wa nw nx : Value} (h4 : mj_rd h 400 = some (yC_ th ty sd be wa nw nx)) {p : Int32} (hpr : p.toInt < 0 ∨ (np : Int) ≤ p.toInt)  : mj_Wp 3 356 (0, [some (.ref 400), some (.int p), none], [], h) (mz_V fun r g => r = .int (nI 0) ∧ mj_rd g 400 = some (yC_ (nI 1) ty sd be wa nw nx) ∧ mz_mo [400] 0 0 h g) := by
  refine s_aldn (p' := 1) rfl rfl rfl ?_
  refine s_aldn (p' := 2) rfl rfl rfl ?_
  refine s_ildn (p' := 3) rfl rfl rfl ?_
  refine s_callV (p' := 6) (ls0 := [_, _]) rfl rfl rfl rfl rfl (mj_rcv_is h4) rfl (y_ispF (hl.lb h4) hn6 hpr) (by first | decide | omega) rfl ?_
  refine s_if (p' := 9) false rfl (by decide +kernel) rfl ?_
  refine s_con (p' := 10) rfl rfl ?_
  refine s_goto (p' := 32) rfl rfl ?_
  refine c_call (p' := 35) (kc := 2) (ls0 := [_, _]) rfl rfl rfl rfl rfl (mj_rcv_is h4) rfl rfl rfl ?_
  refine s_aldn (p' := 1) rfl rfl rfl ?_
  refine s_ildn (p' := 2) rfl rfl rfl ?_
  refine s_pf (p' := 5) (fs' := [_, _, _, _, _, _, _, _, _, _, _]) rfl (by decide) h4 (Nat.blt_eq.mp rfl) rfl rfl rfl ?_
  generalize hg1 : List.set h 400 _ = h1
  have z1 : mj_rd h1 400 = some (yC_ (nI 1) ty sd be wa nw nx) := by rw [← hg1]; exact rd_set (by decide) h4
  have m1 : mz_mo [400] 0 0 h h1 := by rw [← hg1]; exact mz_mo.s (mz_mo.rf _ _ _ _) (by decide) h4 rfl (Or.inl (by simp))
  have l1 : h1.length = h.length := by rw [← hg1]; exact List.length_set
  clear hg1
  refine s_ildn (p' := 6) rfl rfl rfl ?_
  refine s_if (p' := 9) false rfl (by decide +kernel) rfl ?_
  refine s_con (p' := 10) rfl rfl ?_
  refine s_goto (p' := 14) rfl rfl ?_
  refine c_iret rfl rfl ?_
  refine s_if (p' := 38) false rfl (by decide +kernel) rfl ?_
  refine s_con (p' := 39) rfl rfl ?_
  refine s_iret rfl rfl ?_
  exact ⟨_, _, rfl, rfl, z1, m1⟩
theorem y_invU {I : Nat → Prop} {h : mj_H} {np Ep : Nat} {N : Nat → Nat} {F : Nat → Nat → Nat} {K : Nat → Nat} {X : Nat → Nat → Nat → Nat} {PF : Nat → Nat} (hl : yLi I h np N F K X PF Ep) (hn6 : np ≤ 6) {th : Int32} {sd be : Int64} {ty wa nw nx : Value} (h4 : mj_rd h 400 = some (yC_ th ty sd be wa nw nx)) {p : Nat} (hp : p < np) (hnp : np = 6) : mj_Wp 3 356 (0, [some (.ref 400), some (.int (nI p)), none], [], h) (mz_V fun r g => r = .int (nI 0) ∧ mj_rd g 400 = some (yC_ (nI 2) ty sd be wa nw nx) ∧ mz_mo [400] 0 0 h g) := by
  obtain ⟨mc, lc⟩ := hl.1.c
  refine s_aldn (p' := 1) rfl rfl rfl ?_
  refine s_aldn (p' := 2) rfl rfl rfl ?_
  refine s_ildn (p' := 3) rfl rfl rfl ?_
  refine s_callV (p' := 6) (ls0 := [_, _]) rfl rfl rfl rfl rfl (mj_rcv_is h4) rfl (y_isp (hl.lb h4) hn6 hp) (by first | decide | omega) rfl ?_
  refine s_if (p' := 13) true rfl (by decide +kernel) rfl ?_
  refine s_aldn (p' := 14) rfl rfl rfl ?_
  refine s_gf (p' := 17) rfl h4 rfl rfl ?_
  refine s_callV (p' := 22) (ls0 := [_]) rfl rfl rfl rfl rfl (mj_rcv_is lc) rfl (y_siz lc) (by first | decide | omega) rfl ?_
  refine s_bip (p' := 24) rfl rfl ?_
  refine s_icmp (p' := 27) false rfl ((ci_ne (by omega) (by omega)).trans (decide_eq_false (by omega))) rfl ?_
  refine s_con (p' := 28) rfl rfl ?_
  refine s_goto (p' := 32) rfl rfl ?_
  refine c_call (p' := 35) (kc := 2) (ls0 := [_, _]) rfl rfl rfl rfl rfl (mj_rcv_is h4) rfl rfl rfl ?_
  refine s_aldn (p' := 1) rfl rfl rfl ?_
  refine s_ildn (p' := 2) rfl rfl rfl ?_
  refine s_pf (p' := 5) (fs' := [_, _, _, _, _, _, _, _, _, _, _]) rfl (by decide) h4 (Nat.blt_eq.mp rfl) rfl rfl rfl ?_
  generalize hg1 : List.set h 400 _ = h1
  have z1 : mj_rd h1 400 = some (yC_ (nI 2) ty sd be wa nw nx) := by rw [← hg1]; exact rd_set (by decide) h4
  have m1 : mz_mo [400] 0 0 h h1 := by rw [← hg1]; exact mz_mo.s (mz_mo.rf _ _ _ _) (by decide) h4 rfl (Or.inl (by simp))
  have l1 : h1.length = h.length := by rw [← hg1]; exact List.length_set
  clear hg1
  refine s_ildn (p' := 6) rfl rfl rfl ?_
  refine s_if (p' := 9) false rfl (by decide +kernel) rfl ?_
  refine s_con (p' := 10) rfl rfl ?_
  refine s_goto (p' := 14) rfl rfl ?_
  refine c_iret rfl rfl ?_
  refine s_if (p' := 38) false rfl (by decide +kernel) rfl ?_
  refine s_con (p' := 39) rfl rfl ?_
  refine s_iret rfl rfl ?_
  exact ⟨_, _, rfl, rfl, z1, m1⟩
def iJ0 (I : Nat → Prop) (h : mj_H) (B a : Nat) : Prop := bI I h a ∧ a < B
theorem y_inv {I : Nat → Prop} {h : mj_H} {np Ep : Nat} {N : Nat → Nat} {F : Nat → Nat → Nat} {K : Nat → Nat} {X : Nat → Nat → Nat → Nat} {PF : Nat → Nat} (hl : yLi I h np N F K X PF Ep) (hn6 : np ≤ 6) {th : Int32} {sd be : Int64} {ty wa nw nx : Value} (h4 : mj_rd h 400 = some (yC_ th ty sd be wa nw nx)) {p : Nat} (hp : p < np) (hnp : np < 6) (hI4 : ∀ a, I a → a ≠ 400 ∧ a ≠ 401 ∧ a ≠ Ep) (hIl : ∀ a, I a → a < h.length) (hK : K p ≤ 30) {y z : Nat → Nat → Nat} (w : wRow (X p) y 6 0 (K p) 0) (hl60 : (pFl y (K p) 0).length ≤ 60) (ez : ∀ j, j < K p → ∀ q, q < 8 → z j q = y j q) (hb : h.length + 2000 < mj_CB) : mj_Wp 142 356 (0, [some (.ref 400), some (.int (nI p)), none], [], h) (mz_V fun r g => r = .int (nI np) ∧ mj_rd g 400 = some (yC_ (nI 0) ty sd be wa nw nx) ∧ ∃ D E', yLi (fun a => bI I h a ∧ a ≠ E') g (np + 1) (updN3 N np (pFl y (K p) 0).length) (updN3 F np (lF (pFl y (K p) 0))) (updN3 K np (K p)) (updN3 X np z) (updN3 PF np D) E' ∧ (E' = Ep ∨ h.length ≤ E') ∧ E' < mj_CB ∧ mz_mo [400, 401, Ep] 1500 38000 h g) := by
  obtain ⟨mc, lc⟩ := hl.1.c
  refine s_aldn (p' := 1) rfl rfl rfl ?_
  refine s_aldn (p' := 2) rfl rfl rfl ?_
  refine s_ildn (p' := 3) rfl rfl rfl ?_
  refine s_callV (p' := 6) (ls0 := [_, _]) rfl rfl rfl rfl rfl (mj_rcv_is h4) rfl (y_isp (hl.lb h4) hn6 hp) (by first | decide | omega) rfl ?_
  refine s_if (p' := 13) true rfl (by decide +kernel) rfl ?_
  refine s_aldn (p' := 14) rfl rfl rfl ?_
  refine s_gf (p' := 17) rfl h4 rfl rfl ?_
  refine s_callV (p' := 22) (ls0 := [_]) rfl rfl rfl rfl rfl (mj_rcv_is lc) rfl (y_siz lc) (by first | decide | omega) rfl ?_
  refine s_bip (p' := 24) rfl rfl ?_
  refine s_icmp (p' := 31) true rfl ((ci_ne (by omega) (by omega)).trans (decide_eq_true (by omega))) rfl ?_
  refine s_con (p' := 32) rfl rfl ?_
  refine c_call (p' := 35) (kc := 2) (ls0 := [_, _]) rfl rfl rfl rfl rfl (mj_rcv_is h4) rfl rfl rfl ?_
  refine s_aldn (p' := 1) rfl rfl rfl ?_
  refine s_ildn (p' := 2) rfl rfl rfl ?_
  refine s_pf (p' := 5) (fs' := [_, _, _, _, _, _, _, _, _, _, _]) rfl (by decide) h4 (Nat.blt_eq.mp rfl) rfl rfl rfl ?_
  generalize hg1 : List.set h 400 _ = h1
  have z1 : mj_rd h1 400 = some (yC_ (nI 0) ty sd be wa nw nx) := by rw [← hg1]; exact rd_set (by decide) h4
  have m1 : mz_mo [400] 0 0 h h1 := by rw [← hg1]; exact mz_mo.s (mz_mo.rf _ _ _ _) (by decide) h4 rfl (Or.inl (by simp))
  have l1 : h1.length = h.length := by rw [← hg1]; exact List.length_set
  clear hg1
  refine s_ildn (p' := 6) rfl rfl rfl ?_
  refine s_if (p' := 13) true rfl (by decide +kernel) rfl ?_
  refine s_con (p' := 14) rfl rfl ?_
  refine c_iret rfl rfl ?_
  refine s_if (p' := 40) true rfl (by decide +kernel) rfl ?_
  refine s_aldn (p' := 41) rfl rfl rfl ?_
  refine s_gf (p' := 44) rfl z1 rfl rfl ?_
  refine s_ildn (p' := 45) rfl rfl rfl ?_
  have e1 : mj_CB = 1000000 := rfl
  have hIc : ∀ a, I a → a < mj_CB := hl.2.1
  have E4 : Ep ≠ 400 := fun e => by obtain ⟨_, y, q2⟩ := ls_kd hl.1; rw [e, h4] at q2; cases q2
  have y1 : yLs h1 401 Ep np PF := hl.1.fr m1.1 (by simp) (by simp only [List.mem_singleton]; exact E4) (fun j hj => by simp only [List.mem_singleton]; exact (hI4 _ (hl.2.2 j hj).i).1)
  have mvO1 : Mv I I [400] h h1 := ⟨m1.1, hIc, fun a ha _ => ⟨by have := hI4 a ha; simp only [List.mem_singleton]; omega, ha⟩⟩
  have pr1 := (hl.2.2 p hp).mv mvO1
  obtain ⟨Lr, Tx, La, Ea, Fa, iD, rD, _, _, _, _, _, rw1⟩ := pr1
  obtain ⟨mc1, lc1⟩ := y1.c
  refine s_callV (p' := 50) (ls0 := [_, _]) rfl rfl rfl rfl rfl (mj_rcv_is lc1) rfl (y_get y1 hp) (by first | decide | omega) rfl ?_
  refine s_cco (p' := 53) rfl rD rfl ?_
  refine s_gf (p' := 56) rfl rD rfl rfl ?_
  refine s_callEV (p' := 59) (ls0 := [_, _, _]) rfl rfl rfl rfl rfl rfl rfl (y_bk (y := y) hIc 6 Lr 0 (K p) 0 h1 (fun a ha => by have := hIl a ha; omega) rw1 w hK (by omega)) rfl rfl ?_
  rintro _ h2 ⟨L', rfl, wb, m2⟩
  rw [Nat.zero_add, Nat.sub_zero] at wb
  rw [Nat.sub_zero] at m2
  have u2 := mo_le m2
  have z2 := m2.1 400 List.not_mem_nil _ z1
  refine s_astn (p' := 60) (ls' := [_, _, _]) rfl rfl rfl rfl ?_
  refine s_aldn (p' := 61) rfl rfl rfl ?_
  refine s_gf (p' := 64) rfl z2 rfl rfl ?_
  refine s_newz (p' := 67) (a := h2.length) rfl rfl rfl rfl ?_
  generalize hg3 : h2 ++ [_] = h3
  have D3 : mj_rd h3 h2.length = some (.inr (26, [.null, .null, .null])) := by rw [← hg3]; exact rd_nw (Nat.blt_eq.mpr (by omega)) rfl
  have m3 : mz_mo [] 1 3 h2 h3 := by rw [← hg3]; exact mz_mo.ap [] _ _
  have l3 : h3.length = h2.length + 1 := by rw [← hg3]; exact List.length_append
  clear hg3
  have z3 := m3.1 400 List.not_mem_nil _ z2
  have mv3 : Mv (bI I h1) (iJ0 I h1 h2.length) [] h2 h3 := ⟨m3.1, bI.lt hIc, fun a ha hlt => ⟨List.not_mem_nil, ha, hlt⟩⟩
  have w3 : yRow (iJ0 I h1 h2.length) h3 y 6 L' 0 (K p) := rwP.mv mv3 (fun p a b _ _ => yPt.mv mv3 6 p a b (fun _ _ _ _ _ => rfl)) (fun p a b => yPt.lt 6 p a b) wb
  have iJc : ∀ a, iJ0 I h1 h2.length a → a < mj_CB := fun a ha => bI.lt hIc a ha.1
  refine s_sp (p' := 68) (ls' := _) rfl rfl rfl ?_
  refine s_aldn (p' := 69) rfl rfl rfl ?_
  refine s_aldn (p' := 70) rfl rfl rfl ?_
  refine s_callEV (p' := 73) (ls0 := [_, _, _, _]) rfl rfl rfl rfl rfl rfl rfl (y_rt (I := iJ0 I h1 h2.length) (x := y) (K := K p) (fun j hj => w.ty0.act j (Nat.zero_le j) hj) iJc 6 L' 0 (K p) h3 (fun a ha => by have := ha.2; omega) w3 (Nat.le_refl _) (by rw [Nat.sub_zero]; exact hl60) (by omega)) rfl rfl ?_
  rintro _ h4_ ⟨⟨T, rfl, tT, bT, bC⟩, m4⟩
  rw [Nat.sub_zero] at tT m4
  have u4 := mo_le m4
  have z4 := m4.1 400 List.not_mem_nil _ z3
  have D4 := m4.1 _ List.not_mem_nil _ D3
  have mv4 : Mv (iJ0 I h1 h2.length) (iJ0 I h1 h2.length) [] h3 h4_ := ⟨m4.1, iJc, fun a ha _ => ⟨List.not_mem_nil, ha⟩⟩
  have w4 : yRow (iJ0 I h1 h2.length) h4_ z 6 L' 0 (K p) := rwP.mv mv4 (fun p a b _ q => yPt.mv mv4 6 p a b (fun j _ q2 q3 q4 => (ez j (by omega) q3 q4).symm)) (fun p a b => yPt.lt 6 p a b) w3
  have st4 : yStI (fun a => h3.length ≤ a ∧ a < h4_.length ∧ a < mj_CB) h4_ T (pFl y (K p) 0).length (lF (pFl y (K p) 0)) := by
    obtain ⟨C, rs, k1, cc, k2⟩ := tT.k
    refine ⟨0, tT, ?_, fun B rs2 k3 => ?_⟩
    · rcases rdN k1 with q | q
      · exact Or.inl ⟨bT, q, by omega⟩
      · exact Or.inr q
    · rw [k1] at k3
      have e : @Eq Nat C B := Value.ref.inj (List.cons.inj (Prod.mk.inj (Sum.inr.inj (Option.some.inj k3))).2).1
      have b := bC C rs k1
      rw [← e]
      rcases rdN k2 with q | q
      · exact Or.inl ⟨b, q, by omega⟩
      · exact Or.inr q
  have tz : tRow z 6 0 (K p) := tRow.cg (fun j _ hj q hq => (ez j hj q hq).symm) w.ty0
  refine s_callEN (p' := 76) (ls0 := [_, _, _]) rfl rfl rfl rfl rfl (mj_rcv_is D4) rfl (y_prI (B := h2.length) (fun a ha => by have := ha.1; have := ha.2.1; omega) (fun j hj => tz.act j (Nat.zero_le j) hj) hK (fun a ha => ha.2) (Nat.le_refl _) (by omega) D4 (by omega) w4 st4 (by omega)) rfl rfl ?_
  rintro h6 ⟨pr6, m6⟩
  have u6 := mo_le m6
  have z6 := m6.1 400 (by have := rd_len (by decide) h4; simp only [List.mem_singleton]; omega) _ z4
  have hE7' := (ls_len hl.1).2
  have l401 := (ls_len hl.1).1
  have l400 := rd_len (by decide) h4
  have m16 : mz_mo [400] (4 * K p + 1 + (1 + (40 * K p + 1)) + (4 * K p + 2)) (90 * K p + 10 + (3 + (1050 * K p + 4)) + (100 * K p + 7)) h h6 := by
    have q := (m2.tr (m3.tr m4 (fun y hy => by cases hy) (Nat.le_refl _) (Nat.le_refl _)) (fun y hy => by cases hy) (Nat.le_refl _) (Nat.le_refl _)).tr m6 (fun y hy => Or.inr (by rw [List.mem_singleton.mp hy]; omega)) (Nat.le_refl _) (Nat.le_refl _)
    exact m1.tr q (fun y hy => by cases hy) (by omega) (by omega)
  have y6 : yLs h6 401 Ep np PF := hl.1.fr m16.1 (by simp) (by simp only [List.mem_singleton]; exact E4) (fun j hj => by simp only [List.mem_singleton]; exact (hI4 _ (hl.2.2 j hj).i).1)
  have gq : gE h6 h2.length := by obtain ⟨_, q⟩ := pr6.D; exact ⟨26, _, q, by decide, by decide⟩
  obtain ⟨mc6, c6⟩ := y6.c
  refine s_callEV (p' := 81) (ls0 := [_, _]) rfl rfl rfl rfl rfl (mj_rcv_is c6) rfl (y_ad (by decide) (by omega) (by omega) y6 gq) rfl rfl ?_
  rintro _ h7 ⟨rfl, E7, y7, hE7, bE7, m7⟩
  have u7 := mo_le m7
  have hEn : (400 : Nat) ∉ [401, Ep] := by
    simp only [List.mem_cons, List.not_mem_nil, or_false]
    omega
  have z7 := m7.1 400 hEn _ z6
  obtain ⟨mc7, c7⟩ := y7.c
  refine s_sp (p' := 82) (ls' := _) rfl rfl rfl ?_
  refine s_aldn (p' := 83) rfl rfl rfl ?_
  refine s_gf (p' := 86) rfl z7 rfl rfl ?_
  refine s_callV (p' := 91) (ls0 := [_]) rfl rfl rfl rfl rfl (mj_rcv_is c7) rfl (y_siz c7) (by first | decide | omega) rfl ?_
  refine s_con (p' := 92) rfl rfl ?_
  refine s_sp (p' := 93) (ls' := _) rfl rfl rfl ?_
  rw [mI_sub (by omega), Nat.add_sub_cancel]
  refine s_iret rfl rfl ?_
  have m17 : mz_mo [400, 401, Ep] 1500 38000 h h7 := (m16.wk (L' := [400, 401, Ep]) (fun y hy => Or.inl (by rw [List.mem_singleton.mp hy]; simp)) (Nat.le_refl _) (Nat.le_refl _)).tr m7 (fun y hy => Or.inl (List.mem_cons_of_mem _ hy)) (by omega) (by omega)
  have mvP : Mv (fun a => iJ0 I h1 h2.length a ∨ (h3.length ≤ a ∧ a < h4_.length ∧ a < mj_CB) ∨ h2.length ≤ a ∧ a < mj_CB) (fun a => bI I h a ∧ a ≠ E7) [401, Ep] h6 h7 := ⟨m7.1, fun a ha => ha.elim (iJc a) (fun q => q.elim (fun q => q.2.2) (fun q => q.2)), fun a ha hlt => by
    have k : (I a ∨ h1.length ≤ a) ∧ a < mj_CB := by
      rcases ha with q | q | q
      · exact ⟨q.1.imp id (fun q => q.1), iJc a q⟩
      · exact ⟨Or.inr (by have := q.1; omega), q.2.2⟩
      · exact ⟨Or.inr (by have := q.1; omega), q.2⟩
    have nm : a ∉ [401, Ep] := by
      simp only [List.mem_cons, List.not_mem_nil, or_false]
      rcases k.1 with q | q
      · have := hI4 a q; omega
      · omega
    refine ⟨nm, k.1.imp id (fun q => ⟨by omega, k.2⟩), fun e => ?_⟩
    rcases hE7 with q2 | q2
    · exact nm (by rw [e, q2]; simp)
    · omega⟩
  have mvO : Mv I (fun a => bI I h a ∧ a ≠ E7) [400, 401, Ep] h h7 := ⟨m17.1, hIc, fun a ha _ => ⟨by have := hI4 a ha; simp only [List.mem_cons, List.not_mem_nil, or_false]; omega, Or.inl ha, by have := hI4 a ha; have := hIl a ha; omega⟩⟩
  refine ⟨_, _, rfl, rfl, z7, h2.length, E7, ⟨y7, fun a ha => bI.lt hIc a ha.1, fun q hq => ?_⟩, ?_, bE7, m17⟩
  · by_cases z : q = np
    · rw [z, updN3_s, updN3_s, updN3_s, updN3_s, updN3_s]
      exact pr6.mv mvP
    · rw [updN3_n z, updN3_n z, updN3_n z, updN3_n z, updN3_n z]
      exact (hl.2.2 q (by omega)).mv mvO
  · rcases hE7 with q | q
    · exact Or.inl q
    · exact Or.inr (by omega)
theorem y_lenT {I : Nat → Prop} {h : mj_H} {np Ep : Nat} {N : Nat → Nat} {F : Nat → Nat → Nat} {K : Nat → Nat} {X : Nat → Nat → Nat → Nat} {PF : Nat → Nat} (hl : yLi I h np N F K X PF Ep) (hn6 : np ≤ 6) {th : Int32} {sd be : Int64} {ty wa nw nx : Value} (h4 : mj_rd h 400 = some (yC_ th ty sd be wa nw nx)) {p : Int32} (hpr : p.toInt < 0 ∨ (np : Int) ≤ p.toInt)  : mj_Wp 3 368 (0, [some (.ref 400), some (.int p)], [], h) (mz_V fun r g => r = .int (nI 0) ∧ mj_rd g 400 = some (yC_ (nI 1) ty sd be wa nw nx) ∧ mz_mo [400] 0 0 h g) := by
  refine s_aldn (p' := 1) rfl rfl rfl ?_
  refine s_aldn (p' := 2) rfl rfl rfl ?_
  refine s_ildn (p' := 3) rfl rfl rfl ?_
  refine s_callV (p' := 6) (ls0 := [_, _]) rfl rfl rfl rfl rfl (mj_rcv_is h4) rfl (y_ispF (hl.lb h4) hn6 hpr) (by first | decide | omega) rfl ?_
  refine s_if (p' := 13) true rfl (by decide +kernel) rfl ?_
  refine s_con (p' := 14) rfl rfl ?_
  refine c_call (p' := 17) (kc := 2) (ls0 := [_, _]) rfl rfl rfl rfl rfl (mj_rcv_is h4) rfl rfl rfl ?_
  refine s_aldn (p' := 1) rfl rfl rfl ?_
  refine s_ildn (p' := 2) rfl rfl rfl ?_
  refine s_pf (p' := 5) (fs' := [_, _, _, _, _, _, _, _, _, _, _]) rfl (by decide) h4 (Nat.blt_eq.mp rfl) rfl rfl rfl ?_
  generalize hg1 : List.set h 400 _ = h1
  have z1 : mj_rd h1 400 = some (yC_ (nI 1) ty sd be wa nw nx) := by rw [← hg1]; exact rd_set (by decide) h4
  have m1 : mz_mo [400] 0 0 h h1 := by rw [← hg1]; exact mz_mo.s (mz_mo.rf _ _ _ _) (by decide) h4 rfl (Or.inl (by simp))
  have l1 : h1.length = h.length := by rw [← hg1]; exact List.length_set
  clear hg1
  refine s_ildn (p' := 6) rfl rfl rfl ?_
  refine s_if (p' := 9) false rfl (by decide +kernel) rfl ?_
  refine s_con (p' := 10) rfl rfl ?_
  refine s_goto (p' := 14) rfl rfl ?_
  refine c_iret rfl rfl ?_
  refine s_if (p' := 20) false rfl (by decide +kernel) rfl ?_
  refine s_con (p' := 21) rfl rfl ?_
  refine s_goto (p' := 43) rfl rfl ?_
  refine s_iret rfl rfl ?_
  exact ⟨_, _, rfl, rfl, z1, m1⟩
theorem y_sizT {I : Nat → Prop} {h : mj_H} {np Ep : Nat} {N : Nat → Nat} {F : Nat → Nat → Nat} {K : Nat → Nat} {X : Nat → Nat → Nat → Nat} {PF : Nat → Nat} (hl : yLi I h np N F K X PF Ep) (hn6 : np ≤ 6) {th : Int32} {sd be : Int64} {ty wa nw nx : Value} (h4 : mj_rd h 400 = some (yC_ th ty sd be wa nw nx)) {p : Int32} (hpr : p.toInt < 0 ∨ (np : Int) ≤ p.toInt)  : mj_Wp 3 370 (0, [some (.ref 400), some (.int p)], [], h) (mz_V fun r g => r = .int (nI 0) ∧ mj_rd g 400 = some (yC_ (nI 1) ty sd be wa nw nx) ∧ mz_mo [400] 0 0 h g) := by
  refine s_aldn (p' := 1) rfl rfl rfl ?_
  refine s_aldn (p' := 2) rfl rfl rfl ?_
  refine s_ildn (p' := 3) rfl rfl rfl ?_
  refine s_callV (p' := 6) (ls0 := [_, _]) rfl rfl rfl rfl rfl (mj_rcv_is h4) rfl (y_ispF (hl.lb h4) hn6 hpr) (by first | decide | omega) rfl ?_
  refine s_if (p' := 13) true rfl (by decide +kernel) rfl ?_
  refine s_con (p' := 14) rfl rfl ?_
  refine c_call (p' := 17) (kc := 2) (ls0 := [_, _]) rfl rfl rfl rfl rfl (mj_rcv_is h4) rfl rfl rfl ?_
  refine s_aldn (p' := 1) rfl rfl rfl ?_
  refine s_ildn (p' := 2) rfl rfl rfl ?_
  refine s_pf (p' := 5) (fs' := [_, _, _, _, _, _, _, _, _, _, _]) rfl (by decide) h4 (Nat.blt_eq.mp rfl) rfl rfl rfl ?_
  generalize hg1 : List.set h 400 _ = h1
  have z1 : mj_rd h1 400 = some (yC_ (nI 1) ty sd be wa nw nx) := by rw [← hg1]; exact rd_set (by decide) h4
  have m1 : mz_mo [400] 0 0 h h1 := by rw [← hg1]; exact mz_mo.s (mz_mo.rf _ _ _ _) (by decide) h4 rfl (Or.inl (by simp))
  have l1 : h1.length = h.length := by rw [← hg1]; exact List.length_set
  clear hg1
  refine s_ildn (p' := 6) rfl rfl rfl ?_
  refine s_if (p' := 9) false rfl (by decide +kernel) rfl ?_
  refine s_con (p' := 10) rfl rfl ?_
  refine s_goto (p' := 14) rfl rfl ?_
  refine c_iret rfl rfl ?_
  refine s_if (p' := 20) false rfl (by decide +kernel) rfl ?_
  refine s_con (p' := 21) rfl rfl ?_
  refine s_goto (p' := 45) rfl rfl ?_
  refine s_iret rfl rfl ?_
  exact ⟨_, _, rfl, rfl, z1, m1⟩
theorem y_sgaT {I : Nat → Prop} {h : mj_H} {np Ep : Nat} {N : Nat → Nat} {F : Nat → Nat → Nat} {K : Nat → Nat} {X : Nat → Nat → Nat → Nat} {PF : Nat → Nat} (hl : yLi I h np N F K X PF Ep) (hn6 : np ≤ 6) {th : Int32} {sd be : Int64} {ty wa nw nx : Value} (h4 : mj_rd h 400 = some (yC_ th ty sd be wa nw nx)) {p : Int32} (hpr : p.toInt < 0 ∨ (np : Int) ≤ p.toInt) {u : Int32}  : mj_Wp 3 369 (0, [some (.ref 400), some (.int p), some (.int u)], [], h) (mz_V fun r g => r = .int (nI 0) ∧ mj_rd g 400 = some (yC_ (nI 1) ty sd be wa nw nx) ∧ mz_mo [400] 0 0 h g) := by
  refine s_aldn (p' := 1) rfl rfl rfl ?_
  refine s_aldn (p' := 2) rfl rfl rfl ?_
  refine s_ildn (p' := 3) rfl rfl rfl ?_
  refine s_callV (p' := 6) (ls0 := [_, _]) rfl rfl rfl rfl rfl (mj_rcv_is h4) rfl (y_ispF (hl.lb h4) hn6 hpr) (by first | decide | omega) rfl ?_
  refine s_if (p' := 42) true rfl (by decide +kernel) rfl ?_
  refine s_con (p' := 43) rfl rfl ?_
  refine c_call (p' := 46) (kc := 2) (ls0 := [_, _]) rfl rfl rfl rfl rfl (mj_rcv_is h4) rfl rfl rfl ?_
  refine s_aldn (p' := 1) rfl rfl rfl ?_
  refine s_ildn (p' := 2) rfl rfl rfl ?_
  refine s_pf (p' := 5) (fs' := [_, _, _, _, _, _, _, _, _, _, _]) rfl (by decide) h4 (Nat.blt_eq.mp rfl) rfl rfl rfl ?_
  generalize hg1 : List.set h 400 _ = h1
  have z1 : mj_rd h1 400 = some (yC_ (nI 1) ty sd be wa nw nx) := by rw [← hg1]; exact rd_set (by decide) h4
  have m1 : mz_mo [400] 0 0 h h1 := by rw [← hg1]; exact mz_mo.s (mz_mo.rf _ _ _ _) (by decide) h4 rfl (Or.inl (by simp))
  have l1 : h1.length = h.length := by rw [← hg1]; exact List.length_set
  clear hg1
  refine s_ildn (p' := 6) rfl rfl rfl ?_
  refine s_if (p' := 9) false rfl (by decide +kernel) rfl ?_
  refine s_con (p' := 10) rfl rfl ?_
  refine s_goto (p' := 14) rfl rfl ?_
  refine c_iret rfl rfl ?_
  refine s_if (p' := 49) false rfl (by decide +kernel) rfl ?_
  refine s_con (p' := 50) rfl rfl ?_
  refine s_goto (p' := 73) rfl rfl ?_
  refine s_iret rfl rfl ?_
  exact ⟨_, _, rfl, rfl, z1, m1⟩
theorem y_iatT {I : Nat → Prop} {h : mj_H} {np Ep : Nat} {N : Nat → Nat} {F : Nat → Nat → Nat} {K : Nat → Nat} {X : Nat → Nat → Nat → Nat} {PF : Nat → Nat} (hl : yLi I h np N F K X PF Ep) (hn6 : np ≤ 6) {th : Int32} {sd be : Int64} {ty wa nw nx : Value} (h4 : mj_rd h 400 = some (yC_ th ty sd be wa nw nx)) {p : Int32} (hpr : p.toInt < 0 ∨ (np : Int) ≤ p.toInt) {u : Int32}  : mj_Wp 3 371 (0, [some (.ref 400), some (.int p), some (.int u)], [], h) (mz_V fun r g => r = .int (nI 0) ∧ mj_rd g 400 = some (yC_ (nI 1) ty sd be wa nw nx) ∧ mz_mo [400] 0 0 h g) := by
  refine s_aldn (p' := 1) rfl rfl rfl ?_
  refine s_aldn (p' := 2) rfl rfl rfl ?_
  refine s_ildn (p' := 3) rfl rfl rfl ?_
  refine s_callV (p' := 6) (ls0 := [_, _]) rfl rfl rfl rfl rfl (mj_rcv_is h4) rfl (y_ispF (hl.lb h4) hn6 hpr) (by first | decide | omega) rfl ?_
  refine s_if (p' := 44) true rfl (by decide +kernel) rfl ?_
  refine s_con (p' := 45) rfl rfl ?_
  refine c_call (p' := 48) (kc := 2) (ls0 := [_, _]) rfl rfl rfl rfl rfl (mj_rcv_is h4) rfl rfl rfl ?_
  refine s_aldn (p' := 1) rfl rfl rfl ?_
  refine s_ildn (p' := 2) rfl rfl rfl ?_
  refine s_pf (p' := 5) (fs' := [_, _, _, _, _, _, _, _, _, _, _]) rfl (by decide) h4 (Nat.blt_eq.mp rfl) rfl rfl rfl ?_
  generalize hg1 : List.set h 400 _ = h1
  have z1 : mj_rd h1 400 = some (yC_ (nI 1) ty sd be wa nw nx) := by rw [← hg1]; exact rd_set (by decide) h4
  have m1 : mz_mo [400] 0 0 h h1 := by rw [← hg1]; exact mz_mo.s (mz_mo.rf _ _ _ _) (by decide) h4 rfl (Or.inl (by simp))
  have l1 : h1.length = h.length := by rw [← hg1]; exact List.length_set
  clear hg1
  refine s_ildn (p' := 6) rfl rfl rfl ?_
  refine s_if (p' := 9) false rfl (by decide +kernel) rfl ?_
  refine s_con (p' := 10) rfl rfl ?_
  refine s_goto (p' := 14) rfl rfl ?_
  refine c_iret rfl rfl ?_
  refine s_if (p' := 51) false rfl (by decide +kernel) rfl ?_
  refine s_con (p' := 52) rfl rfl ?_
  refine s_goto (p' := 83) rfl rfl ?_
  refine s_iret rfl rfl ?_
  exact ⟨_, _, rfl, rfl, z1, m1⟩
