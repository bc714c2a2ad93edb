/-! The reference: questions about procedures, answered. -/
theorem y_lenC {h : mj_H} {T n c : Nat} {f : Nat → Nat} (ht : yStr h T n c f) (hn : n ≤ 60) : mj_run 1 241 (0, [some (.ref T)], [], h) (.inl (some (.int (nI n))), h) := by
  have hc := ht.1.1
  obtain rfl | rfl : c = 0 ∨ c = 1 := by omega
  · exact y_len0 ht (by omega)
  · exact y_len1 ht (by omega)
theorem y_chrC {h : mj_H} {T n c i : Nat} {f : Nat → Nat} (ht : yStr h T n c f) (hn : n ≤ 60) (hi : i < n) : mj_run 5 306 (0, [some (.ref T), some (.int (nI i))], [], h) (.inl (some (.int (nI (f i)))), h) := by
  have hc := ht.1.1
  obtain rfl | rfl : c = 0 ∨ c = 1 := by omega
  · exact (y_chr0 ht (by omega) hi).mono (by decide)
  · exact y_chr1 ht (by omega) hi
theorem yStr.k {h : mj_H} {T n c : Nat} {f : Nat → Nat} : yStr h T n c f → ∃ fs, mj_rd h T = some (.inr (21, fs))
  | ⟨_, _, _, k, _⟩ => ⟨_, k⟩
theorem y_len {I : Nat → Prop} {h : mj_H} {np Ep : Nat} {N : Nat → Nat} {F : Nat → Nat → Nat} {K : Nat → Nat} {X : Nat → Nat → Nat → Nat} {PF : Nat → Nat} (hl : yLi I h np N F K X PF Ep) (hn6 : np ≤ 6) {th : Int32} {sd be : Int64} {ty wa nw nx : Value} (h4 : mj_rd h 400 = some (yC_ th ty sd be wa nw nx)) {p : Nat} (hp : p < np) (hI4 : ∀ a, I a → a ≠ 400 ∧ a ≠ 401 ∧ a ≠ Ep) (hN : N p ≤ 60) : mj_Wp 5 368 (0, [some (.ref 400), some (.int (nI p))], [], h) (mz_V fun r g => r = .int (nI (N p)) ∧ mj_rd g 400 = some (yC_ (nI 0) ty sd be wa nw nx) ∧ mz_mo [400] 0 0 h g) := by
  refine s_aldn (p' := 1) rfl rfl rfl ?_
  refine s_aldn (p' := 2) rfl rfl rfl ?_
  refine s_ildn (p' := 3) rfl rfl rfl ?_
  refine s_callV (p' := 6) (ls0 := [_, _]) rfl rfl rfl rfl rfl (mj_rcv_is h4) rfl (y_isp (hl.lb h4) hn6 hp) (by first | decide | omega) rfl ?_
  refine s_if (p' := 9) false rfl (by decide +kernel) rfl ?_
  refine s_con (p' := 10) rfl rfl ?_
  refine s_goto (p' := 14) rfl rfl ?_
  refine c_call (p' := 17) (kc := 2) (ls0 := [_, _]) rfl rfl rfl rfl rfl (mj_rcv_is h4) rfl rfl rfl ?_
  refine s_aldn (p' := 1) rfl rfl rfl ?_
  refine s_ildn (p' := 2) rfl rfl rfl ?_
  refine s_pf (p' := 5) (fs' := [_, _, _, _, _, _, _, _, _, _, _]) rfl (by decide) h4 (Nat.blt_eq.mp rfl) rfl rfl rfl ?_
  generalize hg1 : List.set h 400 _ = h1
  have z1 : mj_rd h1 400 = some (yC_ (nI 0) ty sd be wa nw nx) := by rw [← hg1]; exact rd_set (by decide) h4
  have m1 : mz_mo [400] 0 0 h h1 := by rw [← hg1]; exact mz_mo.s (mz_mo.rf _ _ _ _) (by decide) h4 rfl (Or.inl (by simp))
  have l1 : h1.length = h.length := by rw [← hg1]; exact List.length_set
  clear hg1
  refine s_ildn (p' := 6) rfl rfl rfl ?_
  refine s_if (p' := 13) true rfl (by decide +kernel) rfl ?_
  refine s_con (p' := 14) rfl rfl ?_
  refine c_iret rfl rfl ?_
  refine s_if (p' := 24) true rfl (by decide +kernel) rfl ?_
  refine s_aldn (p' := 25) rfl rfl rfl ?_
  refine s_gf (p' := 28) rfl z1 rfl rfl ?_
  refine s_ildn (p' := 29) rfl rfl rfl ?_
  have hIc : ∀ a, I a → a < mj_CB := hl.2.1
  have E4 : Ep ≠ 400 := fun e => by obtain ⟨_, y, q2⟩ := ls_kd hl.1; rw [e, h4] at q2; cases q2
  have y1 : yLs h1 401 Ep np PF := hl.1.fr m1.1 (by simp) (by simp only [List.mem_singleton]; exact E4) (fun j hj => by simp only [List.mem_singleton]; exact (hI4 _ (hl.2.2 j hj).i).1)
  have mvO1 : Mv I I [400] h h1 := ⟨m1.1, hIc, fun a ha _ => ⟨by have := hI4 a ha; simp only [List.mem_singleton]; omega, ha⟩⟩
  have pr1 := (hl.2.2 p hp).mv mvO1
  obtain ⟨Lr, Tx, La, Ea, Fa, iD, rD, la, iLa, iEa, ac, ⟨c1, st, _, _⟩, rw1⟩ := pr1
  obtain ⟨mc1, lc1⟩ := y1.c
  obtain ⟨ts, tk⟩ := st.k
  obtain ⟨mca, lca⟩ := la.c
  refine s_callV (p' := 34) (ls0 := [_, _]) rfl rfl rfl rfl rfl (mj_rcv_is lc1) rfl (y_get y1 hp) (by first | decide | omega) rfl ?_
  refine s_cco (p' := 37) rfl rD rfl ?_
  refine s_gf (p' := 40) rfl rD rfl rfl ?_
  refine s_callV (p' := 43) (ls0 := [_]) rfl rfl rfl rfl rfl (mj_rcv_is tk) rfl (y_lenC st hN) (by first | decide | omega) rfl ?_
  refine s_iret rfl rfl ?_
  exact ⟨_, _, rfl, rfl, z1, m1⟩
theorem y_siz_ {I : Nat → Prop} {h : mj_H} {np Ep : Nat} {N : Nat → Nat} {F : Nat → Nat → Nat} {K : Nat → Nat} {X : Nat → Nat → Nat → Nat} {PF : Nat → Nat} (hl : yLi I h np N F K X PF Ep) (hn6 : np ≤ 6) {th : Int32} {sd be : Int64} {ty wa nw nx : Value} (h4 : mj_rd h 400 = some (yC_ th ty sd be wa nw nx)) {p : Nat} (hp : p < np) (hI4 : ∀ a, I a → a ≠ 400 ∧ a ≠ 401 ∧ a ≠ Ep)  : mj_Wp 5 370 (0, [some (.ref 400), some (.int (nI p))], [], h) (mz_V fun r g => r = .int (nI (K p)) ∧ mj_rd g 400 = some (yC_ (nI 0) ty sd be wa nw nx) ∧ mz_mo [400] 0 0 h g) := by
  refine s_aldn (p' := 1) rfl rfl rfl ?_
  refine s_aldn (p' := 2) rfl rfl rfl ?_
  refine s_ildn (p' := 3) rfl rfl rfl ?_
  refine s_callV (p' := 6) (ls0 := [_, _]) rfl rfl rfl rfl rfl (mj_rcv_is h4) rfl (y_isp (hl.lb h4) hn6 hp) (by first | decide | omega) rfl ?_
  refine s_if (p' := 9) false rfl (by decide +kernel) rfl ?_
  refine s_con (p' := 10) rfl rfl ?_
  refine s_goto (p' := 14) rfl rfl ?_
  refine c_call (p' := 17) (kc := 2) (ls0 := [_, _]) rfl rfl rfl rfl rfl (mj_rcv_is h4) rfl rfl rfl ?_
  refine s_aldn (p' := 1) rfl rfl rfl ?_
  refine s_ildn (p' := 2) rfl rfl rfl ?_
  refine s_pf (p' := 5) (fs' := [_, _, _, _, _, _, _, _, _, _, _]) rfl (by decide) h4 (Nat.blt_eq.mp rfl) rfl rfl rfl ?_
  generalize hg1 : List.set h 400 _ = h1
  have z1 : mj_rd h1 400 = some (yC_ (nI 0) ty sd be wa nw nx) := by rw [← hg1]; exact rd_set (by decide) h4
  have m1 : mz_mo [400] 0 0 h h1 := by rw [← hg1]; exact mz_mo.s (mz_mo.rf _ _ _ _) (by decide) h4 rfl (Or.inl (by simp))
  have l1 : h1.length = h.length := by rw [← hg1]; exact List.length_set
  clear hg1
  refine s_ildn (p' := 6) rfl rfl rfl ?_
  refine s_if (p' := 13) true rfl (by decide +kernel) rfl ?_
  refine s_con (p' := 14) rfl rfl ?_
  refine c_iret rfl rfl ?_
  refine s_if (p' := 24) true rfl (by decide +kernel) rfl ?_
  refine s_aldn (p' := 25) rfl rfl rfl ?_
  refine s_gf (p' := 28) rfl z1 rfl rfl ?_
  refine s_ildn (p' := 29) rfl rfl rfl ?_
  have hIc : ∀ a, I a → a < mj_CB := hl.2.1
  have E4 : Ep ≠ 400 := fun e => by obtain ⟨_, y, q2⟩ := ls_kd hl.1; rw [e, h4] at q2; cases q2
  have y1 : yLs h1 401 Ep np PF := hl.1.fr m1.1 (by simp) (by simp only [List.mem_singleton]; exact E4) (fun j hj => by simp only [List.mem_singleton]; exact (hI4 _ (hl.2.2 j hj).i).1)
  have mvO1 : Mv I I [400] h h1 := ⟨m1.1, hIc, fun a ha _ => ⟨by have := hI4 a ha; simp only [List.mem_singleton]; omega, ha⟩⟩
  have pr1 := (hl.2.2 p hp).mv mvO1
  obtain ⟨Lr, Tx, La, Ea, Fa, iD, rD, la, iLa, iEa, ac, ⟨c1, st, _, _⟩, rw1⟩ := pr1
  obtain ⟨mc1, lc1⟩ := y1.c
  obtain ⟨ts, tk⟩ := st.k
  obtain ⟨mca, lca⟩ := la.c
  refine s_callV (p' := 34) (ls0 := [_, _]) rfl rfl rfl rfl rfl (mj_rcv_is lc1) rfl (y_get y1 hp) (by first | decide | omega) rfl ?_
  refine s_cco (p' := 37) rfl rD rfl ?_
  refine s_gf (p' := 40) rfl rD rfl rfl ?_
  refine s_callV (p' := 45) (ls0 := [_]) rfl rfl rfl rfl rfl (mj_rcv_is lca) rfl (y_siz lca) (by first | decide | omega) rfl ?_
  refine s_iret rfl rfl ?_
  exact ⟨_, _, rfl, rfl, z1, m1⟩
theorem y_sgaO {I : Nat → Prop} {h : mj_H} {np Ep : Nat} {N : Nat → Nat} {F : Nat → Nat → Nat} {K : Nat → Nat} {X : Nat → Nat → Nat → Nat} {PF : Nat → Nat} (hl : yLi I h np N F K X PF Ep) (hn6 : np ≤ 6) {th : Int32} {sd be : Int64} {ty wa nw nx : Value} (h4 : mj_rd h 400 = some (yC_ th ty sd be wa nw nx)) {p : Nat} (hp : p < np) (hI4 : ∀ a, I a → a ≠ 400 ∧ a ≠ 401 ∧ a ≠ Ep) (hN : N p ≤ 60) {u : Int32} (hu : u.toInt < 0 ∨ (N p : Int) ≤ u.toInt) : mj_Wp 6 369 (0, [some (.ref 400), some (.int (nI p)), some (.int u)], [], h) (mz_V fun r g => r = .int (nI 0) ∧ mj_rd g 400 = some (yC_ (nI 1) ty sd be wa nw nx) ∧ mz_mo [400] 0 0 h g) := by
  have pr0 := hl.2.2 p hp
  obtain ⟨Lr0, Tx0, La0, Ea0, Fa0, iD0, rD0, la0, iLa0, iEa0, ac0, ⟨c0, st0, _, _⟩, rw0⟩ := pr0
  obtain ⟨mc0, lc0⟩ := hl.1.c
  obtain ⟨ts0, tk0⟩ := st0.k
  obtain ⟨mca0, lca0⟩ := la0.c
  refine s_aldn (p' := 1) rfl rfl rfl ?_
  refine s_aldn (p' := 2) rfl rfl rfl ?_
  refine s_ildn (p' := 3) rfl rfl rfl ?_
  refine s_callV (p' := 6) (ls0 := [_, _]) rfl rfl rfl rfl rfl (mj_rcv_is h4) rfl (y_isp (hl.lb h4) hn6 hp) (by first | decide | omega) rfl ?_
  refine s_if (p' := 9) false rfl (by decide +kernel) rfl ?_
  refine s_ildn (p' := 10) rfl rfl rfl ?_
  refine s_con (p' := 11) rfl rfl ?_
  refine s_aldn (p' := 12) rfl rfl rfl ?_
  refine s_gf (p' := 15) rfl h4 rfl rfl ?_
  refine s_ildn (p' := 16) rfl rfl rfl ?_
  refine s_callV (p' := 21) (ls0 := [_, _]) rfl rfl rfl rfl rfl (mj_rcv_is lc0) rfl (y_get hl.1 hp) (by first | decide | omega) rfl ?_
  refine s_cco (p' := 24) rfl rD0 rfl ?_
  refine s_gf (p' := 27) rfl rD0 rfl rfl ?_
  refine s_callV (p' := 30) (ls0 := [_]) rfl rfl rfl rfl rfl (mj_rcv_is tk0) rfl (y_lenC st0 hN) (by first | decide | omega) rfl ?_
  refine s_con (p' := 31) rfl rfl ?_
  refine s_sp (p' := 32) (ls' := _) rfl rfl rfl ?_
  refine c_call (p' := 35) (kc := 1) (ls0 := [_, _, _]) rfl rfl rfl rfl rfl rfl rfl rfl rfl ?_
  refine s_ildn (p' := 1) rfl rfl rfl ?_
  refine s_ildn (p' := 2) rfl rfl rfl ?_
  by_cases q1 : u.toInt < 0
  · refine s_icmp (p' := 14) true rfl ((ch_gt (w := 0) (by decide +kernel)).trans (decide_eq_true (by omega))) rfl ?_
    refine s_con (p' := 15) rfl rfl ?_
    refine c_iret rfl rfl ?_
    refine s_if (p' := 42) true rfl (by decide +kernel) rfl ?_
    refine s_con (p' := 43) rfl rfl ?_
    refine c_call (p' := 46) (kc := 2) (ls0 := [_, _]) rfl rfl rfl rfl rfl (mj_rcv_is h4) rfl rfl rfl ?_
    refine s_aldn (p' := 1) rfl rfl rfl ?_
    refine s_ildn (p' := 2) rfl rfl rfl ?_
    refine s_pf (p' := 5) (fs' := [_, _, _, _, _, _, _, _, _, _, _]) rfl (by decide) h4 (Nat.blt_eq.mp rfl) rfl rfl rfl ?_
    generalize hg1 : List.set h 400 _ = h1
    have z1 : mj_rd h1 400 = some (yC_ (nI 1) ty sd be wa nw nx) := by rw [← hg1]; exact rd_set (by decide) h4
    have m1 : mz_mo [400] 0 0 h h1 := by rw [← hg1]; exact mz_mo.s (mz_mo.rf _ _ _ _) (by decide) h4 rfl (Or.inl (by simp))
    have l1 : h1.length = h.length := by rw [← hg1]; exact List.length_set
    clear hg1
    refine s_ildn (p' := 6) rfl rfl rfl ?_
    refine s_if (p' := 9) false rfl (by decide +kernel) rfl ?_
    refine s_con (p' := 10) rfl rfl ?_
    refine s_goto (p' := 14) rfl rfl ?_
    refine c_iret rfl rfl ?_
    refine s_if (p' := 49) false rfl (by decide +kernel) rfl ?_
    refine s_con (p' := 50) rfl rfl ?_
    refine s_goto (p' := 73) rfl rfl ?_
    refine s_iret rfl rfl ?_
    exact ⟨_, _, rfl, rfl, z1, m1⟩
  · refine s_icmp (p' := 5) false rfl ((ch_gt (w := 0) (by decide +kernel)).trans (decide_eq_false (by omega))) rfl ?_
    refine s_ildn (p' := 6) rfl rfl rfl ?_
    refine s_ildn (p' := 7) rfl rfl rfl ?_
    refine s_icmp (p' := 14) true rfl ((cg_gt (dec_ti (by omega))).trans (decide_eq_true (by omega))) rfl ?_
    refine s_con (p' := 15) rfl rfl ?_
    refine c_iret rfl rfl ?_
    refine s_if (p' := 42) true rfl (by decide +kernel) rfl ?_
    refine s_con (p' := 43) rfl rfl ?_
    refine c_call (p' := 46) (kc := 2) (ls0 := [_, _]) rfl rfl rfl rfl rfl (mj_rcv_is h4) rfl rfl rfl ?_
    refine s_aldn (p' := 1) rfl rfl rfl ?_
    refine s_ildn (p' := 2) rfl rfl rfl ?_
    refine s_pf (p' := 5) (fs' := [_, _, _, _, _, _, _, _, _, _, _]) rfl (by decide) h4 (Nat.blt_eq.mp rfl) rfl rfl rfl ?_
    generalize hg1 : List.set h 400 _ = h1
    have z1 : mj_rd h1 400 = some (yC_ (nI 1) ty sd be wa nw nx) := by rw [← hg1]; exact rd_set (by decide) h4
    have m1 : mz_mo [400] 0 0 h h1 := by rw [← hg1]; exact mz_mo.s (mz_mo.rf _ _ _ _) (by decide) h4 rfl (Or.inl (by simp))
    have l1 : h1.length = h.length := by rw [← hg1]; exact List.length_set
    clear hg1
    refine s_ildn (p' := 6) rfl rfl rfl ?_
    refine s_if (p' := 9) false rfl (by decide +kernel) rfl ?_
    refine s_con (p' := 10) rfl rfl ?_
    refine s_goto (p' := 14) rfl rfl ?_
    refine c_iret rfl rfl ?_
    refine s_if (p' := 49) false rfl (by decide +kernel) rfl ?_
    refine s_con (p' := 50) rfl rfl ?_
    refine s_goto (p' := 73) rfl rfl ?_
    refine s_iret rfl rfl ?_
    exact ⟨_, _, rfl, rfl, z1, m1⟩
theorem y_sga {I : Nat → Prop} {h : mj_H} {np Ep : Nat} {N : Nat → Nat} {F : Nat → Nat → Nat} {K : Nat → Nat} {X : Nat → Nat → Nat → Nat} {PF : Nat → Nat} (hl : yLi I h np N F K X PF Ep) (hn6 : np ≤ 6) {th : Int32} {sd be : Int64} {ty wa nw nx : Value} (h4 : mj_rd h 400 = some (yC_ th ty sd be wa nw nx)) {p : Nat} (hp : p < np) (hI4 : ∀ a, I a → a ≠ 400 ∧ a ≠ 401 ∧ a ≠ Ep) (hN : N p ≤ 60) {j : Nat} (hj : j < N p) (hc : F p j < 65536)  : mj_Wp 6 369 (0, [some (.ref 400), some (.int (nI p)), some (.int (nI j))], [], h) (mz_V fun r g => r = .int (nI (F p j)) ∧ mj_rd g 400 = some (yC_ (nI 0) ty sd be wa nw nx) ∧ mz_mo [400] 0 0 h g) := by
  have pr0 := hl.2.2 p hp
  obtain ⟨Lr0, Tx0, La0, Ea0, Fa0, iD0, rD0, la0, iLa0, iEa0, ac0, ⟨c0, st0, _, _⟩, rw0⟩ := pr0
  obtain ⟨mc0, lc0⟩ := hl.1.c
  obtain ⟨ts0, tk0⟩ := st0.k
  obtain ⟨mca0, lca0⟩ := la0.c
  refine s_aldn (p' := 1) rfl rfl rfl ?_
  refine s_aldn (p' := 2) rfl rfl rfl ?_
  refine s_ildn (p' := 3) rfl rfl rfl ?_
  refine s_callV (p' := 6) (ls0 := [_, _]) rfl rfl rfl rfl rfl (mj_rcv_is h4) rfl (y_isp (hl.lb h4) hn6 hp) (by first | decide | omega) rfl ?_
  refine s_if (p' := 9) false rfl (by decide +kernel) rfl ?_
  refine s_ildn (p' := 10) rfl rfl rfl ?_
  refine s_con (p' := 11) rfl rfl ?_
  refine s_aldn (p' := 12) rfl rfl rfl ?_
  refine s_gf (p' := 15) rfl h4 rfl rfl ?_
  refine s_ildn (p' := 16) rfl rfl rfl ?_
  refine s_callV (p' := 21) (ls0 := [_, _]) rfl rfl rfl rfl rfl (mj_rcv_is lc0) rfl (y_get hl.1 hp) (by first | decide | omega) rfl ?_
  refine s_cco (p' := 24) rfl rD0 rfl ?_
  refine s_gf (p' := 27) rfl rD0 rfl rfl ?_
  refine s_callV (p' := 30) (ls0 := [_]) rfl rfl rfl rfl rfl (mj_rcv_is tk0) rfl (y_lenC st0 hN) (by first | decide | omega) rfl ?_
  refine s_con (p' := 31) rfl rfl ?_
  refine s_sp (p' := 32) (ls' := _) rfl rfl rfl ?_
  rw [mI_sub (by omega)]
  refine s_callV (p' := 35) (ls0 := [_, _, _]) rfl rfl rfl rfl rfl rfl rfl (y_btw (by omega) (by decide) (by omega)) (by first | decide | omega) rfl ?_
  rw [decide_eq_true (show 0 ≤ j ∧ j ≤ N p - 1 by omega)]
  refine s_if (p' := 38) false rfl (by decide +kernel) rfl ?_
  refine s_con (p' := 39) rfl rfl ?_
  refine s_goto (p' := 43) rfl rfl ?_
  refine c_call (p' := 46) (kc := 2) (ls0 := [_, _]) rfl rfl rfl rfl rfl (mj_rcv_is h4) rfl rfl rfl ?_
  refine s_aldn (p' := 1) rfl rfl rfl ?_
  refine s_ildn (p' := 2) rfl rfl rfl ?_
  refine s_pf (p' := 5) (fs' := [_, _, _, _, _, _, _, _, _, _, _]) rfl (by decide) h4 (Nat.blt_eq.mp rfl) rfl rfl rfl ?_
  generalize hg1 : List.set h 400 _ = h1
  have z1 : mj_rd h1 400 = some (yC_ (nI 0) ty sd be wa nw nx) := by rw [← hg1]; exact rd_set (by decide) h4
  have m1 : mz_mo [400] 0 0 h h1 := by rw [← hg1]; exact mz_mo.s (mz_mo.rf _ _ _ _) (by decide) h4 rfl (Or.inl (by simp))
  have l1 : h1.length = h.length := by rw [← hg1]; exact List.length_set
  clear hg1
  refine s_ildn (p' := 6) rfl rfl rfl ?_
  refine s_if (p' := 13) true rfl (by decide +kernel) rfl ?_
  refine s_con (p' := 14) rfl rfl ?_
  refine c_iret rfl rfl ?_
  refine s_if (p' := 53) true rfl (by decide +kernel) rfl ?_
  refine s_aldn (p' := 54) rfl rfl rfl ?_
  refine s_gf (p' := 57) rfl z1 rfl rfl ?_
  refine s_ildn (p' := 58) rfl rfl rfl ?_
  have hIc : ∀ a, I a → a < mj_CB := hl.2.1
  have E4 : Ep ≠ 400 := fun e => by obtain ⟨_, y, q2⟩ := ls_kd hl.1; rw [e, h4] at q2; cases q2
  have y1 : yLs h1 401 Ep np PF := hl.1.fr m1.1 (by simp) (by simp only [List.mem_singleton]; exact E4) (fun j hj => by simp only [List.mem_singleton]; exact (hI4 _ (hl.2.2 j hj).i).1)
  have mvO1 : Mv I I [400] h h1 := ⟨m1.1, hIc, fun a ha _ => ⟨by have := hI4 a ha; simp only [List.mem_singleton]; omega, ha⟩⟩
  have pr1 := (hl.2.2 p hp).mv mvO1
  obtain ⟨Lr, Tx, La, Ea, Fa, iD, rD, la, iLa, iEa, ac, ⟨c1, st, _, _⟩, rw1⟩ := pr1
  obtain ⟨mc1, lc1⟩ := y1.c
  obtain ⟨ts, tk⟩ := st.k
  obtain ⟨mca, lca⟩ := la.c
  refine s_callV (p' := 63) (ls0 := [_, _]) rfl rfl rfl rfl rfl (mj_rcv_is lc1) rfl (y_get y1 hp) (by first | decide | omega) rfl ?_
  refine s_cco (p' := 66) rfl rD rfl ?_
  refine s_gf (p' := 69) rfl rD rfl rfl ?_
  refine s_ildn (p' := 70) rfl rfl rfl ?_
  refine s_callV (p' := 73) (ls0 := [_, _]) rfl rfl rfl rfl rfl (mj_rcv_is tk) rfl (y_chrC st hN hj) (by first | decide | omega) rfl ?_
  refine s_iret rfl (nar_ch hc) ?_
  exact ⟨_, _, rfl, rfl, z1, m1⟩
theorem y_iatO {I : Nat → Prop} {h : mj_H} {np Ep : Nat} {N : Nat → Nat} {F : Nat → Nat → Nat} {K : Nat → Nat} {X : Nat → Nat → Nat → Nat} {PF : Nat → Nat} (hl : yLi I h np N F K X PF Ep) (hn6 : np ≤ 6) {th : Int32} {sd be : Int64} {ty wa nw nx : Value} (h4 : mj_rd h 400 = some (yC_ th ty sd be wa nw nx)) {p : Nat} (hp : p < np) (hI4 : ∀ a, I a → a ≠ 400 ∧ a ≠ 401 ∧ a ≠ Ep) (hK : K p ≤ 30) {u : Int32} (hu : u.toInt < 0 ∨ (K p : Int) ≤ u.toInt) : mj_Wp 6 371 (0, [some (.ref 400), some (.int (nI p)), some (.int u)], [], h) (mz_V fun r g => r = .int (nI 0) ∧ mj_rd g 400 = some (yC_ (nI 1) ty sd be wa nw nx) ∧ mz_mo [400] 0 0 h g) := by
  have pr0 := hl.2.2 p hp
  obtain ⟨Lr0, Tx0, La0, Ea0, Fa0, iD0, rD0, la0, iLa0, iEa0, ac0, ⟨c0, st0, _, _⟩, rw0⟩ := pr0
  obtain ⟨mc0, lc0⟩ := hl.1.c
  obtain ⟨ts0, tk0⟩ := st0.k
  obtain ⟨mca0, lca0⟩ := la0.c
  refine s_aldn (p' := 1) rfl rfl rfl ?_
  refine s_aldn (p' := 2) rfl rfl rfl ?_
  refine s_ildn (p' := 3) rfl rfl rfl ?_
  refine s_callV (p' := 6) (ls0 := [_, _]) rfl rfl rfl rfl rfl (mj_rcv_is h4) rfl (y_isp (hl.lb h4) hn6 hp) (by first | decide | omega) rfl ?_
  refine s_if (p' := 9) false rfl (by decide +kernel) rfl ?_
  refine s_ildn (p' := 10) rfl rfl rfl ?_
  refine s_con (p' := 11) rfl rfl ?_
  refine s_aldn (p' := 12) rfl rfl rfl ?_
  refine s_gf (p' := 15) rfl h4 rfl rfl ?_
  refine s_ildn (p' := 16) rfl rfl rfl ?_
  refine s_callV (p' := 21) (ls0 := [_, _]) rfl rfl rfl rfl rfl (mj_rcv_is lc0) rfl (y_get hl.1 hp) (by first | decide | omega) rfl ?_
  refine s_cco (p' := 24) rfl rD0 rfl ?_
  refine s_gf (p' := 27) rfl rD0 rfl rfl ?_
  refine s_callV (p' := 32) (ls0 := [_]) rfl rfl rfl rfl rfl (mj_rcv_is lca0) rfl (y_siz lca0) (by first | decide | omega) rfl ?_
  refine s_con (p' := 33) rfl rfl ?_
  refine s_sp (p' := 34) (ls' := _) rfl rfl rfl ?_
  refine c_call (p' := 37) (kc := 1) (ls0 := [_, _, _]) rfl rfl rfl rfl rfl rfl rfl rfl rfl ?_
  refine s_ildn (p' := 1) rfl rfl rfl ?_
  refine s_ildn (p' := 2) rfl rfl rfl ?_
  by_cases q1 : u.toInt < 0
  · refine s_icmp (p' := 14) true rfl ((ch_gt (w := 0) (by decide +kernel)).trans (decide_eq_true (by omega))) rfl ?_
    refine s_con (p' := 15) rfl rfl ?_
    refine c_iret rfl rfl ?_
    refine s_if (p' := 44) true rfl (by decide +kernel) rfl ?_
    refine s_con (p' := 45) rfl rfl ?_
    refine c_call (p' := 48) (kc := 2) (ls0 := [_, _]) rfl rfl rfl rfl rfl (mj_rcv_is h4) rfl rfl rfl ?_
    refine s_aldn (p' := 1) rfl rfl rfl ?_
    refine s_ildn (p' := 2) rfl rfl rfl ?_
    refine s_pf (p' := 5) (fs' := [_, _, _, _, _, _, _, _, _, _, _]) rfl (by decide) h4 (Nat.blt_eq.mp rfl) rfl rfl rfl ?_
    generalize hg1 : List.set h 400 _ = h1
    have z1 : mj_rd h1 400 = some (yC_ (nI 1) ty sd be wa nw nx) := by rw [← hg1]; exact rd_set (by decide) h4
    have m1 : mz_mo [400] 0 0 h h1 := by rw [← hg1]; exact mz_mo.s (mz_mo.rf _ _ _ _) (by decide) h4 rfl (Or.inl (by simp))
    have l1 : h1.length = h.length := by rw [← hg1]; exact List.length_set
    clear hg1
    refine s_ildn (p' := 6) rfl rfl rfl ?_
    refine s_if (p' := 9) false rfl (by decide +kernel) rfl ?_
    refine s_con (p' := 10) rfl rfl ?_
    refine s_goto (p' := 14) rfl rfl ?_
    refine c_iret rfl rfl ?_
    refine s_if (p' := 51) false rfl (by decide +kernel) rfl ?_
    refine s_con (p' := 52) rfl rfl ?_
    refine s_goto (p' := 83) rfl rfl ?_
    refine s_iret rfl rfl ?_
    exact ⟨_, _, rfl, rfl, z1, m1⟩
  · refine s_icmp (p' := 5) false rfl ((ch_gt (w := 0) (by decide +kernel)).trans (decide_eq_false (by omega))) rfl ?_
    refine s_ildn (p' := 6) rfl rfl rfl ?_
    refine s_ildn (p' := 7) rfl rfl rfl ?_
    refine s_icmp (p' := 14) true rfl ((cg_gt (dec_ti (by omega))).trans (decide_eq_true (by omega))) rfl ?_
    refine s_con (p' := 15) rfl rfl ?_
    refine c_iret rfl rfl ?_
    refine s_if (p' := 44) true rfl (by decide +kernel) rfl ?_
    refine s_con (p' := 45) rfl rfl ?_
    refine c_call (p' := 48) (kc := 2) (ls0 := [_, _]) rfl rfl rfl rfl rfl (mj_rcv_is h4) rfl rfl rfl ?_
    refine s_aldn (p' := 1) rfl rfl rfl ?_
    refine s_ildn (p' := 2) rfl rfl rfl ?_
    refine s_pf (p' := 5) (fs' := [_, _, _, _, _, _, _, _, _, _, _]) rfl (by decide) h4 (Nat.blt_eq.mp rfl) rfl rfl rfl ?_
    generalize hg1 : List.set h 400 _ = h1
    have z1 : mj_rd h1 400 = some (yC_ (nI 1) ty sd be wa nw nx) := by rw [← hg1]; exact rd_set (by decide) h4
    have m1 : mz_mo [400] 0 0 h h1 := by rw [← hg1]; exact mz_mo.s (mz_mo.rf _ _ _ _) (by decide) h4 rfl (Or.inl (by simp))
    have l1 : h1.length = h.length := by rw [← hg1]; exact List.length_set
    clear hg1
    refine s_ildn (p' := 6) rfl rfl rfl ?_
    refine s_if (p' := 9) false rfl (by decide +kernel) rfl ?_
    refine s_con (p' := 10) rfl rfl ?_
    refine s_goto (p' := 14) rfl rfl ?_
    refine c_iret rfl rfl ?_
    refine s_if (p' := 51) false rfl (by decide +kernel) rfl ?_
    refine s_con (p' := 52) rfl rfl ?_
    refine s_goto (p' := 83) rfl rfl ?_
    refine s_iret rfl rfl ?_
    exact ⟨_, _, rfl, rfl, z1, m1⟩
theorem y_iat {I : Nat → Prop} {h : mj_H} {np Ep : Nat} {N : Nat → Nat} {F : Nat → Nat → Nat} {K : Nat → Nat} {X : Nat → Nat → Nat → Nat} {PF : Nat → Nat} (hl : yLi I h np N F K X PF Ep) (hn6 : np ≤ 6) {th : Int32} {sd be : Int64} {ty wa nw nx : Value} (h4 : mj_rd h 400 = some (yC_ th ty sd be wa nw nx)) {p : Nat} (hp : p < np) (hI4 : ∀ a, I a → a ≠ 400 ∧ a ≠ 401 ∧ a ≠ Ep) (hK : K p ≤ 30) {j : Nat} (hj : j < K p) (hc : X p j 0 < 65536)  : mj_Wp 6 371 (0, [some (.ref 400), some (.int (nI p)), some (.int (nI j))], [], h) (mz_V fun r g => r = .int (nI (X p j 0)) ∧ mj_rd g 400 = some (yC_ (nI 0) ty sd be wa nw nx) ∧ mz_mo [400] 0 0 h g) := by
  have pr0 := hl.2.2 p hp
  obtain ⟨Lr0, Tx0, La0, Ea0, Fa0, iD0, rD0, la0, iLa0, iEa0, ac0, ⟨c0, st0, _, _⟩, rw0⟩ := pr0
  obtain ⟨mc0, lc0⟩ := hl.1.c
  obtain ⟨ts0, tk0⟩ := st0.k
  obtain ⟨mca0, lca0⟩ := la0.c
  refine s_aldn (p' := 1) rfl rfl rfl ?_
  refine s_aldn (p' := 2) rfl rfl rfl ?_
  refine s_ildn (p' := 3) rfl rfl rfl ?_
  refine s_callV (p' := 6) (ls0 := [_, _]) rfl rfl rfl rfl rfl (mj_rcv_is h4) rfl (y_isp (hl.lb h4) hn6 hp) (by first | decide | omega) rfl ?_
  refine s_if (p' := 9) false rfl (by decide +kernel) rfl ?_
  refine s_ildn (p' := 10) rfl rfl rfl ?_
  refine s_con (p' := 11) rfl rfl ?_
  refine s_aldn (p' := 12) rfl rfl rfl ?_
  refine s_gf (p' := 15) rfl h4 rfl rfl ?_
  refine s_ildn (p' := 16) rfl rfl rfl ?_
  refine s_callV (p' := 21) (ls0 := [_, _]) rfl rfl rfl rfl rfl (mj_rcv_is lc0) rfl (y_get hl.1 hp) (by first | decide | omega) rfl ?_
  refine s_cco (p' := 24) rfl rD0 rfl ?_
  refine s_gf (p' := 27) rfl rD0 rfl rfl ?_
  refine s_callV (p' := 32) (ls0 := [_]) rfl rfl rfl rfl rfl (mj_rcv_is lca0) rfl (y_siz lca0) (by first | decide | omega) rfl ?_
  refine s_con (p' := 33) rfl rfl ?_
  refine s_sp (p' := 34) (ls' := _) rfl rfl rfl ?_
  rw [mI_sub (by omega)]
  refine s_callV (p' := 37) (ls0 := [_, _, _]) rfl rfl rfl rfl rfl rfl rfl (y_btw (by omega) (by decide) (by omega)) (by first | decide | omega) rfl ?_
  rw [decide_eq_true (show 0 ≤ j ∧ j ≤ K p - 1 by omega)]
  refine s_if (p' := 40) false rfl (by decide +kernel) rfl ?_
  refine s_con (p' := 41) rfl rfl ?_
  refine s_goto (p' := 45) rfl rfl ?_
  refine c_call (p' := 48) (kc := 2) (ls0 := [_, _]) rfl rfl rfl rfl rfl (mj_rcv_is h4) rfl rfl rfl ?_
  refine s_aldn (p' := 1) rfl rfl rfl ?_
  refine s_ildn (p' := 2) rfl rfl rfl ?_
  refine s_pf (p' := 5) (fs' := [_, _, _, _, _, _, _, _, _, _, _]) rfl (by decide) h4 (Nat.blt_eq.mp rfl) rfl rfl rfl ?_
  generalize hg1 : List.set h 400 _ = h1
  have z1 : mj_rd h1 400 = some (yC_ (nI 0) ty sd be wa nw nx) := by rw [← hg1]; exact rd_set (by decide) h4
  have m1 : mz_mo [400] 0 0 h h1 := by rw [← hg1]; exact mz_mo.s (mz_mo.rf _ _ _ _) (by decide) h4 rfl (Or.inl (by simp))
  have l1 : h1.length = h.length := by rw [← hg1]; exact List.length_set
  clear hg1
  refine s_ildn (p' := 6) rfl rfl rfl ?_
  refine s_if (p' := 13) true rfl (by decide +kernel) rfl ?_
  refine s_con (p' := 14) rfl rfl ?_
  refine c_iret rfl rfl ?_
  refine s_if (p' := 55) true rfl (by decide +kernel) rfl ?_
  refine s_aldn (p' := 56) rfl rfl rfl ?_
  refine s_gf (p' := 59) rfl z1 rfl rfl ?_
  refine s_ildn (p' := 60) rfl rfl rfl ?_
  have hIc : ∀ a, I a → a < mj_CB := hl.2.1
  have E4 : Ep ≠ 400 := fun e => by obtain ⟨_, y, q2⟩ := ls_kd hl.1; rw [e, h4] at q2; cases q2
  have y1 : yLs h1 401 Ep np PF := hl.1.fr m1.1 (by simp) (by simp only [List.mem_singleton]; exact E4) (fun j hj => by simp only [List.mem_singleton]; exact (hI4 _ (hl.2.2 j hj).i).1)
  have mvO1 : Mv I I [400] h h1 := ⟨m1.1, hIc, fun a ha _ => ⟨by have := hI4 a ha; simp only [List.mem_singleton]; omega, ha⟩⟩
  have pr1 := (hl.2.2 p hp).mv mvO1
  obtain ⟨Lr, Tx, La, Ea, Fa, iD, rD, la, iLa, iEa, ac, ⟨c1, st, _, _⟩, rw1⟩ := pr1
  obtain ⟨mc1, lc1⟩ := y1.c
  obtain ⟨ts, tk⟩ := st.k
  obtain ⟨mca, lca⟩ := la.c
  refine s_callV (p' := 65) (ls0 := [_, _]) rfl rfl rfl rfl rfl (mj_rcv_is lc1) rfl (y_get y1 hp) (by first | decide | omega) rfl ?_
  refine s_cco (p' := 68) rfl rD rfl ?_
  refine s_gf (p' := 71) rfl rD rfl rfl ?_
  refine s_ildn (p' := 72) rfl rfl rfl ?_
  obtain ⟨_, _, ra, _⟩ := (ac j hj).2
  refine s_callV (p' := 77) (ls0 := [_, _]) rfl rfl rfl rfl rfl (mj_rcv_is lca) rfl (y_get la hj) (by first | decide | omega) rfl ?_
  refine s_cco (p' := 80) rfl ra rfl ?_
  refine s_gf (p' := 83) rfl ra rfl rfl ?_
  refine s_iret rfl (nar_ch hc) ?_
  exact ⟨_, _, rfl, rfl, z1, m1⟩
theorem y_sou {h : mj_H} {th : Int32} {sd be : Int64} {ty wa nw nx : Value} (h4 : mj_rd h 400 = some (yC_ th ty sd be wa nw nx))  : mj_Wp 0 464 (0, [some (.ref 400)], [], h) (mz_V fun r g => r = .int (nI 1) ∧ mj_rd g 400 = some (yC_ (nI 0) ty sd be wa nw nx) ∧ mz_mo [400] 0 0 h g) := by
  refine s_aldn (p' := 1) rfl rfl rfl ?_
  refine s_con (p' := 2) rfl rfl ?_
  refine s_pf (p' := 5) (fs' := [_, _, _, _, _, _, _, _, _, _, _]) rfl (by decide) h4 (Nat.blt_eq.mp rfl) rfl rfl rfl ?_
  refine s_con (p' := 6) rfl rfl ?_
  refine s_iret rfl rfl ?_
  exact ⟨_, _, rfl, rfl, rd_set (by decide) h4, mz_mo.s (mz_mo.rf _ _ _ _) (by decide) h4 rfl (Or.inl (by simp))⟩
