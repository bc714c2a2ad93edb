/-! The mean size, on both sides and in the law. -/
def dq (s n : Nat) : UInt64 := FP.ddiv (FP.i2d (nI s)) (FP.i2d (nI n))
def dqk : Bool := (List.range 181).all fun s => (List.range 6).all fun n => decide (dq s (n + 1) &&& 0x7fffffffffffffff ≤ 0x7ff0000000000000) && decide (Op.cmpValue (FP.dcmp (dq s (n + 1)) (dq s (n + 1))) .l = 0)
theorem dqk_ok : dqk = true := by decide +kernel
theorem dq_ok {s n : Nat} (hs : s ≤ 180) (h1 : 1 ≤ n) (h6 : n ≤ 6) : dq s n &&& 0x7fffffffffffffff ≤ 0x7ff0000000000000 ∧ Op.cmpValue (FP.dcmp (dq s n) (dq s n)) .l = 0 := by
  have h := List.all_eq_true.mp (List.all_eq_true.mp dqk_ok s (List.mem_range.mpr (by omega))) (n - 1) (List.mem_range.mpr (by omega))
  rw [show n - 1 + 1 = n by omega, Bool.and_eq_true] at h
  exact ⟨of_decide_eq_true h.1, of_decide_eq_true h.2⟩
section DDIV
variable {k mi pc p' : Nat} {ls : mj_L} {st : List Value} {h : mj_H} {Q : mj_O × mj_H → Prop} {e : Nat × Nat × Nat}
theorem s_ddv {s n : Nat} (hE : mj_Gg.1 mi pc = some (.ddiv, e)) (hs : s ≤ 180) (h1 : 1 ≤ n) (h6 : n ≤ 6) (hp : pc + 1 = p') (hn : mj_Wp k mi (p', ls, .double (dq s n) :: st, h) Q) : mj_Wp k mi (pc, ls, .double (FP.i2d (nI n)) :: .double (FP.i2d (nI s)) :: st, h) Q := by
  refine s_sp (p' := p') (ls' := ls) (st' := .double (dq s n) :: st) hE rfl ?_ hn
  show (if dq s n &&& 0x7fffffffffffffff ≤ 0x7ff0000000000000 then some (pc + 1, ls, .double (dq s n) :: st) else none) = _
  rw [if_pos (dq_ok hs h1 h6).1, hp]
end DDIV
def smK (K : Nat → Nat) : Nat → Nat
  | 0 => 0
  | n + 1 => smK K n + K n
theorem smK_le {K : Nat → Nat} : ∀ n, (∀ p, p < n → K p ≤ 30) → smK K n ≤ 30 * n
  | 0, _ => Nat.le_refl 0
  | n + 1, h => by
    have := smK_le n fun p hp => h p (by omega)
    have := h n (by omega)
    rw [smK]; omega
theorem x_ms0 {h : mj_H} {np : Nat} {N : Nat → Nat} {F : Nat → Nat → Nat} {K : Nat → Nat} {X : Nat → Nat → Nat → Nat} (hi : cLi h np N F K X) {gs pl : Value} {sd be : Int64} (h0 : mj_rd h 0 = some (xC_ gs pl sd be)) (hz : np = 0) : mj_Wp 3 233 (0, [some (.ref 0), none, none, none], [], h) (fun o => o = (.inr h.length, h ++ [.inr (12, [])])) := by
  refine s_aldn (p' := 1) rfl rfl rfl ?_
  refine s_gf (p' := 4) rfl h0 rfl rfl ?_
  refine c_call (p' := 7) (kc := 1) (ls0 := [_]) rfl rfl rfl rfl rfl (mj_rcv_is hi.2.1) rfl rfl rfl ?_
  refine s_aldn (p' := 1) rfl rfl rfl ?_
  refine s_gf (p' := 4) rfl hi.2.1 rfl rfl ?_
  refine c_iret rfl rfl ?_
  refine s_istn (p' := 8) (ls' := [_, _, _, _]) rfl rfl rfl rfl ?_
  refine s_ildn (p' := 9) rfl rfl rfl ?_
  refine s_con (p' := 10) rfl rfl ?_
  refine s_icmp (p' := 13) false rfl ((ci_ge (by omega) (by decide)).trans (decide_eq_false (by omega))) rfl ?_
  exact s_thr rfl (Nat.le_of_ble_eq_true rfl) rfl
theorem x_msL {h : mj_H} {np : Nat} {N : Nat → Nat} {F : Nat → Nat → Nat} {K : Nat → Nat} {X : Nat → Nat → Nat → Nat} (hi : cLi h np N F K X) {gs pl : Value} {sd be : Int64} (h0 : mj_rd h 0 = some (xC_ gs pl sd be)) (h1 : 1 ≤ np) : ∀ (m i : Nat), i + m = np → mj_run 3 233 (28, [some (.ref 0), some (.int (nI np)), some (.int (nI (smK K i))), some (.int (nI i))], [], h) (.inl (some (.double (dq (smK K np) np))), h)
  | 0, i, he => by
    have hn6 := hi.1
    have hsm := smK_le np (fun p hp => (hi.2.2.2.2 p hp).2.2.1)
    obtain rfl : i = np := by omega
    refine s_ildn (p' := 29) rfl rfl rfl ?_
    refine s_ildn (p' := 30) rfl rfl rfl ?_
    refine s_icmp (p' := 53) true rfl ((ci_ge (by omega) (by omega)).trans (decide_eq_true (by omega))) rfl ?_
    refine s_ildn (p' := 54) rfl rfl rfl ?_
    refine s_sp (p' := 55) (ls' := _) rfl rfl rfl ?_
    refine s_ildn (p' := 56) rfl rfl rfl ?_
    refine s_sp (p' := 57) (ls' := _) rfl rfl rfl ?_
    refine s_ddv (p' := 58) rfl (by omega) (by omega) (by omega) rfl ?_
    exact s_dret rfl rfl
  | m + 1, i, he => by
    have hn6 := hi.1
    have hsm := smK_le i (fun p hp => (hi.2.2.2.2 p (by omega)).2.2.1)
    have cc := (hi.2.2.2.2 i (by omega)).cd
    refine s_ildn (p' := 29) rfl rfl rfl ?_
    refine s_ildn (p' := 30) rfl rfl rfl ?_
    refine s_icmp (p' := 33) false rfl ((ci_ge (by omega) (by omega)).trans (decide_eq_false (by omega))) rfl ?_
    refine s_ildn (p' := 34) rfl rfl rfl ?_
    refine s_aldn (p' := 35) rfl rfl rfl ?_
    refine s_gf (p' := 38) rfl h0 rfl rfl ?_
    refine s_ildn (p' := 39) rfl rfl rfl ?_
    refine s_callV (p' := 42) (ls0 := [_, _]) rfl rfl rfl rfl rfl (mj_rcv_is hi.2.1) rfl (x_lcd hi.lb (show i < np by omega)) (by first | decide | omega) rfl ?_
    refine c_call (p' := 45) (kc := 1) (ls0 := [_]) rfl rfl rfl rfl rfl (mj_rcv_is cc.2.1) rfl rfl rfl ?_
    refine s_aldn (p' := 1) rfl rfl rfl ?_
    refine s_gf (p' := 4) rfl cc.2.1 rfl rfl ?_
    refine c_iret rfl rfl ?_
    refine s_sp (p' := 46) (ls' := _) rfl rfl rfl ?_
    rw [mI_add]
    refine s_istn (p' := 47) (ls' := [_, _, _, _]) rfl rfl rfl rfl ?_
    refine s_inc (p' := 50) (ls' := [_, _, _, _]) rfl rfl rfl rfl rfl ?_
    rw [mI_add]
    refine s_goto (p' := 28) rfl rfl ?_
    exact x_msL hi h0 h1 m (i + 1) (by omega)
theorem x_ms {h : mj_H} {np : Nat} {N : Nat → Nat} {F : Nat → Nat → Nat} {K : Nat → Nat} {X : Nat → Nat → Nat → Nat} (hi : cLi h np N F K X) {gs pl : Value} {sd be : Int64} (h0 : mj_rd h 0 = some (xC_ gs pl sd be)) (h1 : 1 ≤ np) : mj_run 3 233 (0, [some (.ref 0), none, none, none], [], h) (.inl (some (.double (dq (smK K np) np))), h) := by
  have hn6 := hi.1
  refine s_aldn (p' := 1) rfl rfl rfl ?_
  refine s_gf (p' := 4) rfl h0 rfl rfl ?_
  refine c_call (p' := 7) (kc := 1) (ls0 := [_]) rfl rfl rfl rfl rfl (mj_rcv_is hi.2.1) rfl rfl rfl ?_
  refine s_aldn (p' := 1) rfl rfl rfl ?_
  refine s_gf (p' := 4) rfl hi.2.1 rfl rfl ?_
  refine c_iret rfl rfl ?_
  refine s_istn (p' := 8) (ls' := [_, _, _, _]) rfl rfl rfl rfl ?_
  refine s_ildn (p' := 9) rfl rfl rfl ?_
  refine s_con (p' := 10) rfl rfl ?_
  refine s_icmp (p' := 24) true rfl ((ci_ge (by omega) (by decide)).trans (decide_eq_true (by omega))) rfl ?_
  refine s_con (p' := 25) rfl rfl ?_
  refine s_istn (p' := 26) (ls' := [_, _, _, _]) rfl rfl rfl rfl ?_
  refine s_con (p' := 27) rfl rfl ?_
  refine s_istn (p' := 28) (ls' := [_, _, _, _]) rfl rfl rfl rfl ?_
  exact x_msL hi h0 h1 np 0 (Nat.zero_add np)
theorem y_msL1 {h0 : mj_H} {np Ep It : Nat} {K PF : Nat → Nat} {mc : Int32} {th : Int32} {sd be : Int64} {ty wa nw nx : Value} {cap : Nat} {ef : Nat → Option Nat} {LA : Nat → Nat} (hn6 : np ≤ 6) (hK : ∀ p, p < np → K p ≤ 30) (h4 : mj_rd h0 400 = some (yC_ th ty sd be wa nw nx)) (l1 : mj_rd h0 401 = some (alC Ep np mc)) (l2 : mj_rdA h0 Ep = some (6, (cap, objs ef))) (l3 : np ≤ cap) (l4 : cap < 1000) (l6 : ∀ j, j < np → ef j = some (PF j)) (hD : ∀ p, p < np → ∃ (v0 v1 : Value) (mp : Int32) (Ea : Nat), mj_rd h0 (PF p) = some (.inr (26, [v0, v1, .ref (LA p)])) ∧ mj_rd h0 (LA p) = some (alC Ea (K p) mp)) (bIt : It < mj_CB) (hIt : h0.length = It) (hz : np = 0) : ∀ (m j : Nat) (lr : Int32) (l3_ : Option Value) (g : mj_H), j + m = np → mj_rd g It = some (.inr (27, [.int (nI j), .int lr, .int mc, .ref 401])) → mz_mo [] 1 4 h0 g → mj_Wp 4 463 (12, [some (.ref 400), some (.int (nI (smK K j))), some (.ref It), l3_], [], g) (mz_V fun r g' => r = .double (FP.dconst0) ∧ mj_rd g' 400 = some (yC_ (nI 1) ty sd be wa nw nx) ∧ mz_mo [400] 1 4 h0 g')
  | 0, j, lr, l3_, g, he, hI_, M => by
    have gL := M.1 401 List.not_mem_nil _ l1
    have gE_ := mz_fr.A M.1 List.not_mem_nil l2
    have z4 := M.1 400 List.not_mem_nil _ h4
    have hsm := smK_le np hK
    obtain rfl : j = np := by omega
    replace M := M.wk (L' := [400]) (fun y hy => Or.inl (List.mem_cons_of_mem _ hy)) (Nat.le_refl _) (Nat.le_refl _)
    refine s_aldn (p' := 13) rfl rfl rfl ?_
    refine s_callV (p' := 18) (ls0 := [_]) rfl rfl rfl rfl rfl (mj_rcv_is hI_) rfl (y_hn hI_ gL (b := 0) (Or.inr ⟨rfl, by omega⟩) (by omega)) (by first | decide | omega) rfl ?_
    refine s_if (p' := 46) true rfl (by decide +kernel) rfl ?_
    refine s_aldn (p' := 47) rfl rfl rfl ?_
    refine s_aldn (p' := 48) rfl rfl rfl ?_
    refine s_gf (p' := 51) rfl z4 rfl rfl ?_
    refine c_call (p' := 56) (kc := 1) (ls0 := [_]) rfl rfl rfl rfl rfl (mj_rcv_is gL) rfl rfl rfl ?_
    refine s_aldn (p' := 1) rfl rfl rfl ?_
    refine s_gf (p' := 4) rfl gL rfl rfl ?_
    refine s_if (p' := 7) false rfl ((cz_ne (by omega)).trans (decide_eq_false (by omega))) rfl ?_
    refine s_con (p' := 8) rfl rfl ?_
    refine s_goto (p' := 12) rfl rfl ?_
    refine c_iret rfl rfl ?_
    refine s_if (p' := 59) false rfl (by decide +kernel) rfl ?_
    refine s_con (p' := 60) rfl rfl ?_
    refine s_goto (p' := 64) rfl rfl ?_
    refine c_call (p' := 67) (kc := 2) (ls0 := [_, _]) rfl rfl rfl rfl rfl (mj_rcv_is z4) rfl rfl rfl ?_
    refine s_aldn (p' := 1) rfl rfl rfl ?_
    refine s_ildn (p' := 2) rfl rfl rfl ?_
    refine s_pf (p' := 5) (fs' := [_, _, _, _, _, _, _, _, _, _, _]) rfl (by decide) z4 (Nat.blt_eq.mp rfl) rfl rfl rfl ?_
    generalize hg1 : List.set g 400 _ = h1
    have z1 : mj_rd h1 400 = some (yC_ (nI 1) ty sd be wa nw nx) := by rw [← hg1]; exact rd_set (by decide) z4
    have m1 : mz_mo [400] 0 0 g h1 := by rw [← hg1]; exact mz_mo.s (mz_mo.rf _ _ _ _) (by decide) z4 rfl (Or.inl (by simp))
    have l1 : h1.length = g.length := by rw [← hg1]; exact List.length_set
    clear hg1
    refine s_ildn (p' := 6) rfl rfl rfl ?_
    refine s_if (p' := 9) false rfl (by decide +kernel) rfl ?_
    refine s_con (p' := 10) rfl rfl ?_
    refine s_goto (p' := 14) rfl rfl ?_
    refine c_iret rfl rfl ?_
    refine s_if (p' := 70) false rfl (by decide +kernel) rfl ?_
    refine s_sp (p' := 71) (ls' := _) rfl rfl rfl ?_
    refine s_goto (p' := 87) rfl rfl ?_
    refine s_dret rfl ?_
    have m2 : mz_mo [400] 1 4 h0 h1 := M.tr (L' := [400]) m1 (fun y hy => Or.inl hy) (by decide) (by decide)
    exact ⟨_, _, rfl, rfl, z1, m2⟩
  | m + 1, j, lr, l3_, g, he, hI_, M => by
    have hjc : j < np := by omega
    have gL := M.1 401 List.not_mem_nil _ l1
    have gE_ := mz_fr.A M.1 List.not_mem_nil l2
    have z4 := M.1 400 List.not_mem_nil _ h4
    have hsm := smK_le np hK
    refine s_aldn (p' := 13) rfl rfl rfl ?_
    refine s_callV (p' := 18) (ls0 := [_]) rfl rfl rfl rfl rfl (mj_rcv_is hI_) rfl (y_hn hI_ gL (b := 1) (Or.inl ⟨rfl, hjc⟩) (by omega)) (by first | decide | omega) rfl ?_
    refine s_if (p' := 21) false rfl (by decide +kernel) rfl ?_
    refine s_aldn (p' := 22) rfl rfl rfl ?_
    refine s_callV (p' := 27) (ls0 := [_, _, _]) rfl rfl rfl rfl rfl (mj_rcv_is hI_) rfl (y_nx hI_ gL bIt gE_ hjc l3 l4 (l6 j hjc)) (by first | decide | omega) rfl ?_
    generalize hg1 : List.set g It _ = g1
    have M1 : mz_mo [] 1 4 h0 g1 := by rw [← hg1]; exact mz_mo.s M bIt hI_ rfl (Or.inr (by omega))
    have I1 : mj_rd g1 It = some (.inr (27, [.int (nI (j + 1)), .int (nI j), .int mc, .ref 401])) := by rw [← hg1]; exact rd_set bIt hI_
    clear hg1
    obtain ⟨v0, v1, mp, Ea, d1, d2⟩ := hD j hjc
    have d1 := M1.1 _ List.not_mem_nil _ d1
    have d2 := M1.1 _ List.not_mem_nil _ d2
    refine s_cco (p' := 30) rfl d1 rfl ?_
    refine s_astn (p' := 31) (ls' := [_, _, _, _]) rfl rfl rfl rfl ?_
    refine s_ildn (p' := 32) rfl rfl rfl ?_
    refine s_aldn (p' := 33) rfl rfl rfl ?_
    refine s_gf (p' := 36) rfl d1 rfl rfl ?_
    refine s_callV (p' := 41) (ls0 := [_]) rfl rfl rfl rfl rfl (mj_rcv_is d2) rfl (y_siz d2) (by first | decide | omega) rfl ?_
    refine s_sp (p' := 42) (ls' := _) rfl rfl rfl ?_
    rw [mI_add]
    refine s_istn (p' := 43) (ls' := [_, _, _, _]) rfl rfl rfl rfl ?_
    refine s_goto (p' := 12) rfl rfl ?_
    exact y_msL1 hn6 hK h4 l1 l2 l3 l4 l6 hD bIt hIt hz m (j + 1) _ _ _ (by omega) I1 M1
theorem y_ms1 {I : Nat → Prop} {h : mj_H} {np Ep : Nat} {N : Nat → Nat} {F : Nat → Nat → Nat} {K : Nat → Nat} {X : Nat → Nat → Nat → Nat} {PF : Nat → Nat} (hl : yLi I h np N F K X PF Ep) (hn6 : np ≤ 6) (hI4 : ∀ a, I a → a ≠ 400 ∧ a ≠ 401 ∧ a ≠ Ep) (hIl : ∀ a, I a → a < h.length) (hK : ∀ p, p < np → K p ≤ 30) (hb : h.length + 20 < mj_CB) {th : Int32} {sd be : Int64} {ty wa nw nx : Value} (h4 : mj_rd h 400 = some (yC_ th ty sd be wa nw nx)) (hz : np = 0) : mj_Wp 4 463 (0, [some (.ref 400), none, none, none], [], h) (mz_V fun r g' => r = .double (FP.dconst0) ∧ mj_rd g' 400 = some (yC_ (nI 1) ty sd be wa nw nx) ∧ mz_mo [400] 1 4 h g') := by
  obtain ⟨cap, mc, ef, lc, l2, l3, l4, l5, l6⟩ := id hl.1
  refine s_con (p' := 1) rfl rfl ?_
  refine s_istn (p' := 2) (ls' := [_, _, _, _]) rfl rfl rfl rfl ?_
  refine s_aldn (p' := 3) rfl rfl rfl ?_
  refine s_gf (p' := 6) rfl h4 rfl rfl ?_
  refine s_callV (p' := 11) (ls0 := [_]) rfl rfl rfl rfl rfl (mj_rcv_is lc) rfl (y_itr rfl (by omega) lc) (by first | decide | omega) rfl ?_
  refine s_astn (p' := 12) (ls' := [_, _, _, _]) rfl rfl rfl rfl ?_
  refine (y_msL1 (h0 := h) (It := h.length) (LA := fun p => if q : p < np then (hl.2.2 p q).choose_spec.choose_spec.choose else 0) hn6 hK h4 lc l2 l3 l4 (fun j hj => (l6 j hj).1) (fun p q => ?_) (by omega) rfl hz np 0 (nI 4294967295) none _ (Nat.zero_add np) (rd_nw (Nat.blt_eq.mpr (by omega)) rfl) (mz_mo.ap [] _ _))
  obtain ⟨Ea, Fa, _, r, la, _⟩ := (hl.2.2 p q).choose_spec.choose_spec.choose_spec
  obtain ⟨mp, la⟩ := la.c
  exact ⟨_, _, mp, Ea, by rw [dif_pos q]; exact r, by rw [dif_pos q]; exact la⟩
theorem y_msL0 {h0 : mj_H} {np Ep It : Nat} {K PF : Nat → Nat} {mc : Int32} {th : Int32} {sd be : Int64} {ty wa nw nx : Value} {cap : Nat} {ef : Nat → Option Nat} {LA : Nat → Nat} (hn6 : np ≤ 6) (hK : ∀ p, p < np → K p ≤ 30) (h4 : mj_rd h0 400 = some (yC_ th ty sd be wa nw nx)) (l1 : mj_rd h0 401 = some (alC Ep np mc)) (l2 : mj_rdA h0 Ep = some (6, (cap, objs ef))) (l3 : np ≤ cap) (l4 : cap < 1000) (l6 : ∀ j, j < np → ef j = some (PF j)) (hD : ∀ p, p < np → ∃ (v0 v1 : Value) (mp : Int32) (Ea : Nat), mj_rd h0 (PF p) = some (.inr (26, [v0, v1, .ref (LA p)])) ∧ mj_rd h0 (LA p) = some (alC Ea (K p) mp)) (bIt : It < mj_CB) (hIt : h0.length = It) (hz : 1 ≤ np) : ∀ (m j : Nat) (lr : Int32) (l3_ : Option Value) (g : mj_H), j + m = np → mj_rd g It = some (.inr (27, [.int (nI j), .int lr, .int mc, .ref 401])) → mz_mo [] 1 4 h0 g → mj_Wp 4 463 (12, [some (.ref 400), some (.int (nI (smK K j))), some (.ref It), l3_], [], g) (mz_V fun r g' => r = .double (dq (smK K np) np) ∧ mj_rd g' 400 = some (yC_ (nI 0) ty sd be wa nw nx) ∧ mz_mo [400] 1 4 h0 g')
  | 0, j, lr, l3_, g, he, hI_, M => by
    have gL := M.1 401 List.not_mem_nil _ l1
    have gE_ := mz_fr.A M.1 List.not_mem_nil l2
    have z4 := M.1 400 List.not_mem_nil _ h4
    have hsm := smK_le np hK
    obtain rfl : j = np := by omega
    replace M := M.wk (L' := [400]) (fun y hy => Or.inl (List.mem_cons_of_mem _ hy)) (Nat.le_refl _) (Nat.le_refl _)
    refine s_aldn (p' := 13) rfl rfl rfl ?_
    refine s_callV (p' := 18) (ls0 := [_]) rfl rfl rfl rfl rfl (mj_rcv_is hI_) rfl (y_hn hI_ gL (b := 0) (Or.inr ⟨rfl, by omega⟩) (by omega)) (by first | decide | omega) rfl ?_
    refine s_if (p' := 46) true rfl (by decide +kernel) rfl ?_
    refine s_aldn (p' := 47) rfl rfl rfl ?_
    refine s_aldn (p' := 48) rfl rfl rfl ?_
    refine s_gf (p' := 51) rfl z4 rfl rfl ?_
    refine c_call (p' := 56) (kc := 1) (ls0 := [_]) rfl rfl rfl rfl rfl (mj_rcv_is gL) rfl rfl rfl ?_
    refine s_aldn (p' := 1) rfl rfl rfl ?_
    refine s_gf (p' := 4) rfl gL rfl rfl ?_
    refine s_if (p' := 11) true rfl ((cz_ne (by omega)).trans (decide_eq_true (by omega))) rfl ?_
    refine s_con (p' := 12) rfl rfl ?_
    refine c_iret rfl rfl ?_
    refine s_if (p' := 63) true rfl (by decide +kernel) rfl ?_
    refine s_con (p' := 64) rfl rfl ?_
    refine c_call (p' := 67) (kc := 2) (ls0 := [_, _]) rfl rfl rfl rfl rfl (mj_rcv_is z4) rfl rfl rfl ?_
    refine s_aldn (p' := 1) rfl rfl rfl ?_
    refine s_ildn (p' := 2) rfl rfl rfl ?_
    refine s_pf (p' := 5) (fs' := [_, _, _, _, _, _, _, _, _, _, _]) rfl (by decide) z4 (Nat.blt_eq.mp rfl) rfl rfl rfl ?_
    generalize hg1 : List.set g 400 _ = h1
    have z1 : mj_rd h1 400 = some (yC_ (nI 0) ty sd be wa nw nx) := by rw [← hg1]; exact rd_set (by decide) z4
    have m1 : mz_mo [400] 0 0 g h1 := by rw [← hg1]; exact mz_mo.s (mz_mo.rf _ _ _ _) (by decide) z4 rfl (Or.inl (by simp))
    have l1 : h1.length = g.length := by rw [← hg1]; exact List.length_set
    clear hg1
    refine s_ildn (p' := 6) rfl rfl rfl ?_
    refine s_if (p' := 13) true rfl (by decide +kernel) rfl ?_
    refine s_con (p' := 14) rfl rfl ?_
    refine c_iret rfl rfl ?_
    refine s_if (p' := 74) true rfl (by decide +kernel) rfl ?_
    refine s_ildn (p' := 75) rfl rfl rfl ?_
    refine s_sp (p' := 76) (ls' := _) rfl rfl rfl ?_
    refine s_aldn (p' := 77) rfl rfl rfl ?_
    refine s_gf (p' := 80) rfl z1 rfl rfl ?_
    have gL1 := m1.1 401 (by decide) _ gL
    refine s_callV (p' := 85) (ls0 := [_]) rfl rfl rfl rfl rfl (mj_rcv_is gL1) rfl (y_siz gL1) (by first | decide | omega) rfl ?_
    refine s_sp (p' := 86) (ls' := _) rfl rfl rfl ?_
    refine s_ddv (p' := 87) rfl (by omega) (by omega) (by omega) rfl ?_
    refine s_dret rfl ?_
    have m2 : mz_mo [400] 1 4 h0 h1 := M.tr (L' := [400]) m1 (fun y hy => Or.inl hy) (by decide) (by decide)
    exact ⟨_, _, rfl, rfl, z1, m2⟩
  | m + 1, j, lr, l3_, g, he, hI_, M => by
    have hjc : j < np := by omega
    have gL := M.1 401 List.not_mem_nil _ l1
    have gE_ := mz_fr.A M.1 List.not_mem_nil l2
    have z4 := M.1 400 List.not_mem_nil _ h4
    have hsm := smK_le np hK
    refine s_aldn (p' := 13) rfl rfl rfl ?_
    refine s_callV (p' := 18) (ls0 := [_]) rfl rfl rfl rfl rfl (mj_rcv_is hI_) rfl (y_hn hI_ gL (b := 1) (Or.inl ⟨rfl, hjc⟩) (by omega)) (by first | decide | omega) rfl ?_
    refine s_if (p' := 21) false rfl (by decide +kernel) rfl ?_
    refine s_aldn (p' := 22) rfl rfl rfl ?_
    refine s_callV (p' := 27) (ls0 := [_, _, _]) rfl rfl rfl rfl rfl (mj_rcv_is hI_) rfl (y_nx hI_ gL bIt gE_ hjc l3 l4 (l6 j hjc)) (by first | decide | omega) rfl ?_
    generalize hg1 : List.set g It _ = g1
    have M1 : mz_mo [] 1 4 h0 g1 := by rw [← hg1]; exact mz_mo.s M bIt hI_ rfl (Or.inr (by omega))
    have I1 : mj_rd g1 It = some (.inr (27, [.int (nI (j + 1)), .int (nI j), .int mc, .ref 401])) := by rw [← hg1]; exact rd_set bIt hI_
    clear hg1
    obtain ⟨v0, v1, mp, Ea, d1, d2⟩ := hD j hjc
    have d1 := M1.1 _ List.not_mem_nil _ d1
    have d2 := M1.1 _ List.not_mem_nil _ d2
    refine s_cco (p' := 30) rfl d1 rfl ?_
    refine s_astn (p' := 31) (ls' := [_, _, _, _]) rfl rfl rfl rfl ?_
    refine s_ildn (p' := 32) rfl rfl rfl ?_
    refine s_aldn (p' := 33) rfl rfl rfl ?_
    refine s_gf (p' := 36) rfl d1 rfl rfl ?_
    refine s_callV (p' := 41) (ls0 := [_]) rfl rfl rfl rfl rfl (mj_rcv_is d2) rfl (y_siz d2) (by first | decide | omega) rfl ?_
    refine s_sp (p' := 42) (ls' := _) rfl rfl rfl ?_
    rw [mI_add]
    refine s_istn (p' := 43) (ls' := [_, _, _, _]) rfl rfl rfl rfl ?_
    refine s_goto (p' := 12) rfl rfl ?_
    exact y_msL0 hn6 hK h4 l1 l2 l3 l4 l6 hD bIt hIt hz m (j + 1) _ _ _ (by omega) I1 M1
theorem y_ms0 {I : Nat → Prop} {h : mj_H} {np Ep : Nat} {N : Nat → Nat} {F : Nat → Nat → Nat} {K : Nat → Nat} {X : Nat → Nat → Nat → Nat} {PF : Nat → Nat} (hl : yLi I h np N F K X PF Ep) (hn6 : np ≤ 6) (hI4 : ∀ a, I a → a ≠ 400 ∧ a ≠ 401 ∧ a ≠ Ep) (hIl : ∀ a, I a → a < h.length) (hK : ∀ p, p < np → K p ≤ 30) (hb : h.length + 20 < mj_CB) {th : Int32} {sd be : Int64} {ty wa nw nx : Value} (h4 : mj_rd h 400 = some (yC_ th ty sd be wa nw nx)) (hz : 1 ≤ np) : mj_Wp 4 463 (0, [some (.ref 400), none, none, none], [], h) (mz_V fun r g' => r = .double (dq (smK K np) np) ∧ mj_rd g' 400 = some (yC_ (nI 0) ty sd be wa nw nx) ∧ mz_mo [400] 1 4 h g') := by
  obtain ⟨cap, mc, ef, lc, l2, l3, l4, l5, l6⟩ := id hl.1
  refine s_con (p' := 1) rfl rfl ?_
  refine s_istn (p' := 2) (ls' := [_, _, _, _]) rfl rfl rfl rfl ?_
  refine s_aldn (p' := 3) rfl rfl rfl ?_
  refine s_gf (p' := 6) rfl h4 rfl rfl ?_
  refine s_callV (p' := 11) (ls0 := [_]) rfl rfl rfl rfl rfl (mj_rcv_is lc) rfl (y_itr rfl (by omega) lc) (by first | decide | omega) rfl ?_
  refine s_astn (p' := 12) (ls' := [_, _, _, _]) rfl rfl rfl rfl ?_
  refine (y_msL0 (h0 := h) (It := h.length) (LA := fun p => if q : p < np then (hl.2.2 p q).choose_spec.choose_spec.choose else 0) hn6 hK h4 lc l2 l3 l4 (fun j hj => (l6 j hj).1) (fun p q => ?_) (by omega) rfl hz np 0 (nI 4294967295) none _ (Nat.zero_add np) (rd_nw (Nat.blt_eq.mpr (by omega)) rfl) (mz_mo.ap [] _ _))
  obtain ⟨Ea, Fa, _, r, la, _⟩ := (hl.2.2 p q).choose_spec.choose_spec.choose_spec
  obtain ⟨mp, la⟩ := la.c
  exact ⟨_, _, mp, Ea, by rw [dif_pos q]; exact r, by rw [dif_pos q]; exact la⟩
theorem lw_ms_0 {h : mj_H} {A : mj_H → Prop} {v : UInt64} (h0 : ∃ fs0 : List Value, mj_rd h 0 = some (.inr (0, fs0))) (hc : mj_Wp 249 233 (0, [some (.ref 0), none, none, none], [], h) (mz_V fun r g => r = .double v ∧ A g)) (hA : ∀ g, A g → ∃ ou : Nat → UInt64, mj_rd g 413 = some (.inl (5, (1, .inr (.inr (.inr (.inl ou))))))) : mj_Wp 250 232 (0, [some (.ref 0), some (.ref 413), none], [], h) (mz_V fun r g => r = .int (nI 0) ∧ ∃ (g1 : mj_H) (ou : Nat → UInt64), A g1 ∧ mj_rd g1 413 = some (.inl (5, (1, .inr (.inr (.inr (.inl ou)))))) ∧ g = g1.set 413 (.inl (5, (1, .inr (.inr (.inr (.inl (vf_upd ou 0 v)))))))) := by
  obtain ⟨fs0, q0⟩ := h0
  refine s_aldn (p' := 1) rfl rfl rfl ?_
  refine s_con (p' := 2) rfl rfl ?_
  refine s_aldn (p' := 3) rfl rfl rfl ?_
  refine s_callEV (p' := 6) (ls0 := [_, _, _, _]) rfl rfl rfl rfl rfl (mj_rcv_is q0) rfl hc rfl rfl ?_
  rintro _ h1 ⟨rfl, hA1⟩
  obtain ⟨ou, q6⟩ := hA _ hA1
  refine s_dasz (p' := 7) (m := 0) rfl rfl q6 (by decide) rfl rfl rfl ?_
  refine s_goto (p' := 13) rfl rfl ?_
  refine s_con (p' := 14) rfl rfl ?_
  refine s_iret rfl rfl ?_
  exact ⟨_, _, rfl, rfl, h1, ou, hA1, q6, rfl⟩
theorem lw_ms_1 {h : mj_H} {A : mj_H → Prop} (h0 : ∃ fs0 : List Value, mj_rd h 0 = some (.inr (0, fs0))) (hc : mj_Wp 249 233 (0, [some (.ref 0), none, none, none], [], h) (fun o => ∃ (q : Nat) (g : mj_H), o = (.inr q, g) ∧ q < mj_CB ∧ mj_rd g q = some (.inr (12, [])) ∧ A g)) : mj_Wp 250 232 (0, [some (.ref 0), some (.ref 413), none], [], h) (mz_V fun r g => r = .int (nI 1) ∧ A g) := by
  obtain ⟨fs0, q0⟩ := h0
  refine s_aldn (p' := 1) rfl rfl rfl ?_
  refine s_con (p' := 2) rfl rfl ?_
  refine s_aldn (p' := 3) rfl rfl rfl ?_
  refine c_call (p' := 6) (kc := 249) (ls0 := [_, _, _, _]) rfl rfl rfl rfl rfl (mj_rcv_is q0) rfl rfl rfl ?_
  refine (hc).imp ?_
  rintro _ ⟨q, h1, rfl, q1, q2, hA1⟩
  refine K_c (ci := 12) (hp := 10) (Nat.blt_eq.mpr q1) (mj_ocl_is q2) rfl ?_
  refine s_astn (p' := 11) (ls' := [_, _, _]) rfl rfl rfl rfl ?_
  refine s_con (p' := 12) rfl rfl ?_
  refine s_iret rfl rfl ?_
  exact ⟨_, _, rfl, rfl, hA1⟩
theorem lr_48_0 {L i : Nat} {xs : Nat → Int32} {h : mj_H} {l6 l7 l8 l9 : Option Value} {P A B : mj_H → Prop} {b : UInt64} (hL : L ≤ 2048) (hi : i + 4 ≤ L) (hk : xs i &&& nI 63 = nI 48) (hw : mj_Wp 250 232 (0, [some (.ref 0), some (.ref 413), none], [], h) (mz_V fun r g => r = .int (nI 0) ∧ A g)) (hA : ∀ g, A g → ∃ fs : List Value, mj_rd g 400 = some (.inr (17, fs))) (hm : ∀ g, A g → mj_Wp 250 463 (0, [some (.ref 400), none, none, none], [], g) (mz_V fun r g2 => r = .double b ∧ B g2)) (hB : ∀ g, B g → ∃ rs : List Value, mj_rd g 400 = some (.inr (17, .int (nI 0) :: rs)) ∧ ∃ ou : Nat → UInt64, mj_rd g 413 = some (.inl (5, (1, .inr (.inr (.inr (.inl ou)))))) ∧ ou 0 = b) (hq : Op.cmpValue (FP.dcmp b b) .l = 0) (hn : ∀ (l6 l7 l8 l9 : Option Value) (g : mj_H), B g → mj_lrun L xs (28, [some (.retAddr 1), some (.ref 0), some (.ref 400), some (.ref 412), some (.ref 413), some (.int (nI (i + 4))), l6, l7, l8, l9], [], g) P) : mj_lrun L xs (28, [some (.retAddr 1), some (.ref 0), some (.ref 400), some (.ref 412), some (.ref 413), some (.int (nI i)), l6, l7, l8, l9], [], h) P := by
  refine l_ild (p' := 30) rfl rfl rfl rfl ?_
  refine l_alds (p' := 31) rfl rfl rfl rfl ?_
  refine l_lens (p' := 32) rfl rfl rfl ?_
  refine l_con (p' := 33) rfl rfl rfl ?_
  refine l_bz (p' := 34) (z := (nI (L - 4))) rfl rfl rfl rfl rfl (mI_sub (by omega)) ?_
  refine l_icmp (p' := 37) false rfl rfl ((ci_gt (by omega) (by omega)).trans (decide_eq_false (by omega))) rfl ?_
  refine l_alds (p' := 38) rfl rfl rfl rfl ?_
  refine l_ild (p' := 40) rfl rfl rfl rfl ?_
  refine l_ialz (p' := 41) (m := i) (z := (xs i)) rfl rfl (inb_nI (by omega) (by omega)) (mI_cl (by omega)) rfl rfl ?_
  refine l_bip (p' := 43) rfl rfl rfl ?_
  refine l_bz (p' := 44) (z := (nI 48)) rfl rfl rfl rfl rfl hk ?_
  refine l_sp (p' := 2463) (ls' := _) rfl rfl rfl rfl rfl ?_
  refine l_aldn (p' := 2464) rfl rfl rfl rfl ?_
  refine l_ald (p' := 2466) rfl rfl rfl rfl ?_
  refine l_call (p' := 2469) (kc := 250) (ls0 := [_, _, _]) rfl rfl rfl rfl rfl rfl rfl rfl rfl rfl ?_
  refine hw.imp ?_
  rintro _ ⟨_, h1, rfl, rfl, hA1⟩
  show mj_lrun _ _ (2469, _, _, _) _
  try dsimp only
  refine l_ist (p' := 2471) (ls' := [_, _, _, _, _, _, _, _, _, _]) rfl rfl rfl rfl rfl ?_
  refine l_aldn (p' := 2472) rfl rfl rfl rfl ?_
  obtain ⟨fs4, q4⟩ := hA _ hA1
  refine l_call (p' := 2475) (kc := 250) (ls0 := [_, _, _, _]) rfl rfl rfl rfl rfl rfl (mj_rcv_is q4) rfl rfl rfl ?_
  refine (hm h1 hA1).imp ?_
  rintro _ ⟨_, h2, rfl, rfl, hB1⟩
  show mj_lrun _ _ (2475, _, _, _) _
  try dsimp only
  obtain ⟨rs5, q5, ou, q6, q7⟩ := hB _ hB1
  refine l_sp (p' := 2477) (ls' := [_, _, _, _, _, _, _, _, _, _]) rfl rfl rfl rfl rfl ?_
  refine l_aldn (p' := 2478) rfl rfl rfl rfl ?_
  refine l_call (p' := 2481) (kc := 99) (ls0 := [_]) rfl rfl rfl rfl rfl rfl (mj_rcv_is q5) rfl rfl rfl ?_
  refine s_aldn (p' := 1) rfl rfl rfl ?_
  refine s_gf (p' := 4) rfl q5 rfl rfl ?_
  refine k_iret rfl rfl ?_
  refine l_ild (p' := 2483) rfl rfl rfl rfl ?_
  refine l_icmp (p' := 2488) true rfl rfl (ci_sf _) rfl ?_
  refine l_ild (p' := 2490) rfl rfl rfl rfl ?_
  refine l_if (p' := 2493) false rfl rfl (by decide +kernel) rfl ?_
  refine l_ald (p' := 2495) rfl rfl rfl rfl ?_
  refine l_con (p' := 2496) rfl rfl rfl ?_
  refine l_dal (p' := 2497) rfl rfl q6 (by decide) rfl ?_
  rw [show (nI 0).toNatClampNeg = 0 from rfl, q7]
  refine l_sp (p' := 2499) (ls' := _) rfl rfl rfl rfl rfl ?_
  refine l_bz (p' := 2500) (z := 0) rfl rfl rfl rfl rfl hq ?_
  refine l_if (p' := 2525) true rfl rfl (by decide +kernel) rfl ?_
  refine l_goto (p' := 2541) rfl rfl rfl ?_
  refine l_incz (p' := 2544) (w := (nI (i + 4))) (ls' := [_, _, _, _, _, _, _, _, _, _]) rfl rfl rfl rfl (mI_add _ _) rfl rfl ?_
  refine l_goto (p' := 28) rfl rfl rfl ?_
  exact hn _ _ _ _ _ hB1
theorem lr_48_1 {L i : Nat} {xs : Nat → Int32} {h : mj_H} {l6 l7 l8 l9 : Option Value} {P A B : mj_H → Prop} {b : UInt64} (hL : L ≤ 2048) (hi : i + 4 ≤ L) (hk : xs i &&& nI 63 = nI 48) (hw : mj_Wp 250 232 (0, [some (.ref 0), some (.ref 413), none], [], h) (mz_V fun r g => r = .int (nI 1) ∧ A g)) (hA : ∀ g, A g → ∃ fs : List Value, mj_rd g 400 = some (.inr (17, fs))) (hm : ∀ g, A g → mj_Wp 250 463 (0, [some (.ref 400), none, none, none], [], g) (mz_V fun r g2 => r = .double b ∧ B g2)) (hB : ∀ g, B g → ∃ rs : List Value, mj_rd g 400 = some (.inr (17, .int (nI 1) :: rs))) (hn : ∀ (l6 l7 l8 l9 : Option Value) (g : mj_H), B g → mj_lrun L xs (28, [some (.retAddr 1), some (.ref 0), some (.ref 400), some (.ref 412), some (.ref 413), some (.int (nI (i + 4))), l6, l7, l8, l9], [], g) P) : mj_lrun L xs (28, [some (.retAddr 1), some (.ref 0), some (.ref 400), some (.ref 412), some (.ref 413), some (.int (nI i)), l6, l7, l8, l9], [], h) P := by
  refine l_ild (p' := 30) rfl rfl rfl rfl ?_
  refine l_alds (p' := 31) rfl rfl rfl rfl ?_
  refine l_lens (p' := 32) rfl rfl rfl ?_
  refine l_con (p' := 33) rfl rfl rfl ?_
  refine l_bz (p' := 34) (z := (nI (L - 4))) rfl rfl rfl rfl rfl (mI_sub (by omega)) ?_
  refine l_icmp (p' := 37) false rfl rfl ((ci_gt (by omega) (by omega)).trans (decide_eq_false (by omega))) rfl ?_
  refine l_alds (p' := 38) rfl rfl rfl rfl ?_
  refine l_ild (p' := 40) rfl rfl rfl rfl ?_
  refine l_ialz (p' := 41) (m := i) (z := (xs i)) rfl rfl (inb_nI (by omega) (by omega)) (mI_cl (by omega)) rfl rfl ?_
  refine l_bip (p' := 43) rfl rfl rfl ?_
  refine l_bz (p' := 44) (z := (nI 48)) rfl rfl rfl rfl rfl hk ?_
  refine l_sp (p' := 2463) (ls' := _) rfl rfl rfl rfl rfl ?_
  refine l_aldn (p' := 2464) rfl rfl rfl rfl ?_
  refine l_ald (p' := 2466) rfl rfl rfl rfl ?_
  refine l_call (p' := 2469) (kc := 250) (ls0 := [_, _, _]) rfl rfl rfl rfl rfl rfl rfl rfl rfl rfl ?_
  refine hw.imp ?_
  rintro _ ⟨_, h1, rfl, rfl, hA1⟩
  show mj_lrun _ _ (2469, _, _, _) _
  try dsimp only
  refine l_ist (p' := 2471) (ls' := [_, _, _, _, _, _, _, _, _, _]) rfl rfl rfl rfl rfl ?_
  refine l_aldn (p' := 2472) rfl rfl rfl rfl ?_
  obtain ⟨fs4, q4⟩ := hA _ hA1
  refine l_call (p' := 2475) (kc := 250) (ls0 := [_, _, _, _]) rfl rfl rfl rfl rfl rfl (mj_rcv_is q4) rfl rfl rfl ?_
  refine (hm h1 hA1).imp ?_
  rintro _ ⟨_, h2, rfl, rfl, hB1⟩
  show mj_lrun _ _ (2475, _, _, _) _
  try dsimp only
  obtain ⟨rs5, q5⟩ := hB _ hB1
  refine l_sp (p' := 2477) (ls' := [_, _, _, _, _, _, _, _, _, _]) rfl rfl rfl rfl rfl ?_
  refine l_aldn (p' := 2478) rfl rfl rfl rfl ?_
  refine l_call (p' := 2481) (kc := 99) (ls0 := [_]) rfl rfl rfl rfl rfl rfl (mj_rcv_is q5) rfl rfl rfl ?_
  refine s_aldn (p' := 1) rfl rfl rfl ?_
  refine s_gf (p' := 4) rfl q5 rfl rfl ?_
  refine k_iret rfl rfl ?_
  refine l_ild (p' := 2483) rfl rfl rfl rfl ?_
  refine l_icmp (p' := 2488) true rfl rfl (ci_sf _) rfl ?_
  refine l_ild (p' := 2490) rfl rfl rfl rfl ?_
  refine l_if (p' := 2525) true rfl rfl (by decide +kernel) rfl ?_
  refine l_goto (p' := 2541) rfl rfl rfl ?_
  refine l_incz (p' := 2544) (w := (nI (i + 4))) (ls' := [_, _, _, _, _, _, _, _, _, _]) rfl rfl rfl rfl (mI_add _ _) rfl rfl ?_
  refine l_goto (p' := 28) rfl rfl rfl ?_
  exact hn _ _ _ _ _ hB1
