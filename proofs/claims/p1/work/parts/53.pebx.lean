/-! Pebbles: the class. -/
theorem set_same {h : mj_H} {a : Nat} {c : mj_C} (ha : a < mj_CB) (hr : mj_rd h a = some c) : h.set a c = h := by
  rw [rd_lt ha] at hr
  apply List.ext_getElem?
  intro i
  by_cases q : a = i
  · subst q
    have hl : a < h.length := by
      by_cases q : a < h.length
      · exact q
      · rw [List.getElem?_eq_none (by omega)] at hr
        cases hr
    rw [List.getElem?_set_self hl, hr]
  · rw [List.getElem?_set_ne q]
def mfl (f : Nat → Int32) (v : Int32) (i : Nat) : Nat → Int32 := fun j => if j < i then v else f j
theorem mfl_0 (f : Nat → Int32) (v : Int32) : mfl f v 0 = f := by
  funext j
  exact if_neg (by omega)
theorem mfl_s (f : Nat → Int32) (v : Int32) (i : Nat) : upd (mfl f v i) i v = mfl f v (i + 1) := by
  funext j
  unfold upd mfl
  by_cases q : j = i
  · subst q
    rw [if_pos rfl, if_pos (by omega)]
  · rw [if_neg q]
    by_cases q2 : j < i
    · rw [if_pos q2, if_pos (by omega)]
    · rw [if_neg q2, if_neg (by omega)]
theorem x_fillL {h : mj_H} {a n : Nat} {f : Nat → Int32} {v : Int32} (ha : a < mj_CB) (hr : mj_rd h a = some (.inl (0, (n, .inl f)))) (hn : n < 2147483648) : ∀ (r i : Nat), i + r = n → mj_run 1 62 (5, [some (.ref a), some (.int v), some (.int (nI i)), some (.int (nI n))], [], h.set a (.inl (0, (n, .inl (mfl f v i))))) (.inl none, h.set a (.inl (0, (n, .inl (mfl f v n)))))
  | 0, i, hi => by
    obtain rfl : i = n := by omega
    refine s_ildn (p' := 6) rfl rfl rfl ?_
    refine s_ildn (p' := 7) rfl rfl rfl ?_
    refine s_icmp (p' := 20) true rfl ((ci_ge (by omega) (by omega)).trans (decide_eq_true (by omega))) rfl ?_
    exact s_ret rfl rfl
  | r + 1, i, hi => by
    have ih := fun i => x_fillL (v := v) ha hr hn r i
    refine s_ildn (p' := 6) rfl rfl rfl ?_
    refine s_ildn (p' := 7) rfl rfl rfl ?_
    refine s_icmp (p' := 10) false rfl ((ci_ge (by omega) (by omega)).trans (decide_eq_false (by omega))) rfl ?_
    refine s_aldn (p' := 11) rfl rfl rfl ?_
    refine s_ildn (p' := 12) rfl rfl rfl ?_
    refine s_ildn (p' := 13) rfl rfl rfl ?_
    refine s_ias (p' := 14) rfl ha (rd_set ha hr) (inb_nI (by omega) (by omega)) rfl ?_
    rw [List.set_set, mI_cl (by omega), mfl_s]
    refine s_inc (p' := 17) (ls' := [_, _, _, _]) rfl rfl rfl rfl rfl ?_
    rw [mI_add]
    refine s_goto (p' := 5) rfl rfl ?_
    exact ih (i + 1) (by omega)
theorem x_fill {h : mj_H} {a n : Nat} {f : Nat → Int32} {v : Int32} (ha : a < mj_CB) (hr : mj_rd h a = some (.inl (0, (n, .inl f)))) (hn : n < 2147483648) : mj_run 1 62 (0, [some (.ref a), some (.int v), none, none], [], h) (.inl none, h.set a (.inl (0, (n, .inl (mfl f v n))))) := by
  refine s_con (p' := 1) rfl rfl ?_
  refine s_istn (p' := 2) (ls' := [_, _, _, _]) rfl rfl rfl rfl ?_
  refine s_aldn (p' := 3) rfl rfl rfl ?_
  refine s_len (p' := 4) rfl (mj_rdA_is hr (by decide)) (by decide) rfl ?_
  refine s_istn (p' := 5) (ls' := [_, _, _, _]) rfl rfl rfl rfl ?_
  have hz := x_fillL ha hr hn (v := v) n 0 (by omega)
  rw [mfl_0, set_same ha hr] at hz
  exact hz
theorem x_bc {h : mj_H} {x : Int32} : mj_run 0 198 (0, [some (.int x)], [], h) (.inl (some (.int (bc x))), h) := by
  refine s_ildn (p' := 1) rfl rfl rfl ?_
  refine s_ildn (p' := 2) rfl rfl rfl ?_
  refine s_con (p' := 3) rfl rfl ?_
  refine s_sp (p' := 4) (ls' := _) rfl rfl rfl ?_
  refine s_sh (p' := 7) (ls' := _) (st' := .int (nI 1431655765) :: _) (h' := _) rfl rfl rfl rfl ?_
  refine s_sp (p' := 8) (ls' := _) rfl rfl rfl ?_
  refine s_sp (p' := 9) (ls' := _) rfl rfl rfl ?_
  refine s_istn (p' := 10) (ls' := [_]) rfl rfl rfl rfl ?_
  refine s_ildn (p' := 11) rfl rfl rfl ?_
  refine s_sh (p' := 14) (ls' := _) (st' := .int (nI 858993459) :: _) (h' := _) rfl rfl rfl rfl ?_
  refine s_sp (p' := 15) (ls' := _) rfl rfl rfl ?_
  refine s_ildn (p' := 16) rfl rfl rfl ?_
  refine s_con (p' := 17) rfl rfl ?_
  refine s_sp (p' := 18) (ls' := _) rfl rfl rfl ?_
  refine s_sh (p' := 21) (ls' := _) (st' := .int (nI 858993459) :: _) (h' := _) rfl rfl rfl rfl ?_
  refine s_sp (p' := 22) (ls' := _) rfl rfl rfl ?_
  refine s_sp (p' := 23) (ls' := _) rfl rfl rfl ?_
  refine s_istn (p' := 24) (ls' := [_]) rfl rfl rfl rfl ?_
  refine s_ildn (p' := 25) rfl rfl rfl ?_
  refine s_ildn (p' := 26) rfl rfl rfl ?_
  refine s_con (p' := 27) rfl rfl ?_
  refine s_sp (p' := 28) (ls' := _) rfl rfl rfl ?_
  refine s_sp (p' := 29) (ls' := _) rfl rfl rfl ?_
  refine s_sh (p' := 32) (ls' := _) (st' := .int (nI 252645135) :: _) (h' := _) rfl rfl rfl rfl ?_
  refine s_sp (p' := 33) (ls' := _) rfl rfl rfl ?_
  refine s_istn (p' := 34) (ls' := [_]) rfl rfl rfl rfl ?_
  refine s_ildn (p' := 35) rfl rfl rfl ?_
  refine s_ildn (p' := 36) rfl rfl rfl ?_
  refine s_bip (p' := 38) rfl rfl ?_
  refine s_sp (p' := 39) (ls' := _) rfl rfl rfl ?_
  refine s_sp (p' := 40) (ls' := _) rfl rfl rfl ?_
  refine s_istn (p' := 41) (ls' := [_]) rfl rfl rfl rfl ?_
  refine s_ildn (p' := 42) rfl rfl rfl ?_
  refine s_ildn (p' := 43) rfl rfl rfl ?_
  refine s_bip (p' := 45) rfl rfl ?_
  refine s_sp (p' := 46) (ls' := _) rfl rfl rfl ?_
  refine s_sp (p' := 47) (ls' := _) rfl rfl rfl ?_
  refine s_istn (p' := 48) (ls' := [_]) rfl rfl rfl rfl ?_
  refine s_ildn (p' := 49) rfl rfl rfl ?_
  refine s_bip (p' := 51) rfl rfl ?_
  refine s_sp (p' := 52) (ls' := _) rfl rfl rfl ?_
  exact s_iret rfl rfl rfl
theorem x_mto {h : mj_H} {P M W : Nat} {m : Nat → Int32} {n x : Nat} (hP : mj_rd h P = some (.inr (16, [.ref M, .ref W, .int (nI n)]))) (hM : mj_rd h M = some (.inl (0, (1024, .inl m)))) (hx : x < 1024) : mj_run 0 229 (0, [some (.ref P), some (.int (nI x))], [], h) (.inl (some (.int (m x))), h) := by
  refine s_ildn (p' := 1) rfl rfl rfl ?_
  refine s_if (p' := 4) false rfl (cz_lt (by omega)) rfl ?_
  refine s_ildn (p' := 5) rfl rfl rfl ?_
  refine s_aldn (p' := 6) rfl rfl rfl ?_
  refine s_gf (p' := 9) rfl (by repeat (first | assumption | refine rd_app ?_ | rw [rd_setn (by first | assumption | omega)] | apply rd_set (by first | assumption | decide))) rfl rfl ?_
  refine s_len (p' := 10) rfl (mj_rdA_is (by repeat (first | assumption | refine rd_app ?_ | rw [rd_setn (by first | assumption | omega)] | apply rd_set (by first | assumption | decide))) (by decide)) (by decide) rfl ?_
  refine s_icmp (p' := 13) false rfl ((ci_ge (by omega) (by omega)).trans (decide_eq_false (by omega))) rfl ?_
  refine s_aldn (p' := 14) rfl rfl rfl ?_
  refine s_gf (p' := 17) rfl (by repeat (first | assumption | refine rd_app ?_ | rw [rd_setn (by first | assumption | omega)] | apply rd_set (by first | assumption | decide))) rfl rfl ?_
  refine s_ildn (p' := 18) rfl rfl rfl ?_
  refine s_ial (p' := 19) rfl (by repeat (first | assumption | refine rd_app ?_ | rw [rd_setn (by first | assumption | omega)] | apply rd_set (by first | assumption | decide))) (inb_nI (by omega) (by omega)) rfl ?_
  rw [mI_cl (by omega)]
  refine s_goto (p' := 23) rfl rfl ?_
  exact s_iret rfl rfl rfl
theorem x_mov {h : mj_H} {now pl : Nat} (hnow : now < 1024) (hpl : pl < 10) : mj_run 0 228 (0, [some (.int (nI now)), some (.int (nI pl))], [], h) (.inl (some (.int (if (pl == 0 || now.testBit (pl - 1)) = true then nI 1 else nI 0))), h) := by
  refine s_ildn (p' := 1) rfl rfl rfl ?_
  by_cases q : pl = 0
  · refine s_if (p' := 14) true rfl ((cz_eq (by omega)).trans (decide_eq_true (by omega))) rfl ?_
    refine s_con (p' := 15) rfl rfl ?_
    refine s_goto (p' := 19) rfl rfl ?_
    exact s_iret rfl rfl (by subst q; rfl)
  · refine s_if (p' := 4) false rfl ((cz_eq (by omega)).trans (decide_eq_false (by omega))) rfl ?_
    refine s_ildn (p' := 5) rfl rfl rfl ?_
    refine s_con (p' := 6) rfl rfl ?_
    refine s_ildn (p' := 7) rfl rfl rfl ?_
    refine s_con (p' := 8) rfl rfl ?_
    refine s_sp (p' := 9) (ls' := _) rfl rfl rfl ?_
    rw [mI_sub (by omega)]
    refine s_sp (p' := 10) (ls' := _) rfl rfl rfl ?_
    refine s_sp (p' := 11) (ls' := _) rfl rfl rfl ?_
    by_cases q2 : now.testBit (pl - 1) = true
    · refine s_if (p' := 14) false rfl ((pb_m hnow (by omega)).trans (by rw [q2]; rfl)) rfl ?_
      refine s_con (p' := 15) rfl rfl ?_
      refine s_goto (p' := 19) rfl rfl ?_
      exact s_iret rfl rfl (by rw [q2, Bool.or_true, if_pos rfl])
    · refine s_if (p' := 18) true rfl ((pb_m hnow (by omega)).trans (by rw [Bool.not_eq_true] at q2; rw [q2]; rfl)) rfl ?_
      refine s_con (p' := 19) rfl rfl ?_
      exact s_iret rfl rfl (by rw [Bool.not_eq_true] at q2; rw [q2, Bool.or_false, if_neg (by rw [beq_iff_eq]; exact q)])
theorem x_reaS {h : mj_H} {P M W : Nat} {m : Nat → Int32} {n x : Nat} (hP : mj_rd h P = some (.inr (16, [.ref M, .ref W, .int (nI n)]))) (hM : mj_rd h M = some (.inl (0, (1024, .inl m)))) {w : Nat → Int32} (hW : mj_rd h W = some (.inl (0, (1024, .inl w)))) (bP : P < mj_CB) (bM : M < mj_CB) (bW : W < mj_CB) {c : Int32} (hx : x < 1024) (hm : mj_ci .lt (m x) 0 = false) : mj_run 0 227 (0, [some (.ref P), some (.int (nI x)), some (.int c)], [], h) (.inl none, h) := by
  refine s_ildn (p' := 1) rfl rfl rfl ?_
  refine s_if (p' := 4) false rfl (cz_lt (by omega)) rfl ?_
  refine s_ildn (p' := 5) rfl rfl rfl ?_
  refine s_aldn (p' := 6) rfl rfl rfl ?_
  refine s_gf (p' := 9) rfl (by repeat (first | assumption | refine rd_app ?_ | rw [rd_setn (by first | assumption | omega)] | apply rd_set (by first | assumption | decide))) rfl rfl ?_
  refine s_len (p' := 10) rfl (mj_rdA_is (by repeat (first | assumption | refine rd_app ?_ | rw [rd_setn (by first | assumption | omega)] | apply rd_set (by first | assumption | decide))) (by decide)) (by decide) rfl ?_
  refine s_icmp (p' := 13) false rfl ((ci_ge (by omega) (by omega)).trans (decide_eq_false (by omega))) rfl ?_
  refine s_aldn (p' := 14) rfl rfl rfl ?_
  refine s_gf (p' := 17) rfl (by repeat (first | assumption | refine rd_app ?_ | rw [rd_setn (by first | assumption | omega)] | apply rd_set (by first | assumption | decide))) rfl rfl ?_
  refine s_ildn (p' := 18) rfl rfl rfl ?_
  refine s_ial (p' := 19) rfl (by repeat (first | assumption | refine rd_app ?_ | rw [rd_setn (by first | assumption | omega)] | apply rd_set (by first | assumption | decide))) (inb_nI (by omega) (by omega)) rfl ?_
  rw [mI_cl (by omega)]
  refine s_if (p' := 22) false rfl hm rfl ?_
  exact s_ret rfl rfl
theorem x_reaN {h : mj_H} {P M W : Nat} {m : Nat → Int32} {n x : Nat} (hP : mj_rd h P = some (.inr (16, [.ref M, .ref W, .int (nI n)]))) (hM : mj_rd h M = some (.inl (0, (1024, .inl m)))) {w : Nat → Int32} (hW : mj_rd h W = some (.inl (0, (1024, .inl w)))) (bP : P < mj_CB) (bM : M < mj_CB) (bW : W < mj_CB) {c : Int32} (hMP : M ≠ P) (hWP : W ≠ P) (hMW : M ≠ W) (hx : x < 1024) (hn : n < 1024) (hm : mj_ci .lt (m x) 0 = true) : mj_run 0 227 (0, [some (.ref P), some (.int (nI x)), some (.int c)], [], h) (.inl none, ((h.set M (.inl (0, (1024, .inl (upd m x c))))).set W (.inl (0, (1024, .inl (upd w n (nI x)))))).set P (.inr (16, [.ref M, .ref W, .int (nI (n + 1))]))) := by
  refine s_ildn (p' := 1) rfl rfl rfl ?_
  refine s_if (p' := 4) false rfl (cz_lt (by omega)) rfl ?_
  refine s_ildn (p' := 5) rfl rfl rfl ?_
  refine s_aldn (p' := 6) rfl rfl rfl ?_
  refine s_gf (p' := 9) rfl (by repeat (first | assumption | refine rd_app ?_ | rw [rd_setn (by first | assumption | omega)] | apply rd_set (by first | assumption | decide))) rfl rfl ?_
  refine s_len (p' := 10) rfl (mj_rdA_is (by repeat (first | assumption | refine rd_app ?_ | rw [rd_setn (by first | assumption | omega)] | apply rd_set (by first | assumption | decide))) (by decide)) (by decide) rfl ?_
  refine s_icmp (p' := 13) false rfl ((ci_ge (by omega) (by omega)).trans (decide_eq_false (by omega))) rfl ?_
  refine s_aldn (p' := 14) rfl rfl rfl ?_
  refine s_gf (p' := 17) rfl (by repeat (first | assumption | refine rd_app ?_ | rw [rd_setn (by first | assumption | omega)] | apply rd_set (by first | assumption | decide))) rfl rfl ?_
  refine s_ildn (p' := 18) rfl rfl rfl ?_
  refine s_ial (p' := 19) rfl (by repeat (first | assumption | refine rd_app ?_ | rw [rd_setn (by first | assumption | omega)] | apply rd_set (by first | assumption | decide))) (inb_nI (by omega) (by omega)) rfl ?_
  rw [mI_cl (by omega)]
  refine s_if (p' := 23) true rfl hm rfl ?_
  refine s_aldn (p' := 24) rfl rfl rfl ?_
  refine s_gf (p' := 27) rfl (by repeat (first | assumption | refine rd_app ?_ | rw [rd_setn (by first | assumption | omega)] | apply rd_set (by first | assumption | decide))) rfl rfl ?_
  refine s_ildn (p' := 28) rfl rfl rfl ?_
  refine s_ildn (p' := 29) rfl rfl rfl ?_
  refine s_ias (p' := 30) rfl bM hM (inb_nI (by omega) (by omega)) rfl ?_
  rw [mI_cl (by omega)]
  refine s_aldn (p' := 31) rfl rfl rfl ?_
  refine s_gf (p' := 34) rfl ((rd_setn hMP).trans hP) rfl rfl ?_
  refine s_if (p' := 37) false rfl (cz_lt (by omega)) rfl ?_
  refine s_aldn (p' := 38) rfl rfl rfl ?_
  refine s_gf (p' := 41) rfl ((rd_setn hMP).trans hP) rfl rfl ?_
  refine s_aldn (p' := 42) rfl rfl rfl ?_
  refine s_gf (p' := 45) rfl ((rd_setn hMP).trans hP) rfl rfl ?_
  refine s_len (p' := 46) rfl (mj_rdA_is ((rd_setn hMW).trans hW) (by decide)) (by decide) rfl ?_
  refine s_icmp (p' := 49) false rfl ((ci_ge (by omega) (by omega)).trans (decide_eq_false (by omega))) rfl ?_
  refine s_aldn (p' := 50) rfl rfl rfl ?_
  refine s_gf (p' := 53) rfl ((rd_setn hMP).trans hP) rfl rfl ?_
  refine s_aldn (p' := 54) rfl rfl rfl ?_
  refine s_gf (p' := 57) rfl ((rd_setn hMP).trans hP) rfl rfl ?_
  refine s_ildn (p' := 58) rfl rfl rfl ?_
  refine s_ias (p' := 59) rfl bW ((rd_setn hMW).trans hW) (inb_nI (by omega) (by omega)) rfl ?_
  rw [mI_cl (by omega)]
  refine s_aldn (p' := 60) rfl rfl rfl ?_
  refine s_sp (p' := 61) (ls' := _) rfl rfl rfl ?_
  refine s_gf (p' := 64) rfl ((rd_setn hWP).trans ((rd_setn hMP).trans hP)) rfl rfl ?_
  refine s_con (p' := 65) rfl rfl ?_
  refine s_sp (p' := 66) (ls' := _) rfl rfl rfl ?_
  rw [mI_add]
  refine s_pf (p' := 69) (fs' := [_, _, _]) rfl bP ((rd_setn hWP).trans ((rd_setn hMP).trans hP)) (Nat.blt_eq.mp rfl) rfl rfl rfl ?_
  exact s_ret rfl rfl
/-- the cells of the search of the class -/
def pbHp (h : mj_H) (P M W : Nat) (s : pb_S) : Prop := mj_rd h P = some (.inr (16, [.ref M, .ref W, .int (nI s.2.2)])) ∧ ∃ m w, mj_rd h M = some (.inl (0, (1024, .inl m))) ∧ mj_rd h W = some (.inl (0, (1024, .inl w))) ∧ (∀ j, j < 1024 → m j = pbE (s.1 j)) ∧ ∀ i, i < s.2.2 → w i = nI (s.2.1 i)
/-- all else is as it was -/
def pbFr (P M W : Nat) (h h' : mj_H) : Prop := h'.length = h.length ∧ mj_sz h' = mj_sz h ∧ ∀ a, a ≠ P → a ≠ M → a ≠ W → mj_rd h' a = mj_rd h a
theorem pbFr.rf {P M W : Nat} (h : mj_H) : pbFr P M W h h := ⟨rfl, rfl, fun _ _ _ _ => rfl⟩
theorem pbFr.tr {P M W : Nat} {h g k : mj_H} (a : pbFr P M W h g) (b : pbFr P M W g k) : pbFr P M W h k := ⟨b.1.trans a.1, b.2.1.trans a.2.1, fun x q1 q2 q3 => (b.2.2 x q1 q2 q3).trans (a.2.2 x q1 q2 q3)⟩
theorem sz_set {h : mj_H} {a : Nat} {c d : mj_C} (ha : a < mj_CB) (hr : mj_rd h a = some d) (hc : mj_cs c = mj_cs d) : mj_sz (h.set a c) = mj_sz h := by
  rw [rd_lt ha] at hr
  exact mj_sz_set h a c d hr hc
theorem pbE_lt {o : Option Nat} (h : ∀ d, o = some d → d < 2147483648) : mj_ci .lt (pbE o) 0 = decide (o = none) := by
  cases o with
  | none => rfl
  | some d => exact (cz_lt (h d rfl)).trans (decide_eq_false (by intro q; cases q)).symm
section
variable {P M W : Nat} (bP : P < mj_CB) (bM : M < mj_CB) (bW : W < mj_CB) (hMP : M ≠ P) (hWP : W ≠ P) (hMW : M ≠ W) {p q : Nat} (hp : p ≤ 10)
end
theorem pbHp_up {g : mj_H} {P M W : Nat} (bP : P < mj_CB) (bM : M < mj_CB) (bW : W < mj_CB) (hMP : M ≠ P) (hWP : W ≠ P) (hMW : M ≠ W) {p q now pl d : Nat} {s : pb_S} {m w : Nat → Int32} (hP : mj_rd g P = some (.inr (16, [.ref M, .ref W, .int (nI s.2.2)]))) (hM : mj_rd g M = some (.inl (0, (1024, .inl m)))) (hW : mj_rd g W = some (.inl (0, (1024, .inl w)))) (hm : ∀ j, j < 1024 → m j = pbE (s.1 j)) (hw : ∀ i, i < s.2.2 → w i = nI (s.2.1 i)) (hk : pbk q now pl = true) (hf : s.1 (now ^^^ 2 ^ pl) = none) (hd : s.1 now = some d) :
    pbHp (((g.set M (.inl (0, (1024, .inl (upd m (now ^^^ 2 ^ pl) (nI (d + 1))))))).set W (.inl (0, (1024, .inl (upd w s.2.2 (nI (now ^^^ 2 ^ pl))))))).set P (.inr (16, [.ref M, .ref W, .int (nI (s.2.2 + 1))]))) P M W (pbS q now pl s) ∧ pbFr P M W g (((g.set M (.inl (0, (1024, .inl (upd m (now ^^^ 2 ^ pl) (nI (d + 1))))))).set W (.inl (0, (1024, .inl (upd w s.2.2 (nI (now ^^^ 2 ^ pl))))))).set P (.inr (16, [.ref M, .ref W, .int (nI (s.2.2 + 1))]))) := by
  have hs : pbS q now pl s = (vf_upd s.1 (now ^^^ 2 ^ pl) (some (d + 1)), vf_upd s.2.1 s.2.2 (now ^^^ 2 ^ pl), s.2.2 + 1) := by
    unfold pbS
    rw [if_pos ⟨hk, hf⟩, hd]
    rfl
  have hW1 : mj_rd (g.set M (.inl (0, (1024, .inl (upd m (now ^^^ 2 ^ pl) (nI (d + 1))))))) W = some (.inl (0, (1024, .inl w))) := (rd_setn hMW).trans hW
  have hP2 : mj_rd ((g.set M (.inl (0, (1024, .inl (upd m (now ^^^ 2 ^ pl) (nI (d + 1))))))).set W (.inl (0, (1024, .inl (upd w s.2.2 (nI (now ^^^ 2 ^ pl))))))) P = some (.inr (16, [.ref M, .ref W, .int (nI s.2.2)])) := (rd_setn hWP).trans ((rd_setn hMP).trans hP)
  refine ⟨⟨?_, upd m (now ^^^ 2 ^ pl) (nI (d + 1)), upd w s.2.2 (nI (now ^^^ 2 ^ pl)), ?_, ?_, ?_, ?_⟩, ?_, ?_, ?_⟩
  · rw [hs]
    exact rd_set bP hP2
  · exact (rd_setn (Ne.symm hMP)).trans ((rd_setn (Ne.symm hMW)).trans (rd_set bM hM))
  · exact (rd_setn (Ne.symm hWP)).trans (rd_set bW hW1)
  · intro j hj
    rw [hs]
    unfold upd vf_upd
    dsimp only
    by_cases q1 : j = now ^^^ 2 ^ pl
    · rw [if_pos q1, if_pos q1]
      rfl
    · rw [if_neg q1, if_neg q1]
      exact hm j hj
  · intro i hi
    rw [hs] at hi ⊢
    unfold upd vf_upd
    dsimp only at hi ⊢
    by_cases q1 : i = s.2.2
    · rw [if_pos q1, if_pos q1]
    · rw [if_neg q1, if_neg q1]
      exact hw i (by omega)
  · rw [List.length_set, List.length_set, List.length_set]
  · refine (sz_set (c := .inr (16, [.ref M, .ref W, .int (nI (s.2.2 + 1))])) bP hP2 rfl).trans ((sz_set (c := .inl (0, (1024, .inl (upd w s.2.2 (nI (now ^^^ 2 ^ pl)))))) bW hW1 rfl).trans (sz_set (c := .inl (0, (1024, .inl (upd m (now ^^^ 2 ^ pl) (nI (d + 1)))))) bM hM rfl))
  · intro a a1 a2 a3
    rw [rd_setn (Ne.symm a1), rd_setn (Ne.symm a3), rd_setn (Ne.symm a2)]
theorem x_pI {P M W : Nat} (bP : P < mj_CB) (bM : M < mj_CB) (bW : W < mj_CB) (hMP : M ≠ P) (hWP : W ≠ P) (hMW : M ≠ W) {p q : Nat} (hp : p ≤ 10) {i now : Nat} (hnow : now < 2 ^ p) {Q : mj_O × mj_H → Prop} : ∀ (r pl : Nat) (s : pb_S) (g : mj_H) (l6 : Option Value), pl + r = p → pbV p s → (s.1 now).isSome = true → pbHp g P M W s → (∀ h' l, pbHp h' P M W (pbI q now r pl s) → pbFr P M W g h' → mj_Wp 3 226 (103, [some (.ref P), some (.int (nI p)), some (.int (nI q)), some (.int (nI i)), some (.int (nI now)), some (.int (nI p)), l], [], h') Q) → mj_Wp 3 226 (49, [some (.ref P), some (.int (nI p)), some (.int (nI q)), some (.int (nI i)), some (.int (nI now)), some (.int (nI pl)), l6], [], g) Q
  | 0, pl, s, g, l6, hpl, hV, hf, hH, hn => by
    obtain rfl : pl = p := by omega
    refine s_ild (p' := 51) rfl rfl rfl ?_
    refine s_ildn (p' := 52) rfl rfl rfl ?_
    refine s_icmp (p' := 103) true rfl ((ci_ge (by omega) (by omega)).trans (decide_eq_true (by omega))) rfl ?_
    exact hn g l6 hH (pbFr.rf g)
  | r + 1, pl, s, g, l6, hpl, hV, hf, hH, hn => by
    have ih := x_pI bP bM bW hMP hWP hMW hp hnow (Q := Q) (q := q) (i := i) r
    have hb2 := pb_2 hp
    have hx := xor_lt hnow (show pl < p by omega)
    obtain ⟨hP, m, w, hM, hW, hm, hw⟩ := hH
    have hH : pbHp g P M W s := ⟨hP, m, w, hM, hW, hm, hw⟩
    obtain ⟨d, hd⟩ := Option.isSome_iff_exists.mp hf
    have hd1 := hV.2.2.1 now d hd
    have hn1 := pbV_n hV
    have hlt : ∀ d, s.1 (now ^^^ 2 ^ pl) = some d → d < 2147483648 := fun d z => by
      have := hV.2.2.1 _ d z
      omega
    have hsz : s.1 (now ^^^ 2 ^ pl) = none → s.2.2 < 1024 := fun z => by
      have := cnt_lt hx z
      rw [← hV.1] at this
      omega
    refine s_ild (p' := 51) rfl rfl rfl ?_
    refine s_ildn (p' := 52) rfl rfl rfl ?_
    refine s_icmp (p' := 55) false rfl ((ci_ge (by omega) (by omega)).trans (decide_eq_false (by omega))) rfl ?_
    refine s_ild (p' := 57) rfl rfl rfl ?_
    refine s_con (p' := 58) rfl rfl ?_
    refine s_ild (p' := 60) rfl rfl rfl ?_
    refine s_sp (p' := 61) (ls' := _) rfl rfl rfl ?_
    refine s_sp (p' := 62) (ls' := _) rfl rfl rfl ?_
    rw [pb_x (by omega) (by omega)]
    refine s_ist (p' := 64) (ls' := [_, _, _, _, _, _, _]) rfl rfl rfl rfl ?_
    refine s_ild (p' := 66) rfl rfl rfl ?_
    refine s_ild (p' := 68) rfl rfl rfl ?_
    refine s_callV (p' := 71) (ls0 := [_, _]) rfl rfl rfl rfl rfl rfl rfl (x_mov (by omega) (by omega)) (by decide) rfl ?_
    by_cases h1 : (pl == 0 || now.testBit (pl - 1)) = true
    · refine s_if (p' := 74) false rfl (by rw [if_pos h1]; rfl) rfl ?_
      refine s_ild (p' := 76) rfl rfl rfl ?_
      refine s_callV (p' := 79) (ls0 := [_]) rfl rfl rfl rfl rfl rfl rfl x_bc (by decide) rfl ?_
      refine s_ildn (p' := 80) rfl rfl rfl ?_
      by_cases h2 : bc (nI (now ^^^ 2 ^ pl)) ≤ nI q
      · refine s_icmp (p' := 83) false rfl (decide_eq_false (fun z => absurd h2 (Int32.not_le.mpr z))) rfl ?_
        refine s_aldn (p' := 84) rfl rfl rfl ?_
        refine s_ild (p' := 86) rfl rfl rfl ?_
        refine s_aldn (p' := 87) rfl rfl rfl ?_
        refine s_ild (p' := 89) rfl rfl rfl ?_
        refine s_callV (p' := 92) (ls0 := [_, _]) rfl rfl rfl rfl rfl (mj_rcv_is (by repeat (first | assumption | refine rd_app ?_ | rw [rd_setn (by first | assumption | omega)] | apply rd_set (by first | assumption | decide)))) rfl (x_mto hP hM (by omega)) (by decide) rfl ?_
        refine s_con (p' := 93) rfl rfl ?_
        refine s_sp (p' := 94) (ls' := _) rfl rfl rfl ?_
        rw [hm now (by omega), hd, show pbE (some d) = nI d from rfl, mI_add]
        by_cases h3 : s.1 (now ^^^ 2 ^ pl) = none
        · refine s_callN (p' := 97) (ls0 := [_, _, _]) rfl rfl rfl rfl rfl (mj_rcv_is (by repeat (first | assumption | refine rd_app ?_ | rw [rd_setn (by first | assumption | omega)] | apply rd_set (by first | assumption | decide)))) rfl (x_reaN hP hM hW bP bM bW hMP hWP hMW (by omega) (hsz h3) (by rw [hm _ (by omega), pbE_lt hlt, h3]; rfl)) (by decide) rfl ?_
          refine s_inc (p' := 100) (ls' := [_, _, _, _, _, _, _]) rfl rfl rfl rfl rfl ?_
          rw [mI_add]
          refine s_goto (p' := 49) rfl rfl ?_
          have hk : pbk q now pl = true := by
            unfold pbk
            rw [h1, decide_eq_true h2]
            rfl
          have hu := pbHp_up bP bM bW hMP hWP hMW (p := p) (q := q) hP hM hW hm hw hk h3 hd
          exact ih (pl + 1) (pbS q now pl s) _ _ (by omega) (pbS_V hV hnow hf (by omega)) (pbS_L.2.1 _ hf) hu.1 (fun h' l z1 z2 => hn h' l z1 (hu.2.tr z2))
        · refine s_callN (p' := 97) (ls0 := [_, _, _]) rfl rfl rfl rfl rfl (mj_rcv_is (by repeat (first | assumption | refine rd_app ?_ | rw [rd_setn (by first | assumption | omega)] | apply rd_set (by first | assumption | decide)))) rfl (x_reaS hP hM hW bP bM bW (by omega) (by rw [hm _ (by omega), pbE_lt hlt]; exact decide_eq_false h3)) (by decide) rfl ?_
          refine s_inc (p' := 100) (ls' := [_, _, _, _, _, _, _]) rfl rfl rfl rfl rfl ?_
          rw [mI_add]
          refine s_goto (p' := 49) rfl rfl ?_
          have hs : pbS q now pl s = s := if_neg (fun z => h3 z.2)
          rw [show pbI q now (r + 1) pl s = pbI q now r (pl + 1) s from by show pbI q now r (pl + 1) (pbS q now pl s) = _; rw [hs]] at hn
          exact ih (pl + 1) s g _ (by omega) hV hf hH hn
      · refine s_icmp (p' := 97) true rfl (decide_eq_true (Int32.not_le.mp h2)) rfl ?_
        refine s_inc (p' := 100) (ls' := [_, _, _, _, _, _, _]) rfl rfl rfl rfl rfl ?_
        rw [mI_add]
        refine s_goto (p' := 49) rfl rfl ?_
        have hs : pbS q now pl s = s := if_neg (fun z => h2 (by have := z.1; unfold pbk at this; rw [Bool.and_eq_true] at this; exact of_decide_eq_true this.2))
        rw [show pbI q now (r + 1) pl s = pbI q now r (pl + 1) s from by show pbI q now r (pl + 1) (pbS q now pl s) = _; rw [hs]] at hn
        exact ih (pl + 1) s g _ (by omega) hV hf hH hn
    · refine s_if (p' := 97) true rfl (by rw [if_neg h1]; rfl) rfl ?_
      refine s_inc (p' := 100) (ls' := [_, _, _, _, _, _, _]) rfl rfl rfl rfl rfl ?_
      rw [mI_add]
      refine s_goto (p' := 49) rfl rfl ?_
      have hs : pbS q now pl s = s := if_neg (fun z => h1 (by have := z.1; unfold pbk at this; rw [Bool.and_eq_true] at this; exact this.1))
      rw [show pbI q now (r + 1) pl s = pbI q now r (pl + 1) s from by show pbI q now r (pl + 1) (pbS q now pl s) = _; rw [hs]] at hn
      exact ih (pl + 1) s g _ (by omega) hV hf hH hn
theorem x_pO {P M W : Nat} (bP : P < mj_CB) (bM : M < mj_CB) (bW : W < mj_CB) (hMP : M ≠ P) (hWP : W ≠ P) (hMW : M ≠ W) {p q : Nat} (hp : p ≤ 10) {Q : mj_O × mj_H → Prop} : ∀ (f i : Nat) (s : pb_S) (g : mj_H) (l4 l5 l6 : Option Value), 2 ^ p + 1 ≤ f + i → pbV p s → i ≤ s.2.2 → pbHp g P M W s → (∀ h' l3 l4 l5 l6, pbHp h' P M W (pbO p q f i s) → pbFr P M W g h' → mj_Wp 3 226 (109, [some (.ref P), some (.int (nI p)), some (.int (nI q)), l3, l4, l5, l6], [], h') Q) → mj_Wp 3 226 (21, [some (.ref P), some (.int (nI p)), some (.int (nI q)), some (.int (nI i)), l4, l5, l6], [], g) Q
  | 0, i, s, g, l4, l5, l6, hf0, hV, hi, hH, hn => by
    have := pbV_n hV
    omega
  | f + 1, i, s, g, l4, l5, l6, hf0, hV, hi, hH, hn => by
    have ih := x_pO bP bM bW hMP hWP hMW hp (Q := Q) (q := q) f
    have hb2 := pb_2 hp
    have hn1 := pbV_n hV
    obtain ⟨hP, m, w, hM, hW, hm, hw⟩ := hH
    have hH : pbHp g P M W s := ⟨hP, m, w, hM, hW, hm, hw⟩
    refine s_ildn (p' := 22) rfl rfl rfl ?_
    refine s_aldn (p' := 23) rfl rfl rfl ?_
    refine s_gf (p' := 26) rfl hP rfl rfl ?_
    by_cases h1 : i < s.2.2
    · refine s_icmp (p' := 29) false rfl ((ci_ge (by omega) (by omega)).trans (decide_eq_false (by omega))) rfl ?_
      refine s_ildn (p' := 30) rfl rfl rfl ?_
      refine s_aldn (p' := 31) rfl rfl rfl ?_
      refine s_gf (p' := 34) rfl hP rfl rfl ?_
      refine s_len (p' := 35) rfl (mj_rdA_is hW (by decide)) (by decide) rfl ?_
      refine s_icmp (p' := 38) false rfl ((ci_ge (by omega) (by omega)).trans (decide_eq_false (by omega))) rfl ?_
      refine s_aldn (p' := 39) rfl rfl rfl ?_
      refine s_gf (p' := 42) rfl hP rfl rfl ?_
      refine s_ildn (p' := 43) rfl rfl rfl ?_
      refine s_ial (p' := 44) rfl hW (inb_nI (by omega) (by omega)) rfl ?_
      rw [mI_cl (by omega), hw i h1]
      refine s_ist (p' := 46) (ls' := [_, _, _, _, _, _, _]) rfl rfl rfl rfl ?_
      refine s_con (p' := 47) rfl rfl ?_
      refine s_ist (p' := 49) (ls' := [_, _, _, _, _, _, _]) rfl rfl rfl rfl ?_
      obtain ⟨hnow, hf⟩ := hV.2.2.2 i h1
      refine x_pI bP bM bW hMP hWP hMW hp hnow p 0 s g _ (by omega) hV hf hH (fun g2 l z1 z2 => ?_)
      refine s_inc (p' := 106) (ls' := [_, _, _, _, _, _, _]) rfl rfl rfl rfl rfl ?_
      rw [mI_add]
      refine s_goto (p' := 21) rfl rfl ?_
      refine ih (i + 1) (pbI q (s.2.1 i) p 0 s) g2 _ _ _ (by omega) (pbI_VL hnow p 0 s (by omega) hV hf).1 (Nat.le_trans h1 (pbI_VL hnow p 0 s (by omega) hV hf).2.1) z1 (fun h3 l3 l4 l5 l6 y1 y2 => hn h3 l3 l4 l5 l6 ?_ (z2.tr y2))
      rw [show pbO p q (f + 1) i s = pbO p q f (i + 1) (pbI q (s.2.1 i) p 0 s) from if_pos h1]
      exact y1
    · refine s_icmp (p' := 109) true rfl ((ci_ge (by omega) (by omega)).trans (decide_eq_true (by omega))) rfl ?_
      refine hn g _ _ _ _ ?_ (pbFr.rf g)
      rw [show pbO p q (f + 1) i s = s from if_neg h1]
      exact hH
theorem pbFr_0 {P M W : Nat} (bP : P < mj_CB) (bM : M < mj_CB) (bW : W < mj_CB) {h : mj_H} {m0 w0 : Nat → Int32} {fl : Value} (hP : mj_rd h P = some (.inr (16, [.ref M, .ref W, fl]))) (hM : mj_rd h M = some (.inl (0, (1024, .inl m0)))) (hW : mj_rd h W = some (.inl (0, (1024, .inl w0)))) (hMP : M ≠ P) (hWP : W ≠ P) (hMW : M ≠ W) : pbFr P M W h (((((h.set M (.inl (0, (1024, .inl (mfl m0 (nI 4294967295) 1024))))).set P (.inr (16, [.ref M, .ref W, .int (nI 0)]))).set M (.inl (0, (1024, .inl (upd (mfl m0 (nI 4294967295) 1024) 0 (nI 0)))))).set W (.inl (0, (1024, .inl (upd w0 0 (nI 0)))))).set P (.inr (16, [.ref M, .ref W, .int (nI (0 + 1))]))) := by
  have hP1 : mj_rd (h.set M (.inl (0, (1024, .inl (mfl m0 (nI 4294967295) 1024))))) P = some (.inr (16, [.ref M, .ref W, fl])) := (rd_setn hMP).trans hP
  have hM1 : mj_rd (h.set M (.inl (0, (1024, .inl (mfl m0 (nI 4294967295) 1024))))) M = some (.inl (0, (1024, .inl (mfl m0 (nI 4294967295) 1024)))) := rd_set bM hM
  have hW1 : mj_rd (h.set M (.inl (0, (1024, .inl (mfl m0 (nI 4294967295) 1024))))) W = some (.inl (0, (1024, .inl w0))) := (rd_setn hMW).trans hW
  have hM2 : mj_rd ((h.set M (.inl (0, (1024, .inl (mfl m0 (nI 4294967295) 1024))))).set P (.inr (16, [.ref M, .ref W, .int (nI 0)]))) M = some (.inl (0, (1024, .inl (mfl m0 (nI 4294967295) 1024)))) := (rd_setn (Ne.symm hMP)).trans hM1
  have hW2 : mj_rd ((h.set M (.inl (0, (1024, .inl (mfl m0 (nI 4294967295) 1024))))).set P (.inr (16, [.ref M, .ref W, .int (nI 0)]))) W = some (.inl (0, (1024, .inl w0))) := (rd_setn (Ne.symm hWP)).trans hW1
  have hP2 : mj_rd ((h.set M (.inl (0, (1024, .inl (mfl m0 (nI 4294967295) 1024))))).set P (.inr (16, [.ref M, .ref W, .int (nI 0)]))) P = some (.inr (16, [.ref M, .ref W, .int (nI 0)])) := rd_set bP hP1
  refine ⟨by simp only [List.length_set], ?_, ?_⟩
  · have e1 := sz_set (h := h) (a := M) (c := .inl (0, (1024, .inl (mfl m0 (nI 4294967295) 1024)))) bM hM rfl
    have e2 := sz_set (c := .inr (16, [.ref M, .ref W, .int (nI 0)])) bP hP1 rfl
    have e3 := sz_set (c := .inl (0, (1024, .inl (upd (mfl m0 (nI 4294967295) 1024) 0 (nI 0))))) bM hM2 rfl
    have e4 : mj_sz ((((h.set M (.inl (0, (1024, .inl (mfl m0 (nI 4294967295) 1024))))).set P (.inr (16, [.ref M, .ref W, .int (nI 0)]))).set M (.inl (0, (1024, .inl (upd (mfl m0 (nI 4294967295) 1024) 0 (nI 0)))))).set W (.inl (0, (1024, .inl (upd w0 0 (nI 0)))))) = mj_sz (((h.set M (.inl (0, (1024, .inl (mfl m0 (nI 4294967295) 1024))))).set P (.inr (16, [.ref M, .ref W, .int (nI 0)]))).set M (.inl (0, (1024, .inl (upd (mfl m0 (nI 4294967295) 1024) 0 (nI 0)))))) := sz_set bW ((rd_setn hMW).trans hW2) rfl
    have e5 : mj_sz (((((h.set M (.inl (0, (1024, .inl (mfl m0 (nI 4294967295) 1024))))).set P (.inr (16, [.ref M, .ref W, .int (nI 0)]))).set M (.inl (0, (1024, .inl (upd (mfl m0 (nI 4294967295) 1024) 0 (nI 0)))))).set W (.inl (0, (1024, .inl (upd w0 0 (nI 0)))))).set P (.inr (16, [.ref M, .ref W, .int (nI (0 + 1))]))) = mj_sz ((((h.set M (.inl (0, (1024, .inl (mfl m0 (nI 4294967295) 1024))))).set P (.inr (16, [.ref M, .ref W, .int (nI 0)]))).set M (.inl (0, (1024, .inl (upd (mfl m0 (nI 4294967295) 1024) 0 (nI 0)))))).set W (.inl (0, (1024, .inl (upd w0 0 (nI 0)))))) := sz_set bP ((rd_setn hWP).trans ((rd_setn hMP).trans hP2)) rfl
    exact e5.trans (e4.trans (e3.trans (e2.trans e1)))
  · intro a a1 a2 a3
    rw [rd_setn (Ne.symm a1), rd_setn (Ne.symm a3), rd_setn (Ne.symm a2), rd_setn (Ne.symm a1), rd_setn (Ne.symm a2)]
theorem pbHp_0 {P M W : Nat} (bP : P < mj_CB) (bM : M < mj_CB) (bW : W < mj_CB) {h : mj_H} {m0 w0 : Nat → Int32} {fl : Value} (hP : mj_rd h P = some (.inr (16, [.ref M, .ref W, fl]))) (hM : mj_rd h M = some (.inl (0, (1024, .inl m0)))) (hW : mj_rd h W = some (.inl (0, (1024, .inl w0)))) (hMP : M ≠ P) (hWP : W ≠ P) (hMW : M ≠ W) : pbHp (((((h.set M (.inl (0, (1024, .inl (mfl m0 (nI 4294967295) 1024))))).set P (.inr (16, [.ref M, .ref W, .int (nI 0)]))).set M (.inl (0, (1024, .inl (upd (mfl m0 (nI 4294967295) 1024) 0 (nI 0)))))).set W (.inl (0, (1024, .inl (upd w0 0 (nI 0)))))).set P (.inr (16, [.ref M, .ref W, .int (nI (0 + 1))]))) P M W pbZ := by
  have hP1 : mj_rd (h.set M (.inl (0, (1024, .inl (mfl m0 (nI 4294967295) 1024))))) P = some (.inr (16, [.ref M, .ref W, fl])) := (rd_setn hMP).trans hP
  have hM1 : mj_rd (h.set M (.inl (0, (1024, .inl (mfl m0 (nI 4294967295) 1024))))) M = some (.inl (0, (1024, .inl (mfl m0 (nI 4294967295) 1024)))) := rd_set bM hM
  have hW1 : mj_rd (h.set M (.inl (0, (1024, .inl (mfl m0 (nI 4294967295) 1024))))) W = some (.inl (0, (1024, .inl w0))) := (rd_setn hMW).trans hW
  have hM2 : mj_rd ((h.set M (.inl (0, (1024, .inl (mfl m0 (nI 4294967295) 1024))))).set P (.inr (16, [.ref M, .ref W, .int (nI 0)]))) M = some (.inl (0, (1024, .inl (mfl m0 (nI 4294967295) 1024)))) := (rd_setn (Ne.symm hMP)).trans hM1
  have hW2 : mj_rd ((h.set M (.inl (0, (1024, .inl (mfl m0 (nI 4294967295) 1024))))).set P (.inr (16, [.ref M, .ref W, .int (nI 0)]))) W = some (.inl (0, (1024, .inl w0))) := (rd_setn (Ne.symm hWP)).trans hW1
  have hP2 : mj_rd ((h.set M (.inl (0, (1024, .inl (mfl m0 (nI 4294967295) 1024))))).set P (.inr (16, [.ref M, .ref W, .int (nI 0)]))) P = some (.inr (16, [.ref M, .ref W, .int (nI 0)])) := rd_set bP hP1
  refine ⟨rd_set bP ((rd_setn hWP).trans ((rd_setn hMP).trans hP2)), _, _, (rd_setn (Ne.symm hMP)).trans ((rd_setn (Ne.symm hMW)).trans (rd_set bM hM2)), (rd_setn (Ne.symm hWP)).trans (rd_set bW ((rd_setn hMW).trans hW2)), ?_, ?_⟩
  · intro j hj
    unfold upd mfl pbZ vf_upd
    dsimp only
    by_cases q1 : j = 0
    · rw [if_pos q1, if_pos q1]
      rfl
    · rw [if_neg q1, if_neg q1, if_pos hj]
      rfl
  · intro i hi
    have hi : i < 1 := hi
    obtain rfl : i = 0 := by omega
    rfl
theorem x_few {P M W : Nat} (bP : P < mj_CB) (bM : M < mj_CB) (bW : W < mj_CB) {h : mj_H} {m0 w0 : Nat → Int32} {fl : Value} (hP : mj_rd h P = some (.inr (16, [.ref M, .ref W, fl]))) (hM : mj_rd h M = some (.inl (0, (1024, .inl m0)))) (hW : mj_rd h W = some (.inl (0, (1024, .inl w0)))) (hMP : M ≠ P) (hWP : W ≠ P) (hMW : M ≠ W) {p q : Nat} (hp1 : 1 ≤ p) (hp : p ≤ 10) : mj_Wp 3 226 (0, [some (.ref P), some (.int (nI p)), some (.int (nI q)), none, none, none, none], [], h) (mz_V fun v h' => v = .int (pbE (pbR p q)) ∧ pbFr P M W h h' ∧ ∃ s, pbHp h' P M W s) := by
  refine s_aldn (p' := 1) rfl rfl rfl ?_
  refine s_gf (p' := 4) rfl hP rfl rfl ?_
  refine s_con (p' := 5) rfl rfl ?_
  refine s_callN (p' := 8) (ls0 := [_, _, _, _]) rfl rfl rfl rfl rfl rfl rfl (x_fill bM hM (by omega)) (by decide) rfl ?_
  refine s_aldn (p' := 9) rfl rfl rfl ?_
  refine s_con (p' := 10) rfl rfl ?_
  refine s_pf (p' := 13) (fs' := [_, _, _]) rfl bP ((rd_setn hMP).trans hP) (Nat.blt_eq.mp rfl) rfl rfl rfl ?_
  have hP1 : mj_rd (h.set M (.inl (0, (1024, .inl (mfl m0 (nI 4294967295) 1024))))) P = some (.inr (16, [.ref M, .ref W, fl])) := (rd_setn hMP).trans hP
  have hM1 : mj_rd ((h.set M (.inl (0, (1024, .inl (mfl m0 (nI 4294967295) 1024))))).set P (.inr (16, [.ref M, .ref W, .int (nI 0)]))) M = some (.inl (0, (1024, .inl (mfl m0 (nI 4294967295) 1024)))) := (rd_setn (Ne.symm hMP)).trans (rd_set bM hM)
  have hW1 : mj_rd ((h.set M (.inl (0, (1024, .inl (mfl m0 (nI 4294967295) 1024))))).set P (.inr (16, [.ref M, .ref W, .int (nI 0)]))) W = some (.inl (0, (1024, .inl w0))) := (rd_setn (Ne.symm hWP)).trans ((rd_setn hMW).trans hW)
  have hP2 : mj_rd ((h.set M (.inl (0, (1024, .inl (mfl m0 (nI 4294967295) 1024))))).set P (.inr (16, [.ref M, .ref W, .int (nI 0)]))) P = some (.inr (16, [.ref M, .ref W, .int (nI 0)])) := rd_set bP hP1
  refine s_aldn (p' := 14) rfl rfl rfl ?_
  refine s_con (p' := 15) rfl rfl ?_
  refine s_con (p' := 16) rfl rfl ?_
  refine s_callN (p' := 19) (ls0 := [_, _, _]) rfl rfl rfl rfl rfl (mj_rcv_is hP2) rfl (x_reaN (n := 0) (x := 0) hP2 hM1 hW1 bP bM bW hMP hWP hMW (by omega) (by omega) rfl) (by decide) rfl ?_
  refine s_con (p' := 20) rfl rfl ?_
  refine s_istn (p' := 21) (ls' := [_, _, _, _, _, _, _]) rfl rfl rfl rfl ?_
  refine x_pO bP bM bW hMP hWP hMW hp (2 ^ p + 1) 0 pbZ _ _ _ _ (by omega) (pbZ_V p) (by omega) (pbHp_0 bP bM bW hP hM hW hMP hWP hMW) (fun g9 l3 l4 l5 l6 y1 y2 => ?_)
  obtain ⟨hP9, m9, w9, hM9, hW9, hm9, hw9⟩ := y1
  refine s_aldn (p' := 110) rfl rfl rfl ?_
  refine s_con (p' := 111) rfl rfl ?_
  refine s_ildn (p' := 112) rfl rfl rfl ?_
  refine s_con (p' := 113) rfl rfl ?_
  refine s_sp (p' := 114) (ls' := _) rfl rfl rfl ?_
  rw [mI_sub hp1]
  refine s_sp (p' := 115) (ls' := _) rfl rfl rfl ?_
  rw [pb_p (by omega)]
  refine s_callV (p' := 118) (ls0 := [_, _]) rfl rfl rfl rfl rfl (mj_rcv_is (by repeat (first | assumption | refine rd_app ?_ | rw [rd_setn (by first | assumption | omega)] | apply rd_set (by first | assumption | decide)))) rfl (x_mto hP9 hM9 (Nat.lt_of_lt_of_le (Nat.pow_lt_pow_right (by decide) (by omega)) (pb_2 hp))) (by decide) rfl ?_
  refine s_iret rfl rfl ?_
  refine ⟨_, _, rfl, ?_, (pbFr_0 bP bM bW hP hM hW hMP hWP hMW).tr y2, _, ⟨hP9, m9, w9, hM9, hW9, hm9, hw9⟩⟩
  rw [hm9 _ (Nat.lt_of_lt_of_le (Nat.pow_lt_pow_right (by decide) (by omega)) (pb_2 hp))]
  rfl
