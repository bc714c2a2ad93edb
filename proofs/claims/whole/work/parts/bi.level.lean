/-! The reference's search: one level. -/
def sgI (xs : Nat → Nat) : Nat → Nat → gS → gS
  | 0, _, s => s
  | k + 1, i, s => sgI xs k (i + 1) (sgG (xs i) 24 0 s)
theorem qS.I {xs : Nat → Nat} : ∀ (k i : Nat) {s : gS}, qS s → qS (sgI xs k i s)
  | 0, _, _, q => q
  | k + 1, i, s, q => by
    rw [sgI]
    exact qS.I k (i + 1) (qS.G 24 0 rfl q)
theorem y_sgO {h0 : mj_H} {X W A V tt c0 : Nat} {xs : Nat → Nat} {fn : Nat → Int32} {a0 a1 a2 a3 a4 a5 a6 a10 : Value} {d lv : Int32} (hX : mj_rd h0 X = some (.inr (17, [a0, a1, a2, a3, a4, a5, a6, .ref W, .ref A, .ref V, a10]))) (hA : mj_rd h0 A = some (.inl (0, (40320, .inl fn)))) (hc : c0 ≤ 40320) (hx : ∀ i, i < c0 → fn i = nI (xs i) ∧ xs i < 16777216) (htt : tt < 16777216) (bW : W < mj_CB) (bV : V < mj_CB) (hXn : X ∉ [W, V]) (hAn : A ∉ [W, V]) {Q : mj_O × mj_H → Prop} {s0 : gS} (hret : ∀ (s : gS) (h : mj_H) (i : Nat), i < c0 → xs i = tt → hS h W V s → mz_mo [W, V] 0 0 h0 h → Q (.inl (some (.int lv)), h)) (hend : ∀ (s' : gS) (h : mj_H) (l7 : Option Value), (∀ j, j < c0 → xs j ≠ tt) → s' = sgI xs c0 0 s0 → hS h W V s' → qS s' → mz_mo [W, V] 0 0 h0 h → mj_Wp 2 444 (214, [some (.ref X), some (.int (nI tt)), some (.int d), some (.int (nI c0)), some (.int lv), some (.int (nI s'.2.2)), some (.int (nI c0)), l7], [], h) Q) : ∀ (m i : Nat) (s : gS) (h : mj_H) (l7 : Option Value), i + m = c0 → sgI xs c0 0 s0 = sgI xs m i s → (∀ j, j < i → xs j ≠ tt) → hS h W V s → qS s → mz_mo [W, V] 0 0 h0 h → mj_Wp 2 444 (139, [some (.ref X), some (.int (nI tt)), some (.int d), some (.int (nI c0)), some (.int lv), some (.int (nI s.2.2)), some (.int (nI i)), l7], [], h) Q
  | 0, i, s, h, l7, he, he2, hno, hs, q, M => by
    obtain rfl : i = c0 := by omega
    refine s_ild (p' := 141) rfl rfl rfl ?_
    refine s_ildn (p' := 142) rfl rfl rfl ?_
    refine s_icmp (p' := 214) true rfl ((ci_ge (by omega) (by omega)).trans (decide_eq_true (by omega))) rfl ?_
    exact hend s h l7 hno he2.symm hs q M
  | m + 1, i, s, h, l7, he, he2, hno, hs, q, M => by
    refine s_ild (p' := 141) rfl rfl rfl ?_
    refine s_ildn (p' := 142) rfl rfl rfl ?_
    refine s_icmp (p' := 145) false rfl ((ci_ge (by omega) (by omega)).trans (decide_eq_false (by omega))) rfl ?_
    refine s_aldn (p' := 146) rfl rfl rfl ?_
    refine s_gf (p' := 149) rfl (M.1 _ hXn _ hX) rfl rfl ?_
    refine s_ild (p' := 151) rfl rfl rfl ?_
    refine s_ial (p' := 152) rfl (M.1 _ hAn _ hA) (inb_nI (by omega) (by omega)) rfl ?_
    rw [mI_cl (by omega), (hx i (by omega)).1]
    refine s_ildn (p' := 153) rfl rfl rfl ?_
    by_cases zq : xs i = tt
    · refine s_icmp (p' := 156) false rfl ((ci_ne (by have := hx i (by omega); omega) (by omega)).trans (decide_eq_false (fun y => y zq))) rfl ?_
      refine s_ild (p' := 158) rfl rfl rfl ?_
      refine s_iret rfl rfl ?_
      exact hret s h i (by omega) zq hs M
    · refine s_icmp (p' := 159) true rfl ((ci_ne (by have := hx i (by omega); omega) (by omega)).trans (decide_eq_true zq)) rfl ?_
      refine s_con (p' := 160) rfl rfl ?_
      refine s_ist (p' := 162) (ls' := [_, _, _, _, _, _, _, _]) rfl rfl rfl rfl ?_
      refine y_sgL (M.1 _ hXn _ hX) (M.1 _ hAn _ hA) (by omega) (hx i (by omega)).1 (hx i (by omega)).2 bW bV hXn hAn (fun s' h' e1 hs' M' => ?_) 24 0 s h rfl rfl hs q (mz_mo.rf _ _ _ _)
      refine s_inc (p' := 211) (ls' := [_, _, _, _, _, _, _, _]) rfl rfl rfl rfl rfl ?_
      rw [mI_add]
      refine s_goto (p' := 139) rfl rfl ?_
      exact y_sgO hX hA hc hx htt bW bV hXn hAn hret hend m (i + 1) s' h' _ (by omega) (by rw [he2, sgI, ← e1]) (fun j hj => by
        by_cases y : j = i
        · rw [y]; exact zq
        · exact hno j (by omega)) hs' (e1 ▸ qS.G 24 0 rfl q) (mo00 M M')
