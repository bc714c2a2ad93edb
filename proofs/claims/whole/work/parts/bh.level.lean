/-! The reference's search: all that one gate more makes of a row. -/
abbrev gS : Type := (Nat → Int32) × (Nat → Nat) × Nat
def adsP (s : gS) (o : Nat) : gS := if s.1 (lr o) = 0 then (upd s.1 (lr o) (nI 1), upN s.2.1 s.2.2 o, s.2.2 + 1) else s
/-- what is marked and listed: no two of one rank -/
def qS (s : gS) : Prop := (∀ i, i < s.2.2 → s.2.1 i < 16777216 ∧ s.1 (lr (s.2.1 i)) ≠ 0) ∧ ∀ i j, i < j → j < s.2.2 → lr (s.2.1 i) ≠ lr (s.2.1 j)
theorem qS.c {s : gS} (q : qS s) : s.2.2 ≤ 40320 := by
  rcases Nat.lt_or_ge 40320 s.2.2 with h | h
  · obtain ⟨i, j, h1, h2, h3⟩ := pgh 40320 s.2.2 (fun i => lr (s.2.1 i)) h (fun i _ => lr_lt _)
    exact absurd h3 (q.2 i j h1 h2)
  · exact h
theorem qS.lt {s : gS} (q : qS s) {o : Nat} (h0 : s.1 (lr o) = 0) : s.2.2 < 40320 := by
  rcases Nat.lt_or_ge s.2.2 40320 with h | h
  · exact h
  · obtain ⟨i, j, h1, h2, h3⟩ := pgh 40320 (s.2.2 + 1) (fun i => if i = s.2.2 then lr o else lr (s.2.1 i)) (by omega) (fun i _ => by show (if i = s.2.2 then lr o else lr (s.2.1 i)) < 40320; split <;> exact lr_lt _)
    rw [if_neg (show ¬ i = s.2.2 by omega)] at h3
    by_cases z : j = s.2.2
    · rw [if_pos z] at h3
      exact absurd (by rw [h3]; exact h0) (q.1 i (by omega)).2
    · rw [if_neg z] at h3
      exact absurd h3 (q.2 i j h1 (by omega))
theorem upd_s {f : Nat → Int32} {i : Nat} {y : Int32} : upd f i y i = y := if_pos rfl
theorem upd_n {f : Nat → Int32} {i j : Nat} {y : Int32} (h : j ≠ i) : upd f i y j = f j := if_neg h
theorem nI1 : nI 1 ≠ 0 := by decide +kernel
theorem qS.ads {s : gS} (q : qS s) {o : Nat} (ho : o < 16777216) : qS (adsP s o) := by
  unfold adsP
  by_cases z : s.1 (lr o) = 0
  · rw [if_pos z]
    have hne : ∀ i, i < s.2.2 → lr (s.2.1 i) ≠ lr o := fun i hi e => (q.1 i hi).2 (by rw [e]; exact z)
    refine ⟨fun i hi => ?_, fun i j h1 h2 => ?_⟩
    · have hi : i < s.2.2 + 1 := hi
      show upN s.2.1 s.2.2 o i < _ ∧ upd s.1 (lr o) (nI 1) (lr (upN s.2.1 s.2.2 o i)) ≠ 0
      by_cases y : i = s.2.2
      · rw [show upN s.2.1 s.2.2 o i = o from if_pos y, upd_s]
        exact ⟨ho, nI1⟩
      · rw [show upN s.2.1 s.2.2 o i = s.2.1 i from if_neg y, upd_n (hne i (by omega))]
        exact q.1 i (by omega)
    · have h2 : j < s.2.2 + 1 := h2
      show lr (upN s.2.1 s.2.2 o i) ≠ lr (upN s.2.1 s.2.2 o j)
      rw [show upN s.2.1 s.2.2 o i = s.2.1 i from if_neg (by omega)]
      by_cases y : j = s.2.2
      · rw [show upN s.2.1 s.2.2 o j = o from if_pos y]
        exact hne i (by omega)
      · rw [show upN s.2.1 s.2.2 o j = s.2.1 j from if_neg y]
        exact q.2 i j h1 (by omega)
  · rw [if_neg z]; exact q
/-- the marks at W, the list at V -/
def hS (h : mj_H) (W V : Nat) (s : gS) : Prop := mj_rd h W = some (.inl (2, (40320, .inl s.1))) ∧ ∃ f : Nat → Int32, mj_rd h V = some (.inl (0, (40320, .inl f))) ∧ ∀ i, i < s.2.2 → f i = nI (s.2.1 i)
theorem y_ads {h : mj_H} {X W V o : Nat} {s : gS} {a0 a1 a2 a3 a4 a5 a6 a8 a10 : Value} (hX : mj_rd h X = some (.inr (17, [a0, a1, a2, a3, a4, a5, a6, .ref W, a8, .ref V, a10]))) (hs : hS h W V s) (q : qS s) (bW : W < mj_CB) (bV : V < mj_CB) (ho : o < 16777216) : mj_Wp 1 449 (0, [some (.ref X), some (.int (nI o)), some (.int (nI s.2.2)), none], [], h) (mz_V fun r g => r = .int (nI (adsP s o).2.2) ∧ hS g W V (adsP s o) ∧ mz_mo [W, V] 0 0 h g) := by
  obtain ⟨hW, f, hV, hf⟩ := hs
  have hWV : W ≠ V := fun e => by rw [e, hV] at hW; cases hW
  unfold adsP
  by_cases z : s.1 (lr o) = 0
  · rw [if_pos z]
    refine (y_ads0 hX hW hV bW bV ho z (q.lt z)).imp ?_
    rintro _ rfl
    refine ⟨_, _, rfl, rfl, ⟨(rd_setn (Ne.symm hWV)).trans (rd_set bW hW), _, rd_set bV ((rd_setn hWV).trans hV), fun i hi => ?_⟩, mz_mo.s (mz_mo.s (mz_mo.rf _ _ _ _) bW hW rfl (Or.inl (by simp))) bV ((rd_setn hWV).trans hV) rfl (Or.inl (by simp))⟩
    have hi : i < s.2.2 + 1 := hi
    show upd f s.2.2 (nI o) i = nI (upN s.2.1 s.2.2 o i)
    by_cases y : i = s.2.2
    · rw [y, upd_s, show upN s.2.1 s.2.2 o s.2.2 = o from if_pos rfl]
    · rw [upd_n y, show upN s.2.1 s.2.2 o i = s.2.1 i from if_neg y]
      exact hf i (by omega)
  · rw [if_neg z]
    refine (y_ads1 hX hW hV bW bV ho z).imp ?_
    rintro _ rfl
    exact ⟨_, _, rfl, rfl, ⟨hW, f, hV, hf⟩, mz_mo.rf _ _ _ _⟩
/-- all gates behind a row -/
abbrev wth (g x : Nat) : Nat := wS (fun j => gt g (vP x j)) 8
theorem wth_lt {g : Nat} (hg : g < 24) (x : Nat) : wth g x < 16777216 := wS_24 fun j _ => gt_lt hg (vP_lt x j)
def sgG (x : Nat) : Nat → Nat → gS → gS
  | 0, _, s => s
  | k + 1, g, s => sgG x k (g + 1) (if g % 8 / 2 ^ (g / 8) % 2 = 0 then adsP s (wth g x) else s)
theorem qS.G {x : Nat} : ∀ (k g : Nat) {s : gS}, g + k = 24 → qS s → qS (sgG x k g s)
  | 0, _, _, _, q => q
  | k + 1, g, s, h, q => by
    rw [sgG]
    refine qS.G k (g + 1) (by omega) ?_
    split
    · exact q.ads (wth_lt (by omega) x)
    · exact q
theorem g_bit {g : Nat} (hg : g < 24) : ((nI g >>> ((nI g / nI 8) &&& 31)) &&& nI 1 = 0) ↔ g % 8 / 2 ^ (g / 8) % 2 = 0 := by
  have key : ((List.range 24).all fun g => decide (((nI g >>> ((nI g / nI 8) &&& 31)) &&& nI 1 = 0) ↔ g % 8 / 2 ^ (g / 8) % 2 = 0)) = true := by decide +kernel
  exact of_decide_eq_true (List.all_eq_true.mp key g (List.mem_range.mpr hg))
theorem g_bne {g : Nat} (hg : g < 24) : mj_ci .ne ((nI g >>> ((nI g / nI 8) &&& 31)) &&& nI 1) 0 = !decide (g % 8 / 2 ^ (g / 8) % 2 = 0) := by
  have key : ((List.range 24).all fun g => decide (mj_ci .ne ((nI g >>> ((nI g / nI 8) &&& 31)) &&& nI 1) 0 = !decide (g % 8 / 2 ^ (g / 8) % 2 = 0))) = true := by decide +kernel
  exact of_decide_eq_true (List.all_eq_true.mp key g (List.mem_range.mpr hg))
theorem y_sgL {h0 : mj_H} {X W A V i x : Nat} {fn : Nat → Int32} {a0 a1 a2 a3 a4 a5 a6 a10 : Value} {t d n lv : Int32} (hX : mj_rd h0 X = some (.inr (17, [a0, a1, a2, a3, a4, a5, a6, .ref W, .ref A, .ref V, a10]))) (hA : mj_rd h0 A = some (.inl (0, (40320, .inl fn)))) (hi : i < 40320) (hx : fn i = nI x) (hx2 : x < 16777216) (bW : W < mj_CB) (bV : V < mj_CB) (hXn : X ∉ [W, V]) (hAn : A ∉ [W, V]) {Q : mj_O × mj_H → Prop}  {s0 : gS} (hq : ∀ (s' : gS) (h : mj_H), s' = sgG x 24 0 s0 → hS h W V s' → mz_mo [W, V] 0 0 h0 h → mj_Wp 2 444 (208, [some (.ref X), some (.int t), some (.int d), some (.int n), some (.int lv), some (.int (nI s'.2.2)), some (.int (nI i)), some (.int (nI 24))], [], h) Q) : ∀ (m g : Nat) (s : gS) (h : mj_H), g + m = 24 → sgG x 24 0 s0 = sgG x m g s → hS h W V s → qS s → mz_mo [W, V] 0 0 h0 h → mj_Wp 2 444 (162, [some (.ref X), some (.int t), some (.int d), some (.int n), some (.int lv), some (.int (nI s.2.2)), some (.int (nI i)), some (.int (nI g))], [], h) Q
  | 0, g, s, h, he, he2, hs, q, M => by
    obtain rfl : g = 24 := by omega
    refine s_ild (p' := 164) rfl rfl rfl ?_
    refine s_bip (p' := 166) rfl rfl ?_
    refine s_icmp (p' := 208) true rfl ((ci_ge (by omega) (by decide)).trans (decide_eq_true (by omega))) rfl ?_
    exact hq s h he2.symm hs M
  | m + 1, g, s, h, he, he2, hs, q, M => by
    refine s_ild (p' := 164) rfl rfl rfl ?_
    refine s_bip (p' := 166) rfl rfl ?_
    refine s_icmp (p' := 169) false rfl ((ci_ge (by omega) (by decide)).trans (decide_eq_false (by omega))) rfl ?_
    refine s_ild (p' := 171) rfl rfl rfl ?_
    refine s_ild (p' := 173) rfl rfl rfl ?_
    refine s_bip (p' := 175) rfl rfl ?_
    refine s_idiv (p' := 176) rfl (by decide +kernel) rfl ?_
    refine s_sp (p' := 177) (ls' := _) rfl rfl rfl ?_
    refine s_con (p' := 178) rfl rfl ?_
    refine s_sp (p' := 179) (ls' := _) rfl rfl rfl ?_
    by_cases zb : g % 8 / 2 ^ (g / 8) % 2 = 0
    · refine s_if (p' := 182) false rfl ((g_bne (by omega)).trans (by rw [decide_eq_true zb]; rfl)) rfl ?_
      refine s_aldn (p' := 183) rfl rfl rfl ?_
      refine s_aldn (p' := 184) rfl rfl rfl ?_
      refine s_gf (p' := 187) rfl (M.1 _ hXn _ hX) rfl rfl ?_
      refine s_ild (p' := 189) rfl rfl rfl ?_
      refine s_ial (p' := 190) rfl (M.1 _ hAn _ hA) (inb_nI (by omega) (by omega)) rfl ?_
      rw [mI_cl (by omega), hx]
      refine s_ild (p' := 192) rfl rfl rfl ?_
      refine s_callV (p' := 195) (ls0 := [_, _, _, _]) rfl rfl rfl rfl rfl rfl rfl (y_wth (g := g) (by omega) hx2) (by first | decide | omega) rfl ?_
      refine s_ild (p' := 197) rfl rfl rfl ?_
      refine s_callEV (p' := 200) (ls0 := [_, _, _, _]) rfl rfl rfl rfl rfl (mj_rcv_is (M.1 _ hXn _ hX)) rfl (y_ads (M.1 _ hXn _ hX) hs q bW bV (wth_lt (by omega) x)) rfl rfl ?_
      rintro _ h2 ⟨rfl, hs2, m2⟩
      refine s_ist (p' := 202) (ls' := [_, _, _, _, _, _, _, _]) rfl rfl rfl rfl ?_
      refine s_inc (p' := 205) (ls' := [_, _, _, _, _, _, _, _]) rfl rfl rfl rfl rfl ?_
      rw [mI_add]
      refine s_goto (p' := 162) rfl rfl ?_
      exact y_sgL hX hA hi hx hx2 bW bV hXn hAn hq m (g + 1) _ h2 (by omega) (by rw [he2, sgG, if_pos zb]) hs2 (q.ads (wth_lt (by omega) x)) (mo00 M m2)
    · refine s_if (p' := 202) true rfl ((g_bne (by omega)).trans (by rw [decide_eq_false zb]; rfl)) rfl ?_
      refine s_inc (p' := 205) (ls' := [_, _, _, _, _, _, _, _]) rfl rfl rfl rfl rfl ?_
      rw [mI_add]
      refine s_goto (p' := 162) rfl rfl ?_
      exact y_sgL hX hA hi hx hx2 bW bV hXn hAn hq m (g + 1) _ h (by omega) (by rw [he2, sgG, if_neg zb]) hs q M
