/-! The least gates of no gates; fewest pebbles. -/
/-- the first outputs' place is kept -/
def gP (f : Nat → Int32) : Prop := f 6542 = nI 16434824
theorem gkeep_P {f : Nat → Int32} {o g : Int32} (h : gP f) : gP (gkeep f o g) := by
  unfold gkeep
  split
  · rename_i hc
    unfold gP upd
    rw [if_neg ?_]
    · exact h
    · intro q
      rw [← q, show f 6542 = nI 16434824 from h] at hc
      exact absurd hc.2 (by decide +kernel)
  · exact h
theorem gkfI_P {o g : Int32} {l : Nat} : ∀ (k c : Nat) (f : Nat → Int32), gP f → gP (gkfI o g l k c f)
  | 0, c, f, h => h
  | k + 1, c, f, h => by
    rw [gkfI]
    refine gkfI_P k (c + 1) _ ?_
    split
    · exact gkeep_P h
    · exact h
theorem gkfO_P {o g : Int32} : ∀ (k l : Nat) (f : Nat → Int32), gP f → gP (gkfO o g k l f)
  | 0, l, f, h => h
  | k + 1, l, f, h => by
    rw [gkfO]
    exact gkfO_P k (l + 1) _ (gkfI_P 8 0 f h)
theorem gfiI_P {g : Nat} : ∀ (k i : Nat) (f : Nat → Int32), gP f → gP (gfiI g k i f)
  | 0, i, f, h => h
  | k + 1, i, f, h => by
    rw [gfiI]
    refine gfiI_P k (i + 1) _ ?_
    split
    · exact h
    · split
      · exact gkfO_P 3 0 f h
      · exact h
theorem gfiO_P : ∀ (k g : Nat) (f : Nat → Int32), gP f → gP (gfiO k g f)
  | 0, g, f, h => h
  | k + 1, g, f, h => by
    rw [gfiO]
    exact gfiO_P k (g + 1) _ (gfiI_P 8192 0 f h)
theorem gs0 : bcu (nI 16434824 * nI 2654435761) (nI 19) = nI 6542 := by decide +kernel
theorem gat_P {f : Nat → Int32} (h : gP f) : gat f (nI 6542) = nI 16434824 := by
  unfold gat
  rw [if_pos (by decide +kernel), mI_cl (by omega)]
  exact h
theorem gsl_s (f : Nat → Int32) (o : Int32) (k : Nat) (s : Int32) : gsl f o (k + 1) s = if gat f s = 0 then s else if gat f s &&& nI 16777215 = o then s else gsl f o k ((s + nI 1) &&& nI 8191) := by rw [gsl]
theorem gslot_P {f : Nat → Int32} (h : gP f) : gslot f (nI 16434824) = nI 6542 := by
  unfold gslot
  rw [gs0, gsl_s f _ 8191, gat_P h, if_neg (by decide +kernel), if_pos (by decide +kernel)]
theorem gkept_P {f : Nat → Int32} (h : gP f) : gkept f (nI 16434824) = nI 16434824 := by
  unfold gkept
  rw [gslot_P h, gat_P h]
theorem gslot_0 : gslot (fun _ => 0) (nI 16434824) = nI 6542 := by
  unfold gslot
  rw [gs0, gsl_s _ _ 8191, if_pos (by decide +kernel)]
theorem gkeep_0 : gP (gkeep (fun _ => 0) (nI 16434824) (nI 0)) := by
  unfold gkeep
  rw [gslot_0, if_pos ⟨by decide +kernel, rfl⟩, mI_cl (by omega)]
  show upd (fun _ => 0) 6542 (nI 16434824 ||| (nI 0 <<< (nI 24 &&& 31))) 6542 = nI 16434824
  unfold upd
  rw [if_pos rfl]
  decide +kernel
/-- what is kept of no gates, when all is laid -/
theorem gkept_id : gkept (gfill (fun _ => 0)) (nI 16434824) = nI 16434824 := gkept_P (gfiO_P 4 1 _ gkeep_0)
theorem x_fzL {h : mj_H} {a n : Nat} {f : Nat → Int32} {v w : Int32} (hw : vp_nar .boolean v = w) (ha : a < mj_CB) (hr : mj_rd h a = some (.inl (2, (n, .inl f)))) (hn : n < 2147483648) : ∀ (r i : Nat), i + r = n → mj_run 1 446 (5, [some (.ref a), some (.int v), some (.int (nI i)), some (.int (nI n))], [], h.set a (.inl (2, (n, .inl (mfl f w i))))) (.inl none, h.set a (.inl (2, (n, .inl (mfl f w n)))))
  | 0, i, hi => by
    obtain rfl : i = n := by omega
    refine s_ildn (p' := 6) rfl rfl rfl ?_
    refine s_ildn (p' := 7) rfl rfl rfl ?_
    refine s_icmp (p' := 20) true rfl ((ci_ge (by omega) (by omega)).trans (decide_eq_true (by omega))) rfl ?_
    exact s_ret rfl rfl
  | r + 1, i, hi => by
    have ih := fun i => x_fzL hw ha hr hn r i
    refine s_ildn (p' := 6) rfl rfl rfl ?_
    refine s_ildn (p' := 7) rfl rfl rfl ?_
    refine s_icmp (p' := 10) false rfl ((ci_ge (by omega) (by omega)).trans (decide_eq_false (by omega))) rfl ?_
    refine s_aldn (p' := 11) rfl rfl rfl ?_
    refine s_ildn (p' := 12) rfl rfl rfl ?_
    refine s_ildn (p' := 13) rfl rfl rfl ?_
    refine s_bas2 (p' := 14) rfl ha (rd_set ha hr) (inb_nI (by omega) (by omega)) rfl ?_
    rw [List.set_set, mI_cl (by omega), hw, mfl_s]
    refine s_inc (p' := 17) (ls' := [_, _, _, _]) rfl rfl rfl rfl rfl ?_
    rw [mI_add]
    refine s_goto (p' := 5) rfl rfl ?_
    exact ih (i + 1) (by omega)
theorem x_fillZ {h : mj_H} {a n : Nat} {f : Nat → Int32} {v w : Int32} (hw : vp_nar .boolean v = w) (ha : a < mj_CB) (hr : mj_rd h a = some (.inl (2, (n, .inl f)))) (hn : n < 2147483648) : mj_run 1 446 (0, [some (.ref a), some (.int v), none, none], [], h) (.inl none, h.set a (.inl (2, (n, .inl (mfl f w n))))) := by
  refine s_con (p' := 1) rfl rfl ?_
  refine s_istn (p' := 2) (ls' := [_, _, _, _]) rfl rfl rfl rfl ?_
  refine s_aldn (p' := 3) rfl rfl rfl ?_
  refine s_len (p' := 4) rfl (mj_rdA_is hr (by decide)) (by decide) rfl ?_
  refine s_istn (p' := 5) (ls' := [_, _, _, _]) rfl rfl rfl rfl ?_
  have hz := x_fzL hw ha hr hn n 0 (by omega)
  rw [mfl_0, set_same ha hr] at hz
  exact hz
/-- a pebble line stands -/
def pbX (h : mj_H) (P M W : Nat) : Prop := ∃ m w fl, mj_rd h P = some (.inr (16, [.ref M, .ref W, fl])) ∧ mj_rd h M = some (.inl (0, (1024, .inl m))) ∧ mj_rd h W = some (.inl (0, (1024, .inl w)))
theorem pbX_of {h : mj_H} {P M W : Nat} {s : pb_S} (a : pbHp h P M W s) : pbX h P M W := by
  obtain ⟨hP, m, w, hM, hW, _, _⟩ := a
  exact ⟨m, w, _, hP, hM, hW⟩
theorem x_fmS {h : mj_H} {x P M W : Nat} (bP : P < mj_CB) (bM : M < mj_CB) (bW : W < mj_CB) (hMP : M ≠ P) (hWP : W ≠ P) (hMW : M ≠ W) {p : Nat} (hp1 : 1 ≤ p) (hp : p ≤ 10) {q : Nat} {v0 v1 v2 v3 v4 v5 v6 v7 v8 v9 v10 v12 v13 v14 v15 v16 : Value} (hX : mj_rd h x = some (.inr (0, [v0, v1, v2, v3, v4, v5, v6, v7, v8, v9, v10, .ref P, v12, v13, v14, v15, v16]))) (hH : pbX h P M W) : mj_Wp 4 224 (0, [some (.ref x), some (.int (nI p)), some (.int (nI q))], [], h) (mz_V fun v h' => v = .int (pbE (pbR p q)) ∧ pbFr P M W h h' ∧ pbX h' P M W) := by
  obtain ⟨m, w, fl, hP, hM, hW⟩ := hH
  refine s_aldn (p' := 1) rfl rfl rfl ?_
  refine s_gf (p' := 4) rfl hX rfl rfl ?_
  refine s_nonnull (p' := 18) (x := some P) true rfl rfl rfl ?_
  refine s_aldn (p' := 19) rfl rfl rfl ?_
  refine s_gf (p' := 22) rfl hX rfl rfl ?_
  refine s_ildn (p' := 23) rfl rfl rfl ?_
  refine s_ildn (p' := 24) rfl rfl rfl ?_
  refine s_callEV (p' := 27) (ls0 := [_, _, _, _, _, _, _]) rfl rfl rfl rfl rfl (mj_rcv_is hP) rfl (x_few (q := q) bP bM bW hP hM hW hMP hWP hMW hp1 hp) rfl rfl ?_
  rintro v h1 ⟨rfl, hf, s, hs⟩
  refine s_iret rfl rfl ?_
  exact ⟨_, _, rfl, rfl, hf, pbX_of hs⟩
theorem pbE_lt0 {p q : Nat} (hp : p ≤ 10) : mj_ci .ge (pbE (pbR p q)) 0 = decide (pbR p q ≠ none) := by
  cases h : pbR p q with
  | none => rfl
  | some d =>
    have h1 := pbR_lt h
    have h2 := pb_2 hp
    exact (cz_ge (by omega)).trans (decide_eq_true (by intro q; cases q)).symm
theorem pbC_k (p k c : Nat) : pbC p (k + 1) c = if pbR p c = none then pbC p k (c + 1) else c := rfl
theorem x_fpL {x P M W : Nat} (bP : P < mj_CB) (bM : M < mj_CB) (bW : W < mj_CB) (hMP : M ≠ P) (hWP : W ≠ P) (hMW : M ≠ W) (hxP : x ≠ P) (hxM : x ≠ M) (hxW : x ≠ W) {p : Nat} (hp1 : 1 ≤ p) (hp : p ≤ 10) {v0 v1 v2 v3 v4 v5 v6 v7 v8 v9 v10 v12 v13 v14 v15 v16 : Value} {Q : mj_O × mj_H → Prop} : ∀ (k c : Nat) (h : mj_H), k + c = p → mj_rd h x = some (.inr (0, [v0, v1, v2, v3, v4, v5, v6, v7, v8, v9, v10, .ref P, v12, v13, v14, v15, v16])) → pbX h P M W → (∀ h', pbFr P M W h h' → pbX h' P M W → mj_Wp 5 231 (44, [some (.ref x), some (.int (nI p)), some (.int (nI (pbC p k c)))], [], h') Q) → mj_Wp 5 231 (24, [some (.ref x), some (.int (nI p)), some (.int (nI c))], [], h) Q
  | 0, c, h, hk, hX, hH, hn => by
    obtain rfl : c = p := by omega
    refine s_ildn (p' := 25) rfl rfl rfl ?_
    refine s_ildn (p' := 26) rfl rfl rfl ?_
    refine s_icmp (p' := 44) true rfl ((ci_ge (by omega) (by omega)).trans (decide_eq_true (by omega))) rfl ?_
    exact hn h (pbFr.rf h) hH
  | k + 1, c, h, hk, hX, hH, hn => by
    have ih := x_fpL bP bM bW hMP hWP hMW hxP hxM hxW hp1 hp (Q := Q) (v0 := v0) (v1 := v1) (v2 := v2) (v3 := v3) (v4 := v4) (v5 := v5) (v6 := v6) (v7 := v7) (v8 := v8) (v9 := v9) (v10 := v10) (v12 := v12) (v13 := v13) (v14 := v14) (v15 := v15) (v16 := v16) k
    refine s_ildn (p' := 25) rfl rfl rfl ?_
    refine s_ildn (p' := 26) rfl rfl rfl ?_
    refine s_icmp (p' := 29) false rfl ((ci_ge (by omega) (by omega)).trans (decide_eq_false (by omega))) rfl ?_
    refine s_aldn (p' := 30) rfl rfl rfl ?_
    refine s_ildn (p' := 31) rfl rfl rfl ?_
    refine s_ildn (p' := 32) rfl rfl rfl ?_
    refine s_callEV (p' := 35) (ls0 := [_, _, _]) rfl rfl rfl rfl rfl (mj_rcv_is hX) rfl (x_fmS bP bM bW hMP hWP hMW hp1 hp hX hH) rfl rfl ?_
    rintro v h1 ⟨rfl, hf, hs⟩
    by_cases q : pbR p c = none
    · refine s_if (p' := 38) false rfl ((pbE_lt0 hp).trans (decide_eq_false (fun z => z q))) rfl ?_
      refine s_inc (p' := 41) (ls' := [_, _, _]) rfl rfl rfl rfl rfl ?_
      rw [mI_add]
      refine s_goto (p' := 24) rfl rfl ?_
      rw [pbC_k, if_pos q] at hn
      exact ih (c + 1) h1 (by omega) ((hf.2.2 x hxP hxM hxW).trans hX) hs (fun h2 y1 y2 => hn h2 (hf.tr y1) y2)
    · refine s_if (p' := 44) true rfl ((pbE_lt0 hp).trans (decide_eq_true q)) rfl ?_
      rw [pbC_k, if_neg q] at hn
      exact hn h1 hf hs
theorem pbE_ne {p q : Nat} (hp : p ≤ 10) : mj_ci .ne (pbE (pbR p q)) (nI 4294967295) = decide (pbR p q ≠ none) := by
  cases h : pbR p q with
  | none => rfl
  | some d =>
    have h1 := pbR_lt h
    have h2 := pb_2 hp
    refine (cg_ne (w := -1) (by decide +kernel)).trans ?_
    show decide (¬ (nI d).toInt = -1) = _
    rw [mI_ti (by omega), decide_eq_true (by omega), decide_eq_true (by intro q; cases q)]
theorem mz_ext.rf (h : mj_H) : mz_ext h h := fun _ _ q => q
theorem mz_ext.tr {a b c : mj_H} (h : mz_ext a b) (g : mz_ext b c) : mz_ext a c := fun x y q => g x y (h x y q)
theorem y_fpL {x : Nat} {p : Nat} (hp1 : 1 ≤ p) (hp : p ≤ 10) {Q : mj_O × mj_H → Prop} : ∀ (k c : Nat) (h : mj_H), k + c = p → 1 ≤ c → h.length + 2 * k + 20 < mj_CB → (∀ h', mz_ext h h' → h'.length ≤ h.length + 2 * k + 2 → mj_sz h' ≤ mj_sz h + 2048 * k + 2048 → mj_Wp 5 460 (41, [some (.ref x), some (.int (nI p)), some (.int (nI (pbC p k c)))], [], h') Q) → mj_Wp 5 460 (26, [some (.ref x), some (.int (nI p)), some (.int (nI c))], [], h) Q
  | 0, c, h, hk, hc, hl, hn => by
    obtain rfl : c = p := by omega
    refine s_ildn (p' := 27) rfl rfl rfl ?_
    refine s_ildn (p' := 28) rfl rfl rfl ?_
    refine s_callEV (p' := 31) (ls0 := [_, _, _, _, _, _, _, _, _, _]) rfl rfl rfl rfl rfl rfl rfl (y_mov rfl (by omega) hp1 hp) rfl rfl ?_
    rintro v h1 ⟨rfl, e1, e2, e3⟩
    have h2p := pb_2 hp
    refine s_con (p' := 32) rfl rfl ?_
    refine s_icmp (p' := 41) true rfl ((pbE_ne hp).trans (decide_eq_true (pbR_pp hp1 hp))) rfl ?_
    exact hn h1 e3 (by omega) (by omega)
  | k + 1, c, h, hk, hc, hl, hn => by
    have ih := y_fpL (x := x) hp1 hp (Q := Q) k
    refine s_ildn (p' := 27) rfl rfl rfl ?_
    refine s_ildn (p' := 28) rfl rfl rfl ?_
    refine s_callEV (p' := 31) (ls0 := [_, _, _, _, _, _, _, _, _, _]) rfl rfl rfl rfl rfl rfl rfl (y_mov rfl (by omega) hp1 hp) rfl rfl ?_
    rintro v h1 ⟨rfl, e1, e2, e3⟩
    have h2p := pb_2 hp
    refine s_con (p' := 32) rfl rfl ?_
    by_cases q : pbR p c = none
    · refine s_icmp (p' := 35) false rfl ((pbE_ne hp).trans (decide_eq_false (fun z => z q))) rfl ?_
      refine s_inc (p' := 38) (ls' := [_, _, _]) rfl rfl rfl rfl rfl ?_
      rw [mI_add]
      refine s_goto (p' := 26) rfl rfl ?_
      rw [pbC_k, if_pos q] at hn
      exact ih (c + 1) h1 (by omega) (by omega) (by omega) (fun h2 y1 y2 y3 => hn h2 (e3.tr y1) (by omega) (by omega))
    · refine s_icmp (p' := 41) true rfl ((pbE_ne hp).trans (decide_eq_true q)) rfl ?_
      rw [pbC_k, if_neg q] at hn
      exact hn h1 e3 (by omega) (by omega)
/-! told runs: what is known behind a condition -/
theorem len_b {h h' : mj_H} {k n m : Nat} (e : h'.length = h.length + k) (hl : h.length = n) (hm : n + k = m) : h'.length = m := by omega
theorem lenb_s {h : mj_H} {a n : Nat} {c : mj_C} (hl : h.length ≤ n) : (h.set a c).length ≤ n := by rw [List.length_set]; exact hl
theorem lenb_a {h : mj_H} {n m : Nat} {c : mj_C} (hl : h.length ≤ n) (hm : n + 1 = m) : (h ++ [c]).length ≤ m := by
  rw [List.length_append]
  show h.length + 1 ≤ m
  omega
theorem lenb_b {h h' : mj_H} {k K n m : Nat} (e : h'.length ≤ h.length + k) (hk : k ≤ K) (hl : h.length ≤ n) (hm : n + K = m) : h'.length ≤ m := by omega
theorem sz_b {h h' : mj_H} {k K n m : Nat} (e : mj_sz h' ≤ mj_sz h + k) (hk : k ≤ K) (hz : mj_sz h ≤ n) (hm : n + K = m) : mj_sz h' ≤ m := by omega
