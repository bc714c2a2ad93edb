/-! Faults. -/
/-- a fault's cell -/
abbrev fCf (p k : Int32) : mj_C := .inr (23, [.int p, .int k])
theorem pu_s {E : mj_E} {r : List mj_E} {pc : Nat} {ls : mj_L} {st : List Value} {h : mj_H} {F : mj_F} {z : List Value} (hne : ∀ i, E.1 ≠ .getfield i) (h1 : mj_sp E pc ls st = some F) (h2 : F.1 = pc + mj_len E.1) (h3 : mj_pu r F.1 F.2.1 F.2.2 h = some z) : mj_pu (E :: r) pc ls st h = some z := by
  unfold mj_pu
  split
  · rename_i i e
    exact absurd e (hne i)
  · rw [h1]
    dsimp only
    rw [if_pos h2]
    exact h3
theorem pu_g {i f c y pc a : Nat} {r : List mj_E} {ls : mj_L} {st : List Value} {h : mj_H} {fs : List Value} {v : Value} {z : List Value} (hr : mj_rd h a = some (.inr (c, fs))) (hf : fs[f]? = some v) (h3 : mj_pu r (pc + 3) ls (v :: st) h = some z) : mj_pu ((.getfield i, f, c, y) :: r) pc ls (.ref a :: st) h = some z := by
  have e : mj_gf (.getfield i, f, c, y) pc ls (.ref a :: st) h = some (pc + 3, ls, v :: st, h) := by
    unfold mj_gf
    show (match mj_rdO h a with | some (c', fs) => if c' = c then match fs[f]? with | some v => some (pc + 3, ls, v :: st, h) | none => none else none | none => none) = _
    have : mj_rdO h a = some (c, fs) := by unfold mj_rdO; rw [hr]
    rw [this]
    dsimp only
    rw [if_pos rfl, hf]
  unfold mj_pu
  dsimp only
  rw [e]
  dsimp only
  rw [if_pos (show pc + 3 = pc + mj_len (.getfield i) from rfl)]
  exact h3
theorem flt_is {j c y z pc : Nat} {ls : mj_L} {h : mj_H} {p k : Int32} (hl : h.length < mj_CB) (hk : mj_fit .char (.int k) = true) (hp : mj_pu (mj_fls y) (pc + 4) ls [.ref h.length, .ref h.length] h = some [.int k, .int p, .ref h.length, .ref h.length]) : mj_flt (.new j, c, y, z) pc ls [] h = some (.inr h.length, h ++ [.inr (c, [.int p, .int k])]) := by
  unfold mj_flt
  rw [if_pos ⟨by decide, hl⟩]
  dsimp only
  rw [hp]
  dsimp only
  rw [if_pos ⟨rfl, hk⟩]
theorem fit_ch {k : Nat} (hk : k < 65536) : mj_fit .char (.int (nI k)) = true := by
  have e := nar_ch hk
  unfold mj_fit
  dsimp only
  rw [Bool.and_eq_true]
  refine ⟨e, ?_⟩
  have h1 : (nI k).toInt = k := mI_ti (by omega)
  show (decide ((0 : Int32) ≤ nI k) && decide (nI k ≤ (65535 : Int32))) = true
  rw [Bool.and_eq_true, decide_eq_true_eq, decide_eq_true_eq, Int32.le_iff_toInt_le, Int32.le_iff_toInt_le, h1]
  exact ⟨by show (0 : Int) ≤ _; omega, by show (k : Int) ≤ 65535; omega⟩
theorem y_HFl : HFl fCf := by
  refine ⟨fun p k => ⟨_, rfl⟩, fun k h x T at_ op kd v1 Q bx hb hk hr hQ => ?_, fun k h x T at_ op v1 v2 v3 Q bx hb hr hQ => ?_, fun k h b v0 v2 v3 Q hb hQ => ?_⟩
  · refine s_flt (j := 27) (c := 23) (y := 0) (z := 313) rfl (flt_is (by omega) (fit_ch hk) ?_) hQ
    refine pu_s (fun i => by intro e; cases e) (F := (9, _, _ :: _)) rfl rfl ?_
    refine pu_g hr rfl ?_
    exact pu_s (fun i => by intro e; cases e) (F := (13, _, _ :: _)) rfl rfl rfl
  · refine s_flt (j := 27) (c := 23) (y := 1) (z := 313) rfl (flt_is (by omega) (fit_ch (by decide)) ?_) hQ
    refine pu_s (fun i => by intro e; cases e) (F := (101, _, _ :: _)) rfl rfl ?_
    refine pu_g hr rfl ?_
    refine pu_s (fun i => by intro e; cases e) (F := (105, _, _ :: _)) rfl rfl ?_
    refine pu_s (fun i => by intro e; cases e) (F := (106, _, _ :: _)) rfl rfl ?_
    exact pu_s (fun i => by intro e; cases e) (F := (108, _, _ :: _)) rfl rfl rfl
  · refine s_flt (j := 27) (c := 23) (y := 2) (z := 313) rfl (flt_is (by omega) (fit_ch (by decide)) ?_) hQ
    refine pu_s (fun i => by intro e; cases e) (F := (197, _, _ :: _)) rfl rfl ?_
    exact pu_s (fun i => by intro e; cases e) (F := (199, _, _ :: _)) rfl rfl rfl
/-! a fault's letter is a char -/
theorem rTerm_k {ch : Nat → Nat} {a : Nat} {e : Nat × Nat} (h : rTerm ch a = .inl e) : e.1 < 200 := by
  unfold rTerm at h
  split at h
  · cases h
  · split at h
    · cases h
    · cases h; dsimp only; omega
theorem rTest_k {ch : Nat → Nat} {a : Nat} {e : Nat × Nat} (h : rTest ch a = .inl e) : e.1 < 200 := by
  unfold rTest at h
  split at h
  · rename_i x hx
    cases h
    exact rTerm_k hx
  · split at h
    · split at h
      · rename_i x hx
        cases h
        exact rTerm_k hx
      · cases h
    · cases h; dsimp only; omega
theorem rChg_k {ch : Nat → Nat} {s : PS} {e : Nat × Nat} (h : rChg ch s = .inl e) : e.1 < 200 := by
  unfold rChg at h
  split at h
  · split at h
    · split at h
      · split at h
        · cases h; dsimp only; omega
        · cases h
      · cases h; dsimp only; omega
    · split at h
      · rename_i x hx
        cases h
        exact rTerm_k hx
      · split at h
        · split at h
          · rename_i x hx
            cases h
            exact rTerm_k hx
          · split at h
            · cases h; dsimp only; omega
            · cases h
        · split at h
          · cases h; dsimp only; omega
          · cases h
  · cases h; dsimp only; omega
theorem rBrk_k {row : Nat → Nat → PS → PR} {ch : Nat → Nat} {b m e0 op : Nat} {s : PS} {e : Nat × Nat} (hrow : ∀ en op s e, row en op s = .inl e → e.1 < 200) (h : rBrk row ch b m e0 op s = .inl e) : e.1 < 200 := by
  unfold rBrk at h
  split at h
  · cases h; dsimp only; omega
  · split at h
    · rename_i x hx
      cases h
      exact rTest_k hx
    · split at h
      · split at h
        · rename_i x hx
          cases h
          exact hrow _ _ _ _ hx
        · split at h
          · rename_i x hx
            cases h
            exact hrow _ _ _ _ hx
          · split at h
            · rename_i x hx
              cases h
              exact rTest_k hx
            · split at h
              · cases h
              · cases h; dsimp only; omega
      · cases h; dsimp only; omega
theorem rStm_lt {row : Nat → Nat → PS → PR} {ch : Nat → Nat} {op : Nat} {s : PS} {e : Nat × Nat} (hrow : ∀ en op s e, row en op s = .inl e → e.1 < 200) (h : rStm row ch op s = .inl e) : e.1 < 200 := by
  unfold rStm at h
  split at h
  · exact rChg_k h
  · split at h
    · split at h
      · cases h
      · cases h; dsimp only; omega
    · split at h
      · split at h
        · cases h
        · cases h; dsimp only; omega
      · split at h
        · exact rBrk_k hrow h
        · split at h
          · exact rBrk_k hrow h
          · cases h; dsimp only; omega
theorem rLp_k {st : PS → PR} {ch : Nat → Nat} {en : Nat} {e : Nat × Nat} (hst : ∀ s e, st s = .inl e → e.1 < 200) : ∀ (d : Nat) (s : PS), rLp st ch en d s = .inl e → e.1 < 200
  | 0, s, h => by cases h; dsimp only; omega
  | d + 1, s, h => by
    rw [rLp] at h
    split at h
    · rename_i x hx
      cases h
      exact hst _ _ hx
    · split at h
      · cases h
      · split at h
        · exact rLp_k hst d _ h
        · cases h; dsimp only; omega
theorem rRw_k {ch : Nat → Nat} : ∀ (d en op : Nat) (s : PS) (e : Nat × Nat), rRw ch d en op s = .inl e → e.1 < 200
  | 0, _, _, _, _, h => by cases h; dsimp only; omega
  | d + 1, en, op, s, e, h => by
    rw [rRw] at h
    split at h
    · cases h
    · exact rLp_k (fun s e h => rStm_lt (rRw_k d) h) 60 s h
theorem rAll_k {n : Nat} {f : Nat → Nat} {e : Nat × Nat} (h : rAll n f = .inl e) : e.1 < 200 := rRw_k 8 _ _ _ _ h
/-- the reference's own cell -/
abbrev yC_ (th : Int32) (ty : Value) (sd be : Int64) (wa nw nx : Value) : mj_C := .inr (17, [.int th, .ref 401, .ref 402, ty, .long sd, .long be, .ref 410, wa, nw, nx, .ref 411])
/-- a procedure of the class's whose text was typed and perhaps read -/
def cX (h : mj_H) (b n : Nat) (f : Nat → Nat) : Prop := ∃ (at_ k : Nat) (fp fs tm : Int32) (ins : Nat → Nat → Int32), cR h b n f at_ fp fs tm k ins
theorem cX.fr {h g : mj_H} {L : List Nat} {b n : Nat} {f : Nat → Nat} (e : mz_fr L h g) (hL : ∀ x, x ∈ L → x ≤ b ∨ b + 37 ≤ x) : cX h b n f → cX g b n f
  | ⟨at_, k, fp, fs, tm, ins, r0, ⟨tf, t1, t2, t3⟩, r1, ⟨rw, w1, w2⟩, r2⟩ => ⟨at_, k, fp, fs, tm, ins, e _ (fun q => by have := hL _ q; omega) _ r0, ⟨tf, e _ (fun q => by have := hL _ q; omega) _ t1, e _ (fun q => by have := hL _ q; omega) _ t2, t3⟩, e _ (fun q => by have := hL _ q; omega) _ r1, ⟨rw, e _ (fun q => by have := hL _ q; omega) _ w1, w2⟩, fun j hj => e _ (fun q => by have := hL _ q; omega) _ (r2 j hj)⟩
theorem cG.x {h : mj_H} {b n : Nat} {f : Nat → Nat} {s : PS} : cG h b n f s → cX h b n f
  | ⟨fp, fs, tm, ins, r, _⟩ => ⟨_, _, fp, fs, tm, ins, r⟩
theorem cF.x {h : mj_H} {b n : Nat} {f : Nat → Nat} {e : Nat × Nat} : cF h b n f e → cX h b n f
  | ⟨at_, k, tm, ins, r, _⟩ => ⟨at_, k, _, _, tm, ins, r⟩
theorem nL0 {x : Nat} (h : x ≤ 3) : x ∉ cL 1 := fun q => by have := mem_cL.mp q; omega
theorem y_foN {h : mj_H} {T n c : Nat} {f : Nat → Nat} (hn : n ≤ 60) (hf : ∀ j, j < n → f j < 65536) (ht : yStr h T n c f) (hb : h.length + 420 < mj_CB) {s0 : PS} (hR : rAll n f = .inr s0) : mj_Wp 170 300 (0, [some (.ref 400), some (.ref T), none], [], h) (mz_V fun r h' => r = .null ∧ mz_mo [] 310 5000 h h') := by
  have m0 : mz_mo [] 0 0 h h := mz_mo.rf _ _ _ _
  have l0 : h.length = h.length + 0 := rfl
  refine s_new (p' := 3) rfl rfl rfl ?_
  generalize hg1 : h ++ [_] = h1
  have l1 : h1.length = h.length + 1 := by rw [← hg1, List.length_append, l0]; rfl
  have X1 : mj_rd h1 h.length = some (.inr (22, [.null, .int 0, .int 0])) := by rw [← hg1]; exact rd_nw (Nat.blt_eq.mpr (by omega)) l0
  have m1 : mz_mo [] 1 3 h h1 := by rw [← hg1]; exact m0.tr (mz_mo.ap [] _ _) (fun y hy => Or.inl hy) (by omega) (by show 0 + 3 ≤ 3; omega)
  clear hg1
  refine s_sp (p' := 4) (ls' := _) rfl rfl rfl ?_
  refine s_aldn (p' := 5) rfl rfl rfl ?_
  refine c_call (p' := 8) (kc := 168) (ls0 := [_, _]) rfl rfl rfl rfl rfl (mj_rcv_is X1) rfl rfl rfl ?_
  refine s_aldn (p' := 1) rfl rfl rfl ?_
  refine s_primN (p' := 4) (q := 3) rfl rfl rfl rfl rfl rfl rfl rfl ?_
  refine s_aldn (p' := 5) rfl rfl rfl ?_
  refine s_aldn (p' := 6) rfl rfl rfl ?_
  refine s_pf (p' := 9) (fs' := [_, _, _]) rfl (by omega) X1 (Nat.blt_eq.mp rfl) rfl rfl rfl ?_
  generalize hg2 : List.set h1 h.length _ = h2
  have l2 : h2.length = h.length + 1 := by rw [← hg2, List.length_set, l1]
  have m2 : mz_mo [] 1 3 h h2 := by rw [← hg2]; exact mz_mo.s m1 (by omega) X1 rfl (Or.inr (by omega))
  have X2 : mj_rd h2 h.length = some (.inr (22, [.ref T, .int (nI 0), .int (nI 0)])) := by rw [← hg2]; exact rd_set (by omega) X1
  clear hg2
  have r2 : yR h2 h.length T n c f 0 0 := ⟨X2, ht.fr m2.1 List.not_mem_nil (fun _ _ _ => List.not_mem_nil)⟩
  refine c_ret rfl ?_
  refine c_call (p' := 11) (kc := 161) (ls0 := [_]) rfl rfl rfl rfl rfl (mj_rcv_is X2) rfl rfl rfl ?_
  refine ((y_all y_HFl hn hf r2 (by omega) (by omega))).imp ?_
  rintro _ (⟨s', p, h3, e1, rfl, r3, w3, m3⟩ | ⟨e, e1, q, h3, rfl, t1, t2, t3, m3⟩)
  rotate_left
  · cases hR.symm.trans e1
  show mj_Wp _ _ (11, _, _, _) _
  try dsimp only
  cases hR.symm.trans e1
  have hs := (rAll_t hf hR).2.2
  refine s_sp (p' := 12) (ls' := _) rfl rfl rfl ?_
  refine s_sp (p' := 13) (ls' := _) rfl rfl rfl ?_
  refine s_aretN rfl ?_
  exact ⟨_, _, rfl, rfl, m2.tr m3 (fun y hy => Or.inr (by rw [List.mem_singleton] at hy; omega)) (by omega) (by omega)⟩
theorem y_foF {h : mj_H} {T n c : Nat} {f : Nat → Nat} (hn : n ≤ 60) (hf : ∀ j, j < n → f j < 65536) (ht : yStr h T n c f) (hb : h.length + 420 < mj_CB) {e : Nat × Nat} (hR : rAll n f = .inl e) : mj_Wp 170 300 (0, [some (.ref 400), some (.ref T), none], [], h) (mz_V fun r h' => ∃ q, r = .ref q ∧ q < mj_CB ∧ h.length ≤ q ∧ mj_rd h' q = some (fCf (nI e.2) (nI e.1)) ∧ mz_mo [] 330 5300 h h') := by
  have m0 : mz_mo [] 0 0 h h := mz_mo.rf _ _ _ _
  have l0 : h.length = h.length + 0 := rfl
  refine s_new (p' := 3) rfl rfl rfl ?_
  generalize hg1 : h ++ [_] = h1
  have l1 : h1.length = h.length + 1 := by rw [← hg1, List.length_append, l0]; rfl
  have X1 : mj_rd h1 h.length = some (.inr (22, [.null, .int 0, .int 0])) := by rw [← hg1]; exact rd_nw (Nat.blt_eq.mpr (by omega)) l0
  have m1 : mz_mo [] 1 3 h h1 := by rw [← hg1]; exact m0.tr (mz_mo.ap [] _ _) (fun y hy => Or.inl hy) (by omega) (by show 0 + 3 ≤ 3; omega)
  clear hg1
  refine s_sp (p' := 4) (ls' := _) rfl rfl rfl ?_
  refine s_aldn (p' := 5) rfl rfl rfl ?_
  refine c_call (p' := 8) (kc := 168) (ls0 := [_, _]) rfl rfl rfl rfl rfl (mj_rcv_is X1) rfl rfl rfl ?_
  refine s_aldn (p' := 1) rfl rfl rfl ?_
  refine s_primN (p' := 4) (q := 3) rfl rfl rfl rfl rfl rfl rfl rfl ?_
  refine s_aldn (p' := 5) rfl rfl rfl ?_
  refine s_aldn (p' := 6) rfl rfl rfl ?_
  refine s_pf (p' := 9) (fs' := [_, _, _]) rfl (by omega) X1 (Nat.blt_eq.mp rfl) rfl rfl rfl ?_
  generalize hg2 : List.set h1 h.length _ = h2
  have l2 : h2.length = h.length + 1 := by rw [← hg2, List.length_set, l1]
  have m2 : mz_mo [] 1 3 h h2 := by rw [← hg2]; exact mz_mo.s m1 (by omega) X1 rfl (Or.inr (by omega))
  have X2 : mj_rd h2 h.length = some (.inr (22, [.ref T, .int (nI 0), .int (nI 0)])) := by rw [← hg2]; exact rd_set (by omega) X1
  clear hg2
  have r2 : yR h2 h.length T n c f 0 0 := ⟨X2, ht.fr m2.1 List.not_mem_nil (fun _ _ _ => List.not_mem_nil)⟩
  refine c_ret rfl ?_
  refine c_call (p' := 11) (kc := 161) (ls0 := [_]) rfl rfl rfl rfl rfl (mj_rcv_is X2) rfl rfl rfl ?_
  refine ((y_all y_HFl hn hf r2 (by omega) (by omega))).imp ?_
  rintro _ (⟨s', p, h3, e1, rfl, r3, w3, m3⟩ | ⟨e', e1, q, h3, rfl, t1, t2, t3, m3⟩)
  · cases hR.symm.trans e1
  · cases hR.symm.trans e1
    refine K_c (ci := 23) (hp := 14) (Nat.blt_eq.mpr t1) (mj_ocl_is t3) rfl ?_
    refine s_astn (p' := 15) (ls' := [_, _, _]) rfl rfl rfl rfl ?_
    refine s_aldn (p' := 16) rfl rfl rfl ?_
    refine s_aret rfl ?_
    exact ⟨_, _, rfl, q, rfl, t1, by omega, t3, m2.tr m3 (fun y hy => Or.inr (by rw [List.mem_singleton] at hy; omega)) (by omega) (by omega)⟩
theorem y_fauN {h : mj_H} {T n c : Nat} {f : Nat → Nat} (hn : n ≤ 60) (hf : ∀ j, j < n → f j < 65536) (ht : yStr h T n c f) (hb : h.length + 420 < mj_CB) {th : Int32} {sd be : Int64} {wa nw nx : Value} (h4 : mj_rd h 400 = some (yC_ th (.ref T) sd be wa nw nx)) {s0 : PS} (hR : rAll n f = .inr s0) : mj_Wp 171 299 (0, [some (.ref 400), none], [], h) (mz_V fun r h' => r = .int (nI 0) ∧ mj_rd h' 400 = some (yC_ (nI 1) (.ref T) sd be wa nw nx) ∧ mz_mo [400] 330 5300 h h') := by
  refine s_aldn (p' := 1) rfl rfl rfl ?_
  refine s_aldn (p' := 2) rfl rfl rfl ?_
  refine s_gf (p' := 5) rfl h4 rfl rfl ?_
  refine s_callEV (p' := 8) (ls0 := [_, _, _]) rfl rfl rfl rfl rfl (mj_rcv_is h4) rfl (y_foN hn hf ht hb hR) rfl rfl ?_
  rintro _ h1 ⟨rfl, m1⟩
  have z4 := m1.1 400 List.not_mem_nil _ h4
  refine s_astnN (p' := 9) (ls' := [_, _]) rfl rfl rfl rfl ?_
  refine s_aldn (p' := 10) rfl rfl rfl ?_
  refine s_aldnN (p' := 11) rfl rfl rfl ?_
  refine s_nonnull (p' := 14) (x := none) false rfl rfl rfl ?_
  refine s_con (p' := 15) rfl rfl ?_
  refine s_goto (p' := 19) rfl rfl ?_
  refine c_call (p' := 22) (kc := 100) (ls0 := [_, _]) rfl rfl rfl rfl rfl (mj_rcv_is z4) rfl rfl rfl ?_
  refine s_aldn (p' := 1) rfl rfl rfl ?_
  refine s_ildn (p' := 2) rfl rfl rfl ?_
  refine s_pf (p' := 5) (fs' := [_, _, _, _, _, _, _, _, _, _, _]) rfl (by decide) z4 (Nat.blt_eq.mp rfl) rfl rfl rfl ?_
  generalize hg : List.set h1 400 _ = h2
  have z5 : mj_rd h2 400 = some (yC_ (nI 1) (.ref T) sd be wa nw nx) := by rw [← hg]; exact rd_set (by decide) z4
  have m2 : mz_mo [400] 330 5300 h h2 := by rw [← hg]; exact mz_mo.s (m1.wk (fun y hy => by cases hy) (by omega) (by omega)) (by decide) z4 rfl (Or.inl (by simp))
  clear hg
  refine s_ildn (p' := 6) rfl rfl rfl ?_
  refine s_if (p' := 9) false rfl (by decide +kernel) rfl ?_
  refine s_con (p' := 10) rfl rfl ?_
  refine s_goto (p' := 14) rfl rfl ?_
  refine c_iret rfl rfl ?_
  refine s_if (p' := 25) false rfl (by decide +kernel) rfl ?_
  refine s_con (p' := 26) rfl rfl ?_
  refine s_goto (p' := 33) rfl rfl ?_
  refine s_iret rfl rfl ?_
  exact ⟨_, _, rfl, rfl, z5, m2⟩
theorem y_fauF {h : mj_H} {T n c : Nat} {f : Nat → Nat} (hn : n ≤ 60) (hf : ∀ j, j < n → f j < 65536) (ht : yStr h T n c f) (hb : h.length + 420 < mj_CB) {th : Int32} {sd be : Int64} {wa nw nx : Value} (h4 : mj_rd h 400 = some (yC_ th (.ref T) sd be wa nw nx)) {e : Nat × Nat} (hR : rAll n f = .inl e) (h4l : 400 < h.length) : mj_Wp 171 299 (0, [some (.ref 400), none], [], h) (mz_V fun r h' => r = .int (nI e.2) ∧ mj_rd h' 400 = some (yC_ (nI 0) (.ref T) sd be wa nw nx) ∧ mz_mo [400] 330 5300 h h') := by
  refine s_aldn (p' := 1) rfl rfl rfl ?_
  refine s_aldn (p' := 2) rfl rfl rfl ?_
  refine s_gf (p' := 5) rfl h4 rfl rfl ?_
  refine s_callEV (p' := 8) (ls0 := [_, _, _]) rfl rfl rfl rfl rfl (mj_rcv_is h4) rfl (y_foF hn hf ht hb hR) rfl rfl ?_
  rintro _ h1 ⟨q, rfl, t1, t2, f1, m1⟩
  have z4 := m1.1 400 List.not_mem_nil _ h4
  refine s_astn (p' := 9) (ls' := [_, _]) rfl rfl rfl rfl ?_
  refine s_aldn (p' := 10) rfl rfl rfl ?_
  refine s_aldn (p' := 11) rfl rfl rfl ?_
  refine s_nonnull (p' := 18) (x := (some q)) true rfl rfl rfl ?_
  refine s_con (p' := 19) rfl rfl ?_
  refine c_call (p' := 22) (kc := 100) (ls0 := [_, _]) rfl rfl rfl rfl rfl (mj_rcv_is z4) rfl rfl rfl ?_
  refine s_aldn (p' := 1) rfl rfl rfl ?_
  refine s_ildn (p' := 2) rfl rfl rfl ?_
  refine s_pf (p' := 5) (fs' := [_, _, _, _, _, _, _, _, _, _, _]) rfl (by decide) z4 (Nat.blt_eq.mp rfl) rfl rfl rfl ?_
  generalize hg : List.set h1 400 _ = h2
  have z5 : mj_rd h2 400 = some (yC_ (nI 0) (.ref T) sd be wa nw nx) := by rw [← hg]; exact rd_set (by decide) z4
  have m2 : mz_mo [400] 330 5300 h h2 := by rw [← hg]; exact mz_mo.s (m1.wk (fun y hy => by cases hy) (by omega) (by omega)) (by decide) z4 rfl (Or.inl (by simp))
  have f2 : mj_rd h2 q = some (fCf (nI e.2) (nI e.1)) := by rw [← hg]; exact (rd_setn (by omega)).trans f1
  clear hg
  refine s_ildn (p' := 6) rfl rfl rfl ?_
  refine s_if (p' := 13) true rfl (by decide +kernel) rfl ?_
  refine s_con (p' := 14) rfl rfl ?_
  refine c_iret rfl rfl ?_
  refine s_if (p' := 29) true rfl (by decide +kernel) rfl ?_
  refine s_aldn (p' := 30) rfl rfl rfl ?_
  refine s_gf (p' := 33) rfl f2 rfl rfl ?_
  refine s_iret rfl rfl ?_
  exact ⟨_, _, rfl, rfl, z5, m2⟩
theorem y_fakN {h : mj_H} {T n c : Nat} {f : Nat → Nat} (hn : n ≤ 60) (hf : ∀ j, j < n → f j < 65536) (ht : yStr h T n c f) (hb : h.length + 420 < mj_CB) {th : Int32} {sd be : Int64} {wa nw nx : Value} (h4 : mj_rd h 400 = some (yC_ th (.ref T) sd be wa nw nx)) {s0 : PS} (hR : rAll n f = .inr s0) : mj_Wp 171 343 (0, [some (.ref 400), none], [], h) (mz_V fun r h' => r = .int (nI 0) ∧ mj_rd h' 400 = some (yC_ (nI 1) (.ref T) sd be wa nw nx) ∧ mz_mo [400] 330 5300 h h') := by
  refine s_aldn (p' := 1) rfl rfl rfl ?_
  refine s_aldn (p' := 2) rfl rfl rfl ?_
  refine s_gf (p' := 5) rfl h4 rfl rfl ?_
  refine s_callEV (p' := 8) (ls0 := [_, _, _]) rfl rfl rfl rfl rfl (mj_rcv_is h4) rfl (y_foN hn hf ht hb hR) rfl rfl ?_
  rintro _ h1 ⟨rfl, m1⟩
  have z4 := m1.1 400 List.not_mem_nil _ h4
  refine s_astnN (p' := 9) (ls' := [_, _]) rfl rfl rfl rfl ?_
  refine s_aldn (p' := 10) rfl rfl rfl ?_
  refine s_aldnN (p' := 11) rfl rfl rfl ?_
  refine s_nonnull (p' := 14) (x := none) false rfl rfl rfl ?_
  refine s_con (p' := 15) rfl rfl ?_
  refine s_goto (p' := 19) rfl rfl ?_
  refine c_call (p' := 22) (kc := 100) (ls0 := [_, _]) rfl rfl rfl rfl rfl (mj_rcv_is z4) rfl rfl rfl ?_
  refine s_aldn (p' := 1) rfl rfl rfl ?_
  refine s_ildn (p' := 2) rfl rfl rfl ?_
  refine s_pf (p' := 5) (fs' := [_, _, _, _, _, _, _, _, _, _, _]) rfl (by decide) z4 (Nat.blt_eq.mp rfl) rfl rfl rfl ?_
  generalize hg : List.set h1 400 _ = h2
  have z5 : mj_rd h2 400 = some (yC_ (nI 1) (.ref T) sd be wa nw nx) := by rw [← hg]; exact rd_set (by decide) z4
  have m2 : mz_mo [400] 330 5300 h h2 := by rw [← hg]; exact mz_mo.s (m1.wk (fun y hy => by cases hy) (by omega) (by omega)) (by decide) z4 rfl (Or.inl (by simp))
  clear hg
  refine s_ildn (p' := 6) rfl rfl rfl ?_
  refine s_if (p' := 9) false rfl (by decide +kernel) rfl ?_
  refine s_con (p' := 10) rfl rfl ?_
  refine s_goto (p' := 14) rfl rfl ?_
  refine c_iret rfl rfl ?_
  refine s_if (p' := 25) false rfl (by decide +kernel) rfl ?_
  refine s_con (p' := 26) rfl rfl ?_
  refine s_goto (p' := 33) rfl rfl ?_
  refine s_iret rfl rfl ?_
  exact ⟨_, _, rfl, rfl, z5, m2⟩
theorem y_fakF {h : mj_H} {T n c : Nat} {f : Nat → Nat} (hn : n ≤ 60) (hf : ∀ j, j < n → f j < 65536) (ht : yStr h T n c f) (hb : h.length + 420 < mj_CB) {th : Int32} {sd be : Int64} {wa nw nx : Value} (h4 : mj_rd h 400 = some (yC_ th (.ref T) sd be wa nw nx)) {e : Nat × Nat} (hR : rAll n f = .inl e) (h4l : 400 < h.length) : mj_Wp 171 343 (0, [some (.ref 400), none], [], h) (mz_V fun r h' => r = .int (nI e.1) ∧ mj_rd h' 400 = some (yC_ (nI 0) (.ref T) sd be wa nw nx) ∧ mz_mo [400] 330 5300 h h') := by
  refine s_aldn (p' := 1) rfl rfl rfl ?_
  refine s_aldn (p' := 2) rfl rfl rfl ?_
  refine s_gf (p' := 5) rfl h4 rfl rfl ?_
  refine s_callEV (p' := 8) (ls0 := [_, _, _]) rfl rfl rfl rfl rfl (mj_rcv_is h4) rfl (y_foF hn hf ht hb hR) rfl rfl ?_
  rintro _ h1 ⟨q, rfl, t1, t2, f1, m1⟩
  have z4 := m1.1 400 List.not_mem_nil _ h4
  refine s_astn (p' := 9) (ls' := [_, _]) rfl rfl rfl rfl ?_
  refine s_aldn (p' := 10) rfl rfl rfl ?_
  refine s_aldn (p' := 11) rfl rfl rfl ?_
  refine s_nonnull (p' := 18) (x := (some q)) true rfl rfl rfl ?_
  refine s_con (p' := 19) rfl rfl ?_
  refine c_call (p' := 22) (kc := 100) (ls0 := [_, _]) rfl rfl rfl rfl rfl (mj_rcv_is z4) rfl rfl rfl ?_
  refine s_aldn (p' := 1) rfl rfl rfl ?_
  refine s_ildn (p' := 2) rfl rfl rfl ?_
  refine s_pf (p' := 5) (fs' := [_, _, _, _, _, _, _, _, _, _, _]) rfl (by decide) z4 (Nat.blt_eq.mp rfl) rfl rfl rfl ?_
  generalize hg : List.set h1 400 _ = h2
  have z5 : mj_rd h2 400 = some (yC_ (nI 0) (.ref T) sd be wa nw nx) := by rw [← hg]; exact rd_set (by decide) z4
  have m2 : mz_mo [400] 330 5300 h h2 := by rw [← hg]; exact mz_mo.s (m1.wk (fun y hy => by cases hy) (by omega) (by omega)) (by decide) z4 rfl (Or.inl (by simp))
  have f2 : mj_rd h2 q = some (fCf (nI e.2) (nI e.1)) := by rw [← hg]; exact (rd_setn (by omega)).trans f1
  clear hg
  refine s_ildn (p' := 6) rfl rfl rfl ?_
  refine s_if (p' := 13) true rfl (by decide +kernel) rfl ?_
  refine s_con (p' := 14) rfl rfl ?_
  refine c_iret rfl rfl ?_
  refine s_if (p' := 29) true rfl (by decide +kernel) rfl ?_
  refine s_aldn (p' := 30) rfl rfl rfl ?_
  refine s_gf (p' := 33) rfl f2 rfl rfl ?_
  refine s_iret rfl (nar_ch (by have := rAll_k hR; omega)) ?_
  exact ⟨_, _, rfl, rfl, z5, m2⟩
theorem x_fauN {h : mj_H} {n : Nat} {f : Nat → Nat} (hn : n ≤ 60) (hf : ∀ j, j < n → f j < 65536) {gs pl : Value} {sd be : Int64} (h0 : mj_rd h 0 = some (xC_ gs pl sd be)) (h1 : mj_rd h 1 = some (.inr (1, [.ref 2, .ref 4, .ref 37]))) (hX : cX h 1 n f) (hb : h.length + 10 < mj_CB) {s0 : PS} (hR : rAll n f = .inr s0) : mj_Wp 101 119 (0, [some (.ref 0)], [], h) (fun o => ∃ (q : Nat) (g : mj_H), o = (.inr q, g) ∧ q < mj_CB ∧ mj_rd g q = some (.inr (12, [])) ∧ cX g 1 n f ∧ mz_mo (cL 1) 1 6 h g) := by
  obtain ⟨at0, k0, fp0, fs0, tm0, ins0, c0⟩ := hX
  refine s_aldn (p' := 1) rfl rfl rfl ?_
  refine s_gf (p' := 4) rfl h0 rfl rfl ?_
  refine s_gf (p' := 7) rfl h1 rfl rfl ?_
  refine s_callEV (p' := 10) (ls0 := [_]) rfl rfl rfl rfl rfl (mj_rcv_is c0.1) rfl (x_all (b := 1) (by decide) hn hf c0) rfl rfl ?_
  rintro r1 g1 ⟨(⟨s1, e1, rfl, k1⟩ | ⟨e1, e2, rfl, k1⟩), m1⟩
  rotate_left
  · cases hR.symm.trans e2
  cases hR.symm.trans e1
  have z0 := m1.1 0 (nL0 (by decide)) _ h0
  have z1 := m1.1 1 (nL0 (by decide)) _ h1
  refine s_if (p' := 13) false rfl (by decide +kernel) rfl ?_
  refine s_thr rfl (Nat.le_of_ble_eq_true rfl) ?_
  exact ⟨_, _, rfl, by have := mo_le m1; omega, rd_nw (Nat.blt_eq.mpr (by have := mo_le m1; omega)) rfl, cX.fr (mz_mo.ap [] _ _).1 (fun x hx => by cases hx) k1.x, m1.tr (mz_mo.ap [] _ _) (fun y hy => by cases hy) (by decide) (Nat.le_refl _)⟩
theorem x_fauF {h : mj_H} {n : Nat} {f : Nat → Nat} (hn : n ≤ 60) (hf : ∀ j, j < n → f j < 65536) {gs pl : Value} {sd be : Int64} (h0 : mj_rd h 0 = some (xC_ gs pl sd be)) (h1 : mj_rd h 1 = some (.inr (1, [.ref 2, .ref 4, .ref 37]))) (hX : cX h 1 n f) {e : Nat × Nat} (hR : rAll n f = .inl e) : mj_Wp 101 119 (0, [some (.ref 0)], [], h) (mz_V fun r g => r = .int (nI e.2) ∧ cX g 1 n f ∧ mz_mo (cL 1) 0 0 h g) := by
  obtain ⟨at0, k0, fp0, fs0, tm0, ins0, c0⟩ := hX
  refine s_aldn (p' := 1) rfl rfl rfl ?_
  refine s_gf (p' := 4) rfl h0 rfl rfl ?_
  refine s_gf (p' := 7) rfl h1 rfl rfl ?_
  refine s_callEV (p' := 10) (ls0 := [_]) rfl rfl rfl rfl rfl (mj_rcv_is c0.1) rfl (x_all (b := 1) (by decide) hn hf c0) rfl rfl ?_
  rintro r1 g1 ⟨(⟨s1, e1, rfl, k1⟩ | ⟨e1, e2, rfl, k1⟩), m1⟩
  · cases hR.symm.trans e1
  cases hR.symm.trans e2
  obtain ⟨at1, kk1, tm1, ins1, c1, hk1⟩ := k1
  have z0 := m1.1 0 (nL0 (by decide)) _ h0
  have z1 := m1.1 1 (nL0 (by decide)) _ h1
  refine s_if (p' := 23) true rfl (by decide +kernel) rfl ?_
  refine s_aldn (p' := 24) rfl rfl rfl ?_
  refine s_gf (p' := 27) rfl z0 rfl rfl ?_
  refine s_gf (p' := 30) rfl z1 rfl rfl ?_
  refine c_call (p' := 33) (kc := 50) (ls0 := [_]) rfl rfl rfl rfl rfl (mj_rcv_is c1.1) rfl rfl rfl ?_
  refine s_aldn (p' := 1) rfl rfl rfl ?_
  refine s_gf (p' := 4) rfl c1.1 rfl rfl ?_
  refine c_iret rfl rfl ?_
  refine s_iret rfl rfl ?_
  exact ⟨_, _, rfl, rfl, ⟨at1, kk1, _, _, tm1, ins1, c1⟩, m1⟩
theorem x_fakN {h : mj_H} {n : Nat} {f : Nat → Nat} (hn : n ≤ 60) (hf : ∀ j, j < n → f j < 65536) {gs pl : Value} {sd be : Int64} (h0 : mj_rd h 0 = some (xC_ gs pl sd be)) (h1 : mj_rd h 1 = some (.inr (1, [.ref 2, .ref 4, .ref 37]))) (hX : cX h 1 n f) (hb : h.length + 10 < mj_CB) {s0 : PS} (hR : rAll n f = .inr s0) : mj_Wp 101 123 (0, [some (.ref 0)], [], h) (fun o => ∃ (q : Nat) (g : mj_H), o = (.inr q, g) ∧ q < mj_CB ∧ mj_rd g q = some (.inr (12, [])) ∧ cX g 1 n f ∧ mz_mo (cL 1) 1 6 h g) := by
  obtain ⟨at0, k0, fp0, fs0, tm0, ins0, c0⟩ := hX
  refine s_aldn (p' := 1) rfl rfl rfl ?_
  refine s_gf (p' := 4) rfl h0 rfl rfl ?_
  refine s_gf (p' := 7) rfl h1 rfl rfl ?_
  refine s_callEV (p' := 10) (ls0 := [_]) rfl rfl rfl rfl rfl (mj_rcv_is c0.1) rfl (x_all (b := 1) (by decide) hn hf c0) rfl rfl ?_
  rintro r1 g1 ⟨(⟨s1, e1, rfl, k1⟩ | ⟨e1, e2, rfl, k1⟩), m1⟩
  rotate_left
  · cases hR.symm.trans e2
  cases hR.symm.trans e1
  have z0 := m1.1 0 (nL0 (by decide)) _ h0
  have z1 := m1.1 1 (nL0 (by decide)) _ h1
  refine s_if (p' := 13) false rfl (by decide +kernel) rfl ?_
  refine s_thr rfl (Nat.le_of_ble_eq_true rfl) ?_
  exact ⟨_, _, rfl, by have := mo_le m1; omega, rd_nw (Nat.blt_eq.mpr (by have := mo_le m1; omega)) rfl, cX.fr (mz_mo.ap [] _ _).1 (fun x hx => by cases hx) k1.x, m1.tr (mz_mo.ap [] _ _) (fun y hy => by cases hy) (by decide) (Nat.le_refl _)⟩
theorem x_fakF {h : mj_H} {n : Nat} {f : Nat → Nat} (hn : n ≤ 60) (hf : ∀ j, j < n → f j < 65536) {gs pl : Value} {sd be : Int64} (h0 : mj_rd h 0 = some (xC_ gs pl sd be)) (h1 : mj_rd h 1 = some (.inr (1, [.ref 2, .ref 4, .ref 37]))) (hX : cX h 1 n f) {e : Nat × Nat} (hR : rAll n f = .inl e) : mj_Wp 101 123 (0, [some (.ref 0)], [], h) (mz_V fun r g => r = .int (nI e.1) ∧ cX g 1 n f ∧ mz_mo (cL 1) 0 0 h g) := by
  obtain ⟨at0, k0, fp0, fs0, tm0, ins0, c0⟩ := hX
  refine s_aldn (p' := 1) rfl rfl rfl ?_
  refine s_gf (p' := 4) rfl h0 rfl rfl ?_
  refine s_gf (p' := 7) rfl h1 rfl rfl ?_
  refine s_callEV (p' := 10) (ls0 := [_]) rfl rfl rfl rfl rfl (mj_rcv_is c0.1) rfl (x_all (b := 1) (by decide) hn hf c0) rfl rfl ?_
  rintro r1 g1 ⟨(⟨s1, e1, rfl, k1⟩ | ⟨e1, e2, rfl, k1⟩), m1⟩
  · cases hR.symm.trans e1
  cases hR.symm.trans e2
  obtain ⟨at1, kk1, tm1, ins1, c1, hk1⟩ := k1
  have z0 := m1.1 0 (nL0 (by decide)) _ h0
  have z1 := m1.1 1 (nL0 (by decide)) _ h1
  refine s_if (p' := 23) true rfl (by decide +kernel) rfl ?_
  refine s_aldn (p' := 24) rfl rfl rfl ?_
  refine s_gf (p' := 27) rfl z0 rfl rfl ?_
  refine s_gf (p' := 30) rfl z1 rfl rfl ?_
  refine c_call (p' := 33) (kc := 50) (ls0 := [_]) rfl rfl rfl rfl rfl (mj_rcv_is c1.1) rfl rfl rfl ?_
  refine s_aldn (p' := 1) rfl rfl rfl ?_
  refine s_gf (p' := 4) rfl c1.1 rfl rfl ?_
  refine c_iret rfl (nar_ch (by have := rAll_k hR; omega)) ?_
  refine s_iret rfl (nar_ch (by have := rAll_k hR; omega)) ?_
  exact ⟨_, _, rfl, rfl, ⟨at1, kk1, _, _, tm1, ins1, c1⟩, m1⟩
