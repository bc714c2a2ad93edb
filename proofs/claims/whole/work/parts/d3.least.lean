/-! leastGates on both sides, and its round. -/
theorem x_lg1 {h : mj_H} {n k : Nat} {G : Nat → Nat} {mm0 : Value} {rf : Nat → Int32} {pl : Value} {sd be : Int64} (hC : mj_rd h 393 = some (.inr (9, [.ref 394, .ref 395, .ref 396, .int (nI n), mm0]))) (hR : mj_rd h 394 = some (.inl (0, (24, .inl rf)))) (hG : ∀ j, j < n → rf j = nI (G j) ∧ G j < 24) (hn : n ≤ 24) (hv : LV k (wS (fun v => thr G n 0 v) 8)) {S T : Nat} (h0 : mj_rd h 0 = some (xC_ (.ref S) pl sd be)) (hS : mj_rd h S = some (.inr (10, [.ref T]))) (hT : mj_rd h T = some (.inl (0, (8192, .inl (gfill fun _ => 0))))) (bT : T < mj_CB) (hST : S ≠ T) : mj_Wp 6 41 (0, [some (.ref 0)], [], h) (mz_V fun r g => r = .int (nI k) ∧ mj_rd g T = some (.inl (0, (8192, .inl (gfill fun _ => 0)))) ∧ mz_mo [T] 0 0 h g) := by
  refine s_aldn (p' := 1) rfl rfl rfl ?_
  refine s_gf (p' := 4) rfl h0 rfl rfl ?_
  refine s_nonnull (p' := 18) (x := some S) true rfl rfl rfl ?_
  refine s_aldn (p' := 19) rfl rfl rfl ?_
  refine s_gf (p' := 22) rfl h0 rfl rfl ?_
  refine s_aldn (p' := 23) rfl rfl rfl ?_
  refine s_gf (p' := 26) rfl h0 rfl rfl ?_
  refine s_callV (p' := 29) (ls0 := [_, _, _]) rfl rfl rfl rfl rfl (mj_rcv_is hC) rfl (x_pko hC hR hG hn) (by first | decide | omega) rfl ?_
  refine s_callEV (p' := 32) (ls0 := [_, _, _, _]) rfl rfl rfl rfl rfl (mj_rcv_is hS) rfl (x_fnd1 hS hT bT hST hv rfl) rfl rfl ?_
  rintro _ g ⟨rfl, c1, c2⟩
  refine s_iret rfl rfl ?_
  exact ⟨_, _, rfl, rfl, c1, c2⟩
theorem x_lg0 {h : mj_H} {n k : Nat} {G : Nat → Nat} {mm0 : Value} {rf : Nat → Int32} {pl : Value} {sd be : Int64} (hC : mj_rd h 393 = some (.inr (9, [.ref 394, .ref 395, .ref 396, .int (nI n), mm0]))) (hR : mj_rd h 394 = some (.inl (0, (24, .inl rf)))) (hG : ∀ j, j < n → rf j = nI (G j) ∧ G j < 24) (hn : n ≤ 24) (hv : LV k (wS (fun v => thr G n 0 v) 8)) (h0 : mj_rd h 0 = some (xC_ .null pl sd be)) (hb : h.length + 10 < mj_CB) : mj_Wp 6 41 (0, [some (.ref 0)], [], h) (mz_V fun r g => r = .int (nI k) ∧ mj_rd g 0 = some (xC_ (.ref h.length) pl sd be) ∧ mj_rd g h.length = some (.inr (10, [.ref (h.length + 1)])) ∧ mj_rd g (h.length + 1) = some (.inl (0, (8192, .inl (gfill fun _ => 0)))) ∧ mz_mo [0] 2 8193 h g) := by
  have l393 := rd_len (by decide) hC
  have l394 := rd_len (by decide) hR
  have e1 : mj_CB = 1000000 := rfl
  have m0 : mz_mo [0] 0 0 h h := mz_mo.rf _ _ _ _
  have l0 : h.length = h.length + 0 := rfl
  refine s_aldn (p' := 1) rfl rfl rfl ?_
  refine s_gf (p' := 4) rfl h0 rfl rfl ?_
  refine s_nonnull (p' := 7) (x := none) false rfl rfl rfl ?_
  refine s_aldn (p' := 8) rfl rfl rfl ?_
  refine s_newz (p' := 11) (a := h.length) rfl rfl rfl rfl ?_
  generalize hg1 : h ++ [_] = g1
  have l1 : g1.length = h.length + 1 := by rw [← hg1, List.length_append, l0]; rfl
  have X1 : mj_rd g1 0 = some (xC_ .null pl sd be) := by rw [← hg1]; exact rd_app h0
  have C1 : mj_rd g1 393 = some (.inr (9, [.ref 394, .ref 395, .ref 396, .int (nI n), mm0])) := by rw [← hg1]; exact rd_app hC
  have R1 : mj_rd g1 394 = some (.inl (0, (24, .inl rf))) := by rw [← hg1]; exact rd_app hR
  have S1 : mj_rd g1 h.length = some (.inr (10, [.null])) := by rw [← hg1]; exact rd_nw (Nat.blt_eq.mpr (by omega)) l0
  have m1 : mz_mo [0] 1 1 h g1 := by rw [← hg1]; exact m0.tr (mz_mo.ap [0] _ _) (fun y hy => Or.inl hy) (by omega) (by show 0 + 1 ≤ 1; omega)
  clear hg1
  refine s_sp (p' := 12) (ls' := _) rfl rfl rfl ?_
  refine c_call (p' := 15) (kc := 1) (ls0 := [_]) rfl rfl rfl rfl rfl (mj_rcv_is S1) rfl rfl rfl ?_
  refine s_aldn (p' := 1) rfl rfl rfl ?_
  refine s_primN (p' := 4) (q := 3) rfl rfl rfl rfl rfl rfl rfl rfl ?_
  refine s_aldn (p' := 5) rfl rfl rfl ?_
  refine s_sip (p' := 8) rfl rfl ?_
  refine s_naz (p' := 10) (a := (h.length + 1)) (n := 8192) rfl l1 rfl rfl ?_
  generalize hg2 : g1 ++ [_] = g2
  have l2 : g2.length = h.length + 2 := by rw [← hg2, List.length_append, l1]; rfl
  have X2 : mj_rd g2 0 = some (xC_ .null pl sd be) := by rw [← hg2]; exact rd_app X1
  have C2 : mj_rd g2 393 = some (.inr (9, [.ref 394, .ref 395, .ref 396, .int (nI n), mm0])) := by rw [← hg2]; exact rd_app C1
  have R2 : mj_rd g2 394 = some (.inl (0, (24, .inl rf))) := by rw [← hg2]; exact rd_app R1
  have S2 : mj_rd g2 h.length = some (.inr (10, [.null])) := by rw [← hg2]; exact rd_app S1
  have T2 : mj_rd g2 (h.length + 1) = some (.inl (0, (8192, .inl (fun _ => 0)))) := by rw [← hg2]; exact rd_nw (Nat.blt_eq.mpr (by omega)) l1
  have m2 : mz_mo [0] 2 8193 h g2 := by rw [← hg2]; exact m1.tr (mz_mo.ap [0] _ _) (fun y hy => Or.inl hy) (by omega) (by show 1 + 8192 ≤ 8193; omega)
  clear hg2
  refine s_pf (p' := 13) (fs' := [_]) rfl (by omega) S2 (Nat.blt_eq.mp rfl) rfl rfl rfl ?_
  generalize hg3 : List.set g2 h.length _ = g3
  have l3 : g3.length = h.length + 2 := by rw [← hg3, List.length_set, l2]
  have m3 : mz_mo [0] 2 8193 h g3 := by rw [← hg3]; exact mz_mo.s m2 (by omega) S2 rfl (Or.inr (by omega))
  have X3 : mj_rd g3 0 = some (xC_ .null pl sd be) := by rw [← hg3]; exact (rd_setn (by omega)).trans X2
  have C3 : mj_rd g3 393 = some (.inr (9, [.ref 394, .ref 395, .ref 396, .int (nI n), mm0])) := by rw [← hg3]; exact (rd_setn (by omega)).trans C2
  have R3 : mj_rd g3 394 = some (.inl (0, (24, .inl rf))) := by rw [← hg3]; exact (rd_setn (by omega)).trans R2
  have S3 : mj_rd g3 h.length = some (.inr (10, [.ref (h.length + 1)])) := by rw [← hg3]; exact rd_set (by omega) S2
  have T3 : mj_rd g3 (h.length + 1) = some (.inl (0, (8192, .inl (fun _ => 0)))) := by rw [← hg3]; exact (rd_setn (by omega)).trans T2
  clear hg3
  refine c_ret rfl ?_
  refine s_pf (p' := 18) (fs' := [_, _, _, _, _, _, _, _, _, _, _, _, _, _, _, _, _]) rfl (by omega) X3 (Nat.blt_eq.mp rfl) rfl rfl rfl ?_
  generalize hg4 : List.set g3 0 _ = g4
  have l4 : g4.length = h.length + 2 := by rw [← hg4, List.length_set, l3]
  have m4 : mz_mo [0] 2 8193 h g4 := by rw [← hg4]; exact mz_mo.s m3 (by omega) X3 rfl (Or.inl (by simp))
  have X4 : mj_rd g4 0 = some (xC_ (.ref h.length) pl sd be) := by rw [← hg4]; exact rd_set (by omega) X3
  have C4 : mj_rd g4 393 = some (.inr (9, [.ref 394, .ref 395, .ref 396, .int (nI n), mm0])) := by rw [← hg4]; exact (rd_setn (by omega)).trans C3
  have R4 : mj_rd g4 394 = some (.inl (0, (24, .inl rf))) := by rw [← hg4]; exact (rd_setn (by omega)).trans R3
  have S4 : mj_rd g4 h.length = some (.inr (10, [.ref (h.length + 1)])) := by rw [← hg4]; exact (rd_setn (by omega)).trans S3
  have T4 : mj_rd g4 (h.length + 1) = some (.inl (0, (8192, .inl (fun _ => 0)))) := by rw [← hg4]; exact (rd_setn (by omega)).trans T3
  clear hg4
  refine s_aldn (p' := 19) rfl rfl rfl ?_
  refine s_gf (p' := 22) rfl X4 rfl rfl ?_
  refine s_aldn (p' := 23) rfl rfl rfl ?_
  refine s_gf (p' := 26) rfl X4 rfl rfl ?_
  refine s_callV (p' := 29) (ls0 := [_, _, _]) rfl rfl rfl rfl rfl (mj_rcv_is C4) rfl (x_pko C4 R4 hG hn) (by first | decide | omega) rfl ?_
  refine s_callEV (p' := 32) (ls0 := [_, _, _, _]) rfl rfl rfl rfl rfl (mj_rcv_is S4) rfl (x_fnd0 S4 T4 (by omega) (by omega) hv rfl) rfl rfl ?_
  rintro _ g ⟨rfl, c1, c2⟩
  refine s_iret rfl rfl ?_
  exact ⟨_, _, rfl, rfl, c2.1 0 (by simp only [List.mem_singleton]; omega) _ X4, c2.1 h.length (by simp only [List.mem_singleton]; omega) _ S4, c1, m4.tr c2 (fun y hy => Or.inr (by rw [List.mem_singleton.mp hy]; omega)) (Nat.le_refl _) (Nat.le_refl _)⟩
theorem y_idL {h : mj_H} {tt : Nat} {l4 l5 l6 l7 : Option Value} {Q : mj_O × mj_H → Prop} (hq : mj_Wp 5 444 (34, [some (.ref 400), some (.int (nI tt)), some (.int (nI idN)), some (.int (nI 8)), l4, l5, l6, l7], [], h) Q) : ∀ (m i : Nat), i + m = 8 → mj_Wp 5 444 (14, [some (.ref 400), some (.int (nI tt)), some (.int (nI (wS (fun j => j) i))), some (.int (nI i)), l4, l5, l6, l7], [], h) Q
  | 0, i, he => by
    obtain rfl : i = 8 := by omega
    refine s_ildn (p' := 15) rfl rfl rfl ?_
    refine s_bip (p' := 17) rfl rfl ?_
    refine s_icmp (p' := 34) true rfl ((ci_ge (by omega) (by omega)).trans (decide_eq_true (by omega))) rfl ?_
    exact hq
  | m + 1, i, he => by
    have hi : i < 8 := by omega
    refine s_ildn (p' := 15) rfl rfl rfl ?_
    refine s_bip (p' := 17) rfl rfl ?_
    refine s_icmp (p' := 20) false rfl ((ci_ge (by omega) (by omega)).trans (decide_eq_false (by omega))) rfl ?_
    refine s_ildn (p' := 21) rfl rfl rfl ?_
    refine s_ildn (p' := 22) rfl rfl rfl ?_
    refine s_con (p' := 23) rfl rfl ?_
    refine s_ildn (p' := 24) rfl rfl rfl ?_
    refine s_sp (p' := 25) (ls' := _) rfl rfl rfl ?_
    refine s_sp (p' := 26) (ls' := _) rfl rfl rfl ?_
    rw [shl3 hi hi]
    refine s_sp (p' := 27) (ls' := _) rfl rfl rfl ?_
    rw [nor, wS_or (F := fun j => j) (fun j hj => by omega)]
    refine s_istn (p' := 28) (ls' := [_, _, _, _, _, _, _, _]) rfl rfl rfl rfl ?_
    refine s_inc (p' := 31) (ls' := [_, _, _, _, _, _, _, _]) rfl rfl rfl rfl rfl ?_
    rw [mI_add]
    refine s_goto (p' := 14) rfl rfl ?_
    exact y_idL hq m (i + 1) (by omega)
theorem y_lg3 {h : mj_H} {tt k W A V : Nat} {ty : Value} {sd be : Int64} {b f1 f2 : Nat → Int32} {l4 l5 l6 l7 : Option Value} (h4 : mj_rd h 400 = some (yC_ (nI 0) ty sd be (.ref W) (.ref A) (.ref V))) (hW : mj_rd h W = some (.inl (2, (40320, .inl b)))) (hA : mj_rd h A = some (.inl (0, (40320, .inl f1)))) (hV : mj_rd h V = some (.inl (0, (40320, .inl f2)))) (bW : W < mj_CB) (bA : A < mj_CB) (bV : V < mj_CB) (hAV : A ≠ V) (htt : LV k tt) : mj_Wp 5 444 (103, [some (.ref 400), some (.int (nI tt)), some (.int (nI idN)), some (.int (nI 8)), l4, l5, l6, l7], [], h) (mz_V fun r g => r = .int (nI k) ∧ (∃ A' V', (A' = A ∧ V' = V ∨ A' = V ∧ V' = A) ∧ mj_rd g 400 = some (yC_ (nI 0) ty sd be (.ref W) (.ref A') (.ref V'))) ∧ ((∃ b' : Nat → Int32, mj_rd g W = some (.inl (2, (40320, .inl b')))) ∧ (∃ f' : Nat → Int32, mj_rd g A = some (.inl (0, (40320, .inl f')))) ∧ ∃ f' : Nat → Int32, mj_rd g V = some (.inl (0, (40320, .inl f')))) ∧ mz_mo [400, W, A, V] 0 0 h g) := by
  have nW4 : W ≠ 400 := fun q => by rw [q, h4] at hW; cases hW
  have nA4 : A ≠ 400 := fun q => by rw [q, h4] at hA; cases hA
  have nWA : W ≠ A := fun q => by rw [q, hA] at hW; cases hW
  have nWV : W ≠ V := fun q => by rw [q, hV] at hW; cases hW
  have idlt : idN < 16777216 := isPk.id.1
  refine s_aldn (p' := 104) rfl rfl rfl ?_
  refine s_gf (p' := 107) rfl h4 rfl rfl ?_
  refine s_con (p' := 108) rfl rfl ?_
  refine s_callEN (p' := 111) (ls0 := [_, _, _, _]) rfl rfl rfl rfl rfl rfl rfl (y_fiz bW hW) rfl rfl ?_
  rintro g ⟨f', hf', hg⟩
  have m1 : mz_mo [400, W, A, V] 0 0 h g := by rw [hg]; exact mz_mo.s (mz_mo.rf _ _ _ _) bW hW rfl (Or.inl (by simp))
  have g4 : mj_rd g 400 = some (yC_ (nI 0) ty sd be (.ref W) (.ref A) (.ref V)) := by rw [hg]; exact (rd_setn nW4).trans h4
  have gW : mj_rd g W = some (.inl (2, (40320, .inl f'))) := by rw [hg]; exact rd_set bW hW
  have gA : mj_rd g A = some (.inl (0, (40320, .inl f1))) := by rw [hg]; exact (rd_setn nWA).trans hA
  have gV : mj_rd g V = some (.inl (0, (40320, .inl f2))) := by rw [hg]; exact (rd_setn nWV).trans hV
  clear hg
  refine s_aldn (p' := 112) rfl rfl rfl ?_
  refine s_gf (p' := 115) rfl g4 rfl rfl ?_
  refine s_ildn (p' := 116) rfl rfl rfl ?_
  refine s_callV (p' := 119) (ls0 := [_, _, _, _, _]) rfl rfl rfl rfl rfl rfl rfl (y_rnk idlt) (by first | decide | omega) rfl ?_
  refine s_con (p' := 120) rfl rfl ?_
  refine s_bas2 (p' := 121) rfl bW gW (inb_nI (by have := lr_lt idN; omega) (by have := lr_lt idN; omega)) rfl ?_
  rw [mI_cl (by have := lr_lt idN; omega), show vp_nar .boolean (nI 1) = nI 1 from by decide +kernel]
  generalize hg2 : List.set g W _ = g2
  have m2 : mz_mo [400, W, A, V] 0 0 h g2 := by rw [← hg2]; exact mz_mo.s m1 bW gW rfl (Or.inl (by simp))
  have k4 : mj_rd g2 400 = some (yC_ (nI 0) ty sd be (.ref W) (.ref A) (.ref V)) := by rw [← hg2]; exact (rd_setn nW4).trans g4
  have kW : mj_rd g2 W = some (.inl (2, (40320, .inl (upd f' (lr idN) (nI 1))))) := by rw [← hg2]; exact rd_set bW gW
  have kA : mj_rd g2 A = some (.inl (0, (40320, .inl f1))) := by rw [← hg2]; exact (rd_setn nWA).trans gA
  have kV : mj_rd g2 V = some (.inl (0, (40320, .inl f2))) := by rw [← hg2]; exact (rd_setn nWV).trans gV
  clear hg2
  refine s_aldn (p' := 122) rfl rfl rfl ?_
  refine s_gf (p' := 125) rfl k4 rfl rfl ?_
  refine s_con (p' := 126) rfl rfl ?_
  refine s_ildn (p' := 127) rfl rfl rfl ?_
  refine s_ias (p' := 128) rfl bA kA (inb_nI (by omega) (by omega)) rfl ?_
  rw [mI_cl (by omega)]
  generalize hg3 : List.set g2 A _ = g3
  have m3 : mz_mo [400, W, A, V] 0 0 h g3 := by rw [← hg3]; exact mz_mo.s m2 bA kA rfl (Or.inl (by simp))
  have j4 : mj_rd g3 400 = some (yC_ (nI 0) ty sd be (.ref W) (.ref A) (.ref V)) := by rw [← hg3]; exact (rd_setn nA4).trans k4
  have jW : mj_rd g3 W = some (.inl (2, (40320, .inl (upd f' (lr idN) (nI 1))))) := by rw [← hg3]; exact (rd_setn (Ne.symm nWA)).trans kW
  have jA : mj_rd g3 A = some (.inl (0, (40320, .inl (upd f1 0 (nI idN))))) := by rw [← hg3]; exact rd_set bA kA
  have jV : mj_rd g3 V = some (.inl (0, (40320, .inl f2))) := by rw [← hg3]; exact (rd_setn hAV).trans kV
  clear hg3
  refine s_con (p' := 129) rfl rfl ?_
  refine s_istn (p' := 130) (ls' := [_, _, _, _, _, _, _, _]) rfl rfl rfl rfl ?_
  refine s_con (p' := 131) rfl rfl ?_
  refine s_ist (p' := 133) (ls' := [_, _, _, _, _, _, _, _]) rfl rfl rfl rfl ?_
  refine s_con (p' := 134) rfl rfl ?_
  refine s_ist (p' := 136) (ls' := [_, _, _, _, _, _, _, _]) rfl rfl rfl rfl ?_
  refine s_con (p' := 137) rfl rfl ?_
  refine s_ist (p' := 139) (ls' := [_, _, _, _, _, _, _, _]) rfl rfl rfl rfl ?_
  have v0 : LV 0 idN := ⟨rfl, fun j hj => absurd hj (Nat.not_lt_zero j)⟩
  have lv : lvI 0 (upd f' (lr idN) (nI 1)) (fun _ => idN) 1 := by
    refine ⟨fun i _ => v0, fun o ho => ⟨0, by decide, (show idN = o from ho.1.symm)⟩, fun o po => ?_⟩
    by_cases y : lr o = lr idN
    · have e := po.inj isPk.id y
      rw [y, upd_s]
      exact ⟨fun _ => ⟨0, Nat.le_refl 0, e⟩, fun _ => nI1⟩
    · rw [upd_n y, hf' _ (lr_lt o)]
      refine ⟨fun q => absurd rfl q, fun ⟨j, hj, hr⟩ => ?_⟩
      obtain rfl : j = 0 := by omega
      exact absurd (by rw [show o = idN from hr]) y
  refine (mj_Wp.mono (y_lev (by decide) bW htt k 0 A V 1 _ (upd f1 0 (nI idN)) f2 (fun _ => idN) _ g3 (Nat.zero_add k) bA bV hAV j4 jW jA jV (fun i hi => by rw [show i = 0 by omega, upd_s]) lv (by decide)) (by decide)).imp ?_
  rintro _ ⟨_, g5, rfl, rfl, c1, c9, c2⟩
  exact ⟨_, _, rfl, rfl, c1, c9, mo00 m3 c2⟩
theorem y_lg2 {h : mj_H} {tt k W A V : Nat} {ty : Value} {sd be : Int64} {b f1 f2 : Nat → Int32} {l4 l5 l6 l7 : Option Value} (h4 : mj_rd h 400 = some (yC_ (nI 0) ty sd be (.ref W) (.ref A) (.ref V))) (hW : mj_rd h W = some (.inl (2, (40320, .inl b)))) (hA : mj_rd h A = some (.inl (0, (40320, .inl f1)))) (hV : mj_rd h V = some (.inl (0, (40320, .inl f2)))) (bW : W < mj_CB) (bA : A < mj_CB) (bV : V < mj_CB) (hAV : A ≠ V) (htt : LV k tt) : mj_Wp 5 444 (34, [some (.ref 400), some (.int (nI tt)), some (.int (nI idN)), some (.int (nI 8)), l4, l5, l6, l7], [], h) (mz_V fun r g => r = .int (nI k) ∧ (∃ A' V', (A' = A ∧ V' = V ∨ A' = V ∧ V' = A) ∧ mj_rd g 400 = some (yC_ (nI 0) ty sd be (.ref W) (.ref A') (.ref V'))) ∧ ((∃ b' : Nat → Int32, mj_rd g W = some (.inl (2, (40320, .inl b')))) ∧ (∃ f' : Nat → Int32, mj_rd g A = some (.inl (0, (40320, .inl f')))) ∧ ∃ f' : Nat → Int32, mj_rd g V = some (.inl (0, (40320, .inl f')))) ∧ mz_mo [400, W, A, V] 0 0 h g) := by
  have nW4 : W ≠ 400 := fun q => by rw [q, h4] at hW; cases hW
  have nA4 : A ≠ 400 := fun q => by rw [q, h4] at hA; cases hA
  have nV4 : V ≠ 400 := fun q => by rw [q, h4] at hV; cases hV
  refine s_aldn (p' := 35) rfl rfl rfl ?_
  refine s_aldn (p' := 36) rfl rfl rfl ?_
  refine s_gf (p' := 39) rfl h4 rfl rfl ?_
  refine s_nonnull (p' := 50) (x := some W) true rfl rfl rfl ?_
  refine s_aldn (p' := 51) rfl rfl rfl ?_
  refine s_gf (p' := 54) rfl h4 rfl rfl ?_
  refine s_pf (p' := 57) (fs' := [_, _, _, _, _, _, _, _, _, _, _]) rfl (by decide) h4 (Nat.blt_eq.mp rfl) rfl rfl rfl ?_
  generalize hq1 : List.set h 400 _ = q1
  have a41 : mj_rd q1 400 = some (yC_ (nI 0) ty sd be (.ref W) (.ref A) (.ref V)) := by rw [← hq1]; exact rd_set (by decide) h4
  have aW1 : mj_rd q1 W = some (.inl (2, (40320, .inl b))) := by rw [← hq1]; exact (rd_setn (Ne.symm nW4)).trans hW
  have aA1 : mj_rd q1 A = some (.inl (0, (40320, .inl f1))) := by rw [← hq1]; exact (rd_setn (Ne.symm nA4)).trans hA
  have aV1 : mj_rd q1 V = some (.inl (0, (40320, .inl f2))) := by rw [← hq1]; exact (rd_setn (Ne.symm nV4)).trans hV
  have am1 : mz_mo [400, W, A, V] 0 0 h q1 := by rw [← hq1]; exact mz_mo.s (mz_mo.rf _ _ _ _) (by decide) h4 rfl (Or.inl (by simp))
  clear hq1
  refine s_aldn (p' := 58) rfl rfl rfl ?_
  refine s_aldn (p' := 59) rfl rfl rfl ?_
  refine s_gf (p' := 62) rfl a41 rfl rfl ?_
  refine s_nonnull (p' := 73) (x := some A) true rfl rfl rfl ?_
  refine s_aldn (p' := 74) rfl rfl rfl ?_
  refine s_gf (p' := 77) rfl a41 rfl rfl ?_
  refine s_pf (p' := 80) (fs' := [_, _, _, _, _, _, _, _, _, _, _]) rfl (by decide) a41 (Nat.blt_eq.mp rfl) rfl rfl rfl ?_
  generalize hq2 : List.set q1 400 _ = q2
  have a42 : mj_rd q2 400 = some (yC_ (nI 0) ty sd be (.ref W) (.ref A) (.ref V)) := by rw [← hq2]; exact rd_set (by decide) a41
  have aW2 : mj_rd q2 W = some (.inl (2, (40320, .inl b))) := by rw [← hq2]; exact (rd_setn (Ne.symm nW4)).trans aW1
  have aA2 : mj_rd q2 A = some (.inl (0, (40320, .inl f1))) := by rw [← hq2]; exact (rd_setn (Ne.symm nA4)).trans aA1
  have aV2 : mj_rd q2 V = some (.inl (0, (40320, .inl f2))) := by rw [← hq2]; exact (rd_setn (Ne.symm nV4)).trans aV1
  have am2 : mz_mo [400, W, A, V] 0 0 h q2 := by rw [← hq2]; exact mz_mo.s am1 (by decide) a41 rfl (Or.inl (by simp))
  clear hq2
  refine s_aldn (p' := 81) rfl rfl rfl ?_
  refine s_aldn (p' := 82) rfl rfl rfl ?_
  refine s_gf (p' := 85) rfl a42 rfl rfl ?_
  refine s_nonnull (p' := 96) (x := some V) true rfl rfl rfl ?_
  refine s_aldn (p' := 97) rfl rfl rfl ?_
  refine s_gf (p' := 100) rfl a42 rfl rfl ?_
  refine s_pf (p' := 103) (fs' := [_, _, _, _, _, _, _, _, _, _, _]) rfl (by decide) a42 (Nat.blt_eq.mp rfl) rfl rfl rfl ?_
  generalize hq3 : List.set q2 400 _ = q3
  have a43 : mj_rd q3 400 = some (yC_ (nI 0) ty sd be (.ref W) (.ref A) (.ref V)) := by rw [← hq3]; exact rd_set (by decide) a42
  have aW3 : mj_rd q3 W = some (.inl (2, (40320, .inl b))) := by rw [← hq3]; exact (rd_setn (Ne.symm nW4)).trans aW2
  have aA3 : mj_rd q3 A = some (.inl (0, (40320, .inl f1))) := by rw [← hq3]; exact (rd_setn (Ne.symm nA4)).trans aA2
  have aV3 : mj_rd q3 V = some (.inl (0, (40320, .inl f2))) := by rw [← hq3]; exact (rd_setn (Ne.symm nV4)).trans aV2
  have am3 : mz_mo [400, W, A, V] 0 0 h q3 := by rw [← hq3]; exact mz_mo.s am2 (by decide) a42 rfl (Or.inl (by simp))
  clear hq3
  refine (y_lg3 a43 aW3 aA3 aV3 bW bA bV hAV htt).imp ?_
  rintro _ ⟨_, g, rfl, rfl, c1, c9, c2⟩
  exact ⟨_, _, rfl, rfl, c1, c9, mo00 am3 c2⟩
theorem y_lgn {h : mj_H} {tt k : Nat} {ty : Value} {sd be : Int64} {l4 l5 l6 l7 : Option Value} (h4 : mj_rd h 400 = some (yC_ (nI 0) ty sd be .null .null .null)) (hb : h.length + 10 < mj_CB) (htt : LV k tt) : mj_Wp 5 444 (34, [some (.ref 400), some (.int (nI tt)), some (.int (nI idN)), some (.int (nI 8)), l4, l5, l6, l7], [], h) (mz_V fun r g => r = .int (nI k) ∧ (∃ A' V', (A' = h.length + 1 ∧ V' = h.length + 2 ∨ A' = h.length + 2 ∧ V' = h.length + 1) ∧ mj_rd g 400 = some (yC_ (nI 0) ty sd be (.ref h.length) (.ref A') (.ref V'))) ∧ ((∃ b' : Nat → Int32, mj_rd g h.length = some (.inl (2, (40320, .inl b')))) ∧ (∃ f' : Nat → Int32, mj_rd g (h.length + 1) = some (.inl (0, (40320, .inl f')))) ∧ ∃ f' : Nat → Int32, mj_rd g (h.length + 2) = some (.inl (0, (40320, .inl f')))) ∧ mz_mo [400] 3 120960 h g) := by
  have l400 := rd_len (by decide) h4
  have e1 : mj_CB = 1000000 := rfl
  have m0 : mz_mo [400] 0 0 h h := mz_mo.rf _ _ _ _
  have l0 : h.length = h.length + 0 := rfl
  refine s_aldn (p' := 35) rfl rfl rfl ?_
  refine s_aldn (p' := 36) rfl rfl rfl ?_
  refine s_gf (p' := 39) rfl h4 rfl rfl ?_
  refine s_nonnull (p' := 42) (x := none) false rfl rfl rfl ?_
  refine s_sh (p' := 45) (ls' := _) (st' := .int (nI 40320) :: _) (h' := _) rfl rfl rfl rfl ?_
  refine s_naz (p' := 47) (a := h.length) (n := 40320) rfl l0 rfl rfl ?_
  generalize hg1 : h ++ [_] = g1
  have l1 : g1.length = h.length + 1 := by rw [← hg1, List.length_append, l0]; rfl
  have X1 : mj_rd g1 400 = some (yC_ (nI 0) ty sd be .null .null .null) := by rw [← hg1]; exact rd_app h4
  have W1 : mj_rd g1 h.length = some (.inl (2, (40320, .inl (fun _ => 0)))) := by rw [← hg1]; exact rd_nw (Nat.blt_eq.mpr (by omega)) l0
  have m1 : mz_mo [400] 1 40320 h g1 := by rw [← hg1]; exact m0.tr (mz_mo.ap [400] _ _) (fun y hy => Or.inl hy) (by omega) (by show 0 + 40320 ≤ 40320; omega)
  clear hg1
  refine s_goto (p' := 54) rfl rfl ?_
  refine s_pf (p' := 57) (fs' := [_, _, _, _, _, _, _, _, _, _, _]) rfl (by omega) X1 (Nat.blt_eq.mp rfl) rfl rfl rfl ?_
  generalize hg2 : List.set g1 400 _ = g2
  have l2 : g2.length = h.length + 1 := by rw [← hg2, List.length_set, l1]
  have m2 : mz_mo [400] 1 40320 h g2 := by rw [← hg2]; exact mz_mo.s m1 (by omega) X1 rfl (Or.inl (by simp))
  have X2 : mj_rd g2 400 = some (yC_ (nI 0) ty sd be (.ref h.length) .null .null) := by rw [← hg2]; exact rd_set (by omega) X1
  have W2 : mj_rd g2 h.length = some (.inl (2, (40320, .inl (fun _ => 0)))) := by rw [← hg2]; exact (rd_setn (by omega)).trans W1
  clear hg2
  refine s_aldn (p' := 58) rfl rfl rfl ?_
  refine s_aldn (p' := 59) rfl rfl rfl ?_
  refine s_gf (p' := 62) rfl X2 rfl rfl ?_
  refine s_nonnull (p' := 65) (x := none) false rfl rfl rfl ?_
  refine s_sh (p' := 68) (ls' := _) (st' := .int (nI 40320) :: _) (h' := _) rfl rfl rfl rfl ?_
  refine s_naz (p' := 70) (a := (h.length + 1)) (n := 40320) rfl l2 rfl rfl ?_
  generalize hg3 : g2 ++ [_] = g3
  have l3 : g3.length = h.length + 2 := by rw [← hg3, List.length_append, l2]; rfl
  have X3 : mj_rd g3 400 = some (yC_ (nI 0) ty sd be (.ref h.length) .null .null) := by rw [← hg3]; exact rd_app X2
  have W3 : mj_rd g3 h.length = some (.inl (2, (40320, .inl (fun _ => 0)))) := by rw [← hg3]; exact rd_app W2
  have A3 : mj_rd g3 (h.length + 1) = some (.inl (0, (40320, .inl (fun _ => 0)))) := by rw [← hg3]; exact rd_nw (Nat.blt_eq.mpr (by omega)) l2
  have m3 : mz_mo [400] 2 80640 h g3 := by rw [← hg3]; exact m2.tr (mz_mo.ap [400] _ _) (fun y hy => Or.inl hy) (by omega) (by show 40320 + 40320 ≤ 80640; omega)
  clear hg3
  refine s_goto (p' := 77) rfl rfl ?_
  refine s_pf (p' := 80) (fs' := [_, _, _, _, _, _, _, _, _, _, _]) rfl (by omega) X3 (Nat.blt_eq.mp rfl) rfl rfl rfl ?_
  generalize hg4 : List.set g3 400 _ = g4
  have l4 : g4.length = h.length + 2 := by rw [← hg4, List.length_set, l3]
  have m4 : mz_mo [400] 2 80640 h g4 := by rw [← hg4]; exact mz_mo.s m3 (by omega) X3 rfl (Or.inl (by simp))
  have X4 : mj_rd g4 400 = some (yC_ (nI 0) ty sd be (.ref h.length) (.ref (h.length + 1)) .null) := by rw [← hg4]; exact rd_set (by omega) X3
  have W4 : mj_rd g4 h.length = some (.inl (2, (40320, .inl (fun _ => 0)))) := by rw [← hg4]; exact (rd_setn (by omega)).trans W3
  have A4 : mj_rd g4 (h.length + 1) = some (.inl (0, (40320, .inl (fun _ => 0)))) := by rw [← hg4]; exact (rd_setn (by omega)).trans A3
  clear hg4
  refine s_aldn (p' := 81) rfl rfl rfl ?_
  refine s_aldn (p' := 82) rfl rfl rfl ?_
  refine s_gf (p' := 85) rfl X4 rfl rfl ?_
  refine s_nonnull (p' := 88) (x := none) false rfl rfl rfl ?_
  refine s_sh (p' := 91) (ls' := _) (st' := .int (nI 40320) :: _) (h' := _) rfl rfl rfl rfl ?_
  refine s_naz (p' := 93) (a := (h.length + 2)) (n := 40320) rfl l4 rfl rfl ?_
  generalize hg5 : g4 ++ [_] = g5
  have l5 : g5.length = h.length + 3 := by rw [← hg5, List.length_append, l4]; rfl
  have X5 : mj_rd g5 400 = some (yC_ (nI 0) ty sd be (.ref h.length) (.ref (h.length + 1)) .null) := by rw [← hg5]; exact rd_app X4
  have W5 : mj_rd g5 h.length = some (.inl (2, (40320, .inl (fun _ => 0)))) := by rw [← hg5]; exact rd_app W4
  have A5 : mj_rd g5 (h.length + 1) = some (.inl (0, (40320, .inl (fun _ => 0)))) := by rw [← hg5]; exact rd_app A4
  have V5 : mj_rd g5 (h.length + 2) = some (.inl (0, (40320, .inl (fun _ => 0)))) := by rw [← hg5]; exact rd_nw (Nat.blt_eq.mpr (by omega)) l4
  have m5 : mz_mo [400] 3 120960 h g5 := by rw [← hg5]; exact m4.tr (mz_mo.ap [400] _ _) (fun y hy => Or.inl hy) (by omega) (by show 80640 + 40320 ≤ 120960; omega)
  clear hg5
  refine s_goto (p' := 100) rfl rfl ?_
  refine s_pf (p' := 103) (fs' := [_, _, _, _, _, _, _, _, _, _, _]) rfl (by omega) X5 (Nat.blt_eq.mp rfl) rfl rfl rfl ?_
  generalize hg6 : List.set g5 400 _ = g6
  have l6 : g6.length = h.length + 3 := by rw [← hg6, List.length_set, l5]
  have m6 : mz_mo [400] 3 120960 h g6 := by rw [← hg6]; exact mz_mo.s m5 (by omega) X5 rfl (Or.inl (by simp))
  have X6 : mj_rd g6 400 = some (yC_ (nI 0) ty sd be (.ref h.length) (.ref (h.length + 1)) (.ref (h.length + 2))) := by rw [← hg6]; exact rd_set (by omega) X5
  have W6 : mj_rd g6 h.length = some (.inl (2, (40320, .inl (fun _ => 0)))) := by rw [← hg6]; exact (rd_setn (by omega)).trans W5
  have A6 : mj_rd g6 (h.length + 1) = some (.inl (0, (40320, .inl (fun _ => 0)))) := by rw [← hg6]; exact (rd_setn (by omega)).trans A5
  have V6 : mj_rd g6 (h.length + 2) = some (.inl (0, (40320, .inl (fun _ => 0)))) := by rw [← hg6]; exact (rd_setn (by omega)).trans V5
  clear hg6
  refine (y_lg3 X6 W6 A6 V6 (by omega) (by omega) (by omega) (by omega) htt).imp ?_
  rintro _ ⟨_, g, rfl, rfl, ⟨A', V', c0, c1⟩, c9, c2⟩
  refine ⟨_, _, rfl, rfl, ⟨A', V', c0, c1⟩, c9, m6.tr c2 (fun y hy => ?_) (Nat.le_refl _) (Nat.le_refl _)⟩
  simp only [List.mem_cons, List.not_mem_nil, or_false] at hy ⊢
  omega
theorem y_lgs {h : mj_H} {n k E cap : Nat} {G : Nat → Nat} {mc : Int32} {ef : Nat → Option Nat} {th : Int32} {ty wa nw nx : Value} {sd be : Int64} (hb : h.length + 40 < mj_CB) (hl : h.length ≥ 414) (hL : mj_rd h 410 = some (.inr (18, [.ref E, .int (nI n), .int mc]))) (hE : mj_rdA h E = some (6, (cap, .inr (.inr (.inr (.inr ef)))))) (hG : ∀ j, j < n → ef j = some (1000138 + G j) ∧ G j < 24) (hn : n ≤ 24) (hcap : n ≤ cap) (hc31 : cap < 1000) (h4 : mj_rd h 400 = some (yC_ th ty sd be wa nw nx)) {Q : mj_O × mj_H → Prop} (hq : ∀ h2, mj_rd h2 400 = some (yC_ (nI 0) ty sd be wa nw nx) → mz_mo [400] (0 + 8) (0 + 32) h h2 → mj_Wp 5 444 (34, [some (.ref 400), some (.int (nI (wS (fun v => thr G n 0 v) 8))), some (.int (nI idN)), some (.int (nI 8)), none, none, none, none], [], h2) Q) : mj_Wp 5 444 (0, [some (.ref 400), none, none, none, none, none, none, none], [], h) Q := by
  refine s_aldn (p' := 1) rfl rfl rfl ?_
  refine s_con (p' := 2) rfl rfl ?_
  refine s_pf (p' := 5) (fs' := [_, _, _, _, _, _, _, _, _, _, _]) rfl (by decide) h4 (Nat.blt_eq.mp rfl) rfl rfl rfl ?_
  generalize hg1 : List.set h 400 _ = h1
  have z4 : mj_rd h1 400 = some (yC_ (nI 0) ty sd be wa nw nx) := by rw [← hg1]; exact rd_set (by decide) h4
  have m1 : mz_mo [400] 0 0 h h1 := by rw [← hg1]; exact mz_mo.s (mz_mo.rf _ _ _ _) (by decide) h4 rfl (Or.inl (by simp))
  have zE : mj_rdA h1 E = some (6, (cap, .inr (.inr (.inr (.inr ef))))) := mz_fr.A m1.1 (fun q => by rw [List.mem_singleton] at q; have := rdA_lt hE; rw [q, h4] at this; cases this) hE
  have le1 := mo_le m1
  clear hg1
  refine s_aldn (p' := 6) rfl rfl rfl ?_
  refine s_callEV (p' := 9) (ls0 := [_, _, _]) rfl rfl rfl rfl rfl (mj_rcv_is z4) rfl (y_pck (by omega) (m1.1 410 (by decide) _ hL) zE hG hn hcap hc31 z4) rfl rfl ?_
  rintro _ h2 ⟨rfl, m2⟩
  have y4 := m2.1 400 List.not_mem_nil _ z4
  have m12 := m1.tr m2 (L := [400]) (fun y hy => by cases hy) (Nat.le_refl _) (Nat.le_refl _)
  refine s_istn (p' := 10) (ls' := [_, _, _, _, _, _, _, _]) rfl rfl rfl rfl ?_
  refine s_con (p' := 11) rfl rfl ?_
  refine s_istn (p' := 12) (ls' := [_, _, _, _, _, _, _, _]) rfl rfl rfl rfl ?_
  refine s_con (p' := 13) rfl rfl ?_
  refine s_istn (p' := 14) (ls' := [_, _, _, _, _, _, _, _]) rfl rfl rfl rfl ?_
  exact y_idL (hq h2 y4 m12) 8 0 rfl
