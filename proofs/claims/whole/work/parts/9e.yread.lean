/-! The reference reads: signs, terms, tests. -/
/-- what 'new Fault(place, kind)' is to do, up to its throw -/
def HFl (fC : Int32 → Int32 → mj_C) : Prop :=
  (∀ p k, ∃ fs, fC p k = .inr (23, fs)) ∧
  (∀ (k : Nat) (h : mj_H) (x T at_ op kd : Nat) (v1 : Option Value) (Q : mj_O × mj_H → Prop), x < mj_CB → h.length + 10 < mj_CB → kd < 65536 → mj_rd h x = some (.inr (22, [.ref T, .int (nI at_), .int (nI op)])) → Q (.inr h.length, h ++ [fC (nI at_) (nI kd)]) → mj_Wp k 314 (4, [some (.ref x), v1, some (.int (nI kd))], [], h) Q) ∧
  (∀ (k : Nat) (h : mj_H) (x T at_ op : Nat) (v1 v2 v3 : Option Value) (Q : mj_O × mj_H → Prop), x < mj_CB → h.length + 10 < mj_CB → mj_rd h x = some (.inr (22, [.ref T, .int (nI at_), .int (nI op)])) → Q (.inr h.length, h ++ [fC (nI at_ - nI 1) (nI 114)]) → mj_Wp k 312 (96, [some (.ref x), v1, v2, v3], [], h) Q) ∧
  (∀ (k : Nat) (h : mj_H) (b : Nat) (v0 v2 v3 : Option Value) (Q : mj_O × mj_H → Prop), h.length + 10 < mj_CB → Q (.inr h.length, h ++ [fC (nI b) (nI 114)]) → mj_Wp k 312 (192, [v0, some (.int (nI b)), v2, v3], [], h) Q)
/-- the reader at x: it stands at at_, op brackets are open, its text has n chars f -/
def yR (h : mj_H) (x T n c : Nat) (f : Nat → Nat) (at_ op : Nat) : Prop := mj_rd h x = some (.inr (22, [.ref T, .int (nI at_), .int (nI op)])) ∧ yStr h T n c f
theorem yR.up {h g : mj_H} {x T n c at_ op at' op' : Nat} {f : Nat → Nat} (r : yR h x T n c f at_ op) (e : mz_fr [x] h g) (hx : mj_rd g x = some (.inr (22, [.ref T, .int (nI at'), .int (nI op')]))) : yR g x T n c f at' op' := by
  refine ⟨hx, r.2.fr e (fun q => ?_) (fun B rs q m => ?_)⟩
  · obtain ⟨_, B, rs, kT, _⟩ := r.2
    rw [List.mem_singleton.mp q, r.1] at kT
    cases kT
  · obtain ⟨_, B', rs', kT, bf, kB, _⟩ := r.2
    rw [kT] at q
    have e2 := Value.ref.inj (List.cons.inj (congrArg Prod.snd (Sum.inr.inj (Option.some.inj q)))).1
    rw [e2, List.mem_singleton.mp m, r.1] at kB
    cases kB
/-- a fault thrown: letter, place -/
def yT (fC : Int32 → Int32 → mj_C) (K Z : Nat) (h : mj_H) (x : Nat) (e : Nat × Nat) (o : mj_O × mj_H) : Prop := ∃ (q : Nat) (h' : mj_H), o = (.inr q, h') ∧ q < mj_CB ∧ h.length ≤ q ∧ mj_rd h' q = some (fC (nI e.2) (nI e.1)) ∧ mz_mo [x] K Z h h'
theorem yT.tr {fC : Int32 → Int32 → mj_C} {K Z K1 Z1 K2 Z2 x : Nat} {h g : mj_H} {e : Nat × Nat} {o : mj_O × mj_H} (m : mz_mo [x] K1 Z1 h g) (hk : K1 + K2 ≤ K) (hz : Z1 + Z2 ≤ Z) : yT fC K2 Z2 g x e o → yT fC K Z h x e o
  | ⟨q, h', a, b, c, d, m2⟩ => ⟨q, h', a, b, Nat.le_trans m.2.1 c, d, m.tr m2 (fun y hy => Or.inl hy) hk hz⟩
/-- a sign as a char: 0 behind the end -/
def nwc (c : Nat) : Nat := if c = 70000 then 0 else c
theorem nwc_lt {c : Nat} (h : c < 70000) : nwc c = c := if_neg (by omega)
theorem nwc_eq {c w : Nat} (hw : 0 < w) (h2 : w < 70000) : nwc c = w ↔ c = w := by
  unfold nwc
  split <;> omega
theorem nwc_le {c : Nat} (h : c ≤ 70000) : nwc c ≤ 70000 := by
  unfold nwc
  split <;> omega
theorem y_lenG {h : mj_H} {T n c : Nat} {f : Nat → Nat} (hT : yStr h T n c f) (hn : n ≤ 300) : mj_run 1 241 (0, [some (.ref T)], [], h) (.inl (some (.int (nI n))), h) := by
  have hc := hT.1.1
  obtain rfl | rfl : c = 0 ∨ c = 1 := by omega
  · exact y_len0 hT hn
  · exact y_len1 hT hn
theorem y_chrG {h : mj_H} {T n c i : Nat} {f : Nat → Nat} (hT : yStr h T n c f) (hn : n ≤ 300) (hi : i < n) : mj_run 5 306 (0, [some (.ref T), some (.int (nI i))], [], h) (.inl (some (.int (nI (f i)))), h) := by
  have hc := hT.1.1
  obtain rfl | rfl : c = 0 ∨ c = 1 := by omega
  · exact mj_Wp.mono (y_chr0 hT hn hi) (by decide)
  · exact y_chr1 hT hn hi
theorem yR.rT {h : mj_H} {x T n c at_ op : Nat} {f : Nat → Nat} {as : List Value} : yR h x T n c f at_ op → mj_rcv 22 (.ref T :: as) h = true
  | ⟨_, r⟩ => by
    obtain ⟨B, rs, k⟩ := r.nB
    exact mj_rcv_is k
theorem y_now {h : mj_H} {x T n c at_ op : Nat} {f : Nat → Nat} (hn : n ≤ 60) (hf : ∀ j, j < n → f j < 65536) (r0 : yR h x T n c f at_ op) (ha : at_ ≤ 100) : mj_run 6 305 (0, [some (.ref x)], [], h) (.inl (some (.int (nI (nwc (chA n f at_))))), h) := by
  refine s_aldn (p' := 1) rfl rfl rfl ?_
  refine s_gf (p' := 4) rfl r0.1 rfl rfl ?_
  refine s_aldn (p' := 5) rfl rfl rfl ?_
  refine s_gf (p' := 8) rfl r0.1 rfl rfl ?_
  refine s_callV (p' := 11) (ls0 := [_]) rfl rfl rfl rfl rfl r0.rT rfl (y_lenG r0.2 (by omega)) (by first | decide | omega) rfl ?_
  by_cases q : at_ < n
  · refine s_icmp (p' := 14) false rfl ((ci_ge (by omega) (by omega)).trans (decide_eq_false (by omega))) rfl ?_
    refine s_aldn (p' := 15) rfl rfl rfl ?_
    refine s_gf (p' := 18) rfl r0.1 rfl rfl ?_
    refine s_aldn (p' := 19) rfl rfl rfl ?_
    refine s_gf (p' := 22) rfl r0.1 rfl rfl ?_
    refine s_callV (p' := 25) (ls0 := [_, _]) rfl rfl rfl rfl rfl r0.rT rfl (y_chrG r0.2 (by omega) q) (by first | decide | omega) rfl ?_
    refine s_goto (p' := 29) rfl rfl ?_
    exact s_iret rfl (chr_ok (hf at_ q)) (by unfold chA; rw [if_pos q, nwc_lt (by have := hf at_ q; omega)])
  · refine s_icmp (p' := 28) true rfl ((ci_ge (by omega) (by omega)).trans (decide_eq_true (by omega))) rfl ?_
    refine s_con (p' := 29) rfl rfl ?_
    exact s_iret rfl (by decide +kernel) (by unfold chA; rw [if_neg q]; rfl)
theorem y_btw {h : mj_H} {a lo hi : Nat} (ha : a ≤ 70000) (hl : lo ≤ 70000) (hh : hi ≤ 70000) : mj_run 0 311 (0, [some (.int (nI a)), some (.int (nI lo)), some (.int (nI hi))], [], h) (.inl (some (.int (nI (bN (decide (lo ≤ a ∧ a ≤ hi)))))), h) := by
  refine s_ildn (p' := 1) rfl rfl rfl ?_
  refine s_ildn (p' := 2) rfl rfl rfl ?_
  by_cases q : a < lo
  · refine s_icmp (p' := 14) true rfl ((ci_gt (by omega) (by omega)).trans (decide_eq_true (by omega))) rfl ?_
    refine s_con (p' := 15) rfl rfl ?_
    exact s_iret rfl rfl (by rw [decide_eq_false (by omega)]; rfl)
  · refine s_icmp (p' := 5) false rfl ((ci_gt (by omega) (by omega)).trans (decide_eq_false (by omega))) rfl ?_
    refine s_ildn (p' := 6) rfl rfl rfl ?_
    refine s_ildn (p' := 7) rfl rfl rfl ?_
    by_cases q2 : hi < a
    · refine s_icmp (p' := 14) true rfl ((ci_gt (by omega) (by omega)).trans (decide_eq_true (by omega))) rfl ?_
      refine s_con (p' := 15) rfl rfl ?_
      exact s_iret rfl rfl (by rw [decide_eq_false (by omega)]; rfl)
    · refine s_icmp (p' := 10) false rfl ((ci_gt (by omega) (by omega)).trans (decide_eq_false (by omega))) rfl ?_
      refine s_con (p' := 11) rfl rfl ?_
      refine s_goto (p' := 15) rfl rfl ?_
      exact s_iret rfl rfl (by rw [decide_eq_true (by omega)]; rfl)
theorem bw_v {c : Nat} (h : c ≤ 70000) : decide (97 ≤ nwc c ∧ nwc c ≤ 104) = vB c := by
  unfold vB nwc
  refine decide_eq_decide.mpr ?_
  split <;> omega
theorem bw_d {c : Nat} (h : c ≤ 70000) : decide (48 ≤ nwc c ∧ nwc c ≤ 57) = dB c := by
  unfold dB nwc
  refine decide_eq_decide.mpr ?_
  split <;> omega
theorem y_wt1 {h : mj_H} {x : Nat} {kd : Int32} : mj_run 0 314 (0, [some (.ref x), some (.int (nI 1)), some (.int kd)], [], h) (.inl none, h) := by
  refine s_ildn (p' := 1) rfl rfl rfl ?_
  refine s_if (p' := 17) true rfl (by decide +kernel) rfl ?_
  exact s_ret rfl rfl
theorem fC_cs {fC : Int32 → Int32 → mj_C} (HF : HFl fC) (p k : Int32) : mj_cs (fC p k) = 8 := by
  obtain ⟨fs, e⟩ := HF.1 p k
  rw [e]
  rfl
theorem y_wt {fC : Int32 → Int32 → mj_C} (HF : HFl fC) {h : mj_H} {x T n c at_ op : Nat} {f : Nat → Nat} (hn : n ≤ 60) (hf : ∀ j, j < n → f j < 65536) (r0 : yR h x T n c f at_ op) (ha : at_ ≤ 90) (bx : x < mj_CB) (hb : h.length + 20 < mj_CB) {b : Bool} {kd : Nat} (hk : kd < 65536) : mj_Wp 1 314 (0, [some (.ref x), some (.int (nI (bN b))), some (.int (nI kd))], [], h) (fun o => (b = true ∧ o = (.inl none, h)) ∨ (b = false ∧ yT fC 1 8 h x (kd, at_) o)) := by
  cases b with
  | true => exact mj_Wp.mono (y_wt1.imp fun o e => Or.inl ⟨rfl, e⟩) (by decide)
  | false =>
    refine s_ildn (p' := 1) rfl rfl rfl ?_
    refine s_if (p' := 4) false rfl (by decide +kernel) rfl ?_
    refine HF.2.1 1 h x T at_ op kd _ _ bx (by omega) hk r0.1 (Or.inr ⟨rfl, h.length, _, rfl, by omega, Nat.le_refl _, rd_nw (Nat.blt_eq.mpr (by omega)) rfl, ?_⟩)
    exact (mz_mo.ap [x] h _).wk (fun y hy => Or.inl hy) (Nat.le_refl _) (Nat.le_of_eq (fC_cs HF _ _))
theorem y_wt0 {fC : Int32 → Int32 → mj_C} (HF : HFl fC) {h : mj_H} {x T n c at_ op : Nat} {f : Nat → Nat} (hn : n ≤ 60) (hf : ∀ j, j < n → f j < 65536) (r0 : yR h x T n c f at_ op) (ha : at_ ≤ 90) (bx : x < mj_CB) (hb : h.length + 20 < mj_CB) {kd : Nat} (hk : kd < 65536) : mj_Wp 1 314 (0, [some (.ref x), some (.int (nI 0)), some (.int (nI kd))], [], h) (yT fC 1 8 h x (kd, at_)) := by
  refine (y_wt HF hn hf r0 ha bx hb (b := false) hk).imp ?_
  rintro o (⟨e, _⟩ | ⟨_, t⟩)
  · cases e
  · exact t
theorem yT_K {fC : Int32 → Int32 → mj_C} (HF : HFl fC) {K Z x k0 m pc0 p0 : Nat} {ls0 : mj_L} {r0 : List Value} {Q : mj_O × mj_H → Prop} {h : mj_H} {e : Nat × Nat} {o : mj_O × mj_H} (t : yT fC K Z h x e o) (hf : mj_find (mj_Gg.2.2 m) pc0 23 = some none) (hn : ∀ o, yT fC K Z h x e o → Q o) : mz_K k0 m pc0 p0 ls0 r0 Q o := by
  have hq := hn o t
  obtain ⟨q, h', rfl, a, b, c, d⟩ := t
  obtain ⟨fs, e23⟩ := HF.1 (nI e.2) (nI e.1)
  rw [e23] at c
  exact K_u (Nat.blt_eq.mpr a) (mj_ocl_is c) hf hq
theorem y_skp {fC : Int32 → Int32 → mj_C} (HF : HFl fC) {h : mj_H} {x T n c at_ op : Nat} {f : Nat → Nat} (hn : n ≤ 60) (hf : ∀ j, j < n → f j < 65536) (r0 : yR h x T n c f at_ op) (ha : at_ ≤ 90) (bx : x < mj_CB) (hb : h.length + 20 < mj_CB) {w kd : Nat} (hw0 : 0 < w) (hw : w < 65536) (hk : kd < 65536) : mj_Wp 7 336 (0, [some (.ref x), some (.int (nI w)), some (.int (nI kd))], [], h) (fun o => (chA n f at_ = w ∧ ∃ h', o = (.inl none, h') ∧ yR h' x T n c f (at_ + 1) op ∧ mz_mo [x] 0 0 h h') ∨ (¬ chA n f at_ = w ∧ yT fC 1 8 h x (kd, at_) o)) := by
  have m0 : mz_mo [x] 0 0 h h := mz_mo.rf _ _ _ _
  refine s_aldn (p' := 1) rfl rfl rfl ?_
  refine s_aldn (p' := 2) rfl rfl rfl ?_
  refine s_callV (p' := 5) (ls0 := [_]) rfl rfl rfl rfl rfl (mj_rcv_is r0.1) rfl (y_now hn hf r0 (by omega)) (by first | decide | omega) rfl ?_
  refine s_ildn (p' := 6) rfl rfl rfl ?_
  by_cases q : chA n f at_ = w
  · refine s_icmp (p' := 9) false rfl ((ci_ne (by have := nwc_le (chA_le hf at_); omega) (by omega)).trans (decide_eq_false (fun e => e ((nwc_eq hw0 (by omega)).mpr q)))) rfl ?_
    refine s_con (p' := 10) rfl rfl ?_
    refine s_goto (p' := 14) rfl rfl ?_
    refine s_ildn (p' := 15) rfl rfl rfl ?_
    refine s_callN (p' := 18) (ls0 := [_, _, _]) rfl rfl rfl rfl rfl (mj_rcv_is r0.1) rfl y_wt1 (by first | decide | omega) rfl ?_
    refine s_aldn (p' := 19) rfl rfl rfl ?_
    refine s_sp (p' := 20) (ls' := _) rfl rfl rfl ?_
    refine s_gf (p' := 23) rfl r0.1 rfl rfl ?_
    refine s_con (p' := 24) rfl rfl ?_
    refine s_sp (p' := 25) (ls' := _) rfl rfl rfl ?_
    rw [mI_add]
    refine s_pf (p' := 28) (fs' := [_, _, _]) rfl bx r0.1 (Nat.blt_eq.mp rfl) rfl rfl rfl ?_
    generalize hg1 : List.set h x _ = h1
    have r1 : yR h1 x T n c f (at_ + 1) op := by rw [← hg1]; exact r0.up (mz_fr.s (by simp) (mz_fr.rf _ _)) (rd_set bx r0.1)
    have m1 : mz_mo [x] 0 0 h h1 := by rw [← hg1]; exact mz_mo.s m0 bx r0.1 rfl (Or.inl (by simp))
    clear hg1
    refine s_ret rfl ?_
    exact Or.inl ⟨q, _, rfl, r1, m1⟩
  · refine s_icmp (p' := 13) true rfl ((ci_ne (by have := nwc_le (chA_le hf at_); omega) (by omega)).trans (decide_eq_true (fun e => q ((nwc_eq hw0 (by omega)).mp e)))) rfl ?_
    refine s_con (p' := 14) rfl rfl ?_
    refine s_ildn (p' := 15) rfl rfl rfl ?_
    refine c_call (p' := 18) (kc := 5) (ls0 := [_, _, _]) rfl rfl rfl rfl rfl (mj_rcv_is r0.1) rfl rfl rfl ?_
    refine ((mj_Wp.mono (y_wt0 HF hn hf r0 (by omega) bx (by omega) hk) (by decide))).imp ?_
    rintro o t
    exact yT_K HF t rfl (fun o t => Or.inr ⟨q, t⟩)
theorem y_var {fC : Int32 → Int32 → mj_C} (HF : HFl fC) {h : mj_H} {x T n c at_ op : Nat} {f : Nat → Nat} (hn : n ≤ 60) (hf : ∀ j, j < n → f j < 65536) (r0 : yR h x T n c f at_ op) (ha : at_ ≤ 90) (bx : x < mj_CB) (hb : h.length + 20 < mj_CB) {kd : Nat} (hk : kd < 65536) : mj_Wp 7 313 (0, [some (.ref x), some (.int (nI kd))], [], h) (fun o => (vB (chA n f at_) = true ∧ ∃ h', o = (.inl (some (.int (nI (chA n f at_ - 97)))), h') ∧ yR h' x T n c f (at_ + 1) op ∧ mz_mo [x] 0 0 h h') ∨ (¬ vB (chA n f at_) = true ∧ yT fC 1 8 h x (kd, at_) o)) := by
  have m0 : mz_mo [x] 0 0 h h := mz_mo.rf _ _ _ _
  refine s_aldn (p' := 1) rfl rfl rfl ?_
  refine s_aldn (p' := 2) rfl rfl rfl ?_
  refine s_callV (p' := 5) (ls0 := [_]) rfl rfl rfl rfl rfl (mj_rcv_is r0.1) rfl (y_now hn hf r0 (by omega)) (by first | decide | omega) rfl ?_
  refine s_bip (p' := 7) rfl rfl ?_
  refine s_bip (p' := 9) rfl rfl ?_
  refine s_callV (p' := 12) (ls0 := [_, _, _]) rfl rfl rfl rfl rfl rfl rfl (y_btw (nwc_le (chA_le hf _)) (by decide) (by decide)) (by first | decide | omega) rfl ?_
  rw [bw_v (chA_le hf _)]
  refine s_ildn (p' := 13) rfl rfl rfl ?_
  by_cases q : vB (chA n f at_) = true
  · rw [show nI (bN (vB (chA n f at_))) = nI 1 from by rw [q]; rfl]
    have q2 := vB_lt q
    have q3 := chA_lt hf (a := at_) (by omega)
    refine s_callN (p' := 16) (ls0 := [_, _, _]) rfl rfl rfl rfl rfl (mj_rcv_is r0.1) rfl y_wt1 (by first | decide | omega) rfl ?_
    refine s_aldn (p' := 17) rfl rfl rfl ?_
    refine s_sp (p' := 18) (ls' := _) rfl rfl rfl ?_
    refine s_gf (p' := 21) rfl r0.1 rfl rfl ?_
    refine s_con (p' := 22) rfl rfl ?_
    refine s_sp (p' := 23) (ls' := _) rfl rfl rfl ?_
    rw [mI_add]
    refine s_pf (p' := 26) (fs' := [_, _, _]) rfl bx r0.1 (Nat.blt_eq.mp rfl) rfl rfl rfl ?_
    generalize hg1 : List.set h x _ = h1
    have r1 : yR h1 x T n c f (at_ + 1) op := by rw [← hg1]; exact r0.up (mz_fr.s (by simp) (mz_fr.rf _ _)) (rd_set bx r0.1)
    have m1 : mz_mo [x] 0 0 h h1 := by rw [← hg1]; exact mz_mo.s m0 bx r0.1 rfl (Or.inl (by simp))
    clear hg1
    refine s_aldn (p' := 27) rfl rfl rfl ?_
    refine s_gf (p' := 30) rfl r1.1 rfl rfl ?_
    refine s_aldn (p' := 31) rfl rfl rfl ?_
    refine s_gf (p' := 34) rfl r1.1 rfl rfl ?_
    refine s_con (p' := 35) rfl rfl ?_
    refine s_sp (p' := 36) (ls' := _) rfl rfl rfl ?_
    rw [mI_sub (by omega), Nat.add_sub_cancel]
    refine s_callV (p' := 39) (ls0 := [_, _]) rfl rfl rfl rfl rfl r1.rT rfl (y_chrG r1.2 (by omega) q3.1) (by first | decide | omega) rfl ?_
    rw [show f at_ = chA n f at_ from (if_pos q3.1).symm]
    refine s_bip (p' := 41) rfl rfl ?_
    refine s_sp (p' := 42) (ls' := _) rfl rfl rfl ?_
    rw [mI_sub (by omega)]
    refine s_iret rfl rfl ?_
    exact Or.inl ⟨q, _, rfl, r1, m1⟩
  · rw [show nI (bN (vB (chA n f at_))) = nI 0 from by rw [Bool.eq_false_iff.mpr q]; rfl]
    refine c_call (p' := 16) (kc := 5) (ls0 := [_, _, _]) rfl rfl rfl rfl rfl (mj_rcv_is r0.1) rfl rfl rfl ?_
    refine ((mj_Wp.mono (y_wt0 HF hn hf r0 (by omega) bx (by omega) hk) (by decide))).imp ?_
    rintro o t
    exact yT_K HF t rfl (fun o t => Or.inr ⟨q, t⟩)
abbrev smC (V N : Nat) (sg : Int32) (k : Nat) : mj_C := .inr (25, [.ref V, .ref N, .int sg, .int (nI k)])
abbrev i2C (f : Nat → Int32) : mj_C := .inl (0, (2, .inl f))
def ySm (h : mj_H) (S V N : Nat) (vf nf : Nat → Int32) (sg : Int32) (k : Nat) : Prop := mj_rd h S = some (smC V N sg k) ∧ mj_rd h V = some (i2C vf) ∧ mj_rd h N = some (i2C nf) ∧ V ≠ N
/-- a term as the reference keeps it -/
def tmR (t : Nat) (v m : Int32) : Prop := (∃ w, w < 8 ∧ t = vT w ∧ v = nI w) ∨ (t < 1000 ∧ v = nI 4294967295 ∧ m = nI t)
theorem ySm.fr {h g : mj_H} {L : List Nat} {S V N k : Nat} {vf nf : Nat → Int32} {sg : Int32} (s : ySm h S V N vf nf sg k) (e : mz_fr L h g) (h1 : S ∉ L) (h2 : V ∉ L) (h3 : N ∉ L) : ySm g S V N vf nf sg k := ⟨e _ h1 _ s.1, e _ h2 _ s.2.1, e _ h3 _ s.2.2.1, s.2.2.2⟩
theorem yR.ne {h : mj_H} {x T n c at_ op a : Nat} {f : Nat → Nat} {d : mj_C} (r : yR h x T n c f at_ op) (hd : mj_rd h a = some d) (hn : ∀ fs, d ≠ .inr (22, fs)) : a ≠ x := fun e => by
  rw [e, r.1] at hd
  exact hn _ (Option.some.inj hd).symm
theorem ySm.nx {h : mj_H} {S V N k x T n c at_ op : Nat} {vf nf : Nat → Int32} {sg : Int32} {f : Nat → Nat} (s : ySm h S V N vf nf sg k) (r : yR h x T n c f at_ op) : S ∉ [x] ∧ V ∉ [x] ∧ N ∉ [x] := by
  simp only [List.mem_singleton]
  exact ⟨r.ne s.1 (fun fs e => by cases e), r.ne s.2.1 (fun fs e => by cases e), r.ne s.2.2.1 (fun fs e => by cases e)⟩
theorem yR.st {h : mj_H} {x T n c at_ op a : Nat} {f : Nat → Nat} {d e : mj_C} (r : yR h x T n c f at_ op) (hd : mj_rd h a = some d) (h1 : ∀ fs, d ≠ .inr (21, fs)) (h2 : ∀ y, d ≠ .inl (1, y)) (h3 : ∀ fs, d ≠ .inr (22, fs)) : yR (h.set a e) x T n c f at_ op := by
  obtain ⟨r1, ok, B, rs, kT, bf, kB, k2⟩ := r
  have n1 : a ≠ T := fun z => by rw [z, kT] at hd; exact h1 _ (Option.some.inj hd).symm
  have n2 : a ≠ B := fun z => by rw [z, kB] at hd; exact h2 _ (Option.some.inj hd).symm
  have n3 : a ≠ x := fun z => by rw [z, r1] at hd; exact h3 _ (Option.some.inj hd).symm
  exact ⟨(rd_setn n3).trans r1, ok, B, rs, (rd_setn n1).trans kT, bf, (rd_setn n2).trans kB, k2⟩
theorem yR.upS {h : mj_H} {x T n c at_ op S V N k : Nat} {f : Nat → Nat} {vf nf vf' : Nat → Int32} {sg : Int32} {d : mj_C} (r : yR h x T n c f at_ op) (s : ySm h S V N vf nf sg k) (_ : mj_rd ((h.set V (i2C vf')).set S d) x = some (.inr (22, [.ref T, .int (nI at_), .int (nI op)]))) : yR ((h.set V (i2C vf')).set S d) x T n c f at_ op := by
  have hVS : V ≠ S := fun e => by have z := s.2.1; rw [e, s.1] at z; cases z
  exact (r.st s.2.1 (fun _ e => by cases e) (fun _ e => by cases e) (fun _ e => by cases e)).st ((rd_setn hVS).trans s.1) (fun _ e => by cases e) (fun _ e => by cases e) (fun _ e => by cases e)
theorem yR.upT {h : mj_H} {x T n c at_ op S V N k : Nat} {f : Nat → Nat} {vf nf vf' : Nat → Int32} {sg : Int32} {d : mj_C} (r : yR h x T n c f at_ op) (s : ySm h S V N vf nf sg k) (_ : mj_rd ((h.set N (i2C vf')).set S d) x = some (.inr (22, [.ref T, .int (nI at_), .int (nI op)]))) : yR ((h.set N (i2C vf')).set S d) x T n c f at_ op := by
  have hNS : N ≠ S := fun e => by have z := s.2.2.1; rw [e, s.1] at z; cases z
  exact (r.st s.2.2.1 (fun _ e => by cases e) (fun _ e => by cases e) (fun _ e => by cases e)).st ((rd_setn hNS).trans s.1) (fun _ e => by cases e) (fun _ e => by cases e) (fun _ e => by cases e)
theorem mo00x {L : List Nat} {k z : Nat} {h g l : mj_H} (e : mz_mo L 0 0 h g) (f : mz_mo L k z g l) : mz_mo L k z h l := e.tr f (fun y hy => Or.inl hy) (by omega) (by omega)
theorem y_nmL {x T n c op S : Nat} {f : Nat → Nat} (hn : n ≤ 60) (hf : ∀ j, j < n → f j < 65536) (bx : x < mj_CB) {Q : mj_O × mj_H → Prop} : ∀ (d i at_ t : Nat) (h : mj_H), d + i = 3 → at_ + d ≤ 95 → yR h x T n c f at_ op → (∀ (i : Nat) (h' : mj_H), yR h' x T n c f (rNum (chA n f) d at_ t).2 op → mz_mo [x] 0 0 h h' → mj_Wp 8 331 (101, [some (.ref x), some (.ref S), some (.int (nI (rNum (chA n f) d at_ t).1)), some (.int (nI i))], [], h') Q) → mj_Wp 8 331 (53, [some (.ref x), some (.ref S), some (.int (nI t)), some (.int (nI i))], [], h) Q
  | 0, i, at_, t, h, hi, ha, r0, hq => by
    obtain rfl : i = 3 := by omega
    refine s_ildn (p' := 54) rfl rfl rfl ?_
    refine s_con (p' := 55) rfl rfl ?_
    refine s_icmp (p' := 101) true rfl ((ci_ge (by omega) (by omega)).trans (decide_eq_true (by omega))) rfl ?_
    exact hq 3 h r0 (mz_mo.rf _ _ _ _)
  | d + 1, i, at_, t, h, hi, ha, r0, hq => by
    have m0 : mz_mo [x] 0 0 h h := mz_mo.rf _ _ _ _
    have ih := y_nmL (T := T) (c := c) (op := op) (S := S) hn hf bx (Q := Q) d (i + 1) (at_ + 1) (10 * t + (chA n f at_ - 48))
    refine s_ildn (p' := 54) rfl rfl rfl ?_
    refine s_con (p' := 55) rfl rfl ?_
    refine s_icmp (p' := 58) false rfl ((ci_ge (by omega) (by omega)).trans (decide_eq_false (by omega))) rfl ?_
    refine s_aldn (p' := 59) rfl rfl rfl ?_
    refine s_callV (p' := 62) (ls0 := [_]) rfl rfl rfl rfl rfl (mj_rcv_is r0.1) rfl (y_now hn hf r0 (by omega)) (by first | decide | omega) rfl ?_
    refine s_bip (p' := 64) rfl rfl ?_
    refine s_bip (p' := 66) rfl rfl ?_
    refine s_callV (p' := 69) (ls0 := [_, _, _]) rfl rfl rfl rfl rfl rfl rfl (y_btw (nwc_le (chA_le hf _)) (by decide) (by decide)) (by first | decide | omega) rfl ?_
    rw [bw_d (chA_le hf _)]
    by_cases q : dB (chA n f at_) = true
    · refine s_if (p' := 72) false rfl (by rw [q]; rfl) rfl ?_
      refine s_bip (p' := 74) rfl rfl ?_
      refine s_ildn (p' := 75) rfl rfl rfl ?_
      have q2 := dB_lt q
      refine s_sp (p' := 76) (ls' := _) rfl rfl rfl ?_
      rw [mI_mul]
      refine s_aldn (p' := 77) rfl rfl rfl ?_
      refine s_callV (p' := 80) (ls0 := [_]) rfl rfl rfl rfl rfl (mj_rcv_is r0.1) rfl (y_now hn hf r0 (by omega)) (by first | decide | omega) rfl ?_
      refine s_sp (p' := 81) (ls' := _) rfl rfl rfl ?_
      rw [nwc_lt (by omega), mI_add]
      refine s_bip (p' := 83) rfl rfl ?_
      refine s_sp (p' := 84) (ls' := _) rfl rfl rfl ?_
      rw [mI_sub (by omega), show 10 * t + chA n f at_ - 48 = 10 * t + (chA n f at_ - 48) by omega]
      refine s_istn (p' := 85) (ls' := [_, _, _, _]) rfl rfl rfl rfl ?_
      refine s_aldn (p' := 86) rfl rfl rfl ?_
      refine s_sp (p' := 87) (ls' := _) rfl rfl rfl ?_
      refine s_gf (p' := 90) rfl r0.1 rfl rfl ?_
      refine s_con (p' := 91) rfl rfl ?_
      refine s_sp (p' := 92) (ls' := _) rfl rfl rfl ?_
      rw [mI_add]
      refine s_pf (p' := 95) (fs' := [_, _, _]) rfl bx r0.1 (Nat.blt_eq.mp rfl) rfl rfl rfl ?_
      generalize hg1 : List.set h x _ = h1
      have r1 : yR h1 x T n c f (at_ + 1) op := by rw [← hg1]; exact r0.up (mz_fr.s (by simp) (mz_fr.rf _ _)) (rd_set bx r0.1)
      have m1 : mz_mo [x] 0 0 h h1 := by rw [← hg1]; exact mz_mo.s m0 bx r0.1 rfl (Or.inl (by simp))
      clear hg1
      refine s_inc (p' := 98) (ls' := [_, _, _, _]) rfl rfl rfl rfl rfl ?_
      rw [mI_add]
      refine s_goto (p' := 53) rfl rfl ?_
      rw [show rNum (chA n f) (d + 1) at_ t = rNum (chA n f) d (at_ + 1) (10 * t + (chA n f at_ - 48)) from if_pos q] at hq
      exact ih h1 (by omega) (by omega) r1 (fun i h' q1 q4 => hq i h' q1 (mo00x m1 q4))
    · refine s_if (p' := 101) true rfl (by rw [Bool.eq_false_iff.mpr q]; rfl) rfl ?_
      rw [show rNum (chA n f) (d + 1) at_ t = (t, at_) from if_neg q] at hq
      exact hq i h r0 (mz_mo.rf _ _ _ _)
theorem y_trm {fC : Int32 → Int32 → mj_C} (HF : HFl fC) {h : mj_H} {x T n c at_ op : Nat} {f : Nat → Nat} (hn : n ≤ 60) (hf : ∀ j, j < n → f j < 65536) (r0 : yR h x T n c f at_ op) (ha : at_ ≤ 90) (bx : x < mj_CB) (hb : h.length + 20 < mj_CB) {S V N k : Nat} {vf nf : Nat → Int32} {sg : Int32} (bS : S < mj_CB) (bV : V < mj_CB) (bNn : N < mj_CB) (s0 : ySm h S V N vf nf sg k) (hk : k < 2) (hvk : vf k = nI 4294967295) : mj_Wp 8 331 (0, [some (.ref x), some (.ref S), none, none], [], h) (fun o => (∃ t a1 h' vf' nf', rTerm (chA n f) at_ = .inr (t, a1) ∧ o = (.inl none, h') ∧ yR h' x T n c f a1 op ∧ ySm h' S V N vf' nf' sg (k + 1) ∧ (∀ j, j ≠ k → vf' j = vf j ∧ nf' j = nf j) ∧ tmR t (vf' k) (nf' k) ∧ mz_mo [x, S, V, N] 0 0 h h') ∨ (∃ e, rTerm (chA n f) at_ = .inl e ∧ yT fC 1 8 h x e o)) := by
  have m0 : mz_mo [x] 0 0 h h := mz_mo.rf _ _ _ _
  refine s_aldn (p' := 1) rfl rfl rfl ?_
  refine s_callV (p' := 4) (ls0 := [_]) rfl rfl rfl rfl rfl (mj_rcv_is r0.1) rfl (y_now hn hf r0 (by omega)) (by first | decide | omega) rfl ?_
  refine s_bip (p' := 6) rfl rfl ?_
  refine s_bip (p' := 8) rfl rfl ?_
  refine s_callV (p' := 11) (ls0 := [_, _, _]) rfl rfl rfl rfl rfl rfl rfl (y_btw (nwc_le (chA_le hf _)) (by decide) (by decide)) (by first | decide | omega) rfl ?_
  rw [bw_v (chA_le hf _)]
  by_cases q : vB (chA n f at_) = true
  · refine s_if (p' := 14) false rfl (by rw [q]; rfl) rfl ?_
    refine s_aldn (p' := 15) rfl rfl rfl ?_
    refine s_gf (p' := 18) rfl s0.1 rfl rfl ?_
    refine s_aldn (p' := 19) rfl rfl rfl ?_
    refine s_gf (p' := 22) rfl s0.1 rfl rfl ?_
    refine s_aldn (p' := 23) rfl rfl rfl ?_
    refine s_bip (p' := 25) rfl rfl ?_
    refine c_call (p' := 28) (kc := 7) (ls0 := [_, _]) rfl rfl rfl rfl rfl (mj_rcv_is r0.1) rfl rfl rfl ?_
    refine ((y_var HF hn hf r0 ha bx hb (by decide))).imp ?_
    rintro _ (⟨q1, h1, rfl, r1, m1⟩ | ⟨q1, t⟩)
    rotate_left
    · exact absurd q q1
    show mj_Wp _ _ (28, _, _, _) _
    have s1 := s0.fr m1.1 (s0.nx r0).1 (s0.nx r0).2.1 (s0.nx r0).2.2
    have hVS : V ≠ S := fun e => by have z := s1.2.1; rw [e, s1.1] at z; cases z
    have hNS : N ≠ S := fun e => by have z := s1.2.2.1; rw [e, s1.1] at z; cases z
    have hxs := s1.nx r1
    simp only [List.mem_singleton] at hxs
    refine s_ias (p' := 29) rfl bV s1.2.1 (inb_nI (by omega) (by omega)) rfl ?_
    rw [mI_cl (by omega)]
    refine s_goto (p' := 111) rfl rfl ?_
    refine s_aldn (p' := 112) rfl rfl rfl ?_
    refine s_sp (p' := 113) (ls' := _) rfl rfl rfl ?_
    refine s_gf (p' := 116) rfl ((rd_setn hVS).trans s1.1) rfl rfl ?_
    refine s_con (p' := 117) rfl rfl ?_
    refine s_sp (p' := 118) (ls' := _) rfl rfl rfl ?_
    rw [mI_add]
    refine s_pf (p' := 121) (fs' := [_, _, _, _]) rfl bS ((rd_setn hVS).trans s1.1) (Nat.blt_eq.mp rfl) rfl rfl rfl ?_
    refine s_ret rfl ?_
    have k1 : mj_rd ((h1.set V (i2C (upd vf k (nI (chA n f at_ - 97))))).set S (smC V N sg (k + 1))) x = some (.inr (22, [.ref T, .int (nI (at_ + 1)), .int (nI op)])) := (rd_setn hxs.1).trans ((rd_setn hxs.2.1).trans r1.1)
    refine Or.inl ⟨vT (chA n f at_ - 97), at_ + 1, _, upd vf k (nI (chA n f at_ - 97)), nf, if_pos q, rfl, ?_, ⟨rd_set bS ((rd_setn hVS).trans s1.1), (rd_setn (Ne.symm hVS)).trans (rd_set bV s1.2.1), (rd_setn (Ne.symm hNS)).trans ((rd_setn s1.2.2.2).trans s1.2.2.1), s1.2.2.2⟩, fun j hj => ⟨if_neg hj, rfl⟩, Or.inl ⟨chA n f at_ - 97, by have := vB_lt q; omega, rfl, if_pos rfl⟩, mz_mo.s (mz_mo.s (m1.wk (fun y hy => Or.inl (by simp at hy; simp [hy])) (by omega) (by omega)) bV s1.2.1 rfl (Or.inl (by simp))) bS ((rd_setn hVS).trans s1.1) rfl (Or.inl (by simp))⟩
    exact r1.upS s1 k1
  · refine s_if (p' := 32) true rfl (by rw [Bool.eq_false_iff.mpr q]; rfl) rfl ?_
    refine s_aldn (p' := 33) rfl rfl rfl ?_
    refine s_aldn (p' := 34) rfl rfl rfl ?_
    refine s_callV (p' := 37) (ls0 := [_]) rfl rfl rfl rfl rfl (mj_rcv_is r0.1) rfl (y_now hn hf r0 (by omega)) (by first | decide | omega) rfl ?_
    refine s_bip (p' := 39) rfl rfl ?_
    refine s_bip (p' := 41) rfl rfl ?_
    refine s_callV (p' := 44) (ls0 := [_, _, _]) rfl rfl rfl rfl rfl rfl rfl (y_btw (nwc_le (chA_le hf _)) (by decide) (by decide)) (by first | decide | omega) rfl ?_
    rw [bw_d (chA_le hf _)]
    refine s_bip (p' := 46) rfl rfl ?_
    by_cases q3 : dB (chA n f at_) = true
    · rw [show nI (bN (dB (chA n f at_))) = nI 1 from by rw [q3]; rfl]
      refine s_callN (p' := 49) (ls0 := [_, _, _]) rfl rfl rfl rfl rfl (mj_rcv_is r0.1) rfl y_wt1 (by first | decide | omega) rfl ?_
      refine s_con (p' := 50) rfl rfl ?_
      refine s_istn (p' := 51) (ls' := [_, _, _, _]) rfl rfl rfl rfl ?_
      refine s_con (p' := 52) rfl rfl ?_
      refine s_istn (p' := 53) (ls' := [_, _, _, _]) rfl rfl rfl rfl ?_
      have q4 : at_ ≤ n := by have := dB_lt q3; have := chA_lt hf (a := at_) (by omega); omega
      refine y_nmL hn hf bx 3 0 at_ 0 h rfl (by omega) r0 (fun i h1 r1 m1 => ?_)
      have s1 := s0.fr m1.1 (s0.nx r0).1 (s0.nx r0).2.1 (s0.nx r0).2.2
      have hVS : V ≠ S := fun e => by have z := s1.2.1; rw [e, s1.1] at z; cases z
      have hNS : N ≠ S := fun e => by have z := s1.2.2.1; rw [e, s1.1] at z; cases z
      have hxs := s1.nx r1
      simp only [List.mem_singleton] at hxs
      refine s_aldn (p' := 102) rfl rfl rfl ?_
      refine s_gf (p' := 105) rfl s1.1 rfl rfl ?_
      refine s_aldn (p' := 106) rfl rfl rfl ?_
      refine s_gf (p' := 109) rfl s1.1 rfl rfl ?_
      refine s_ildn (p' := 110) rfl rfl rfl ?_
      refine s_ias (p' := 111) rfl bNn s1.2.2.1 (inb_nI (by omega) (by omega)) rfl ?_
      rw [mI_cl (by omega)]
      refine s_aldn (p' := 112) rfl rfl rfl ?_
      refine s_sp (p' := 113) (ls' := _) rfl rfl rfl ?_
      refine s_gf (p' := 116) rfl ((rd_setn hNS).trans s1.1) rfl rfl ?_
      refine s_con (p' := 117) rfl rfl ?_
      refine s_sp (p' := 118) (ls' := _) rfl rfl rfl ?_
      rw [mI_add]
      refine s_pf (p' := 121) (fs' := [_, _, _, _]) rfl bS ((rd_setn hNS).trans s1.1) (Nat.blt_eq.mp rfl) rfl rfl rfl ?_
      refine s_ret rfl ?_
      have k1 : mj_rd ((h1.set N (i2C (upd nf k (nI (rNum (chA n f) 3 at_ 0).1)))).set S (smC V N sg (k + 1))) x = some (.inr (22, [.ref T, .int (nI (rNum (chA n f) 3 at_ 0).2), .int (nI op)])) := (rd_setn hxs.1).trans ((rd_setn hxs.2.2).trans r1.1)
      refine Or.inl ⟨(rNum (chA n f) 3 at_ 0).1, (rNum (chA n f) 3 at_ 0).2, _, vf, upd nf k (nI (rNum (chA n f) 3 at_ 0).1), by unfold rTerm; rw [if_neg q, if_pos q3], rfl, ?_, ⟨rd_set bS ((rd_setn hNS).trans s1.1), (rd_setn (Ne.symm hVS)).trans ((rd_setn (Ne.symm s1.2.2.2)).trans s1.2.1), (rd_setn (Ne.symm hNS)).trans (rd_set bNn s1.2.2.1), s1.2.2.2⟩, fun j hj => ⟨rfl, if_neg hj⟩, Or.inr ⟨by have := (rNum_b (chA_ok n f) 3 at_ 0 q4).2.2.2; omega, hvk, if_pos rfl⟩, mz_mo.s (mz_mo.s (m1.wk (fun y hy => Or.inl (by simp at hy; simp [hy])) (by omega) (by omega)) bNn s1.2.2.1 rfl (Or.inl (by simp))) bS ((rd_setn hNS).trans s1.1) rfl (Or.inl (by simp))⟩
      exact r1.upT s1 k1
    · rw [show nI (bN (dB (chA n f at_))) = nI 0 from by rw [Bool.eq_false_iff.mpr q3]; rfl]
      refine c_call (p' := 49) (kc := 5) (ls0 := [_, _, _]) rfl rfl rfl rfl rfl (mj_rcv_is r0.1) rfl rfl rfl ?_
      refine ((mj_Wp.mono (y_wt0 HF hn hf r0 (by omega) bx (by omega) (by decide)) (by decide))).imp ?_
      rintro o t
      exact yT_K HF t rfl (fun o t => Or.inr ⟨_, by unfold rTerm; rw [if_neg q, if_neg q3], t⟩)
