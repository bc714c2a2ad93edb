/-! The reference reads: signs, terms, tests. -/
/-- what 'new Fault(place, kind)' is to do, up to its throw -/
def HFl (fC : Int32 → Int32 → mj_C) : Prop :=
  (∀ p k, ∃ fs, fC p k = .inr (23, fs)) ∧
  (∀ (k : Nat) (h : mj_H) (x T at_ op kd : Nat) (v1 : Option Value) (Q : mj_O × mj_H → Prop), x < mj_CB → h.length + 10 < mj_CB → kd < 65536 → mj_rd h x = some (.inr (22, [.ref T, .int (nI at_), .int (nI op)])) → Q (.inr h.length, h ++ [fC (nI at_) (nI kd)]) → mj_Wp k 314 (4, [some (.ref x), v1, some (.int (nI kd))], [], h) Q) ∧
  (∀ (k : Nat) (h : mj_H) (x T at_ op : Nat) (v1 v2 v3 : Option Value) (Q : mj_O × mj_H → Prop), x < mj_CB → h.length + 10 < mj_CB → mj_rd h x = some (.inr (22, [.ref T, .int (nI at_), .int (nI op)])) → Q (.inr h.length, h ++ [fC (nI at_ - nI 1) (nI 114)]) → mj_Wp k 312 (96, [some (.ref x), v1, v2, v3], [], h) Q) ∧
  (∀ (k : Nat) (h : mj_H) (b : Nat) (v0 v2 v3 : Option Value) (Q : mj_O × mj_H → Prop), h.length + 10 < mj_CB → Q (.inr h.length, h ++ [fC (nI b) (nI 114)]) → mj_Wp k 312 (192, [v0, some (.int (nI b)), v2, v3], [], h) Q)
/-- the reader at x: it stands at at_, op brackets are open, its text has n chars f -/
def yR (h : mj_H) (x T n c : Nat) (f : Nat → Nat) (at_ op : Nat) : Prop := mj_rd h x = some (.inr (22, [.ref T, .int (nI at_), .int (nI op)])) ∧ yStr h T n c f
theorem yR.up {h g : mj_H} {x T n c at_ op at' op' : Nat} {f : Nat → Nat} (r : yR h x T n c f at_ op) (e : mz_fr [x] h g) (hx : mj_rd g x = some (.inr (22, [.ref T, .int (nI at'), .int (nI op')]))) : yR g x T n c f at' op' := by
  refine ⟨hx, r.2.fr e (fun q => ?_) (fun B rs q m => ?_)⟩
  · obtain ⟨_, B, rs, kT, _⟩ := r.2
    rw [List.mem_singleton.mp q, r.1] at kT
    cases kT
  · obtain ⟨_, B', rs', kT, bf, kB, _⟩ := r.2
    rw [kT] at q
    have e2 := Value.ref.inj (List.cons.inj (congrArg Prod.snd (Sum.inr.inj (Option.some.inj q)))).1
    rw [e2, List.mem_singleton.mp m, r.1] at kB
    cases kB
/-- a fault thrown: letter, place -/
def yT (fC : Int32 → Int32 → mj_C) (K Z : Nat) (h : mj_H) (x : Nat) (e : Nat × Nat) (o : mj_O × mj_H) : Prop := ∃ (q : Nat) (h' : mj_H), o = (.inr q, h') ∧ q < mj_CB ∧ h.length ≤ q ∧ mj_rd h' q = some (fC (nI e.2) (nI e.1)) ∧ mz_mo [x] K Z h h'
theorem yT.tr {fC : Int32 → Int32 → mj_C} {K Z K1 Z1 K2 Z2 x : Nat} {h g : mj_H} {e : Nat × Nat} {o : mj_O × mj_H} (m : mz_mo [x] K1 Z1 h g) (hk : K1 + K2 ≤ K) (hz : Z1 + Z2 ≤ Z) : yT fC K2 Z2 g x e o → yT fC K Z h x e o
  | ⟨q, h', a, b, c, d, m2⟩ => ⟨q, h', a, b, Nat.le_trans m.2.1 c, d, m.tr m2 (fun y hy => Or.inl hy) hk hz⟩
/-- a sign as a char: 0 behind the end -/
def nwc (c : Nat) : Nat := if c = 70000 then 0 else c
theorem nwc_lt {c : Nat} (h : c < 70000) : nwc c = c := if_neg (by omega)
theorem nwc_eq {c w : Nat} (hw : 0 < w) (h2 : w < 70000) : nwc c = w ↔ c = w := by
  unfold nwc
  split <;> omega
theorem nwc_le {c : Nat} (h : c ≤ 70000) : nwc c ≤ 70000 := by
  unfold nwc
  split <;> omega
theorem y_lenG {h : mj_H} {T n c : Nat} {f : Nat → Nat} (hT : yStr h T n c f) (hn : n ≤ 300) : mj_run 1 241 (0, [some (.ref T)], [], h) (.inl (some (.int (nI n))), h) := by
  have hc := hT.1.1
  obtain rfl | rfl : c = 0 ∨ c = 1 := by omega
  · exact y_len0 hT hn
  · exact y_len1 hT hn
theorem y_chrG {h : mj_H} {T n c i : Nat} {f : Nat → Nat} (hT : yStr h T n c f) (hn : n ≤ 300) (hi : i < n) : mj_run 5 306 (0, [some (.ref T), some (.int (nI i))], [], h) (.inl (some (.int (nI (f i)))), h) := by
  have hc := hT.1.1
  obtain rfl | rfl : c = 0 ∨ c = 1 := by omega
  · exact mj_Wp.mono (y_chr0 hT hn hi) (by decide)
  · exact y_chr1 hT hn hi
theorem yR.rT {h : mj_H} {x T n c at_ op : Nat} {f : Nat → Nat} {as : List Value} : yR h x T n c f at_ op → mj_rcv 22 (.ref T :: as) h = true
  | ⟨_, r⟩ => by
    obtain ⟨B, rs, k⟩ := r.nB
    exact mj_rcv_is k
theorem y_now {h : mj_H} {x T n c at_ op : Nat} {f : Nat → Nat} (hn : n ≤ 60) (hf : ∀ j, j < n → f j < 65536) (r0 : yR h x T n c f at_ op) (ha : at_ ≤ 100) : mj_run 6 305 (0, [some (.ref x)], [], h) (.inl (some (.int (nI (nwc (chA n f at_))))), h) := by
  refine s_aldn (p' := 1) rfl rfl rfl ?_
  refine s_gf (p' := 4) rfl r0.1 rfl rfl ?_
  refine s_aldn (p' := 5) rfl rfl rfl ?_
  refine s_gf (p' := 8) rfl r0.1 rfl rfl ?_
  refine s_callV (p' := 11) (ls0 := [_]) rfl rfl rfl rfl rfl r0.rT rfl (y_lenG r0.2 (by omega)) (by first | decide | omega) rfl ?_
  by_cases q : at_ < n
  · refine s_icmp (p' := 14) false rfl ((ci_ge (by omega) (by omega)).trans (decide_eq_false (by omega))) rfl ?_
    refine s_aldn (p' := 15) rfl rfl rfl ?_
    refine s_gf (p' := 18) rfl r0.1 rfl rfl ?_
    refine s_aldn (p' := 19) rfl rfl rfl ?_
    refine s_gf (p' := 22) rfl r0.1 rfl rfl ?_
    refine s_callV (p' := 25) (ls0 := [_, _]) rfl rfl rfl rfl rfl r0.rT rfl (y_chrG r0.2 (by omega) q) (by first | decide | omega) rfl ?_
    refine s_goto (p' := 29) rfl rfl ?_
    exact s_iret rfl (chr_ok (hf at_ q)) (by unfold chA; rw [if_pos q, nwc_lt (by have := hf at_ q; omega)])
  · refine s_icmp (p' := 28) true rfl ((ci_ge (by omega) (by omega)).trans (decide_eq_true (by omega))) rfl ?_
    refine s_con (p' := 29) rfl rfl ?_
    exact s_iret rfl (by decide +kernel) (by unfold chA; rw [if_neg q]; rfl)
theorem y_btw {h : mj_H} {a lo hi : Nat} (ha : a ≤ 70000) (hl : lo ≤ 70000) (hh : hi ≤ 70000) : mj_run 0 311 (0, [some (.int (nI a)), some (.int (nI lo)), some (.int (nI hi))], [], h) (.inl (some (.int (nI (bN (decide (lo ≤ a ∧ a ≤ hi)))))), h) := by
  refine s_ildn (p' := 1) rfl rfl rfl ?_
  refine s_ildn (p' := 2) rfl rfl rfl ?_
  by_cases q : a < lo
  · refine s_icmp (p' := 14) true rfl ((ci_gt (by omega) (by omega)).trans (decide_eq_true (by omega))) rfl ?_
    refine s_con (p' := 15) rfl rfl ?_
    exact s_iret rfl rfl (by rw [decide_eq_false (by omega)]; rfl)
  · refine s_icmp (p' := 5) false rfl ((ci_gt (by omega) (by omega)).trans (decide_eq_false (by omega))) rfl ?_
    refine s_ildn (p' := 6) rfl rfl rfl ?_
    refine s_ildn (p' := 7) rfl rfl rfl ?_
    by_cases q2 : hi < a
    · refine s_icmp (p' := 14) true rfl ((ci_gt (by omega) (by omega)).trans (decide_eq_true (by omega))) rfl ?_
      refine s_con (p' := 15) rfl rfl ?_
      exact s_iret rfl rfl (by rw [decide_eq_false (by omega)]; rfl)
    · refine s_icmp (p' := 10) false rfl ((ci_gt (by omega) (by omega)).trans (decide_eq_false (by omega))) rfl ?_
      refine s_con (p' := 11) rfl rfl ?_
      refine s_goto (p' := 15) rfl rfl ?_
      exact s_iret rfl rfl (by rw [decide_eq_true (by omega)]; rfl)
theorem bw_v {c : Nat} (h : c ≤ 70000) : decide (97 ≤ nwc c ∧ nwc c ≤ 104) = vB c := by
  unfold vB nwc
  refine decide_eq_decide.mpr ?_
  split <;> omega
theorem bw_d {c : Nat} (h : c ≤ 70000) : decide (48 ≤ nwc c ∧ nwc c ≤ 57) = dB c := by
  unfold dB nwc
  refine decide_eq_decide.mpr ?_
  split <;> omega
theorem y_wt1 {h : mj_H} {x : Nat} {kd : Int32} : mj_run 0 314 (0, [some (.ref x), some (.int (nI 1)), some (.int kd)], [], h) (.inl none, h) := by
  refine s_ildn (p' := 1) rfl rfl rfl ?_
  refine s_if (p' := 17) true rfl (by decide +kernel) rfl ?_
  exact s_ret rfl rfl
theorem fC_cs {fC : Int32 → Int32 → mj_C} (HF : HFl fC) (p k : Int32) : mj_cs (fC p k) = 8 := by
  obtain ⟨fs, e⟩ := HF.1 p k
  rw [e]
  rfl
theorem y_wt {fC : Int32 → Int32 → mj_C} (HF : HFl fC) {h : mj_H} {x T n c at_ op : Nat} {f : Nat → Nat} (hn : n ≤ 60) (hf : ∀ j, j < n → f j < 65536) (r0 : yR h x T n c f at_ op) (ha : at_ ≤ 90) (bx : x < mj_CB) (hb : h.length + 20 < mj_CB) {b : Bool} {kd : Nat} (hk : kd < 65536) : mj_Wp 1 314 (0, [some (.ref x), some (.int (nI (bN b))), some (.int (nI kd))], [], h) (fun o => (b = true ∧ o = (.inl none, h)) ∨ (b = false ∧ yT fC 1 8 h x (kd, at_) o)) := by
  cases b with
  | true => exact mj_Wp.mono (y_wt1.imp fun o e => Or.inl ⟨rfl, e⟩) (by decide)
  | false =>
    refine s_ildn (p' := 1) rfl rfl rfl ?_
    refine s_if (p' := 4) false rfl (by decide +kernel) rfl ?_
    refine HF.2.1 1 h x T at_ op kd _ _ bx (by omega) hk r0.1 (Or.inr ⟨rfl, h.length, _, rfl, by omega, Nat.le_refl _, rd_nw (Nat.blt_eq.mpr (by omega)) rfl, ?_⟩)
    exact (mz_mo.ap [x] h _).wk (fun y hy => Or.inl hy) (Nat.le_refl _) (Nat.le_of_eq (fC_cs HF _ _))
