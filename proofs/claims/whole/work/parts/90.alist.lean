/-! Lists of objects. -/
theorem set_id {h : mj_H} {a : Nat} {c : mj_C} (ha : a < mj_CB) (hr : mj_rd h a = some c) : h.set a c = h := by
  rw [rd_lt ha] at hr
  obtain ⟨q, e⟩ := List.getElem?_eq_some_iff.mp hr
  rw [← e]
  exact List.set_getElem_self q
abbrev objs (f : Nat → Option Nat) : (Nat → Int32) ⊕ (Nat → Int64) ⊕ (Nat → UInt32) ⊕ (Nat → UInt64) ⊕ (Nat → Option Nat) := .inr (.inr (.inr (.inr f)))
/-- changes but the cells of a list, grows by at most k cells and z slots -/
def mz_mo (L : List Nat) (k z : Nat) (h h' : mj_H) : Prop := mz_fr L h h' ∧ h.length ≤ h'.length ∧ h'.length ≤ h.length + k ∧ mj_sz h' ≤ mj_sz h + z
theorem mz_mo.rf (L : List Nat) (k z : Nat) (h : mj_H) : mz_mo L k z h h := ⟨mz_fr.rf L h, Nat.le_refl _, Nat.le_add_right _ _, Nat.le_add_right _ _⟩
theorem mz_fr.tr2 {L L' : List Nat} {h g l : mj_H} (e : mz_fr L h g) (f : mz_fr L' g l) (hs : ∀ x, x ∈ L' → x ∈ L ∨ h.length ≤ x) : mz_fr L h l := fun x hx c q => by
  by_cases b : x < mj_CB
  · refine f x (fun hm => ?_) c (e x hx c q)
    rcases hs x hm with a | a
    · exact hx a
    · have := rd_len b q
      omega
  · unfold mj_rd at q ⊢
    rw [if_neg b] at q ⊢
    exact q
theorem mz_mo.tr {L L' : List Nat} {k z a x b y : Nat} {h g l : mj_H} (e : mz_mo L a x h g) (f : mz_mo L' b y g l) (hs : ∀ x, x ∈ L' → x ∈ L ∨ h.length ≤ x) (hk : a + b ≤ k) (hz : x + y ≤ z) : mz_mo L k z h l :=
  ⟨e.1.tr2 f.1 hs, Nat.le_trans e.2.1 f.2.1, by have := e.2.2.1; have := f.2.2.1; omega, by have := e.2.2.2; have := f.2.2.2; omega⟩
theorem mz_mo.wk {L L' : List Nat} {k z a x : Nat} {h g : mj_H} (e : mz_mo L a x h g) (hs : ∀ y, y ∈ L → y ∈ L' ∨ h.length ≤ y) (hk : a ≤ k) (hz : x ≤ z) : mz_mo L' k z h g :=
  (mz_mo.rf L' 0 0 h).tr e hs (by omega) (by omega)
theorem mz_mo.ap (L : List Nat) (h : mj_H) (c : mj_C) : mz_mo L 1 (mj_cs c) h (h ++ [c]) :=
  ⟨fun _ _ _ q => rd_app q, by rw [List.length_append]; exact Nat.le_add_right _ _, by rw [List.length_append]; exact Nat.le_refl _, by rw [mj_sz_push]; omega⟩
theorem mz_mo.st {h : mj_H} {a : Nat} {c d : mj_C} (ha : a < mj_CB) (hr : mj_rd h a = some d) (hc : mj_cs c = mj_cs d) : mz_mo [a] 0 0 h (h.set a c) :=
  ⟨fun x hx e q => (rd_setn (fun y => hx (by rw [y]; exact List.mem_singleton.mpr rfl))).trans q, by rw [List.length_set]; exact Nat.le_refl _, by rw [List.length_set]; exact Nat.le_refl _, by
    rw [rd_lt ha] at hr
    rw [mj_sz_set h a c d hr hc]
    exact Nat.le_refl _⟩
theorem mz_mo.s {L : List Nat} {k z : Nat} {h g : mj_H} {a : Nat} {c d : mj_C} (m : mz_mo L k z h g) (ha : a < mj_CB) (hr : mj_rd g a = some d) (hc : mj_cs c = mj_cs d) (hm : a ∈ L ∨ h.length ≤ a) : mz_mo L k z h (g.set a c) :=
  m.tr (mz_mo.st ha hr hc) (fun x hx => by rw [List.mem_singleton.mp hx]; exact hm) (by omega) (by omega)
theorem mz_gr.mo {k z : Nat} {h g : mj_H} (e : mz_gr k z h g) (L : List Nat) : mz_mo L k z h g := ⟨fun x _ c q => e.1 x c q, e.2.1, e.2.2.1, e.2.2.2⟩
theorem mz_mo.gr {k z : Nat} {h g : mj_H} (e : mz_mo [] k z h g) : mz_gr k z h g := ⟨fun x c q => e.1 x (by simp) c q, e.2.1, e.2.2.1, e.2.2.2⟩
theorem mz_fr.A {L : List Nat} {h h' : mj_H} (e : mz_fr L h h') {a : Nat} (ha : a ∉ L) {x : Nat × vp_A} (hr : mj_rdA h a = some x) : mj_rdA h' a = some x := by
  unfold mj_rdA at hr ⊢
  cases hc : mj_rd h a with
  | none =>
    rw [hc] at hr
    cases hr
  | some c =>
    rw [e _ ha _ hc]
    rw [hc] at hr
    exact hr
theorem rdA_lt {h : mj_H} {a : Nat} {t : Nat} {x : vp_A} (hr : mj_rdA h a = some (t, x)) : mj_rd h a = some (.inl (t, x)) := by
  unfold mj_rdA at hr
  split at hr
  · rename_i y hy
    split at hr
    · cases hr
    · rw [hy, Option.some.inj hr]
  · cases hr
/-- fit for a list: an object -/
def gE (h : mj_H) (q : Nat) : Prop := ∃ c fs, mj_rd h q = some (.inr (c, fs)) ∧ mj_aok 6 c = true ∧ c ≠ 18
theorem gE.fr {L : List Nat} {h g : mj_H} {q : Nat} (e : mz_fr L h g) (hq : q ∉ L) : gE h q → gE g q
  | ⟨c, fs, h1, h2, h3⟩ => ⟨c, fs, e q hq _ h1, h2, h3⟩
theorem gE.app {h t : mj_H} {q : Nat} : gE h q → gE (h ++ t) q
  | ⟨c, fs, h1, h2, h3⟩ => ⟨c, fs, rd_app h1, h2, h3⟩
theorem gE.neL {h : mj_H} {q Lr : Nat} {fs : List Value} (hL : mj_rd h Lr = some (.inr (18, fs))) : gE h q → q ≠ Lr
  | ⟨c, gs, h1, _, h3⟩ => fun e => by
    rw [e, hL] at h1
    exact h3 (congrArg Prod.fst (Sum.inr.inj (Option.some.inj h1))).symm
theorem gE.neE {h : mj_H} {q E : Nat} {x : Nat × vp_A} (hE : mj_rd h E = some (.inl x)) : gE h q → q ≠ E
  | ⟨c, gs, h1, _, _⟩ => fun e => by
    rw [e, hE] at h1
    cases h1
theorem gE.st {h : mj_H} {q a : Nat} {c : mj_C} (hn : q ≠ a) : gE h q → gE (h.set a c) q
  | ⟨d, fs, h1, h2, h3⟩ => ⟨d, fs, (rd_setn (Ne.symm hn)).trans h1, h2, h3⟩
theorem gE.rcv {h : mj_H} {q : Nat} : gE h q → ∃ c, mj_ocl h q = some c ∧ mj_aok 6 c = true
  | ⟨c, fs, h1, h2, _⟩ => ⟨c, mj_ocl_is h1, h2⟩
theorem cpq_is {h : mj_H} {f : Nat → Option Nat} {sp n : Nat} (hf : ∀ j, j < n → ∃ q, f (sp + j) = some q ∧ gE h q) : mj_cpq h f sp n = true := by
  unfold mj_cpq
  rw [List.all_eq_true]
  intro j hj
  obtain ⟨q, e, hq⟩ := hf j (List.mem_range.mp hj)
  obtain ⟨c, h1, h2⟩ := hq.rcv
  rw [e]
  dsimp only
  rw [h1]
  exact h2
/-- a list: at Lr, its row at E, n objects f -/
def yLs (h : mj_H) (Lr E n : Nat) (f : Nat → Nat) : Prop := ∃ (cap : Nat) (mc : Int32) (ef : Nat → Option Nat), mj_rd h Lr = some (alC E n mc) ∧ mj_rdA h E = some (6, (cap, objs ef)) ∧ n ≤ cap ∧ cap < 1000 ∧ (E < mj_CB ∧ 0 < cap ∨ E = 1000000 ∧ cap = 0) ∧ ∀ j, j < n → ef j = some (f j) ∧ gE h (f j)
theorem yLs.fr {h g : mj_H} {L : List Nat} {Lr E n : Nat} {f : Nat → Nat} (e : mz_fr L h g) (h1 : Lr ∉ L) (h2 : E ∉ L) (h3 : ∀ j, j < n → f j ∉ L) : yLs h Lr E n f → yLs g Lr E n f
  | ⟨cap, mc, ef, a, b, c, d, i, k⟩ => ⟨cap, mc, ef, e _ h1 _ a, e.A h2 b, c, d, i, fun j hj => ⟨(k j hj).1, (k j hj).2.fr e (h3 j hj)⟩⟩
theorem yLs.cg {h : mj_H} {Lr E n m : Nat} {f g : Nat → Nat} (hn : n = m) (hf : ∀ j, j < n → f j = g j) : yLs h Lr E n f → yLs h Lr E m g
  | ⟨cap, mc, ef, a, b, c, d, i, k⟩ => by
    subst hn
    exact ⟨cap, mc, ef, a, b, c, d, i, fun j hj => hf j hj ▸ k j hj⟩
/-- with one more at the end -/
def upN (f : Nat → Nat) (n q : Nat) : Nat → Nat := fun j => if j = n then q else f j
theorem ls_put {g : mj_H} {Lr E n m cap : Nat} {mc mc' : Int32} {ef ef' : Nat → Option Nat} {f : Nat → Nat} (bL : Lr < mj_CB) (bE : E < mj_CB) (hL : mj_rd g Lr = some (alC E n mc)) (hE : mj_rd g E = some (alE cap ef)) (hn : m ≤ cap) (h0 : 0 < cap) (hc : cap < 1000) (hf : ∀ j, j < m → ef' j = some (f j) ∧ gE g (f j)) : yLs ((g.set E (alE cap ef')).set Lr (alC E m mc')) Lr E m f := by
  have hEL : E ≠ Lr := fun e => by rw [e, hL] at hE; cases hE
  refine ⟨cap, mc', ef', rd_set bL ((rd_setn hEL).trans hL), mj_rdA_is ((rd_setn (Ne.symm hEL)).trans (rd_set bE hE)) (by decide), hn, hc, Or.inl ⟨bE, h0⟩, fun j hj => ?_⟩
  have := hf j hj
  exact ⟨this.1, (this.2.st (this.2.neE hE)).st (this.2.neL hL)⟩
theorem ls_fin {g : mj_H} {Lr E n cap q : Nat} {mc mc' : Int32} {ef : Nat → Option Nat} {f : Nat → Nat} (bL : Lr < mj_CB) (bE : E < mj_CB) (hL : mj_rd g Lr = some (alC E n mc)) (hE : mj_rd g E = some (alE cap ef)) (hn : n < cap) (hc : cap < 1000) (hf : ∀ j, j < n → ef j = some (f j) ∧ gE g (f j)) (hq : gE g q) : yLs ((g.set E (alE cap (va_up ef n (some q)))).set Lr (alC E (n + 1) mc')) Lr E (n + 1) (upN f n q) := by
  refine ls_put bL bE hL hE hn (by omega) hc (fun j hj => ?_)
  unfold va_up upN
  by_cases e : j = n
  · rw [if_pos e, if_pos e]
    exact ⟨rfl, hq⟩
  · rw [if_neg e, if_neg e]
    exact hf j (by omega)
/-- with one more at the start -/
def ups (f : Nat → Nat) (q : Nat) : Nat → Nat := fun j => if j = 0 then q else f (j - 1)
theorem ls_fin0 {g : mj_H} {Lr E n cap q : Nat} {mc mc' : Int32} {ef : Nat → Option Nat} {f : Nat → Nat} (bL : Lr < mj_CB) (bE : E < mj_CB) (hL : mj_rd g Lr = some (alC E n mc)) (hE : mj_rd g E = some (alE cap ef)) (hn : n < cap) (hc : cap < 1000) (hf : ∀ j, j < n → ef j = some (f j) ∧ gE g (f j)) (hq : gE g q) : yLs ((g.set E (alE cap (va_up (va_cpy ef ef 0 1 n) 0 (some q)))).set Lr (alC E (n + 1) mc')) Lr E (n + 1) (ups f q) := by
  refine ls_put bL bE hL hE hn (by omega) hc (fun j hj => ?_)
  unfold va_up ups
  by_cases e : j = 0
  · rw [if_pos e, if_pos e]
    exact ⟨rfl, hq⟩
  · rw [if_neg e, if_neg e]
    unfold va_cpy
    rw [if_pos ⟨by omega, by omega⟩, Nat.zero_add]
    exact hf (j - 1) (by omega)
theorem mI_min {a b : Nat} (ha : a < 2147483648) (hb : b < 2147483648) : (if nI b < nI a then nI b else nI a) = nI (min a b) := by
  by_cases q : b < a
  · rw [if_pos ((mI_lt hb ha).mpr q), Nat.min_eq_right (by omega)]
  · rw [if_neg (fun z => q ((mI_lt hb ha).mp z)), Nat.min_eq_left (by omega)]
theorem mI_max {a b : Nat} (ha : a < 2147483648) (hb : b < 2147483648) : (if nI a < nI b then nI b else nI a) = nI (max a b) := by
  by_cases q : a < b
  · rw [if_pos ((mI_lt ha hb).mpr q), Nat.max_eq_right (by omega)]
  · rw [if_neg (fun z => q ((mI_lt ha hb).mp z)), Nat.max_eq_left (by omega)]
theorem y_cp3 {h : mj_H} {N E cap m : Nat} {ef : Nat → Option Nat} (hN : h.length = N) (hb : N + 10 < mj_CB) (hE : mj_rdA h E = some (6, (cap, objs ef))) (hm : m < 2000) (hc : cap < 2000) (hf : ∀ j, j < min cap m → ∃ q, ef j = some q ∧ gE h q) : mj_run 2 342 (0, [some (.ref E), some (.int (nI m)), some (.ref 1000004), none], [], h) (.inl (some (.ref N)), ((h ++ [(.inl (6, mj_arr0 6 m) : mj_C)]).set N (.inl (6, (m, objs (va_cpy ef (fun _ => none) 0 0 (min cap m))))))) := by
  refine s_aldn (p' := 1) rfl rfl rfl ?_
  refine s_sh (p' := 3) (ls' := _) (st' := .ref 1000004 :: _) (h' := _) rfl rfl rfl rfl ?_
  refine s_sp (p' := 6) (ls' := _) rfl rfl rfl ?_
  refine s_ildn (p' := 7) rfl rfl rfl ?_
  refine s_anaz (p' := 10) (a := N) (n := m) rfl hN (Nat.ble_eq.mpr (by omega)) rfl ?_
  refine s_goto (p' := 24) rfl rfl ?_
  refine s_astn (p' := 25) (ls' := [_, _, _, _]) rfl rfl rfl rfl ?_
  refine s_aldn (p' := 26) rfl rfl rfl ?_
  refine s_con (p' := 27) rfl rfl ?_
  refine s_aldn (p' := 28) rfl rfl rfl ?_
  refine s_con (p' := 29) rfl rfl ?_
  refine s_aldn (p' := 30) rfl rfl rfl ?_
  refine s_len (p' := 31) rfl (rdA_app hE) (by decide) rfl ?_
  refine s_ildn (p' := 32) rfl rfl rfl ?_
  refine s_primV (p' := 35) (q := 5) rfl rfl rfl rfl rfl rfl (p_min (z := nI (min cap m)) (mI_min (by omega) (by omega))) rfl ?_
  refine s_primN (p' := 38) (q := 0) rfl rfl rfl rfl rfl rfl (p_cpyA (n := m) (g := fun _ => none) (Nat.blt_eq.mpr (by omega)) (rdA_app hE) (mj_rdA_is (rd_nw (Nat.blt_eq.mpr (by omega)) hN) (by decide)) (by simp only [Bool.and_eq_true, Nat.ble_eq, Nat.blt_eq]; omega) (cpq_is (fun j hj => by rw [Nat.zero_add]; obtain ⟨q, e, hq⟩ := hf j hj; exact ⟨q, e, hq.app⟩))) rfl ?_
  refine s_aldn (p' := 39) rfl rfl rfl ?_
  exact s_aret rfl rfl
theorem y_cp2 {h : mj_H} {N E cap m : Nat} {ef : Nat → Option Nat} (hN : h.length = N) (hb : N + 10 < mj_CB) (hE : mj_rdA h E = some (6, (cap, objs ef))) (hm : m < 2000) (hc : cap < 2000) (hf : ∀ j, j < min cap m → ∃ q, ef j = some q ∧ gE h q) : mj_run 3 341 (0, [some (.ref E), some (.int (nI m))], [], h) (.inl (some (.ref N)), ((h ++ [(.inl (6, mj_arr0 6 m) : mj_C)]).set N (.inl (6, (m, objs (va_cpy ef (fun _ => none) 0 0 (min cap m))))))) := by
  refine s_aldn (p' := 1) rfl rfl rfl ?_
  refine s_ildn (p' := 2) rfl rfl rfl ?_
  refine s_aldn (p' := 3) rfl rfl rfl ?_
  refine s_primV (p' := 6) (q := 1) rfl rfl rfl rfl rfl rfl (p_cls hE) rfl ?_
  refine s_callV (p' := 9) (ls0 := [_, _, _, _]) rfl rfl rfl rfl rfl rfl rfl (y_cp3 hN hb hE hm hc hf) (by decide) rfl ?_
  exact s_aret rfl rfl
theorem y_nl {h : mj_H} {n m : Nat} (hn : n < 1000) (hm : m < 1000) : mj_run 1 253 (0, [some (.int (nI n)), some (.int (nI 1)), some (.int (nI m)), none], [], h) (.inl (some (.int (nI (n + max 1 m)))), h) := by
  refine s_ildn (p' := 1) rfl rfl rfl ?_
  refine s_ildn (p' := 2) rfl rfl rfl ?_
  refine s_ildn (p' := 3) rfl rfl rfl ?_
  refine s_primV (p' := 6) (q := 4) rfl rfl rfl rfl rfl rfl (p_max (z := nI (max 1 m)) (mI_max (by omega) (by omega))) rfl ?_
  refine s_sp (p' := 7) (ls' := _) rfl rfl rfl ?_
  rw [mI_add]
  refine s_istn (p' := 8) (ls' := [_, _, _, _]) rfl rfl rfl rfl ?_
  refine s_con (p' := 9) rfl rfl ?_
  refine s_ildn (p' := 10) rfl rfl rfl ?_
  refine s_icmp (p' := 13) false rfl ((ci_ge (by omega) (by omega)).trans (decide_eq_false (by omega))) rfl ?_
  refine s_ildn (p' := 14) rfl rfl rfl ?_
  refine s_sh (p' := 16) (ls' := _) (st' := .int (nI 2147483639) :: _) (h' := _) rfl rfl rfl rfl ?_
  refine s_icmp (p' := 19) false rfl ((ci_gt (by omega) (by omega)).trans (decide_eq_false (by omega))) rfl ?_
  refine s_ildn (p' := 20) rfl rfl rfl ?_
  exact s_iret rfl rfl rfl
theorem y_gr0 {h : mj_H} {N Lr E n : Nat} {mc : Int32} (bL : Lr < mj_CB) (hN : h.length = N) (hb : N + 10 < mj_CB) (hL : mj_rd h Lr = some (alC E n mc)) (he : E = 1000000 ∧ n = 0) : mj_run 1 340 (0, [some (.ref Lr), some (.int (nI (n + 1))), none, none], [], h) (.inl (some (.ref N)), (h ++ [alN]).set Lr (alC N n mc)) := by
  obtain ⟨rfl, rfl⟩ := he
  refine s_aldn (p' := 1) rfl rfl rfl ?_
  refine s_gf (p' := 4) rfl hL rfl rfl ?_
  refine s_len (p' := 5) rfl (mj_rdA_cst (k_0 _) (by decide)) (by decide) rfl ?_
  refine s_istn (p' := 6) (ls' := [_, _, _, _]) rfl rfl rfl rfl ?_
  refine s_ildn (p' := 7) rfl rfl rfl ?_
  refine s_if (p' := 10) false rfl (by decide +kernel) rfl ?_
  refine s_aldn (p' := 11) rfl rfl rfl ?_
  refine s_gf (p' := 14) rfl hL rfl rfl ?_
  refine s_sh (p' := 17) (ls' := _) (st' := .ref 1000000 :: _) (h' := _) rfl rfl rfl rfl ?_
  refine s_sp (p' := 45) (ls' := _) rfl rfl rfl ?_
  refine s_aldn (p' := 46) rfl rfl rfl ?_
  refine s_bip (p' := 48) rfl rfl ?_
  refine s_ildn (p' := 49) rfl rfl rfl ?_
  refine s_primV (p' := 52) (q := 4) rfl rfl rfl rfl rfl rfl (p_max (x := nI 10) (y := nI 1) (z := nI 10) (by decide +kernel)) rfl ?_
  refine s_anaz (p' := 55) (a := N) (n := 10) rfl hN rfl rfl ?_
  refine s_sp (p' := 56) (ls' := _) rfl rfl rfl ?_
  refine s_pf (p' := 59) (fs' := [_, _, _]) rfl bL (rd_app hL) (Nat.blt_eq.mp rfl) rfl rfl rfl ?_
  exact s_aret rfl rfl
theorem y_gr1 {h : mj_H} {N Lr E n : Nat} {mc : Int32} {ef : Nat → Option Nat} (bL : Lr < mj_CB) (hN : h.length = N) (hb : N + 10 < mj_CB) (hL : mj_rd h Lr = some (alC E n mc)) (hE : mj_rdA h E = some (6, (n, objs ef))) (hE2 : E ≠ 1000000 ∧ E < mj_CB) (h0 : 0 < n) (hn : n ≤ 100) (hf : ∀ j, j < n → ∃ q, ef j = some q ∧ gE h q) : mj_run 5 340 (0, [some (.ref Lr), some (.int (nI (n + 1))), none, none], [], h) (.inl (some (.ref N)), ((h ++ [(.inl (6, mj_arr0 6 (n + max 1 (n / 2))) : mj_C)]).set N (.inl (6, (n + max 1 (n / 2), objs (va_cpy ef (fun _ => none) 0 0 (min n (n + max 1 (n / 2)))))))).set Lr (alC N n mc)) := by
  refine s_aldn (p' := 1) rfl rfl rfl ?_
  refine s_gf (p' := 4) rfl hL rfl rfl ?_
  refine s_len (p' := 5) rfl hE (by decide) rfl ?_
  refine s_istn (p' := 6) (ls' := [_, _, _, _]) rfl rfl rfl rfl ?_
  refine s_ildn (p' := 7) rfl rfl rfl ?_
  refine s_if (p' := 20) true rfl ((cz_gt (by omega)).trans (decide_eq_true (by omega))) rfl ?_
  refine s_ildn (p' := 21) rfl rfl rfl ?_
  refine s_ildn (p' := 22) rfl rfl rfl ?_
  refine s_ildn (p' := 23) rfl rfl rfl ?_
  refine s_sp (p' := 24) (ls' := _) rfl rfl rfl ?_
  rw [mI_sub (by omega), Nat.add_sub_cancel_left]
  refine s_ildn (p' := 25) rfl rfl rfl ?_
  refine s_con (p' := 26) rfl rfl ?_
  refine s_sp (p' := 27) (ls' := _) rfl rfl rfl ?_
  rw [mI_half (by omega)]
  refine s_callV (p' := 30) (ls0 := [_, _, _, _]) rfl rfl rfl rfl rfl rfl rfl (y_nl (by omega) (by omega)) (by decide) rfl ?_
  refine s_istn (p' := 31) (ls' := [_, _, _, _]) rfl rfl rfl rfl ?_
  refine s_aldn (p' := 32) rfl rfl rfl ?_
  refine s_aldn (p' := 33) rfl rfl rfl ?_
  refine s_gf (p' := 36) rfl hL rfl rfl ?_
  refine s_ildn (p' := 37) rfl rfl rfl ?_
  refine s_callV (p' := 40) (ls0 := [_, _]) rfl rfl rfl rfl rfl rfl rfl (y_cp2 hN hb hE (by omega) (by omega) (fun j hj => hf j (by omega))) (by decide) rfl ?_
  refine s_sp (p' := 41) (ls' := _) rfl rfl rfl ?_
  refine s_pf (p' := 44) (fs' := [_, _, _]) rfl bL ((rd_setn (by have := rd_len bL hL; omega)).trans (rd_app hL)) (Nat.blt_eq.mp rfl) rfl rfl rfl ?_
  exact s_aret rfl rfl
theorem arr0_6 (n : Nat) : mj_arr0 6 n = (n, objs fun _ => none) := rfl
theorem y_gr {h : mj_H} {N Lr E n : Nat} {mc : Int32} {ef : Nat → Option Nat} (bL : Lr < mj_CB) (hN : h.length = N) (hb : N + 10 < mj_CB) (hL : mj_rd h Lr = some (alC E n mc)) (hE : mj_rdA h E = some (6, (n, objs ef))) (hE0 : E < mj_CB ∧ 0 < n ∨ E = 1000000 ∧ n = 0) (hn : n ≤ 100) (hf : ∀ j, j < n → ∃ q, ef j = some q ∧ gE h q) : mj_Wp 5 340 (0, [some (.ref Lr), some (.int (nI (n + 1))), none, none], [], h) (mz_V fun r h' => r = .ref N ∧ ∃ (cap : Nat) (ef' : Nat → Option Nat), n < cap ∧ cap ≤ 2 * n + 10 ∧ (∀ j, j < n → ef' j = ef j) ∧ mj_rd h' Lr = some (alC N n mc) ∧ mj_rd h' N = some (alE cap ef') ∧ mz_mo [Lr] 1 (2 * n + 10) h h') := by
  have hLN : Lr ≠ N := (by have := rd_len bL hL; omega)
  rcases hE0 with he | he
  · refine (mj_Wp.mono (y_gr1 bL hN hb hL hE ⟨by have : mj_CB = 1000000 := rfl; omega, he.1⟩ he.2 hn hf) (by decide)).imp ?_
    rintro o rfl
    have hA : mj_rd (h ++ [(.inl (6, mj_arr0 6 (n + max 1 (n / 2))) : mj_C)]) N = some (.inl (6, mj_arr0 6 (n + max 1 (n / 2)))) := rd_nw (Nat.blt_eq.mpr (by omega)) hN
    refine ⟨_, _, rfl, rfl, n + max 1 (n / 2), va_cpy ef (fun _ => none) 0 0 (min n (n + max 1 (n / 2))), by omega, by omega, fun j hj => ?_, rd_set bL ((rd_setn (Ne.symm hLN)).trans (rd_app hL)), (rd_setn hLN).trans (rd_set (by omega) hA), ?_⟩
    · unfold va_cpy
      rw [if_pos ⟨Nat.zero_le j, by omega⟩, Nat.zero_add, Nat.sub_zero]
    · refine ((mz_mo.ap [Lr] h _).tr (mz_mo.st (by omega) hA (c := .inl (6, (n + max 1 (n / 2), objs (va_cpy ef (fun _ => none) 0 0 (min n (n + max 1 (n / 2))))))) rfl) (k := 1) (z := 2 * n + 10) (fun x hx => Or.inr ?_) (by omega) ?_).tr (mz_mo.st bL ((rd_setn (Ne.symm hLN)).trans (rd_app hL)) rfl) (fun x hx => Or.inl hx) (by omega) (by omega)
      · have := List.mem_singleton.mp hx
        omega
      · show n + max 1 (n / 2) + 0 ≤ _
        omega
  · refine (mj_Wp.mono (y_gr0 bL hN hb hL he) (by decide)).imp ?_
    rintro o rfl
    have hA : mj_rd (h ++ [alN]) N = some alN := rd_nw (Nat.blt_eq.mpr (by omega)) hN
    refine ⟨_, _, rfl, rfl, 10, fun _ => none, by omega, by omega, fun j hj => by omega, rd_set bL (rd_app hL), (rd_setn hLN).trans hA, ?_⟩
    exact (mz_mo.ap [Lr] h _).tr (mz_mo.st bL (rd_app hL) rfl) (fun x hx => Or.inl hx) (by omega) (by show 10 + 0 ≤ _; omega)
theorem gE.cl {h : mj_H} {q : Nat} : gE h q → ∃ c fs, mj_rd h q = some (.inr (c, fs)) ∧ mj_aok 6 c = true
  | ⟨c, fs, h1, h2, _⟩ => ⟨c, fs, h1, h2⟩
theorem y_ad3 {h : mj_H} {Lr E n q : Nat} {f : Nat → Nat} (bL : Lr < mj_CB) (hb : h.length + 10 < mj_CB) (hn : n ≤ 100) {cap : Nat} {mc : Int32} {ef : Nat → Option Nat} (hL : mj_rd h Lr = some (alC E n mc)) (hE : mj_rdA h E = some (6, (cap, objs ef))) (h1 : n ≤ cap) (h2 : cap < 1000) (h3 : E < mj_CB ∧ 0 < cap ∨ E = 1000000 ∧ cap = 0) (h4 : ∀ j, j < n → ef j = some (f j) ∧ gE h (f j)) (hq : gE h q) : mj_Wp 7 338 (0, [some (.ref Lr), some (.ref q), some (.ref E), some (.int (nI n))], [], h) (mz_N fun h' => ∃ E', yLs h' Lr E' (n + 1) (upN f n q) ∧ (E' = E ∨ E' = h.length) ∧ E' < mj_CB ∧ mz_mo [Lr, E] 1 (2 * n + 10) h h') := by
  refine s_ildn (p' := 1) rfl rfl rfl ?_
  refine s_aldn (p' := 2) rfl rfl rfl ?_
  refine s_len (p' := 3) rfl hE (by decide) rfl ?_
  by_cases qc : n = cap
  · refine s_icmp (p' := 6) false rfl ((ci_ne (by omega) (by omega)).trans (decide_eq_false (by omega))) rfl ?_
    refine s_aldn (p' := 7) rfl rfl rfl ?_
    refine c_call (p' := 10) (kc := 6) (ls0 := [_]) rfl rfl rfl rfl rfl (mj_rcv_is hL) rfl rfl rfl ?_
    refine s_aldn (p' := 1) rfl rfl rfl ?_
    refine s_aldn (p' := 2) rfl rfl rfl ?_
    refine s_gf (p' := 5) rfl hL rfl rfl ?_
    refine s_con (p' := 6) rfl rfl ?_
    refine s_sp (p' := 7) (ls' := _) rfl rfl rfl ?_
    rw [mI_add]
    subst qc
    refine s_callEV (p' := 10) (ls0 := [_, _, _, _]) rfl rfl rfl rfl rfl (mj_rcv_is hL) rfl (y_gr bL rfl hb hL hE h3 hn (fun j hj => ⟨_, h4 j hj⟩)) rfl rfl ?_
    rintro _ g ⟨rfl, cap', ef', q1, q2, q3, q4, q5, q6⟩
    obtain ⟨qc, qf, qr, qa, q18⟩ := hq
    have qL : q ≠ Lr := fun e => by rw [e, hL] at qr; exact q18 (congrArg Prod.fst (Sum.inr.inj (Option.some.inj qr))).symm
    have qr2 := q6.1 q (fun e => qL (List.mem_singleton.mp e)) _ qr
    have hLN : Lr ≠ h.length := by have := rd_len bL hL; omega
    refine c_aret rfl ?_
    refine s_astn (p' := 11) (ls' := [_, _, _, _]) rfl rfl rfl rfl ?_
    refine s_aldn (p' := 12) rfl rfl rfl ?_
    refine s_ildn (p' := 13) rfl rfl rfl ?_
    refine s_aldn (p' := 14) rfl rfl rfl ?_
    refine s_aas (p' := 15) rfl (by omega) q5 (by decide) (inb_nI (by omega) (by omega)) qr2 qa rfl ?_
    rw [mI_cl (by omega)]
    refine s_aldn (p' := 16) rfl rfl rfl ?_
    refine s_ildn (p' := 17) rfl rfl rfl ?_
    refine s_con (p' := 18) rfl rfl ?_
    refine s_sp (p' := 19) (ls' := _) rfl rfl rfl ?_
    rw [mI_add]
    refine s_pf (p' := 22) (fs' := [_, _, _]) rfl bL ((rd_setn (Ne.symm hLN)).trans q4) (Nat.blt_eq.mp rfl) rfl rfl rfl ?_
    refine s_ret rfl ?_
    refine ⟨_, rfl, h.length, ls_fin bL (by omega) q4 q5 q1 (by omega) (fun j hj => ⟨(q3 j hj).trans (h4 j hj).1, (h4 j hj).2.fr q6.1 (fun e => ((h4 j hj).2.neL hL) (List.mem_singleton.mp e))⟩) ⟨qc, qf, qr2, qa, q18⟩, Or.inr rfl, by omega, ?_⟩
    exact mz_mo.s (mz_mo.s (q6.wk (L' := [Lr, E]) (fun y hy => Or.inl (by simp at hy; simp [hy])) (by omega) (by omega)) (by omega) q5 rfl (Or.inr (Nat.le_refl _))) bL ((rd_setn (Ne.symm hLN)).trans q4) rfl (Or.inl (by simp))
  · refine s_icmp (p' := 11) true rfl ((ci_ne (by omega) (by omega)).trans (decide_eq_true (by omega))) rfl ?_
    have bE : E < mj_CB := by have : mj_CB = 1000000 := rfl; omega
    have hE5 := rdA_lt hE
    obtain ⟨qc2, qf, qr, qa, q18⟩ := hq
    have hEL : E ≠ Lr := fun e => by rw [e, hL] at hE5; cases hE5
    refine s_aldn (p' := 12) rfl rfl rfl ?_
    refine s_ildn (p' := 13) rfl rfl rfl ?_
    refine s_aldn (p' := 14) rfl rfl rfl ?_
    refine s_aas (p' := 15) rfl bE hE5 (by decide) (inb_nI (by omega) (by omega)) qr qa rfl ?_
    rw [mI_cl (by omega)]
    refine s_aldn (p' := 16) rfl rfl rfl ?_
    refine s_ildn (p' := 17) rfl rfl rfl ?_
    refine s_con (p' := 18) rfl rfl ?_
    refine s_sp (p' := 19) (ls' := _) rfl rfl rfl ?_
    rw [mI_add]
    refine s_pf (p' := 22) (fs' := [_, _, _]) rfl bL ((rd_setn hEL).trans hL) (Nat.blt_eq.mp rfl) rfl rfl rfl ?_
    refine s_ret rfl ?_
    refine ⟨_, rfl, E, ls_fin bL bE hL hE5 (by omega) h2 h4 ⟨qc2, qf, qr, qa, q18⟩, Or.inl rfl, bE, ?_⟩
    exact mz_mo.s (mz_mo.s (mz_mo.rf _ _ _ _) bE hE5 rfl (Or.inl (by simp))) bL ((rd_setn hEL).trans hL) rfl (Or.inl (by simp))
theorem y_ad {h : mj_H} {Lr E n q : Nat} {f : Nat → Nat} (bL : Lr < mj_CB) (hb : h.length + 10 < mj_CB) (hn : n ≤ 100) (hl : yLs h Lr E n f) (hq : gE h q) : mj_Wp 8 337 (0, [some (.ref Lr), some (.ref q)], [], h) (mz_V fun r h' => r = .int (nI 1) ∧ ∃ E', yLs h' Lr E' (n + 1) (upN f n q) ∧ (E' = E ∨ E' = h.length) ∧ E' < mj_CB ∧ mz_mo [Lr, E] 1 (2 * n + 10) h h') := by
  obtain ⟨cap, mc, ef, hL, hE, h1, h2, h3, h4⟩ := hl
  have hEL : Lr ≠ E := fun e => by
    rcases h3 with h3 | h3
    · rw [← e] at hE
      rw [rdA_lt hE] at hL
      cases hL
    · have : mj_CB = 1000000 := rfl
      omega
  have hE1 : mj_rdA (h.set Lr (alC E n (mc + nI 1))) E = some (6, (cap, objs ef)) := rdA_sn (beq_eq_false_iff_ne.mpr hEL) hE
  have hL1 : mj_rd (h.set Lr (alC E n (mc + nI 1))) Lr = some (alC E n (mc + nI 1)) := rd_set bL hL
  have hq1 : gE (h.set Lr (alC E n (mc + nI 1))) q := hq.st (hq.neL hL)
  have h41 : ∀ j, j < n → ef j = some (f j) ∧ gE (h.set Lr (alC E n (mc + nI 1))) (f j) := fun j hj => ⟨(h4 j hj).1, (h4 j hj).2.st ((h4 j hj).2.neL hL)⟩
  have hl1 : (h.set Lr (alC E n (mc + nI 1))).length = h.length := List.length_set
  refine s_aldn (p' := 1) rfl rfl rfl ?_
  refine s_sp (p' := 2) (ls' := _) rfl rfl rfl ?_
  refine s_gf (p' := 5) rfl hL rfl rfl ?_
  refine s_con (p' := 6) rfl rfl ?_
  refine s_sp (p' := 7) (ls' := _) rfl rfl rfl ?_
  refine s_pf (p' := 10) (fs' := [_, _, _]) rfl bL hL (Nat.blt_eq.mp rfl) rfl rfl rfl ?_
  refine s_aldn (p' := 11) rfl rfl rfl ?_
  refine s_aldn (p' := 12) rfl rfl rfl ?_
  refine s_aldn (p' := 13) rfl rfl rfl ?_
  refine s_gf (p' := 16) rfl hL1 rfl rfl ?_
  refine s_aldn (p' := 17) rfl rfl rfl ?_
  refine s_gf (p' := 20) rfl hL1 rfl rfl ?_
  refine s_callEN (p' := 23) (ls0 := [_, _, _, _]) rfl rfl rfl rfl rfl (mj_rcv_is hL1) rfl (y_ad3 bL (by rw [hl1]; omega) hn hL1 hE1 h1 h2 h3 h41 hq1) rfl rfl ?_
  rintro g ⟨E', k1, k2, k3, k4⟩
  rw [hl1] at k2
  refine s_con (p' := 24) rfl rfl ?_
  refine s_iret rfl rfl ?_
  exact ⟨_, _, rfl, rfl, E', k1, k2, k3, (mz_mo.s (mz_mo.rf [Lr, E] 0 0 h) bL hL (c := alC E n (mc + nI 1)) rfl (Or.inl (by simp))).tr k4 (fun x hx => Or.inl hx) (by omega) (by omega)⟩
theorem y_adz {h : mj_H} {Lr E n q : Nat} {f : Nat → Nat} (bL : Lr < mj_CB) (hb : h.length + 10 < mj_CB) (hn : n ≤ 100) (hl : yLs h Lr E n f) (hq : gE h q) : mj_Wp 8 431 (0, [some (.ref Lr), some (.int (nI 0)), some (.ref q), none, none], [], h) (mz_N fun h' => ∃ E', yLs h' Lr E' (n + 1) (ups f q) ∧ (E' = E ∨ E' = h.length) ∧ E' < mj_CB ∧ mz_mo [Lr, E] 1 (2 * n + 10) h h') := by
  obtain ⟨cap, mc, ef, hL, hE, h1, h2, h3, h4⟩ := hl
  have hEL : Lr ≠ E := fun e => by
    rcases h3 with h3 | h3
    · rw [← e] at hE
      rw [rdA_lt hE] at hL
      cases hL
    · have : mj_CB = 1000000 := rfl
      omega
  have hE1 : mj_rdA (h.set Lr (alC E n (mc + nI 1))) E = some (6, (cap, objs ef)) := rdA_sn (beq_eq_false_iff_ne.mpr hEL) hE
  have hL1 : mj_rd (h.set Lr (alC E n (mc + nI 1))) Lr = some (alC E n (mc + nI 1)) := rd_set bL hL
  have hq1 : gE (h.set Lr (alC E n (mc + nI 1))) q := hq.st (hq.neL hL)
  have h41 : ∀ j, j < n → ef j = some (f j) ∧ gE (h.set Lr (alC E n (mc + nI 1))) (f j) := fun j hj => ⟨(h4 j hj).1, (h4 j hj).2.st ((h4 j hj).2.neL hL)⟩
  have hl1 : (h.set Lr (alC E n (mc + nI 1))).length = h.length := List.length_set
  refine s_aldn (p' := 1) rfl rfl rfl ?_
  refine s_ildn (p' := 2) rfl rfl rfl ?_
  refine c_call (p' := 5) (kc := 7) (ls0 := [_, _]) rfl rfl rfl rfl rfl (mj_rcv_is hL) rfl rfl rfl ?_
  refine s_ildn (p' := 1) rfl rfl rfl ?_
  refine s_aldn (p' := 2) rfl rfl rfl ?_
  refine s_gf (p' := 5) rfl hL rfl rfl ?_
  refine s_icmp (p' := 8) false rfl ((ci_gt (by omega) (by omega)).trans (decide_eq_false (by omega))) rfl ?_
  refine s_ildn (p' := 9) rfl rfl rfl ?_
  refine s_if (p' := 25) true rfl (cz_ge (by omega)) rfl ?_
  refine c_ret rfl ?_
  refine s_aldn (p' := 6) rfl rfl rfl ?_
  refine s_sp (p' := 7) (ls' := _) rfl rfl rfl ?_
  refine s_gf (p' := 10) rfl hL rfl rfl ?_
  refine s_con (p' := 11) rfl rfl ?_
  refine s_sp (p' := 12) (ls' := _) rfl rfl rfl ?_
  refine s_pf (p' := 15) (fs' := [_, _, _]) rfl bL hL (Nat.blt_eq.mp rfl) rfl rfl rfl ?_
  refine s_aldn (p' := 16) rfl rfl rfl ?_
  refine s_gf (p' := 19) rfl hL1 rfl rfl ?_
  refine s_sp (p' := 20) (ls' := _) rfl rfl rfl ?_
  refine s_istn (p' := 21) (ls' := [_, _, _, _, _]) rfl rfl rfl rfl ?_
  refine s_aldn (p' := 22) rfl rfl rfl ?_
  refine s_gf (p' := 25) rfl hL1 rfl rfl ?_
  refine s_sp (p' := 26) (ls' := _) rfl rfl rfl ?_
  refine s_ast (p' := 28) (ls' := [_, _, _, _, _]) rfl rfl rfl rfl ?_
  refine s_len (p' := 29) rfl hE1 (by decide) rfl ?_
  by_cases qc : n = cap
  · refine s_icmp (p' := 32) false rfl ((ci_ne (by omega) (by omega)).trans (decide_eq_false (by omega))) rfl ?_
    refine s_aldn (p' := 33) rfl rfl rfl ?_
    refine c_call (p' := 36) (kc := 6) (ls0 := [_]) rfl rfl rfl rfl rfl (mj_rcv_is hL1) rfl rfl rfl ?_
    refine s_aldn (p' := 1) rfl rfl rfl ?_
    refine s_aldn (p' := 2) rfl rfl rfl ?_
    refine s_gf (p' := 5) rfl hL1 rfl rfl ?_
    refine s_con (p' := 6) rfl rfl ?_
    refine s_sp (p' := 7) (ls' := _) rfl rfl rfl ?_
    rw [mI_add]
    subst qc
    refine s_callEV (p' := 10) (ls0 := [_, _, _, _]) rfl rfl rfl rfl rfl (mj_rcv_is hL1) rfl (y_gr bL rfl (by rw [hl1]; omega) hL1 hE1 h3 hn (fun j hj => ⟨_, h41 j hj⟩)) rfl rfl ?_
    rw [hl1]
    rintro _ g ⟨rfl, cap', ef', q1, q2, q3, q4, q5, q6⟩
    obtain ⟨qc, qf, qr, qa, q18⟩ := hq1
    have qL : q ≠ Lr := fun e => by rw [e, hL1] at qr; exact q18 (congrArg Prod.fst (Sum.inr.inj (Option.some.inj qr))).symm
    have qr2 := q6.1 q (fun e => qL (List.mem_singleton.mp e)) _ qr
    have hLN : Lr ≠ h.length := by have := rd_len bL hL; omega
    have qN : q ≠ h.length := fun e => by rw [e, q5] at qr2; cases qr2
    have hef : ∀ j, j < n → ef' j = some (f j) ∧ gE g (f j) := fun j hj => ⟨(q3 j hj).trans (h41 j hj).1, (h41 j hj).2.fr q6.1 (fun e => ((h41 j hj).2.neL hL1) (List.mem_singleton.mp e))⟩
    refine c_aret rfl ?_
    refine s_ast (p' := 38) (ls' := [_, _, _, _, _]) rfl rfl rfl rfl ?_
    refine s_ald (p' := 40) rfl rfl rfl ?_
    refine s_ildn (p' := 41) rfl rfl rfl ?_
    refine s_ald (p' := 43) rfl rfl rfl ?_
    refine s_ildn (p' := 44) rfl rfl rfl ?_
    refine s_con (p' := 45) rfl rfl ?_
    refine s_sp (p' := 46) (ls' := _) rfl rfl rfl ?_
    rw [mI_add]
    refine s_ildn (p' := 47) rfl rfl rfl ?_
    refine s_ildn (p' := 48) rfl rfl rfl ?_
    refine s_sp (p' := 49) (ls' := _) rfl rfl rfl ?_
    rw [mI_sub (Nat.zero_le n)]
    show mj_Wp 8 431 (49, _, .int (nI (n - 0)) :: .int (nI (0 + 1)) :: .ref h.length :: .int (nI 0) :: .ref h.length :: [], _) _
    rw [Nat.sub_zero, Nat.zero_add]
    refine s_primN (p' := 52) (q := 0) rfl rfl rfl rfl rfl rfl (p_cpyA (n := cap') (g := ef') (Nat.blt_eq.mpr (by omega)) (mj_rdA_is q5 (by decide)) (mj_rdA_is q5 (by decide)) (by simp only [Bool.and_eq_true, Nat.ble_eq, Nat.blt_eq]; omega) (cpq_is (fun j hj => by rw [Nat.zero_add]; exact ⟨_, hef j hj⟩))) rfl ?_
    refine s_ald (p' := 54) rfl rfl rfl ?_
    refine s_ildn (p' := 55) rfl rfl rfl ?_
    refine s_aldn (p' := 56) rfl rfl rfl ?_
    refine s_aas (p' := 57) rfl (by omega) (rd_set (by omega) q5) (by decide) (inb_nI (by omega) (by omega)) ((rd_setn (Ne.symm qN)).trans qr2) qa rfl ?_
    rw [List.set_set, mI_cl (by omega)]
    refine s_aldn (p' := 58) rfl rfl rfl ?_
    refine s_ildn (p' := 59) rfl rfl rfl ?_
    refine s_con (p' := 60) rfl rfl ?_
    refine s_sp (p' := 61) (ls' := _) rfl rfl rfl ?_
    rw [mI_add]
    refine s_pf (p' := 64) (fs' := [_, _, _]) rfl bL ((rd_setn (Ne.symm hLN)).trans q4) (Nat.blt_eq.mp rfl) rfl rfl rfl ?_
    refine s_ret rfl ?_
    refine ⟨_, rfl, h.length, ls_fin0 bL (by omega) q4 q5 q1 (by omega) hef ⟨qc, qf, qr2, qa, q18⟩, Or.inr rfl, by omega, ?_⟩
    exact mz_mo.s (mz_mo.s ((mz_mo.s (mz_mo.rf [Lr, E] 0 0 h) bL hL (c := alC E n (mc + nI 1)) rfl (Or.inl (by simp))).tr q6 (fun y hy => Or.inl (by simp at hy; simp [hy])) (by omega) (by omega)) (by omega) q5 rfl (Or.inr (Nat.le_refl _))) bL ((rd_setn (Ne.symm hLN)).trans q4) rfl (Or.inl (by simp))
  · refine s_icmp (p' := 38) true rfl ((ci_ne (by omega) (by omega)).trans (decide_eq_true (by omega))) rfl ?_
    have bE : E < mj_CB := by have : mj_CB = 1000000 := rfl; omega
    have hE5 := rdA_lt hE1
    obtain ⟨qc2, qf, qr, qa, q18⟩ := hq1
    have qE : q ≠ E := fun e => by rw [e, hE5] at qr; cases qr
    have hef := h41
    refine s_ald (p' := 40) rfl rfl rfl ?_
    refine s_ildn (p' := 41) rfl rfl rfl ?_
    refine s_ald (p' := 43) rfl rfl rfl ?_
    refine s_ildn (p' := 44) rfl rfl rfl ?_
    refine s_con (p' := 45) rfl rfl ?_
    refine s_sp (p' := 46) (ls' := _) rfl rfl rfl ?_
    rw [mI_add]
    refine s_ildn (p' := 47) rfl rfl rfl ?_
    refine s_ildn (p' := 48) rfl rfl rfl ?_
    refine s_sp (p' := 49) (ls' := _) rfl rfl rfl ?_
    rw [mI_sub (Nat.zero_le n)]
    show mj_Wp 8 431 (49, _, .int (nI (n - 0)) :: .int (nI (0 + 1)) :: .ref E :: .int (nI 0) :: .ref E :: [], _) _
    rw [Nat.sub_zero, Nat.zero_add]
    refine s_primN (p' := 52) (q := 0) rfl rfl rfl rfl rfl rfl (p_cpyA (n := cap) (g := ef) (Nat.blt_eq.mpr (by omega)) (mj_rdA_is hE5 (by decide)) (mj_rdA_is hE5 (by decide)) (by simp only [Bool.and_eq_true, Nat.ble_eq, Nat.blt_eq]; omega) (cpq_is (fun j hj => by rw [Nat.zero_add]; exact ⟨_, hef j hj⟩))) rfl ?_
    refine s_ald (p' := 54) rfl rfl rfl ?_
    refine s_ildn (p' := 55) rfl rfl rfl ?_
    refine s_aldn (p' := 56) rfl rfl rfl ?_
    refine s_aas (p' := 57) rfl (by omega) (rd_set (by omega) hE5) (by decide) (inb_nI (by omega) (by omega)) ((rd_setn (Ne.symm qE)).trans qr) qa rfl ?_
    rw [List.set_set, mI_cl (by omega)]
    refine s_aldn (p' := 58) rfl rfl rfl ?_
    refine s_ildn (p' := 59) rfl rfl rfl ?_
    refine s_con (p' := 60) rfl rfl ?_
    refine s_sp (p' := 61) (ls' := _) rfl rfl rfl ?_
    rw [mI_add]
    refine s_pf (p' := 64) (fs' := [_, _, _]) rfl bL ((rd_setn (Ne.symm hEL)).trans hL1) (Nat.blt_eq.mp rfl) rfl rfl rfl ?_
    refine s_ret rfl ?_
    refine ⟨_, rfl, E, ls_fin0 bL bE hL1 hE5 (by omega) h2 h41 ⟨qc2, qf, qr, qa, q18⟩, Or.inl rfl, bE, ?_⟩
    exact mz_mo.s (mz_mo.s (mz_mo.s (mz_mo.rf _ _ _ _) bL hL (c := alC E n (mc + nI 1)) rfl (Or.inl (by simp))) bE hE5 rfl (Or.inl (by simp))) bL ((rd_setn (Ne.symm hEL)).trans hL1) rfl (Or.inl (by simp))
/-- a row whose first i are taken out -/
def clr (ef : Nat → Option Nat) (i : Nat) : Nat → Option Nat := fun j => if j < i then none else ef j
theorem clr_0 (ef : Nat → Option Nat) : clr ef 0 = ef := funext fun j => if_neg (Nat.not_lt_zero j)
theorem clr_s (ef : Nat → Option Nat) (i : Nat) : va_up (clr ef i) i none = clr ef (i + 1) := funext fun j => by
  unfold va_up clr
  by_cases e : j = i
  · rw [if_pos e, if_pos (by omega)]
  · rw [if_neg e]
    by_cases q : j < i
    · rw [if_pos q, if_pos (by omega)]
    · rw [if_neg q, if_neg (by omega)]
theorem y_clL {g : mj_H} {Lr E n cap : Nat} {ef : Nat → Option Nat} (bE : E < mj_CB) (hE : mj_rd g E = some (alE cap ef)) (h1 : n ≤ cap) (h2 : cap < 1000) : ∀ (k i : Nat), i + k = n → mj_run 1 434 (27, [some (.ref Lr), some (.ref E), some (.int (nI n)), some (.int (nI i))], [], g.set E (alE cap (clr ef i))) (.inl none, g.set E (alE cap (clr ef n)))
  | 0, i, hi => by
    obtain rfl : i = n := by omega
    refine s_ildn (p' := 28) rfl rfl rfl ?_
    refine s_ildn (p' := 29) rfl rfl rfl ?_
    refine s_icmp (p' := 42) true rfl ((ci_ge (by omega) (by omega)).trans (decide_eq_true (by omega))) rfl ?_
    exact s_ret rfl rfl
  | k + 1, i, hi => by
    have ih := y_clL (Lr := Lr) bE hE h1 h2 k (i + 1) (by omega)
    refine s_ildn (p' := 28) rfl rfl rfl ?_
    refine s_ildn (p' := 29) rfl rfl rfl ?_
    refine s_icmp (p' := 32) false rfl ((ci_ge (by omega) (by omega)).trans (decide_eq_false (by omega))) rfl ?_
    refine s_aldn (p' := 33) rfl rfl rfl ?_
    refine s_ildn (p' := 34) rfl rfl rfl ?_
    refine s_sp (p' := 35) (ls' := _) rfl rfl rfl ?_
    refine s_aasN (p' := 36) rfl bE (rd_set bE hE) (by decide) (inb_nI (by omega) (by omega)) rfl ?_
    rw [List.set_set, mI_cl (by omega), clr_s]
    refine s_inc (p' := 39) (ls' := [_, _, _, _]) rfl rfl rfl rfl rfl ?_
    rw [mI_add]
    refine s_goto (p' := 27) rfl rfl ?_
    exact ih
theorem y_cl {h : mj_H} {Lr E n cap : Nat} {mc : Int32} {ef : Nat → Option Nat} (bL : Lr < mj_CB) (bE : E < mj_CB) (hL : mj_rd h Lr = some (alC E n mc)) (hE : mj_rd h E = some (alE cap ef)) (h1 : n ≤ cap) (h2 : cap < 1000) : mj_run 1 434 (0, [some (.ref Lr), none, none, none], [], h) (.inl none, (h.set Lr (alC E 0 (mc + nI 1))).set E (alE cap (clr ef n))) := by
  have hEL : E ≠ Lr := fun e => by rw [e, hL] at hE; cases hE
  refine s_aldn (p' := 1) rfl rfl rfl ?_
  refine s_sp (p' := 2) (ls' := _) rfl rfl rfl ?_
  refine s_gf (p' := 5) rfl hL rfl rfl ?_
  refine s_con (p' := 6) rfl rfl ?_
  refine s_sp (p' := 7) (ls' := _) rfl rfl rfl ?_
  refine s_pf (p' := 10) (fs' := [_, _, _]) rfl bL hL (Nat.blt_eq.mp rfl) rfl rfl rfl ?_
  refine s_aldn (p' := 11) rfl rfl rfl ?_
  refine s_gf (p' := 14) rfl (rd_set bL hL) rfl rfl ?_
  refine s_astn (p' := 15) (ls' := [_, _, _, _]) rfl rfl rfl rfl ?_
  refine s_aldn (p' := 16) rfl rfl rfl ?_
  refine s_gf (p' := 19) rfl (rd_set bL hL) rfl rfl ?_
  refine s_istn (p' := 20) (ls' := [_, _, _, _]) rfl rfl rfl rfl ?_
  refine s_aldn (p' := 21) rfl rfl rfl ?_
  refine s_con (p' := 22) rfl rfl ?_
  refine s_sp (p' := 23) (ls' := _) rfl rfl rfl ?_
  refine s_pf (p' := 26) (fs' := [_, _, _]) rfl bL (rd_set bL hL) (Nat.blt_eq.mp rfl) rfl rfl rfl ?_
  rw [List.set_set]
  refine s_istn (p' := 27) (ls' := [_, _, _, _]) rfl rfl rfl rfl ?_
  have hE2 : mj_rd (h.set Lr (alC E 0 (mc + nI 1))) E = some (alE cap ef) := (rd_setn (Ne.symm hEL)).trans hE
  have := y_clL (Lr := Lr) bE hE2 h1 h2 n 0 (by omega)
  rw [clr_0, set_id bE hE2] at this
  exact this
