/-! The class: define, invert, questions about procedures. -/
def cLi (h : mj_H) (np : Nat) (N : Nat → Nat) (F : Nat → Nat → Nat) (K : Nat → Nat) (X : Nat → Nat → Nat → Nat) : Prop := np ≤ 6 ∧ mj_rd h 38 = some (.inr (6, [.ref 39, .ref 40, .int (nI np)])) ∧ (∃ rf : Nat → Option Nat, mj_rd h 39 = some (.inl (8, (6, objs rf))) ∧ ∀ p, p < 6 → rf p = some (bP p)) ∧ (∀ p, p < 6 → ∃ n f, cPx h (bP p) n f) ∧ ∀ p, p < np → cPr h (bP p) (N p) (F p) (K p) (X p)
theorem cLi.lb {h : mj_H} {np : Nat} {N : Nat → Nat} {F : Nat → Nat → Nat} {K : Nat → Nat} {X : Nat → Nat → Nat → Nat} : cLi h np N F K X → cLb h np K X
  | ⟨a, b, c, _, d⟩ => ⟨a, b, c, fun p hp => by
      obtain ⟨c1, c2, c3, at_, fp, fs, tm, ins, r, hi⟩ := d p hp
      exact ⟨c1, r.2.2.1, r.2.2.2.1, c3, fun j hj => ⟨ins j, r.2.2.2.2 j (by omega), hi j hj⟩⟩⟩
theorem cLi.fr {h g : mj_H} {L : List Nat} {np : Nat} {N : Nat → Nat} {F : Nat → Nat → Nat} {K : Nat → Nat} {X : Nat → Nat → Nat → Nat} (c : cLi h np N F K X) (e : mz_fr L h g) (hL : ∀ x, x ∈ L → x < 38 ∨ 299 ≤ x) : cLi g np N F K X := by
  obtain ⟨a, b, ⟨rf, c1, c2⟩, d, k⟩ := c
  have n : ∀ x, 38 ≤ x → x < 299 → x ∉ L := fun x h1 h2 q => by have := hL x q; omega
  refine ⟨a, e _ (n _ (by decide) (by decide)) _ b, ⟨rf, e _ (n _ (by decide) (by decide)) _ c1, c2⟩, fun p hp => ?_, fun p hp => (k p hp).fr e (fun x hx => by have := hL x hx; have : bP p = 77 + 37 * p := rfl; omega)⟩
  obtain ⟨n', f, d1⟩ := d p hp
  exact ⟨n', f, d1.fr e (fun x hx => by have := hL x hx; have : bP p = 77 + 37 * p := rfl; omega)⟩
def updN3 {α : Type} (F : Nat → α) (p : Nat) (x : α) : Nat → α := fun q => if q = p then x else F q
theorem updN3_s {α : Type} (F : Nat → α) (p : Nat) (x : α) : updN3 F p x p = x := if_pos rfl
theorem updN3_n {α : Type} {F : Nat → α} {p q : Nat} {x : α} (h : q ≠ p) : updN3 F p x q = F q := if_neg h
/-- one procedure more -/
theorem cLi.up {h g : mj_H} {L : List Nat} {np n k : Nat} {f : Nat → Nat} {x : Nat → Nat → Nat} {N : Nat → Nat} {F : Nat → Nat → Nat} {K : Nat → Nat} {X : Nat → Nat → Nat → Nat} (c : cLi h np N F K X) (e : mz_fr L h g) (hn : np < 6) (hL : ∀ y, y ∈ L → y < 39 ∨ bP np ≤ y ∧ y < bP np + 37 ∨ 299 ≤ y) (h1 : mj_rd g 38 = some (.inr (6, [.ref 39, .ref 40, .int (nI (np + 1))]))) (h2 : cPr g (bP np) n f k x) : cLi g (np + 1) (updN3 N np n) (updN3 F np f) (updN3 K np k) (updN3 X np x) := by
  obtain ⟨a, b, ⟨rf, c1, c2⟩, d, kk⟩ := c
  have hb : ∀ p, bP p = 77 + 37 * p := fun _ => rfl
  refine ⟨by omega, h1, ⟨rf, e _ (fun q => by have := hL _ q; have := hb np; omega) _ c1, c2⟩, fun p hp => ?_, fun p hp => ?_⟩
  · by_cases q : p = np
    · subst q
      exact ⟨_, _, h2.px⟩
    · obtain ⟨n', f', d1⟩ := d p hp
      exact ⟨n', f', d1.fr e (fun y hy => by have := hL y hy; have := hb p; have := hb np; omega)⟩
  · by_cases q : p = np
    · subst q
      rw [updN3_s, updN3_s, updN3_s, updN3_s]
      exact h2
    · rw [updN3_n q, updN3_n q, updN3_n q, updN3_n q]
      exact (kk p (by omega)).fr e (fun y hy => by have := hL y hy; have := hb p; have := hb np; omega)
theorem x_ful0 {h : mj_H} {np : Nat} {N : Nat → Nat} {F : Nat → Nat → Nat} {K : Nat → Nat} {X : Nat → Nat → Nat → Nat} (hi : cLi h np N F K X) (hn : np < 6) : mj_run 0 128 (0, [some (.ref 38)], [], h) (.inl (some (.int (nI 0))), h) := by
  have a1 := hi.1
  have a2 := hi.2.1
  obtain ⟨rf, a3, a4⟩ := hi.2.2.1
  refine s_aldn (p' := 1) rfl rfl rfl ?_
  refine s_gf (p' := 4) rfl a2 rfl rfl ?_
  refine s_bip (p' := 6) rfl rfl ?_
  refine s_icmp (p' := 13) true rfl ((ci_lt (by omega) (by omega)).trans (decide_eq_true (by omega))) rfl ?_
  refine s_con (p' := 14) rfl rfl ?_
  exact s_iret rfl rfl rfl
theorem x_ful1 {h : mj_H} {np : Nat} {N : Nat → Nat} {F : Nat → Nat → Nat} {K : Nat → Nat} {X : Nat → Nat → Nat → Nat} (hi : cLi h np N F K X) (hn : np = 6) : mj_run 0 128 (0, [some (.ref 38)], [], h) (.inl (some (.int (nI 1))), h) := by
  have a1 := hi.1
  have a2 := hi.2.1
  obtain ⟨rf, a3, a4⟩ := hi.2.2.1
  refine s_aldn (p' := 1) rfl rfl rfl ?_
  refine s_gf (p' := 4) rfl a2 rfl rfl ?_
  refine s_bip (p' := 6) rfl rfl ?_
  refine s_icmp (p' := 9) false rfl ((ci_lt (by omega) (by omega)).trans (decide_eq_false (by omega))) rfl ?_
  refine s_con (p' := 10) rfl rfl ?_
  refine s_goto (p' := 14) rfl rfl ?_
  exact s_iret rfl rfl rfl
theorem x_lnx {h : mj_H} {np : Nat} {N : Nat → Nat} {F : Nat → Nat → Nat} {K : Nat → Nat} {X : Nat → Nat → Nat → Nat} (hi : cLi h np N F K X) (hn : np < 6) : mj_run 0 129 (0, [some (.ref 38)], [], h) (.inl (some (.ref (bP np))), h) := by
  have a1 := hi.1
  have a2 := hi.2.1
  obtain ⟨rf, a3, a4⟩ := hi.2.2.1
  refine s_aldn (p' := 1) rfl rfl rfl ?_
  refine s_gf (p' := 4) rfl a2 rfl rfl ?_
  refine s_if (p' := 7) false rfl (cz_lt (by omega)) rfl ?_
  refine s_aldn (p' := 8) rfl rfl rfl ?_
  refine s_gf (p' := 11) rfl a2 rfl rfl ?_
  refine s_aldn (p' := 12) rfl rfl rfl ?_
  refine s_gf (p' := 15) rfl a2 rfl rfl ?_
  refine s_len (p' := 16) rfl (mj_rdA_is a3 (by decide)) (by decide) rfl ?_
  refine s_icmp (p' := 19) false rfl ((ci_ge (by omega) (by omega)).trans (decide_eq_false (by omega))) rfl ?_
  refine s_aldn (p' := 20) rfl rfl rfl ?_
  refine s_gf (p' := 23) rfl a2 rfl rfl ?_
  refine s_aldn (p' := 24) rfl rfl rfl ?_
  refine s_gf (p' := 27) rfl a2 rfl rfl ?_
  refine s_aal (p' := 28) rfl (mj_rdA_is a3 (by decide)) (by decide) (inb_nI (by omega) (by omega)) rfl ?_
  rw [mI_cl (by omega), a4 np (by omega)]
  show mj_Wp _ _ (28, _, [.ref (bP np)], _) _
  refine s_goto (p' := 35) rfl rfl ?_
  exact s_aret rfl rfl
theorem x_lpr {h : mj_H} {np : Nat} {N : Nat → Nat} {F : Nat → Nat → Nat} {K : Nat → Nat} {X : Nat → Nat → Nat → Nat} (hi : cLi h np N F K X) {p : Nat} (hp : p < np) : mj_run 1 138 (0, [some (.ref 38), some (.int (nI p))], [], h) (.inl (some (.ref (bP p))), h) := by
  have a1 := hi.1
  have a2 := hi.2.1
  obtain ⟨rf, a3, a4⟩ := hi.2.2.1
  refine s_aldn (p' := 1) rfl rfl rfl ?_
  refine s_ildn (p' := 2) rfl rfl rfl ?_
  refine s_callV (p' := 5) (ls0 := [_, _]) rfl rfl rfl rfl rfl (mj_rcv_is a2) rfl (x_lhas a2 a1 (by omega)) (by first | decide | omega) rfl ?_
  refine s_if (p' := 8) false rfl (by rw [decide_eq_true hp]; decide +kernel) rfl ?_
  refine s_ildn (p' := 9) rfl rfl rfl ?_
  refine s_aldn (p' := 10) rfl rfl rfl ?_
  refine s_gf (p' := 13) rfl a2 rfl rfl ?_
  refine s_len (p' := 14) rfl (mj_rdA_is a3 (by decide)) (by decide) rfl ?_
  refine s_icmp (p' := 17) false rfl ((ci_ge (by omega) (by omega)).trans (decide_eq_false (by omega))) rfl ?_
  refine s_aldn (p' := 18) rfl rfl rfl ?_
  refine s_gf (p' := 21) rfl a2 rfl rfl ?_
  refine s_ildn (p' := 22) rfl rfl rfl ?_
  refine s_aal (p' := 23) rfl (mj_rdA_is a3 (by decide)) (by decide) (inb_nI (by omega) (by omega)) rfl ?_
  rw [mI_cl (by omega), a4 p (by omega)]
  show mj_Wp _ _ (23, _, [.ref (bP p)], _) _
  refine s_goto (p' := 30) rfl rfl ?_
  exact s_aret rfl rfl
theorem x_kpn {h : mj_H} {np : Nat} (hi : np ≤ 6 ∧ mj_rd h 38 = some (.inr (6, [.ref 39, .ref 40, .int (nI np)])))  : mj_Wp 0 131 (0, [some (.ref 38)], [], h) (mz_V fun r g => r = .int (nI np) ∧ g = h.set 38 (.inr (6, [.ref 39, .ref 40, .int (nI (np + 1))]))) := by
  have a1 := hi.1
  have a2 := hi.2
  refine s_aldn (p' := 1) rfl rfl rfl ?_
  refine s_sp (p' := 2) (ls' := _) rfl rfl rfl ?_
  refine s_gf (p' := 5) rfl a2 rfl rfl ?_
  refine s_con (p' := 6) rfl rfl ?_
  refine s_sp (p' := 7) (ls' := _) rfl rfl rfl ?_
  rw [mI_add]
  refine s_pf (p' := 10) (fs' := [_, _, _]) rfl (by decide) a2 (Nat.blt_eq.mp rfl) rfl rfl rfl ?_
  refine s_aldn (p' := 11) rfl rfl rfl ?_
  refine s_gf (p' := 14) rfl (rd_set (by decide) a2) rfl rfl ?_
  refine s_con (p' := 15) rfl rfl ?_
  refine s_sp (p' := 16) (ls' := _) rfl rfl rfl ?_
  rw [mI_sub (by omega), show np + 1 - 1 = np by omega]
  refine s_iret rfl rfl ?_
  exact ⟨_, _, rfl, rfl, rfl⟩
theorem x_defF {h : mj_H} {gs pl : Value} {sd be : Int64} (h0 : mj_rd h 0 = some (xC_ gs pl sd be)) {n : Nat} {f : Nat → Nat} (ht : cPx h 1 n f) (hf : ∀ j, j < n → f j < 65536) {e : Nat × Nat} (e0 : rAll n f = .inl e) (hb : h.length + 10 < mj_CB) : mj_Wp 101 126 (0, [some (.ref 0), none], [], h) (fun oo => ∃ (q : Nat) (g : mj_H), oo = (.inr q, g) ∧ q < mj_CB ∧ mj_rd g q = some (.inr (13, [])) ∧ cPx g 1 n f ∧ mz_mo (cL 1) 1 6 h g) := by
  obtain ⟨ta, tk, tp, ts, tm, trd⟩ := ht.rd
  have t0 := ht.1
  refine s_aldn (p' := 1) rfl rfl rfl ?_
  refine s_gf (p' := 4) rfl h0 rfl rfl ?_
  refine s_gf (p' := 7) rfl t0 rfl rfl ?_
  refine s_callEV (p' := 10) (ls0 := [_]) rfl rfl rfl rfl rfl (mj_rcv_is trd) rfl (x_rdF (b := 1) (by decide) ht hf e0) rfl rfl ?_
  rintro _ g1 ⟨rfl, t1, m1⟩
  have z1 := m1.1 0 (fun q => by have := mem_cL.mp q; omega) _ h0
  refine s_if (p' := 13) false rfl (by decide +kernel) rfl ?_
  refine s_thr rfl (Nat.le_of_ble_eq_true rfl) ?_
  exact ⟨_, _, rfl, by have := mo_le m1; omega, rd_nw (Nat.blt_eq.mpr (by have := mo_le m1; omega)) rfl, t1.fr (mz_mo.ap [] _ _).1 (fun _ hx => by cases hx), m1.tr (mz_mo.ap [] _ _) (fun y hy => by cases hy) (by decide) (by decide)⟩
theorem x_defU {h : mj_H} {np : Nat} {N : Nat → Nat} {F : Nat → Nat → Nat} {K : Nat → Nat} {X : Nat → Nat → Nat → Nat} (hi : cLi h np N F K X) {gs pl : Value} {sd be : Int64} (h0 : mj_rd h 0 = some (xC_ gs pl sd be)) {n : Nat} {f : Nat → Nat} (ht : cPx h 1 n f) (hf : ∀ j, j < n → f j < 65536) {s : PS} (e0 : rAll n f = .inr s) (hn : np = 6) (hb : h.length + 10 < mj_CB) : mj_Wp 101 126 (0, [some (.ref 0), none], [], h) (fun oo => ∃ (q : Nat) (g : mj_H), oo = (.inr q, g) ∧ q < mj_CB ∧ mj_rd g q = some (.inr (11, [])) ∧ cPx g 1 n f ∧ mz_mo (cL 1) 1 6 h g) := by
  obtain ⟨ta, tk, tp, ts, tm, trd⟩ := ht.rd
  have t0 := ht.1
  refine s_aldn (p' := 1) rfl rfl rfl ?_
  refine s_gf (p' := 4) rfl h0 rfl rfl ?_
  refine s_gf (p' := 7) rfl t0 rfl rfl ?_
  refine s_callEV (p' := 10) (ls0 := [_]) rfl rfl rfl rfl rfl (mj_rcv_is trd) rfl (x_rdT (b := 1) (by decide) ht hf e0 (rAll_K ht.2.1 hf e0)) rfl rfl ?_
  rintro _ g1 ⟨rfl, t1, m1⟩
  have z1 := m1.1 0 (fun q => by have := mem_cL.mp q; omega) _ h0
  have hi1 := hi.fr m1.1 (fun x hx => by have := mem_cL.mp hx; omega)
  refine s_if (p' := 23) true rfl (by decide +kernel) rfl ?_
  refine s_aldn (p' := 24) rfl rfl rfl ?_
  refine s_gf (p' := 27) rfl z1 rfl rfl ?_
  refine s_callV (p' := 30) (ls0 := [_]) rfl rfl rfl rfl rfl (mj_rcv_is hi1.2.1) rfl (x_ful1 hi1 hn) (by first | decide | omega) rfl ?_
  refine s_if (p' := 33) false rfl (by decide +kernel) rfl ?_
  refine s_thr rfl (Nat.le_of_ble_eq_true rfl) ?_
  exact ⟨_, _, rfl, by have := mo_le m1; omega, rd_nw (Nat.blt_eq.mpr (by have := mo_le m1; omega)) rfl, t1.px.fr (mz_mo.ap [] _ _).1 (fun _ hx => by cases hx), m1.tr (mz_mo.ap [] _ _) (fun y hy => by cases hy) (by decide) (by decide)⟩
def dfL : List Nat := (List.range 298).map (· + 1)
theorem dfL_m {x : Nat} : x ∈ dfL ↔ 1 ≤ x ∧ x < 299 := by
  unfold dfL
  rw [List.mem_map]
  constructor
  · rintro ⟨i, hi, rfl⟩
    have := List.mem_range.mp hi
    omega
  · exact fun h => ⟨x - 1, List.mem_range.mpr (by omega), by omega⟩
theorem mo_L {L L' : List Nat} {k z : Nat} {h g : mj_H} (m : mz_mo L k z h g) (hs : ∀ y, y ∈ L → y ∈ L') : mz_mo L' k z h g := m.wk (fun y hy => Or.inl (hs y hy)) (Nat.le_refl _) (Nat.le_refl _)
/-- the library's own cell still there -/
theorem cLi.fr38 {h g : mj_H} {L : List Nat} {np : Nat} {N : Nat → Nat} {F : Nat → Nat → Nat} {K : Nat → Nat} {X : Nat → Nat → Nat → Nat} (c : cLi h np N F K X) (e : mz_fr L h g) (hL : ∀ y, y ∈ L → y < 38 ∨ bP np ≤ y ∧ y < bP np + 37 ∨ 299 ≤ y) : np ≤ 6 ∧ mj_rd g 38 = some (.inr (6, [.ref 39, .ref 40, .int (nI np)])) := ⟨c.1, e _ (fun q => by have := hL _ q; have : bP np = 77 + 37 * np := rfl; omega) _ c.2.1⟩
theorem x_def {h : mj_H} {np : Nat} {N : Nat → Nat} {F : Nat → Nat → Nat} {K : Nat → Nat} {X : Nat → Nat → Nat → Nat} (hi : cLi h np N F K X) {gs pl : Value} {sd be : Int64} (h0 : mj_rd h 0 = some (xC_ gs pl sd be)) {n : Nat} {f : Nat → Nat} (ht : cPx h 1 n f) (hf : ∀ j, j < n → f j < 65536) {s : PS} (e0 : rAll n f = .inr s) (hn : np < 6) : mj_Wp 101 126 (0, [some (.ref 0), none], [], h) (mz_V fun r g => r = .int (nI np) ∧ cLi g (np + 1) (updN3 N np n) (updN3 F np (lF (lsF n f))) (updN3 K np s.2.1) (updN3 X np s.2.2) ∧ cPx g 1 0 (lF []) ∧ mz_mo dfL 0 0 h g) := by
  obtain ⟨ta, tk, tp, ts, tm, trd⟩ := ht.rd
  have t0 := ht.1
  refine s_aldn (p' := 1) rfl rfl rfl ?_
  refine s_gf (p' := 4) rfl h0 rfl rfl ?_
  refine s_gf (p' := 7) rfl t0 rfl rfl ?_
  refine s_callEV (p' := 10) (ls0 := [_]) rfl rfl rfl rfl rfl (mj_rcv_is trd) rfl (x_rdT (b := 1) (by decide) ht hf e0 (rAll_K ht.2.1 hf e0)) rfl rfl ?_
  rintro _ g1 ⟨rfl, t1, m1⟩
  have z1 := m1.1 0 (fun q => by have := mem_cL.mp q; omega) _ h0
  have hi1 := hi.fr m1.1 (fun x hx => by have := mem_cL.mp hx; omega)
  obtain ⟨pn, pf, px⟩ := hi1.2.2.2.1 np hn
  have hbp : bP np = 77 + 37 * np := rfl
  have t1p := t1.px
  refine s_if (p' := 23) true rfl (by decide +kernel) rfl ?_
  refine s_aldn (p' := 24) rfl rfl rfl ?_
  refine s_gf (p' := 27) rfl z1 rfl rfl ?_
  refine s_callV (p' := 30) (ls0 := [_]) rfl rfl rfl rfl rfl (mj_rcv_is hi1.2.1) rfl (x_ful0 hi1 hn) (by first | decide | omega) rfl ?_
  refine s_if (p' := 43) true rfl (by decide +kernel) rfl ?_
  refine s_aldn (p' := 44) rfl rfl rfl ?_
  refine s_gf (p' := 47) rfl z1 rfl rfl ?_
  refine s_callV (p' := 50) (ls0 := [_]) rfl rfl rfl rfl rfl (mj_rcv_is hi1.2.1) rfl (x_lnx hi1 hn) (by first | decide | omega) rfl ?_
  refine s_astn (p' := 51) (ls' := [_, _]) rfl rfl rfl rfl ?_
  refine s_aldn (p' := 52) rfl rfl rfl ?_
  refine s_gf (p' := 55) rfl px.1 rfl rfl ?_
  refine s_aldn (p' := 56) rfl rfl rfl ?_
  refine s_gf (p' := 59) rfl z1 rfl rfl ?_
  refine s_gf (p' := 62) rfl t1p.1 rfl rfl ?_
  refine s_callEN (p' := 65) (ls0 := [_, _, _]) rfl rfl rfl rfl rfl (mj_rcv_is (px.t (by have : mj_CB = 1000000 := rfl; omega)).r) rfl (x_tcp (t1p.t (by decide)) (fun q => by simp only [List.mem_cons, List.not_mem_nil, or_false] at q; omega) (fun q => by simp only [List.mem_cons, List.not_mem_nil, or_false] at q; omega) (fun c hc => by obtain ⟨j, hj, rfl⟩ := List.mem_map.mp hc; exact hf j (List.mem_range.mp hj)) (px.t (by have : mj_CB = 1000000 := rfl; omega))) rfl rfl ?_
  rintro g2 ⟨t2, m2⟩
  have z2 := m2.1 0 (fun q => by simp only [List.mem_cons, List.not_mem_nil, or_false] at q; omega) _ z1
  have px2 := px.ct m2.1 t2
  have ty2 := t1p.fr m2.1 (fun x hx => by simp only [List.mem_cons, List.not_mem_nil, or_false] at hx; omega)
  obtain ⟨pa, pk, pp, ps, pm, prd⟩ := px2.rd
  rw [lsF_len] at px2
  have e2 : rAll n (lF (lsF n f)) = .inr s := (rAll_cg (fun j hj => lF_ls hj)).trans e0
  have hf2 : ∀ j, j < n → lF (lsF n f) j < 65536 := fun j hj => by rw [lF_ls hj]; exact hf j hj
  refine s_aldn (p' := 66) rfl rfl rfl ?_
  refine s_gf (p' := 69) rfl px2.1 rfl rfl ?_
  refine s_callEV (p' := 72) (ls0 := [_]) rfl rfl rfl rfl rfl (mj_rcv_is prd) rfl (x_rdT (by omega) px2 hf2 e2 (rAll_K px2.2.1 hf2 e2)) rfl rfl ?_
  rintro _ g3 ⟨rfl, t3, m3⟩
  have z3 := m3.1 0 (fun q => by have := mem_cL.mp q; omega) _ z2
  have ty3 := ty2.fr m3.1 (fun x hx => by have := mem_cL.mp hx; omega)
  refine s_sp (p' := 73) (ls' := _) rfl rfl rfl ?_
  refine s_aldn (p' := 74) rfl rfl rfl ?_
  refine s_gf (p' := 77) rfl z3 rfl rfl ?_
  refine s_gf (p' := 80) rfl ty3.1 rfl rfl ?_
  refine s_callEN (p' := 83) (ls0 := [_]) rfl rfl rfl rfl rfl (mj_rcv_is (ty3.t (by decide)).r) rfl (x_emp (ty3.t (by decide))) rfl rfl ?_
  rintro g4 ⟨t4, m4⟩
  have z4 := m4.1 0 (fun q => by simp only [List.mem_cons, List.not_mem_nil, or_false] at q; omega) _ z3
  have ty4 : cPx g4 1 0 (lF []) := ty3.ct m4.1 t4
  have pr4 := t3.fr m4.1 (fun x hx => by simp only [List.mem_cons, List.not_mem_nil, or_false] at hx; omega)
  have m14 : mz_mo dfL 0 0 h g4 := mo00 (mo00 (mo_L m1 (fun y hy => by have := mem_cL.mp hy; exact dfL_m.mpr (by omega))) (mo_L m2 (fun y hy => by simp only [List.mem_cons, List.not_mem_nil, or_false] at hy; exact dfL_m.mpr (by omega)))) (mo00 (mo_L m3 (fun y hy => by have := mem_cL.mp hy; exact dfL_m.mpr (by omega))) (mo_L m4 (fun y hy => by simp only [List.mem_cons, List.not_mem_nil, or_false] at hy; exact dfL_m.mpr (by omega))))
  have m24 : mz_mo ((1 + 1) :: (1 + 2) :: (bP np + 1) :: (bP np + 2) :: cL (bP np)) 0 0 g1 g4 := mo00 (mo_L m2 (fun y hy => by simp only [List.mem_cons, List.not_mem_nil, or_false] at hy ⊢; rcases hy with rfl | rfl <;> simp)) (mo00 (mo_L m3 (fun y hy => by simp only [List.mem_cons]; exact Or.inr (Or.inr (Or.inr (Or.inr hy))))) (mo_L m4 (fun y hy => by simp only [List.mem_cons, List.not_mem_nil, or_false] at hy ⊢; rcases hy with rfl | rfl <;> simp)))
  have hL4 : ∀ y, y ∈ ((1 + 1) :: (1 + 2) :: (bP np + 1) :: (bP np + 2) :: cL (bP np)) → y < 38 ∨ bP np ≤ y ∧ y < bP np + 37 ∨ 299 ≤ y := fun y hy => by simp only [List.mem_cons] at hy; rcases hy with hy | hy | hy | hy | hy <;> first | omega | (have := mem_cL.mp hy; omega)
  refine s_aldn (p' := 84) rfl rfl rfl ?_
  refine s_gf (p' := 87) rfl z4 rfl rfl ?_
  refine s_callEV (p' := 90) (ls0 := [_]) rfl rfl rfl rfl rfl (mj_rcv_is (hi1.fr38 m24.1 hL4).2) rfl (x_kpn ((hi1.fr38 m24.1 hL4))) rfl rfl ?_
  rintro _ g5 ⟨rfl, hg⟩
  have k38 := (hi1.fr38 m24.1 hL4).2
  have m5 : mz_mo [38] 0 0 g4 g5 := by rw [hg]; exact mz_mo.s (mz_mo.rf _ _ _ _) (by decide) k38 rfl (Or.inl (by simp))
  have z5 : mj_rd g5 38 = some (.inr (6, [.ref 39, .ref 40, .int (nI (np + 1))])) := by rw [hg]; exact rd_set (by decide) k38
  clear hg
  have m25 : mz_mo (38 :: ((1 + 1) :: (1 + 2) :: (bP np + 1) :: (bP np + 2) :: cL (bP np))) 0 0 g1 g5 := mo00 (mo_L m24 (fun y hy => List.mem_cons_of_mem _ hy)) (mo_L m5 (fun y hy => by rw [List.mem_singleton.mp hy]; exact List.mem_cons_self))
  refine s_iret rfl rfl ?_
  have hL5 : ∀ y, y ∈ (38 :: ((1 + 1) :: (1 + 2) :: (bP np + 1) :: (bP np + 2) :: cL (bP np))) → y < 39 ∨ bP np ≤ y ∧ y < bP np + 37 ∨ 299 ≤ y := fun y hy => by
    rcases List.mem_cons.mp hy with rfl | hy
    · exact Or.inl (by decide)
    · have := hL4 y hy; omega
  exact ⟨_, _, rfl, rfl, hi1.up m25.1 hn hL5 z5 (pr4.fr m5.1 (fun x hx => by rw [List.mem_singleton.mp hx]; omega)), ty4.fr m5.1 (fun x hx => by rw [List.mem_singleton.mp hx]; omega), mo00 m14 (mo_L m5 (fun y hy => by rw [List.mem_singleton.mp hy]; exact dfL_m.mpr (by decide)))⟩
theorem x_invT {h : mj_H} {np : Nat} {N : Nat → Nat} {F : Nat → Nat → Nat} {K : Nat → Nat} {X : Nat → Nat → Nat → Nat} (hi : cLi h np N F K X) {gs pl : Value} {sd be : Int64} (h0 : mj_rd h 0 = some (xC_ gs pl sd be)) {p : Int32} (hpr : p.toInt < 0 ∨ (np : Int) ≤ p.toInt)  : mj_run 1 133 (0, [some (.ref 0), some (.int p), none], [], h) (.inr h.length, h ++ [.inr (14, [])]) := by
  refine s_aldn (p' := 1) rfl rfl rfl ?_
  refine s_gf (p' := 4) rfl h0 rfl rfl ?_
  refine s_ildn (p' := 5) rfl rfl rfl ?_
  refine s_callV (p' := 8) (ls0 := [_, _]) rfl rfl rfl rfl rfl (mj_rcv_is hi.2.1) rfl (x_hasF hi.2.1 hi.1 hpr) (by first | decide | omega) rfl ?_
  refine s_if (p' := 11) false rfl (by decide +kernel) rfl ?_
  exact s_thr rfl (Nat.le_of_ble_eq_true rfl) rfl
theorem x_invU {h : mj_H} {np : Nat} {N : Nat → Nat} {F : Nat → Nat → Nat} {K : Nat → Nat} {X : Nat → Nat → Nat → Nat} (hi : cLi h np N F K X) {gs pl : Value} {sd be : Int64} (h0 : mj_rd h 0 = some (xC_ gs pl sd be)) {p : Nat} (hp : p < np) (hn : np = 6) : mj_run 1 133 (0, [some (.ref 0), some (.int (nI p)), none], [], h) (.inr h.length, h ++ [.inr (11, [])]) := by
  refine s_aldn (p' := 1) rfl rfl rfl ?_
  refine s_gf (p' := 4) rfl h0 rfl rfl ?_
  refine s_ildn (p' := 5) rfl rfl rfl ?_
  refine s_callV (p' := 8) (ls0 := [_, _]) rfl rfl rfl rfl rfl (mj_rcv_is hi.2.1) rfl (x_lhas hi.2.1 hi.1 (by have := hi.1; omega)) (by first | decide | omega) rfl ?_
  refine s_if (p' := 21) true rfl (by rw [decide_eq_true hp]; decide +kernel) rfl ?_
  refine s_aldn (p' := 22) rfl rfl rfl ?_
  refine s_gf (p' := 25) rfl h0 rfl rfl ?_
  refine s_callV (p' := 28) (ls0 := [_]) rfl rfl rfl rfl rfl (mj_rcv_is hi.2.1) rfl (x_ful1 hi hn) (by first | decide | omega) rfl ?_
  refine s_if (p' := 31) false rfl (by decide +kernel) rfl ?_
  exact s_thr rfl (Nat.le_of_ble_eq_true rfl) rfl
theorem x_inv {h : mj_H} {np : Nat} {N : Nat → Nat} {F : Nat → Nat → Nat} {K : Nat → Nat} {X : Nat → Nat → Nat → Nat} (hi : cLi h np N F K X) {gs pl : Value} {sd be : Int64} (h0 : mj_rd h 0 = some (xC_ gs pl sd be)) {p : Nat} (hp : p < np) (hn : np < 6) {y z : Nat → Nat → Nat} (w : wRow (X p) y 6 0 (K p) 0) (hl60 : (pFl y (K p) 0).length ≤ 60) (e2 : rAll (pFl y (K p) 0).length (lF (pFl y (K p) 0)) = .inr ((pFl y (K p) 0).length, K p, z)) : mj_Wp 101 133 (0, [some (.ref 0), some (.int (nI p)), none], [], h) (mz_V fun r g => r = .int (nI np) ∧ cLi g (np + 1) (updN3 N np (pFl y (K p) 0).length) (updN3 F np (lF (pFl y (K p) 0))) (updN3 K np (K p)) (updN3 X np z) ∧ mz_mo dfL 0 0 h g) := by
  obtain ⟨pn, pf, px⟩ := hi.2.2.2.1 np hn
  have hbp : bP np = 77 + 37 * np := rfl
  have hty := w.ty
  rw [Nat.zero_add, Nat.sub_zero] at hty
  have hf2 : ∀ j, j < (pFl y (K p) 0).length → lF (pFl y (K p) 0) j < 65536 := fun j hj => by have := lF_lt hty.lt200 hj; omega
  refine s_aldn (p' := 1) rfl rfl rfl ?_
  refine s_gf (p' := 4) rfl h0 rfl rfl ?_
  refine s_ildn (p' := 5) rfl rfl rfl ?_
  refine s_callV (p' := 8) (ls0 := [_, _]) rfl rfl rfl rfl rfl (mj_rcv_is hi.2.1) rfl (x_lhas hi.2.1 hi.1 (by have := hi.1; omega)) (by first | decide | omega) rfl ?_
  refine s_if (p' := 21) true rfl (by rw [decide_eq_true hp]; decide +kernel) rfl ?_
  refine s_aldn (p' := 22) rfl rfl rfl ?_
  refine s_gf (p' := 25) rfl h0 rfl rfl ?_
  refine s_callV (p' := 28) (ls0 := [_]) rfl rfl rfl rfl rfl (mj_rcv_is hi.2.1) rfl (x_ful0 hi hn) (by first | decide | omega) rfl ?_
  refine s_if (p' := 41) true rfl (by decide +kernel) rfl ?_
  refine s_aldn (p' := 42) rfl rfl rfl ?_
  refine s_gf (p' := 45) rfl h0 rfl rfl ?_
  refine s_callV (p' := 48) (ls0 := [_]) rfl rfl rfl rfl rfl (mj_rcv_is hi.2.1) rfl (x_lnx hi hn) (by first | decide | omega) rfl ?_
  refine s_astn (p' := 49) (ls' := [_, _, _]) rfl rfl rfl rfl ?_
  refine s_aldn (p' := 50) rfl rfl rfl ?_
  refine s_gf (p' := 53) rfl h0 rfl rfl ?_
  refine s_ildn (p' := 54) rfl rfl rfl ?_
  refine s_callV (p' := 57) (ls0 := [_, _]) rfl rfl rfl rfl rfl (mj_rcv_is hi.2.1) rfl (x_lcd hi.lb hp) (by first | decide | omega) rfl ?_
  refine s_aldn (p' := 58) rfl rfl rfl ?_
  refine s_gf (p' := 61) rfl px.1 rfl rfl ?_
  refine s_callEN (p' := 64) (ls0 := [_, _]) rfl rfl rfl rfl rfl (mj_rcv_is (hi.2.2.2.2 p hp).cd.2.1) rfl (x_wb (hi.2.2.2.2 p hp).cd (px.t (by have : mj_CB = 1000000 := rfl; omega)) w hl60) rfl rfl ?_
  rintro g2 ⟨t2, m2⟩
  have z2 := m2.1 0 (fun q => by simp only [List.mem_cons, List.not_mem_nil, or_false] at q; omega) _ h0
  have px2 := px.ct m2.1 t2
  obtain ⟨pa, pk, pp, ps, pm, prd⟩ := px2.rd
  refine s_aldn (p' := 65) rfl rfl rfl ?_
  refine s_gf (p' := 68) rfl px2.1 rfl rfl ?_
  refine s_callEV (p' := 71) (ls0 := [_]) rfl rfl rfl rfl rfl (mj_rcv_is prd) rfl (x_rdT (by omega) px2 hf2 e2 (hi.2.2.2.2 p hp).2.2.1) rfl rfl ?_
  rintro _ g3 ⟨rfl, t3, m3⟩
  have z3 := m3.1 0 (fun q => by have := mem_cL.mp q; omega) _ z2
  have m03 : mz_mo ((bP np + 1) :: (bP np + 2) :: cL (bP np)) 0 0 h g3 := mo00 (mo_L m2 (fun y hy => by simp only [List.mem_cons, List.not_mem_nil, or_false] at hy ⊢; rcases hy with rfl | rfl <;> simp)) (mo_L m3 (fun y hy => by simp only [List.mem_cons]; exact Or.inr (Or.inr hy)))
  have hL3 : ∀ y, y ∈ ((bP np + 1) :: (bP np + 2) :: cL (bP np)) → y < 38 ∨ bP np ≤ y ∧ y < bP np + 37 ∨ 299 ≤ y := fun y hy => by simp only [List.mem_cons] at hy; rcases hy with hy | hy | hy <;> first | omega | (have := mem_cL.mp hy; omega)
  refine s_sp (p' := 72) (ls' := _) rfl rfl rfl ?_
  refine s_aldn (p' := 73) rfl rfl rfl ?_
  refine s_gf (p' := 76) rfl z3 rfl rfl ?_
  refine s_callEV (p' := 79) (ls0 := [_]) rfl rfl rfl rfl rfl (mj_rcv_is (hi.fr38 m03.1 hL3).2) rfl (x_kpn (hi.fr38 m03.1 hL3)) rfl rfl ?_
  rintro _ g5 ⟨rfl, hg⟩
  have k38 := (hi.fr38 m03.1 hL3).2
  have m5 : mz_mo [38] 0 0 g3 g5 := by rw [hg]; exact mz_mo.s (mz_mo.rf _ _ _ _) (by decide) k38 rfl (Or.inl (by simp))
  have z5 : mj_rd g5 38 = some (.inr (6, [.ref 39, .ref 40, .int (nI (np + 1))])) := by rw [hg]; exact rd_set (by decide) k38
  clear hg
  have m05 : mz_mo (38 :: ((bP np + 1) :: (bP np + 2) :: cL (bP np))) 0 0 h g5 := mo00 (mo_L m03 (fun y hy => List.mem_cons_of_mem _ hy)) (mo_L m5 (fun y hy => by rw [List.mem_singleton.mp hy]; exact List.mem_cons_self))
  have hL5 : ∀ y, y ∈ (38 :: ((bP np + 1) :: (bP np + 2) :: cL (bP np))) → y < 39 ∨ bP np ≤ y ∧ y < bP np + 37 ∨ 299 ≤ y := fun y hy => by
    rcases List.mem_cons.mp hy with rfl | hy
    · exact Or.inl (by decide)
    · have := hL3 y hy; omega
  have hL6 : ∀ y, y ∈ (38 :: ((bP np + 1) :: (bP np + 2) :: cL (bP np))) → y ∈ dfL := fun y hy => by
    refine dfL_m.mpr ?_
    simp only [List.mem_cons] at hy
    rcases hy with hy | hy | hy | hy <;> first | omega | (have := mem_cL.mp hy; omega)
  refine s_iret rfl rfl ?_
  exact ⟨_, _, rfl, rfl, hi.up m05.1 hn hL5 z5 (t3.fr m5.1 (fun x hx => by rw [List.mem_singleton.mp hx]; omega)), mo_L m05 hL6⟩
theorem x_lenT {h : mj_H} {np : Nat} {N : Nat → Nat} {F : Nat → Nat → Nat} {K : Nat → Nat} {X : Nat → Nat → Nat → Nat} (hi : cLi h np N F K X) {gs pl : Value} {sd be : Int64} (h0 : mj_rd h 0 = some (xC_ gs pl sd be)) {p : Int32} (hpr : p.toInt < 0 ∨ (np : Int) ≤ p.toInt)  : mj_run 1 137 (0, [some (.ref 0), some (.int p)], [], h) (.inr h.length, h ++ [.inr (14, [])]) := by
  refine s_aldn (p' := 1) rfl rfl rfl ?_
  refine s_gf (p' := 4) rfl h0 rfl rfl ?_
  refine s_ildn (p' := 5) rfl rfl rfl ?_
  refine s_callV (p' := 8) (ls0 := [_, _]) rfl rfl rfl rfl rfl (mj_rcv_is hi.2.1) rfl (x_hasF hi.2.1 hi.1 hpr) (by first | decide | omega) rfl ?_
  refine s_if (p' := 11) false rfl (by decide +kernel) rfl ?_
  exact s_thr rfl (Nat.le_of_ble_eq_true rfl) rfl
theorem x_sgaT {h : mj_H} {np : Nat} {N : Nat → Nat} {F : Nat → Nat → Nat} {K : Nat → Nat} {X : Nat → Nat → Nat → Nat} (hi : cLi h np N F K X) {gs pl : Value} {sd be : Int64} (h0 : mj_rd h 0 = some (xC_ gs pl sd be)) {p : Int32} (hpr : p.toInt < 0 ∨ (np : Int) ≤ p.toInt) {u : Int32} : mj_run 1 140 (0, [some (.ref 0), some (.int p), some (.int u), none], [], h) (.inr h.length, h ++ [.inr (14, [])]) := by
  refine s_aldn (p' := 1) rfl rfl rfl ?_
  refine s_gf (p' := 4) rfl h0 rfl rfl ?_
  refine s_ildn (p' := 5) rfl rfl rfl ?_
  refine s_callV (p' := 8) (ls0 := [_, _]) rfl rfl rfl rfl rfl (mj_rcv_is hi.2.1) rfl (x_hasF hi.2.1 hi.1 hpr) (by first | decide | omega) rfl ?_
  refine s_if (p' := 11) false rfl (by decide +kernel) rfl ?_
  exact s_thr rfl (Nat.le_of_ble_eq_true rfl) rfl
theorem x_sizT {h : mj_H} {np : Nat} {N : Nat → Nat} {F : Nat → Nat → Nat} {K : Nat → Nat} {X : Nat → Nat → Nat → Nat} (hi : cLi h np N F K X) {gs pl : Value} {sd be : Int64} (h0 : mj_rd h 0 = some (xC_ gs pl sd be)) {p : Int32} (hpr : p.toInt < 0 ∨ (np : Int) ≤ p.toInt)  : mj_run 1 142 (0, [some (.ref 0), some (.int p)], [], h) (.inr h.length, h ++ [.inr (14, [])]) := by
  refine s_aldn (p' := 1) rfl rfl rfl ?_
  refine s_gf (p' := 4) rfl h0 rfl rfl ?_
  refine s_ildn (p' := 5) rfl rfl rfl ?_
  refine s_callV (p' := 8) (ls0 := [_, _]) rfl rfl rfl rfl rfl (mj_rcv_is hi.2.1) rfl (x_hasF hi.2.1 hi.1 hpr) (by first | decide | omega) rfl ?_
  refine s_if (p' := 11) false rfl (by decide +kernel) rfl ?_
  exact s_thr rfl (Nat.le_of_ble_eq_true rfl) rfl
theorem x_iatT {h : mj_H} {np : Nat} {N : Nat → Nat} {F : Nat → Nat → Nat} {K : Nat → Nat} {X : Nat → Nat → Nat → Nat} (hi : cLi h np N F K X) {gs pl : Value} {sd be : Int64} (h0 : mj_rd h 0 = some (xC_ gs pl sd be)) {p : Int32} (hpr : p.toInt < 0 ∨ (np : Int) ≤ p.toInt) {u : Int32} : mj_run 1 144 (0, [some (.ref 0), some (.int p), some (.int u), none], [], h) (.inr h.length, h ++ [.inr (14, [])]) := by
  refine s_aldn (p' := 1) rfl rfl rfl ?_
  refine s_gf (p' := 4) rfl h0 rfl rfl ?_
  refine s_ildn (p' := 5) rfl rfl rfl ?_
  refine s_callV (p' := 8) (ls0 := [_, _]) rfl rfl rfl rfl rfl (mj_rcv_is hi.2.1) rfl (x_hasF hi.2.1 hi.1 hpr) (by first | decide | omega) rfl ?_
  refine s_if (p' := 11) false rfl (by decide +kernel) rfl ?_
  exact s_thr rfl (Nat.le_of_ble_eq_true rfl) rfl
theorem x_len {h : mj_H} {np : Nat} {N : Nat → Nat} {F : Nat → Nat → Nat} {K : Nat → Nat} {X : Nat → Nat → Nat → Nat} (hi : cLi h np N F K X) {gs pl : Value} {sd be : Int64} (h0 : mj_rd h 0 = some (xC_ gs pl sd be)) {p : Nat} (hp : p < np)  : mj_run 2 137 (0, [some (.ref 0), some (.int (nI p))], [], h) (.inl (some (.int (nI (N p)))), h) := by
  have px := (hi.2.2.2.2 p hp).px
  have hbp : bP p = 77 + 37 * p := rfl
  have hp6 := hi.1
  have tt := px.t (by have : mj_CB = 1000000 := rfl; omega)
  have htt := tt.r
  rw [lsF_len] at htt
  refine s_aldn (p' := 1) rfl rfl rfl ?_
  refine s_gf (p' := 4) rfl h0 rfl rfl ?_
  refine s_ildn (p' := 5) rfl rfl rfl ?_
  refine s_callV (p' := 8) (ls0 := [_, _]) rfl rfl rfl rfl rfl (mj_rcv_is hi.2.1) rfl (x_lhas hi.2.1 hi.1 (by have := hi.1; omega)) (by first | decide | omega) rfl ?_
  refine s_if (p' := 21) true rfl (by rw [decide_eq_true hp]; decide +kernel) rfl ?_
  refine s_aldn (p' := 22) rfl rfl rfl ?_
  refine s_gf (p' := 25) rfl h0 rfl rfl ?_
  refine s_ildn (p' := 26) rfl rfl rfl ?_
  refine s_callV (p' := 29) (ls0 := [_, _]) rfl rfl rfl rfl rfl (mj_rcv_is hi.2.1) rfl (x_lpr hi hp) (by first | decide | omega) rfl ?_
  refine s_gf (p' := 32) rfl px.1 rfl rfl ?_
  refine c_call (p' := 35) (kc := 1) (ls0 := [_]) rfl rfl rfl rfl rfl (mj_rcv_is htt) rfl rfl rfl ?_
  refine s_aldn (p' := 1) rfl rfl rfl ?_
  refine s_gf (p' := 4) rfl htt rfl rfl ?_
  refine c_iret rfl rfl ?_
  exact s_iret rfl rfl rfl
theorem x_siz {h : mj_H} {np : Nat} {N : Nat → Nat} {F : Nat → Nat → Nat} {K : Nat → Nat} {X : Nat → Nat → Nat → Nat} (hi : cLi h np N F K X) {gs pl : Value} {sd be : Int64} (h0 : mj_rd h 0 = some (xC_ gs pl sd be)) {p : Nat} (hp : p < np)  : mj_run 2 142 (0, [some (.ref 0), some (.int (nI p))], [], h) (.inl (some (.int (nI (K p)))), h) := by
  have cc := (hi.2.2.2.2 p hp).cd
  refine s_aldn (p' := 1) rfl rfl rfl ?_
  refine s_gf (p' := 4) rfl h0 rfl rfl ?_
  refine s_ildn (p' := 5) rfl rfl rfl ?_
  refine s_callV (p' := 8) (ls0 := [_, _]) rfl rfl rfl rfl rfl (mj_rcv_is hi.2.1) rfl (x_lhas hi.2.1 hi.1 (by have := hi.1; omega)) (by first | decide | omega) rfl ?_
  refine s_if (p' := 21) true rfl (by rw [decide_eq_true hp]; decide +kernel) rfl ?_
  refine s_aldn (p' := 22) rfl rfl rfl ?_
  refine s_gf (p' := 25) rfl h0 rfl rfl ?_
  refine s_ildn (p' := 26) rfl rfl rfl ?_
  refine s_callV (p' := 29) (ls0 := [_, _]) rfl rfl rfl rfl rfl (mj_rcv_is hi.2.1) rfl (x_lcd hi.lb hp) (by first | decide | omega) rfl ?_
  refine c_call (p' := 32) (kc := 1) (ls0 := [_]) rfl rfl rfl rfl rfl (mj_rcv_is cc.2.1) rfl rfl rfl ?_
  refine s_aldn (p' := 1) rfl rfl rfl ?_
  refine s_gf (p' := 4) rfl cc.2.1 rfl rfl ?_
  refine c_iret rfl rfl ?_
  exact s_iret rfl rfl rfl
theorem ci_lt2 {x : Int32} {n : Nat} (h : n < 2147483648) : mj_ci .lt x (nI n) = decide (x.toInt < n) := cg_lt (mI_ti h)
theorem x_sgaO {h : mj_H} {np : Nat} {N : Nat → Nat} {F : Nat → Nat → Nat} {K : Nat → Nat} {X : Nat → Nat → Nat → Nat} (hi : cLi h np N F K X) {gs pl : Value} {sd be : Int64} (h0 : mj_rd h 0 = some (xC_ gs pl sd be)) {p : Nat} (hp : p < np) {u : Int32} (hu : u.toInt < 0 ∨ (N p : Int) ≤ u.toInt) (hb : N p ≤ 60) : mj_run 2 140 (0, [some (.ref 0), some (.int (nI p)), some (.int u), none], [], h) (.inr h.length, h ++ [.inr (14, [])]) := by
  have px := (hi.2.2.2.2 p hp).px
  have hbp : bP p = 77 + 37 * p := rfl
  have hp6 := hi.1
  have tt := px.t (by have : mj_CB = 1000000 := rfl; omega)
  have htt := tt.r
  rw [lsF_len] at htt
  refine s_aldn (p' := 1) rfl rfl rfl ?_
  refine s_gf (p' := 4) rfl h0 rfl rfl ?_
  refine s_ildn (p' := 5) rfl rfl rfl ?_
  refine s_callV (p' := 8) (ls0 := [_, _]) rfl rfl rfl rfl rfl (mj_rcv_is hi.2.1) rfl (x_lhas hi.2.1 hi.1 (by have := hi.1; omega)) (by first | decide | omega) rfl ?_
  refine s_if (p' := 21) true rfl (by rw [decide_eq_true hp]; decide +kernel) rfl ?_
  refine s_aldn (p' := 22) rfl rfl rfl ?_
  refine s_gf (p' := 25) rfl h0 rfl rfl ?_
  refine s_ildn (p' := 26) rfl rfl rfl ?_
  refine s_callV (p' := 29) (ls0 := [_, _]) rfl rfl rfl rfl rfl (mj_rcv_is hi.2.1) rfl (x_lpr hi hp) (by first | decide | omega) rfl ?_
  refine s_gf (p' := 32) rfl px.1 rfl rfl ?_
  refine s_astn (p' := 33) (ls' := [_, _, _, _]) rfl rfl rfl rfl ?_
  refine s_ildn (p' := 34) rfl rfl rfl ?_
  by_cases q1 : u.toInt < 0
  · refine s_if (p' := 45) true rfl ((cg_lt (w := 0) (by decide +kernel)).trans (decide_eq_true (by omega))) rfl ?_
    exact s_thr rfl (Nat.le_of_ble_eq_true rfl) rfl
  · refine s_if (p' := 37) false rfl ((cg_lt (w := 0) (by decide +kernel)).trans (decide_eq_false (by omega))) rfl ?_
    refine s_ildn (p' := 38) rfl rfl rfl ?_
    refine s_aldn (p' := 39) rfl rfl rfl ?_
    refine c_call (p' := 42) (kc := 1) (ls0 := [_]) rfl rfl rfl rfl rfl (mj_rcv_is htt) rfl rfl rfl ?_
    refine s_aldn (p' := 1) rfl rfl rfl ?_
    refine s_gf (p' := 4) rfl htt rfl rfl ?_
    refine c_iret rfl rfl ?_
    refine s_icmp (p' := 45) false rfl ((ci_lt2 (by omega)).trans (decide_eq_false (by omega))) rfl ?_
    exact s_thr rfl (Nat.le_of_ble_eq_true rfl) rfl
theorem x_sga {h : mj_H} {np : Nat} {N : Nat → Nat} {F : Nat → Nat → Nat} {K : Nat → Nat} {X : Nat → Nat → Nat → Nat} (hi : cLi h np N F K X) {gs pl : Value} {sd be : Int64} (h0 : mj_rd h 0 = some (xC_ gs pl sd be)) {p : Nat} (hp : p < np) {j : Nat} (hj : j < N p) (hb : N p ≤ 60) (hc : F p j < 65536) : mj_run 2 140 (0, [some (.ref 0), some (.int (nI p)), some (.int (nI j)), none], [], h) (.inl (some (.int (nI (F p j)))), h) := by
  have px := (hi.2.2.2.2 p hp).px
  have hbp : bP p = 77 + 37 * p := rfl
  have hp6 := hi.1
  have tt := px.t (by have : mj_CB = 1000000 := rfl; omega)
  have htt := tt.r
  rw [lsF_len] at htt
  refine s_aldn (p' := 1) rfl rfl rfl ?_
  refine s_gf (p' := 4) rfl h0 rfl rfl ?_
  refine s_ildn (p' := 5) rfl rfl rfl ?_
  refine s_callV (p' := 8) (ls0 := [_, _]) rfl rfl rfl rfl rfl (mj_rcv_is hi.2.1) rfl (x_lhas hi.2.1 hi.1 (by have := hi.1; omega)) (by first | decide | omega) rfl ?_
  refine s_if (p' := 21) true rfl (by rw [decide_eq_true hp]; decide +kernel) rfl ?_
  refine s_aldn (p' := 22) rfl rfl rfl ?_
  refine s_gf (p' := 25) rfl h0 rfl rfl ?_
  refine s_ildn (p' := 26) rfl rfl rfl ?_
  refine s_callV (p' := 29) (ls0 := [_, _]) rfl rfl rfl rfl rfl (mj_rcv_is hi.2.1) rfl (x_lpr hi hp) (by first | decide | omega) rfl ?_
  refine s_gf (p' := 32) rfl px.1 rfl rfl ?_
  refine s_astn (p' := 33) (ls' := [_, _, _, _]) rfl rfl rfl rfl ?_
  refine s_ildn (p' := 34) rfl rfl rfl ?_
  refine s_if (p' := 37) false rfl (cz_lt (by omega)) rfl ?_
  refine s_ildn (p' := 38) rfl rfl rfl ?_
  refine s_aldn (p' := 39) rfl rfl rfl ?_
  refine c_call (p' := 42) (kc := 1) (ls0 := [_]) rfl rfl rfl rfl rfl (mj_rcv_is htt) rfl rfl rfl ?_
  refine s_aldn (p' := 1) rfl rfl rfl ?_
  refine s_gf (p' := 4) rfl htt rfl rfl ?_
  refine c_iret rfl rfl ?_
  refine s_icmp (p' := 55) true rfl ((ci_lt (by omega) (by omega)).trans (decide_eq_true (by omega))) rfl ?_
  refine s_aldn (p' := 56) rfl rfl rfl ?_
  refine s_ildn (p' := 57) rfl rfl rfl ?_
  refine s_callV (p' := 60) (ls0 := [_, _]) rfl rfl rfl rfl rfl (mj_rcv_is htt) rfl (x_tsg_ tt (by rw [List.getElem?_map, List.getElem?_range hj]; rfl)) (by first | decide | omega) rfl ?_
  refine s_sp (p' := 61) (ls' := _) rfl rfl rfl ?_
  rw [i2c_n hc]
  exact s_iret rfl (nar_ch hc) rfl
theorem x_iatO {h : mj_H} {np : Nat} {N : Nat → Nat} {F : Nat → Nat → Nat} {K : Nat → Nat} {X : Nat → Nat → Nat → Nat} (hi : cLi h np N F K X) {gs pl : Value} {sd be : Int64} (h0 : mj_rd h 0 = some (xC_ gs pl sd be)) {p : Nat} (hp : p < np) {u : Int32} (hu : u.toInt < 0 ∨ (K p : Int) ≤ u.toInt) (hb : K p ≤ 60) : mj_run 2 144 (0, [some (.ref 0), some (.int (nI p)), some (.int u), none], [], h) (.inr h.length, h ++ [.inr (14, [])]) := by
  have cc := (hi.2.2.2.2 p hp).cd
  refine s_aldn (p' := 1) rfl rfl rfl ?_
  refine s_gf (p' := 4) rfl h0 rfl rfl ?_
  refine s_ildn (p' := 5) rfl rfl rfl ?_
  refine s_callV (p' := 8) (ls0 := [_, _]) rfl rfl rfl rfl rfl (mj_rcv_is hi.2.1) rfl (x_lhas hi.2.1 hi.1 (by have := hi.1; omega)) (by first | decide | omega) rfl ?_
  refine s_if (p' := 21) true rfl (by rw [decide_eq_true hp]; decide +kernel) rfl ?_
  refine s_aldn (p' := 22) rfl rfl rfl ?_
  refine s_gf (p' := 25) rfl h0 rfl rfl ?_
  refine s_ildn (p' := 26) rfl rfl rfl ?_
  refine s_callV (p' := 29) (ls0 := [_, _]) rfl rfl rfl rfl rfl (mj_rcv_is hi.2.1) rfl (x_lcd hi.lb hp) (by first | decide | omega) rfl ?_
  refine s_astn (p' := 30) (ls' := [_, _, _, _]) rfl rfl rfl rfl ?_
  refine s_ildn (p' := 31) rfl rfl rfl ?_
  by_cases q1 : u.toInt < 0
  · refine s_if (p' := 42) true rfl ((cg_lt (w := 0) (by decide +kernel)).trans (decide_eq_true (by omega))) rfl ?_
    exact s_thr rfl (Nat.le_of_ble_eq_true rfl) rfl
  · refine s_if (p' := 34) false rfl ((cg_lt (w := 0) (by decide +kernel)).trans (decide_eq_false (by omega))) rfl ?_
    refine s_ildn (p' := 35) rfl rfl rfl ?_
    refine s_aldn (p' := 36) rfl rfl rfl ?_
    refine c_call (p' := 39) (kc := 1) (ls0 := [_]) rfl rfl rfl rfl rfl (mj_rcv_is cc.2.1) rfl rfl rfl ?_
    refine s_aldn (p' := 1) rfl rfl rfl ?_
    refine s_gf (p' := 4) rfl cc.2.1 rfl rfl ?_
    refine c_iret rfl rfl ?_
    refine s_icmp (p' := 42) false rfl ((ci_lt2 (by omega)).trans (decide_eq_false (by omega))) rfl ?_
    exact s_thr rfl (Nat.le_of_ble_eq_true rfl) rfl
theorem x_iat {h : mj_H} {np : Nat} {N : Nat → Nat} {F : Nat → Nat → Nat} {K : Nat → Nat} {X : Nat → Nat → Nat → Nat} (hi : cLi h np N F K X) {gs pl : Value} {sd be : Int64} (h0 : mj_rd h 0 = some (xC_ gs pl sd be)) {p : Nat} (hp : p < np) {j : Nat} (hj : j < K p) (hb : K p ≤ 60) (hc : X p j 0 < 65536) : mj_run 2 144 (0, [some (.ref 0), some (.int (nI p)), some (.int (nI j)), none], [], h) (.inl (some (.int (nI (X p j 0)))), h) := by
  have cc := (hi.2.2.2.2 p hp).cd
  obtain ⟨ii, r1, r2⟩ := cc.2.2.2 j hj
  refine s_aldn (p' := 1) rfl rfl rfl ?_
  refine s_gf (p' := 4) rfl h0 rfl rfl ?_
  refine s_ildn (p' := 5) rfl rfl rfl ?_
  refine s_callV (p' := 8) (ls0 := [_, _]) rfl rfl rfl rfl rfl (mj_rcv_is hi.2.1) rfl (x_lhas hi.2.1 hi.1 (by have := hi.1; omega)) (by first | decide | omega) rfl ?_
  refine s_if (p' := 21) true rfl (by rw [decide_eq_true hp]; decide +kernel) rfl ?_
  refine s_aldn (p' := 22) rfl rfl rfl ?_
  refine s_gf (p' := 25) rfl h0 rfl rfl ?_
  refine s_ildn (p' := 26) rfl rfl rfl ?_
  refine s_callV (p' := 29) (ls0 := [_, _]) rfl rfl rfl rfl rfl (mj_rcv_is hi.2.1) rfl (x_lcd hi.lb hp) (by first | decide | omega) rfl ?_
  refine s_astn (p' := 30) (ls' := [_, _, _, _]) rfl rfl rfl rfl ?_
  refine s_ildn (p' := 31) rfl rfl rfl ?_
  refine s_if (p' := 34) false rfl (cz_lt (by omega)) rfl ?_
  refine s_ildn (p' := 35) rfl rfl rfl ?_
  refine s_aldn (p' := 36) rfl rfl rfl ?_
  refine c_call (p' := 39) (kc := 1) (ls0 := [_]) rfl rfl rfl rfl rfl (mj_rcv_is cc.2.1) rfl rfl rfl ?_
  refine s_aldn (p' := 1) rfl rfl rfl ?_
  refine s_gf (p' := 4) rfl cc.2.1 rfl rfl ?_
  refine c_iret rfl rfl ?_
  refine s_icmp (p' := 52) true rfl ((ci_lt (by omega) (by omega)).trans (decide_eq_true (by omega))) rfl ?_
  refine s_aldn (p' := 53) rfl rfl rfl ?_
  refine s_ildn (p' := 54) rfl rfl rfl ?_
  refine s_callV (p' := 57) (ls0 := [_, _]) rfl rfl rfl rfl rfl (mj_rcv_is cc.2.1) rfl (x_cda cc hj) (by first | decide | omega) rfl ?_
  refine s_gf (p' := 60) rfl r1 rfl rfl ?_
  rw [r2 0 (by decide)]
  exact s_iret rfl (nar_ch hc) rfl
