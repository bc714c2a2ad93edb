/-! The class writes the way back of a row of acts. -/
def cTl (h : mj_H) (T A : Nat) (l : List Nat) : Prop := l.length ≤ 60 ∧ T < mj_CB ∧ A < mj_CB ∧ ∃ tf : Nat → Int32, mj_rd h T = some (.inr (2, [.ref A, .int (nI l.length)])) ∧ mj_rd h A = some (.inl (3, (60, .inl tf))) ∧ ∀ j c, l[j]? = some c → tf j = nI c
theorem cTl.r {h : mj_H} {T A : Nat} {l : List Nat} : cTl h T A l → mj_rd h T = some (.inr (2, [.ref A, .int (nI l.length)])) := fun ⟨_, _, _, _, a, _⟩ => a
theorem cTl.len {h : mj_H} {T A : Nat} {l : List Nat} (t : cTl h T A l) : l.length ≤ 60 := t.1
def cCd (h : mj_H) (b k : Nat) (X : Nat → Nat → Nat) : Prop := k ≤ 30 ∧ mj_rd h (b + 3) = some (cdC b k) ∧ cRow h b ∧ ∀ j, j < k → ∃ ins : Nat → Int32, mj_rd h (b + 6 + j) = some (inC ins) ∧ ∀ q, q < 8 → ins q = nI (X j q)
theorem cTl.n {h : mj_H} {T A : Nat} {l : List Nat} (t : cTl h T A l) {a : Nat} {c : mj_C} (r : mj_rd h a = some c) (h1 : ∀ fs, c ≠ .inr (2, fs)) (h2 : ∀ x, c ≠ .inl (3, x)) : a ∉ [T, A] := fun q => by
  obtain ⟨_, _, _, tf, k1, k2, _⟩ := t
  simp only [List.mem_cons, List.not_mem_nil, or_false] at q
  rcases q with rfl | rfl
  · exact h1 _ (Option.some.inj (r.symm.trans k1))
  · exact h2 _ (Option.some.inj (r.symm.trans k2))
theorem cCd.ct {h g : mj_H} {T A b k : Nat} {l : List Nat} {X : Nat → Nat → Nat} (t : cTl h T A l) (e : mz_fr [T, A] h g) (c : cCd h b k X) : cCd g b k X := by
  obtain ⟨a1, a2, ⟨rw_, a3, a4⟩, a5⟩ := c
  refine ⟨a1, e _ (t.n a2 (fun fs q => by cases q) (fun x q => by cases q)) _ a2, ⟨rw_, e _ (t.n a3 (fun fs q => by cases q) (fun x q => by cases q)) _ a3, a4⟩, fun j hj => ?_⟩
  obtain ⟨ins, b1, b2⟩ := a5 j hj
  exact ⟨ins, e _ (t.n b1 (fun fs q => by cases q) (fun x q => by cases q)) _ b1, b2⟩
theorem x_cda {h : mj_H} {b k j : Nat} {X : Nat → Nat → Nat} (hc : cCd h b k X) (hj : j < k) : mj_run 0 74 (0, [some (.ref (b + 3)), some (.int (nI j))], [], h) (.inl (some (.ref (b + 6 + j))), h) := by
  obtain ⟨k5, k2, ⟨rw_, k3, k4⟩, k6⟩ := hc
  refine s_ildn (p' := 1) rfl rfl rfl ?_
  refine s_if (p' := 4) false rfl (cz_lt (by omega)) rfl ?_
  refine s_ildn (p' := 5) rfl rfl rfl ?_
  refine s_aldn (p' := 6) rfl rfl rfl ?_
  refine s_gf (p' := 9) rfl k2 rfl rfl ?_
  refine s_icmp (p' := 12) false rfl ((ci_ge (by omega) (by omega)).trans (decide_eq_false (by omega))) rfl ?_
  refine s_ildn (p' := 13) rfl rfl rfl ?_
  refine s_aldn (p' := 14) rfl rfl rfl ?_
  refine s_gf (p' := 17) rfl k2 rfl rfl ?_
  refine s_len (p' := 18) rfl (mj_rdA_is k3 (by decide)) (by decide) rfl ?_
  refine s_icmp (p' := 21) false rfl ((ci_ge (by omega) (by omega)).trans (decide_eq_false (by omega))) rfl ?_
  refine s_aldn (p' := 22) rfl rfl rfl ?_
  refine s_gf (p' := 25) rfl k2 rfl rfl ?_
  refine s_ildn (p' := 26) rfl rfl rfl ?_
  refine s_aal (p' := 27) rfl (mj_rdA_is k3 (by decide)) (by decide) (inb_nI (by omega) (by omega)) rfl ?_
  rw [mI_cl (by omega), k4 j (by omega)]
  show mj_Wp _ _ (27, _, [.ref (b + 6 + j)], _) _
  refine s_goto (p' := 34) rfl rfl ?_
  exact s_aret rfl rfl
theorem x_ptl {h : mj_H} {T A c : Nat} {l : List Nat} (t : cTl h T A l) (hn : l.length + 1 ≤ 60) (hc : c < 65536) : mj_Wp 1 73 (0, [some (.ref T), some (.int (nI c))], [], h) (mz_N fun h' => cTl h' T A (l ++ [c]) ∧ mz_mo [T, A] 0 0 h h') := by
  obtain ⟨t1, t2, t3, tf, k1, k2, k3⟩ := t
  have hne : A ≠ T := fun e => by rw [e, k1] at k2; cases k2
  refine (x_put t2 t3 k1 k2 (by omega) hc).imp ?_
  rintro _ rfl
  have e1 : (l ++ [c]).length = l.length + 1 := by rw [List.length_append]; rfl
  refine ⟨_, rfl, ⟨by omega, t2, t3, upd tf l.length (nI c), ?_, ?_, fun j d hj => ?_⟩, ?_⟩
  · rw [e1]; exact rd_set t2 ((rd_setn hne).trans k1)
  · exact (rd_setn (Ne.symm hne)).trans (rd_set t3 k2)
  · unfold upd
    by_cases q : j = l.length
    · rw [if_pos q]
      rw [q, List.getElem?_append_right (Nat.le_refl _), Nat.sub_self] at hj
      rw [Option.some.inj hj]
    · rw [if_neg q]
      have hlt : j < l.length := by
        have := (List.getElem?_eq_some_iff.mp hj).1
        omega
      rw [List.getElem?_append_left hlt] at hj
      exact k3 j d hj
  · exact mz_mo.s (mz_mo.s (mz_mo.rf _ _ _ _) t3 k2 rfl (Or.inl (by simp))) t2 ((rd_setn hne).trans k1) rfl (Or.inl (by simp))
def all1000 (P : Nat → Bool) : Bool := (List.range 1000).all P
theorem all1000_of {P : Nat → Bool} (h : all1000 P = true) {a : Nat} (ha : a < 1000) : P a = true := List.all_eq_true.mp h a (List.mem_range.mpr ha)
theorem dg100 {t : Nat} (h : t < 1000) : nI 48 + (nI t / nI 100 - nI t / nI 100 / nI 10 * nI 10) = nI (48 + t / 100 % 10) := of_decide_eq_true (all1000_of (P := fun t => decide (nI 48 + (nI t / nI 100 - nI t / nI 100 / nI 10 * nI 10) = nI (48 + t / 100 % 10))) (by decide +kernel) h)
theorem dg10 {t : Nat} (h : t < 1000) : nI 48 + (nI t / nI 10 - nI t / nI 10 / nI 10 * nI 10) = nI (48 + t / 10 % 10) := of_decide_eq_true (all1000_of (P := fun t => decide (nI 48 + (nI t / nI 10 - nI t / nI 10 / nI 10 * nI 10) = nI (48 + t / 10 % 10))) (by decide +kernel) h)
theorem dg1 {t : Nat} (h : t < 1000) : nI 48 + (nI t - nI t / nI 10 * nI 10) = nI (48 + t % 10) := of_decide_eq_true (all1000_of (P := fun t => decide (nI 48 + (nI t - nI t / nI 10 * nI 10) = nI (48 + t % 10))) (by decide +kernel) h)
theorem x_ptv {h : mj_H} {T A : Nat} {l : List Nat} (t0 : cTl h T A l) {v : Nat} (hv : v < 8) (hn : l.length + 1 ≤ 60) : mj_Wp 2 77 (0, [some (.ref T), some (.int (nI (vT v)))], [], h) (mz_N fun h' => cTl h' T A (l ++ [97 + v]) ∧ mz_mo [T, A] 0 0 h h') := by
  have m0 : mz_mo [T, A] 0 0 h h := mz_mo.rf _ _ _ _
  refine s_ildn (p' := 1) rfl rfl rfl ?_
  refine s_if (p' := 4) false rfl ((cg_ge (w := 0) (by decide +kernel)).trans (decide_eq_false (by rw [vT_ti (by omega)]; omega))) rfl ?_
  refine s_aldn (p' := 5) rfl rfl rfl ?_
  refine s_bip (p' := 7) rfl rfl ?_
  refine s_ildn (p' := 8) rfl rfl rfl ?_
  refine s_callV (p' := 11) (ls0 := [_]) rfl rfl rfl rfl rfl rfl rfl (x_tof2 hv) (by first | decide | omega) rfl ?_
  refine s_sp (p' := 12) (ls' := _) rfl rfl rfl ?_
  rw [mI_add]
  refine s_sp (p' := 13) (ls' := _) rfl rfl rfl ?_
  rw [i2c_n (by omega)]
  refine s_callEN (p' := 16) (ls0 := [_, _]) rfl rfl rfl rfl rfl (mj_rcv_is t0.r) rfl (x_ptl t0 (by first | omega | (simp only [List.length_append, List.length_cons, List.length_nil] at *; omega)) (by omega)) rfl rfl ?_
  rintro g1 ⟨t1, n1⟩
  have m1 : mz_mo [T, A] 0 0 h g1 := mo00 m0 n1
  refine s_ret rfl ?_
  exact ⟨_, rfl, t1, m1⟩
theorem x_pt1 {h : mj_H} {T A : Nat} {l : List Nat} (t0 : cTl h T A l) {t : Nat} (ht : t < 10) (hn : l.length + (pNum t).length ≤ 60) : mj_Wp 2 77 (0, [some (.ref T), some (.int (nI t))], [], h) (mz_N fun h' => cTl h' T A (l ++ pNum t) ∧ mz_mo [T, A] 0 0 h h') := by
  have m0 : mz_mo [T, A] 0 0 h h := mz_mo.rf _ _ _ _
  have hl : (pNum t).length = 1 := by rw [show pNum t = [48 + t % 10] by unfold pNum; rw [if_neg (by omega), if_neg (by omega)]; rfl]; rfl
  rw [hl] at hn
  refine s_ildn (p' := 1) rfl rfl rfl ?_
  refine s_if (p' := 17) true rfl (cz_ge (by omega)) rfl ?_
  refine s_ildn (p' := 18) rfl rfl rfl ?_
  refine s_bip (p' := 20) rfl rfl ?_
  refine s_icmp (p' := 38) true rfl ((ci_lt (by omega) (by omega)).trans (decide_eq_true (by omega))) rfl ?_
  refine s_ildn (p' := 39) rfl rfl rfl ?_
  refine s_bip (p' := 41) rfl rfl ?_
  refine s_icmp (p' := 59) true rfl ((ci_lt (by omega) (by omega)).trans (decide_eq_true (by omega))) rfl ?_
  refine s_aldn (p' := 60) rfl rfl rfl ?_
  refine s_bip (p' := 62) rfl rfl ?_
  refine s_ildn (p' := 63) rfl rfl rfl ?_
  refine s_bip (p' := 65) rfl rfl ?_
  refine s_irem (p' := 66) rfl (by decide +kernel) rfl ?_
  refine s_sp (p' := 67) (ls' := _) rfl rfl rfl ?_
  rw [dg1 (by omega)]
  refine s_sp (p' := 68) (ls' := _) rfl rfl rfl ?_
  rw [i2c_n (by omega)]
  refine s_callEN (p' := 71) (ls0 := [_, _]) rfl rfl rfl rfl rfl (mj_rcv_is t0.r) rfl (x_ptl t0 (by first | omega | (simp only [List.length_append, List.length_cons, List.length_nil] at *; omega)) (by omega)) rfl rfl ?_
  rintro g1 ⟨t1, n1⟩
  have m1 : mz_mo [T, A] 0 0 h g1 := mo00 m0 n1
  refine s_ret rfl ?_
  exact ⟨_, rfl, by rw [show pNum t = [48 + t % 10] by unfold pNum; rw [if_neg (by omega), if_neg (by omega)]; rfl]; simpa only [List.append_assoc, List.cons_append, List.nil_append] using t1, m1⟩
theorem x_pt2 {h : mj_H} {T A : Nat} {l : List Nat} (t0 : cTl h T A l) {t : Nat} (ht : 10 ≤ t) (ht2 : t < 100) (hn : l.length + (pNum t).length ≤ 60) : mj_Wp 2 77 (0, [some (.ref T), some (.int (nI t))], [], h) (mz_N fun h' => cTl h' T A (l ++ pNum t) ∧ mz_mo [T, A] 0 0 h h') := by
  have m0 : mz_mo [T, A] 0 0 h h := mz_mo.rf _ _ _ _
  have hl : (pNum t).length = 2 := by rw [show pNum t = [48 + t / 10 % 10, 48 + t % 10] by unfold pNum; rw [if_neg (by omega), if_pos (by omega)]; rfl]; rfl
  rw [hl] at hn
  refine s_ildn (p' := 1) rfl rfl rfl ?_
  refine s_if (p' := 17) true rfl (cz_ge (by omega)) rfl ?_
  refine s_ildn (p' := 18) rfl rfl rfl ?_
  refine s_bip (p' := 20) rfl rfl ?_
  refine s_icmp (p' := 38) true rfl ((ci_lt (by omega) (by omega)).trans (decide_eq_true (by omega))) rfl ?_
  refine s_ildn (p' := 39) rfl rfl rfl ?_
  refine s_bip (p' := 41) rfl rfl ?_
  refine s_icmp (p' := 44) false rfl ((ci_lt (by omega) (by omega)).trans (decide_eq_false (by omega))) rfl ?_
  refine s_aldn (p' := 45) rfl rfl rfl ?_
  refine s_bip (p' := 47) rfl rfl ?_
  refine s_ildn (p' := 48) rfl rfl rfl ?_
  refine s_bip (p' := 50) rfl rfl ?_
  refine s_idiv (p' := 51) rfl (by decide +kernel) rfl ?_
  refine s_bip (p' := 53) rfl rfl ?_
  refine s_irem (p' := 54) rfl (by decide +kernel) rfl ?_
  refine s_sp (p' := 55) (ls' := _) rfl rfl rfl ?_
  rw [dg10 (by omega)]
  refine s_sp (p' := 56) (ls' := _) rfl rfl rfl ?_
  rw [i2c_n (by omega)]
  refine s_callEN (p' := 59) (ls0 := [_, _]) rfl rfl rfl rfl rfl (mj_rcv_is t0.r) rfl (x_ptl t0 (by first | omega | (simp only [List.length_append, List.length_cons, List.length_nil] at *; omega)) (by omega)) rfl rfl ?_
  rintro g1 ⟨t1, n1⟩
  have m1 : mz_mo [T, A] 0 0 h g1 := mo00 m0 n1
  refine s_aldn (p' := 60) rfl rfl rfl ?_
  refine s_bip (p' := 62) rfl rfl ?_
  refine s_ildn (p' := 63) rfl rfl rfl ?_
  refine s_bip (p' := 65) rfl rfl ?_
  refine s_irem (p' := 66) rfl (by decide +kernel) rfl ?_
  refine s_sp (p' := 67) (ls' := _) rfl rfl rfl ?_
  rw [dg1 (by omega)]
  refine s_sp (p' := 68) (ls' := _) rfl rfl rfl ?_
  rw [i2c_n (by omega)]
  refine s_callEN (p' := 71) (ls0 := [_, _]) rfl rfl rfl rfl rfl (mj_rcv_is t1.r) rfl (x_ptl t1 (by first | omega | (simp only [List.length_append, List.length_cons, List.length_nil] at *; omega)) (by omega)) rfl rfl ?_
  rintro g2 ⟨t2, n2⟩
  have m2 : mz_mo [T, A] 0 0 h g2 := mo00 m1 n2
  refine s_ret rfl ?_
  exact ⟨_, rfl, by rw [show pNum t = [48 + t / 10 % 10, 48 + t % 10] by unfold pNum; rw [if_neg (by omega), if_pos (by omega)]; rfl]; simpa only [List.append_assoc, List.cons_append, List.nil_append] using t2, m2⟩
theorem x_pt3 {h : mj_H} {T A : Nat} {l : List Nat} (t0 : cTl h T A l) {t : Nat} (ht : 100 ≤ t) (ht2 : t < 1000) (hn : l.length + (pNum t).length ≤ 60) : mj_Wp 2 77 (0, [some (.ref T), some (.int (nI t))], [], h) (mz_N fun h' => cTl h' T A (l ++ pNum t) ∧ mz_mo [T, A] 0 0 h h') := by
  have m0 : mz_mo [T, A] 0 0 h h := mz_mo.rf _ _ _ _
  have hl : (pNum t).length = 3 := by rw [show pNum t = [48 + t / 100 % 10, 48 + t / 10 % 10, 48 + t % 10] by unfold pNum; rw [if_pos (by omega), if_pos (by omega)]; rfl]; rfl
  rw [hl] at hn
  refine s_ildn (p' := 1) rfl rfl rfl ?_
  refine s_if (p' := 17) true rfl (cz_ge (by omega)) rfl ?_
  refine s_ildn (p' := 18) rfl rfl rfl ?_
  refine s_bip (p' := 20) rfl rfl ?_
  refine s_icmp (p' := 23) false rfl ((ci_lt (by omega) (by omega)).trans (decide_eq_false (by omega))) rfl ?_
  refine s_aldn (p' := 24) rfl rfl rfl ?_
  refine s_bip (p' := 26) rfl rfl ?_
  refine s_ildn (p' := 27) rfl rfl rfl ?_
  refine s_bip (p' := 29) rfl rfl ?_
  refine s_idiv (p' := 30) rfl (by decide +kernel) rfl ?_
  refine s_bip (p' := 32) rfl rfl ?_
  refine s_irem (p' := 33) rfl (by decide +kernel) rfl ?_
  refine s_sp (p' := 34) (ls' := _) rfl rfl rfl ?_
  rw [dg100 (by omega)]
  refine s_sp (p' := 35) (ls' := _) rfl rfl rfl ?_
  rw [i2c_n (by omega)]
  refine s_callEN (p' := 38) (ls0 := [_, _]) rfl rfl rfl rfl rfl (mj_rcv_is t0.r) rfl (x_ptl t0 (by first | omega | (simp only [List.length_append, List.length_cons, List.length_nil] at *; omega)) (by omega)) rfl rfl ?_
  rintro g1 ⟨t1, n1⟩
  have m1 : mz_mo [T, A] 0 0 h g1 := mo00 m0 n1
  refine s_ildn (p' := 39) rfl rfl rfl ?_
  refine s_bip (p' := 41) rfl rfl ?_
  refine s_icmp (p' := 44) false rfl ((ci_lt (by omega) (by omega)).trans (decide_eq_false (by omega))) rfl ?_
  refine s_aldn (p' := 45) rfl rfl rfl ?_
  refine s_bip (p' := 47) rfl rfl ?_
  refine s_ildn (p' := 48) rfl rfl rfl ?_
  refine s_bip (p' := 50) rfl rfl ?_
  refine s_idiv (p' := 51) rfl (by decide +kernel) rfl ?_
  refine s_bip (p' := 53) rfl rfl ?_
  refine s_irem (p' := 54) rfl (by decide +kernel) rfl ?_
  refine s_sp (p' := 55) (ls' := _) rfl rfl rfl ?_
  rw [dg10 (by omega)]
  refine s_sp (p' := 56) (ls' := _) rfl rfl rfl ?_
  rw [i2c_n (by omega)]
  refine s_callEN (p' := 59) (ls0 := [_, _]) rfl rfl rfl rfl rfl (mj_rcv_is t1.r) rfl (x_ptl t1 (by first | omega | (simp only [List.length_append, List.length_cons, List.length_nil] at *; omega)) (by omega)) rfl rfl ?_
  rintro g2 ⟨t2, n2⟩
  have m2 : mz_mo [T, A] 0 0 h g2 := mo00 m1 n2
  refine s_aldn (p' := 60) rfl rfl rfl ?_
  refine s_bip (p' := 62) rfl rfl ?_
  refine s_ildn (p' := 63) rfl rfl rfl ?_
  refine s_bip (p' := 65) rfl rfl ?_
  refine s_irem (p' := 66) rfl (by decide +kernel) rfl ?_
  refine s_sp (p' := 67) (ls' := _) rfl rfl rfl ?_
  rw [dg1 (by omega)]
  refine s_sp (p' := 68) (ls' := _) rfl rfl rfl ?_
  rw [i2c_n (by omega)]
  refine s_callEN (p' := 71) (ls0 := [_, _]) rfl rfl rfl rfl rfl (mj_rcv_is t2.r) rfl (x_ptl t2 (by first | omega | (simp only [List.length_append, List.length_cons, List.length_nil] at *; omega)) (by omega)) rfl rfl ?_
  rintro g3 ⟨t3, n3⟩
  have m3 : mz_mo [T, A] 0 0 h g3 := mo00 m2 n3
  refine s_ret rfl ?_
  exact ⟨_, rfl, by rw [show pNum t = [48 + t / 100 % 10, 48 + t / 10 % 10, 48 + t % 10] by unfold pNum; rw [if_pos (by omega), if_pos (by omega)]; rfl]; simpa only [List.append_assoc, List.cons_append, List.nil_append] using t3, m3⟩
theorem x_ptm {h : mj_H} {T A : Nat} {l : List Nat} (t0 : cTl h T A l) {t : Nat} (ht : okTm t) (hn : l.length + (pTerm t).length ≤ 60) : mj_Wp 2 77 (0, [some (.ref T), some (.int (nI t))], [], h) (mz_N fun h' => cTl h' T A (l ++ pTerm t) ∧ mz_mo [T, A] 0 0 h h') := by
  rcases ht with ht | ⟨v, hv, rfl⟩
  · rw [pTerm_n ht] at hn ⊢
    by_cases q : t < 10
    · exact x_pt1 t0 q hn
    · by_cases q2 : t < 100
      · exact x_pt2 t0 (by omega) q2 hn
      · exact x_pt3 t0 (by omega) ht hn
  · rw [pTerm_v hv] at hn ⊢
    exact x_ptv t0 hv hn
theorem x_tms0 {h : mj_H} {T A : Nat} {l : List Nat} (t0 : cTl h T A l) {q0 : Nat} {ins : Nat → Int32} {B : Nat → Nat} (hq : mj_rd h q0 = some (inC ins)) (hi : ∀ q, q < 8 → ins q = nI (B q)) (h2 : okTm (B 2)) (h3 : B 3 = 32) (hn : l.length + (pSum B).length ≤ 60) : mj_Wp 3 76 (0, [some (.ref q0), some (.ref T)], [], h) (mz_N fun h' => cTl h' T A (l ++ pSum B) ∧ mz_mo [T, A] 0 0 h h') := by
  have m0 : mz_mo [T, A] 0 0 h h := mz_mo.rf _ _ _ _
  have nq := t0.n hq (fun fs q => by cases q) (fun x q => by cases q)
  have hn2 := hn
  rw [pSum_1 h3] at hn2
  clear hn
  refine s_aldn (p' := 1) rfl rfl rfl ?_
  refine s_aldn (p' := 2) rfl rfl rfl ?_
  refine s_gf (p' := 5) rfl hq rfl rfl ?_
  rw [hi 2 (by decide)]
  refine s_callEN (p' := 8) (ls0 := [_, _]) rfl rfl rfl rfl rfl (mj_rcv_is t0.r) rfl (x_ptm t0 h2 (by first | omega | (simp only [List.length_append, List.length_cons, List.length_nil] at *; omega))) rfl rfl ?_
  rintro g1 ⟨t1, n1⟩
  have m1 : mz_mo [T, A] 0 0 h g1 := mo00 m0 n1
  have hq1 := m1.1 _ nq _ hq
  refine s_aldn (p' := 9) rfl rfl rfl ?_
  refine s_gf (p' := 12) rfl hq1 rfl rfl ?_
  rw [hi 3 (by decide)]
  refine s_bip (p' := 14) rfl rfl ?_
  refine s_icmp (p' := 33) true rfl ((ci_eq (by omega) (by omega)).trans (decide_eq_true h3)) rfl ?_
  refine s_ret rfl ?_
  exact ⟨_, rfl, by rw [pSum_1 h3]; exact t1, m1⟩
theorem x_tms1 {h : mj_H} {T A : Nat} {l : List Nat} (t0 : cTl h T A l) {q0 : Nat} {ins : Nat → Int32} {B : Nat → Nat} (hq : mj_rd h q0 = some (inC ins)) (hi : ∀ q, q < 8 → ins q = nI (B q)) (h2 : okTm (B 2)) (h3 : B 3 ≠ 32) (h5 : B 3 < 1000) (h4 : okTm (B 4)) (hn : l.length + (pSum B).length ≤ 60) : mj_Wp 3 76 (0, [some (.ref q0), some (.ref T)], [], h) (mz_N fun h' => cTl h' T A (l ++ pSum B) ∧ mz_mo [T, A] 0 0 h h') := by
  have m0 : mz_mo [T, A] 0 0 h h := mz_mo.rf _ _ _ _
  have nq := t0.n hq (fun fs q => by cases q) (fun x q => by cases q)
  have hn2 := hn
  rw [pSum_2 h3] at hn2
  clear hn
  refine s_aldn (p' := 1) rfl rfl rfl ?_
  refine s_aldn (p' := 2) rfl rfl rfl ?_
  refine s_gf (p' := 5) rfl hq rfl rfl ?_
  rw [hi 2 (by decide)]
  refine s_callEN (p' := 8) (ls0 := [_, _]) rfl rfl rfl rfl rfl (mj_rcv_is t0.r) rfl (x_ptm t0 h2 (by first | omega | (simp only [List.length_append, List.length_cons, List.length_nil] at *; omega))) rfl rfl ?_
  rintro g1 ⟨t1, n1⟩
  have m1 : mz_mo [T, A] 0 0 h g1 := mo00 m0 n1
  have hq1 := m1.1 _ nq _ hq
  refine s_aldn (p' := 9) rfl rfl rfl ?_
  refine s_gf (p' := 12) rfl hq1 rfl rfl ?_
  rw [hi 3 (by decide)]
  refine s_bip (p' := 14) rfl rfl ?_
  refine s_icmp (p' := 17) false rfl ((ci_eq (by omega) (by omega)).trans (decide_eq_false h3)) rfl ?_
  refine s_aldn (p' := 18) rfl rfl rfl ?_
  refine s_aldn (p' := 19) rfl rfl rfl ?_
  refine s_gf (p' := 22) rfl hq1 rfl rfl ?_
  rw [hi 3 (by decide)]
  refine s_callEN (p' := 25) (ls0 := [_, _]) rfl rfl rfl rfl rfl (mj_rcv_is t1.r) rfl (x_ptl t1 (by first | omega | (simp only [List.length_append, List.length_cons, List.length_nil] at *; omega)) (by omega)) rfl rfl ?_
  rintro g2 ⟨t2, n2⟩
  have m2 : mz_mo [T, A] 0 0 h g2 := mo00 m1 n2
  have hq2 := m2.1 _ nq _ hq
  refine s_aldn (p' := 26) rfl rfl rfl ?_
  refine s_aldn (p' := 27) rfl rfl rfl ?_
  refine s_gf (p' := 30) rfl hq2 rfl rfl ?_
  rw [hi 4 (by decide)]
  refine s_callEN (p' := 33) (ls0 := [_, _]) rfl rfl rfl rfl rfl (mj_rcv_is t2.r) rfl (x_ptm t2 h4 (by first | omega | (simp only [List.length_append, List.length_cons, List.length_nil] at *; omega))) rfl rfl ?_
  rintro g3 ⟨t3, n3⟩
  have m3 : mz_mo [T, A] 0 0 h g3 := mo00 m2 n3
  refine s_ret rfl ?_
  exact ⟨_, rfl, by rw [pSum_2 h3]; simpa only [List.append_assoc, List.cons_append, List.nil_append] using t3, m3⟩
theorem x_tms {h : mj_H} {T A : Nat} {l : List Nat} (t0 : cTl h T A l) {q0 : Nat} {ins : Nat → Int32} {B : Nat → Nat} (hq : mj_rd h q0 = some (inC ins)) (hi : ∀ q, q < 8 → ins q = nI (B q)) (h2 : okTm (B 2)) (h3 : B 3 = 32 ∨ B 3 ≠ 32 ∧ B 3 < 1000 ∧ okTm (B 4)) (hn : l.length + (pSum B).length ≤ 60) : mj_Wp 3 76 (0, [some (.ref q0), some (.ref T)], [], h) (mz_N fun h' => cTl h' T A (l ++ pSum B) ∧ mz_mo [T, A] 0 0 h h') := by
  rcases h3 with h3 | ⟨h3, h5, h4⟩
  · exact x_tms0 t0 hq hi h2 h3 hn
  · exact x_tms1 t0 hq hi h2 h3 h5 h4 hn
theorem x_ts33 {h : mj_H} : mj_run 0 80 (0, [some (.int (nI 33))], [], h) (.inl (some (.int (nI 63))), h) := by
  refine s_ildn (p' := 1) rfl rfl rfl ?_
  refine s_sp (p' := 66) (ls' := _) rfl rfl rfl ?_
  refine s_bip (p' := 68) rfl rfl ?_
  exact s_iret rfl rfl rfl
theorem x_ts36 {h : mj_H} : mj_run 0 80 (0, [some (.int (nI 36))], [], h) (.inl (some (.int (nI 64))), h) := by
  refine s_ildn (p' := 1) rfl rfl rfl ?_
  refine s_sp (p' := 75) (ls' := _) rfl rfl rfl ?_
  refine s_bip (p' := 77) rfl rfl ?_
  exact s_iret rfl rfl rfl
theorem x_ts43 {h : mj_H} : mj_run 0 80 (0, [some (.int (nI 43))], [], h) (.inl (some (.int (nI 45))), h) := by
  refine s_ildn (p' := 1) rfl rfl rfl ?_
  refine s_sp (p' := 60) (ls' := _) rfl rfl rfl ?_
  refine s_bip (p' := 62) rfl rfl ?_
  exact s_iret rfl rfl rfl
theorem x_ts45 {h : mj_H} : mj_run 0 80 (0, [some (.int (nI 45))], [], h) (.inl (some (.int (nI 43))), h) := by
  refine s_ildn (p' := 1) rfl rfl rfl ?_
  refine s_sp (p' := 63) (ls' := _) rfl rfl rfl ?_
  refine s_bip (p' := 65) rfl rfl ?_
  exact s_iret rfl rfl rfl
theorem x_ts63 {h : mj_H} : mj_run 0 80 (0, [some (.int (nI 63))], [], h) (.inl (some (.int (nI 33))), h) := by
  refine s_ildn (p' := 1) rfl rfl rfl ?_
  refine s_sp (p' := 69) (ls' := _) rfl rfl rfl ?_
  refine s_bip (p' := 71) rfl rfl ?_
  exact s_iret rfl rfl rfl
theorem x_ts64 {h : mj_H} : mj_run 0 80 (0, [some (.int (nI 64))], [], h) (.inl (some (.int (nI 36))), h) := by
  refine s_ildn (p' := 1) rfl rfl rfl ?_
  refine s_sp (p' := 72) (ls' := _) rfl rfl rfl ?_
  refine s_bip (p' := 74) rfl rfl ?_
  exact s_iret rfl rfl rfl
theorem x_ts94 {h : mj_H} : mj_run 0 80 (0, [some (.int (nI 94))], [], h) (.inl (some (.int (nI 94))), h) := by
  refine s_ildn (p' := 1) rfl rfl rfl ?_
  refine s_sp (p' := 78) (ls' := _) rfl rfl rfl ?_
  refine s_ildn (p' := 79) rfl rfl rfl ?_
  exact s_iret rfl rfl rfl
theorem x_ts126 {h : mj_H} : mj_run 0 80 (0, [some (.int (nI 126))], [], h) (.inl (some (.int (nI 126))), h) := by
  refine s_ildn (p' := 1) rfl rfl rfl ?_
  refine s_sp (p' := 78) (ls' := _) rfl rfl rfl ?_
  refine s_ildn (p' := 79) rfl rfl rfl ?_
  exact s_iret rfl rfl rfl
theorem x_sb33 {h : mj_H} {T A : Nat} {l : List Nat} (t0 : cTl h T A l) {q0 : Nat} {ins : Nat → Int32} {B : Nat → Nat} (hq : mj_rd h q0 = some (inC ins)) (hi : ∀ q, q < 8 → ins q = nI (B q)) (h0 : B 0 = 33) (h1 : B 1 < 8) (hn : l.length + (piece (fl1 0 B)).length ≤ 60) : mj_Wp 4 79 (0, [some (.ref q0), some (.ref T)], [], h) (mz_N fun h' => cTl h' T A (l ++ piece (fl1 0 B)) ∧ mz_mo [T, A] 0 0 h h') := by
  have m0 : mz_mo [T, A] 0 0 h h := mz_mo.rf _ _ _ _
  have nq := t0.n hq (fun fs q => by cases q) (fun x q => by cases q)
  obtain ⟨e0, e1, e2, e3, e4⟩ := fl1_0 0 B
  rw [h0, show flS 33 = 63 from rfl] at e0
  have ep : piece (fl1 0 B) = [63, 97 + B 1] := by unfold piece; simp only [e0, e1]; rfl
  have hn2 := hn
  rw [ep] at hn2
  clear hn
  refine s_aldn (p' := 1) rfl rfl rfl ?_
  refine s_gf (p' := 4) rfl hq rfl rfl ?_
  rw [hi 0 (by decide), h0]
  refine s_sp (p' := 48) (ls' := _) rfl rfl rfl ?_
  refine s_aldn (p' := 49) rfl rfl rfl ?_
  refine s_aldn (p' := 50) rfl rfl rfl ?_
  refine s_gf (p' := 53) rfl hq rfl rfl ?_
  rw [hi 0 (by decide), h0]
  refine s_callV (p' := 56) (ls0 := [_]) rfl rfl rfl rfl rfl rfl rfl x_ts33 (by first | decide | omega) rfl ?_
  refine s_callEN (p' := 59) (ls0 := [_, _]) rfl rfl rfl rfl rfl (mj_rcv_is t0.r) rfl (x_ptl t0 (by first | omega | (simp only [List.length_append, List.length_cons, List.length_nil] at *; omega)) (by decide)) rfl rfl ?_
  rintro g1 ⟨t1, n1⟩
  have m1 : mz_mo [T, A] 0 0 h g1 := mo00 m0 n1
  have hq1 := m1.1 _ nq _ hq
  refine s_aldn (p' := 60) rfl rfl rfl ?_
  refine s_aldn (p' := 61) rfl rfl rfl ?_
  refine s_gf (p' := 64) rfl hq1 rfl rfl ?_
  rw [hi 1 (by decide)]
  refine s_callV (p' := 67) (ls0 := [_]) rfl rfl rfl rfl rfl rfl rfl (x_tof (by omega)) (by first | decide | omega) rfl ?_
  refine s_callEN (p' := 70) (ls0 := [_, _]) rfl rfl rfl rfl rfl (mj_rcv_is t1.r) rfl (x_ptm t1 (Or.inr ⟨B 1, h1, rfl⟩) (by rw [pTerm_v h1]; first | omega | (simp only [List.length_append, List.length_cons, List.length_nil] at *; omega))) rfl rfl ?_
  rintro g2 ⟨t2, n2⟩
  have m2 : mz_mo [T, A] 0 0 h g2 := mo00 m1 n2
  refine s_goto (p' := 122) rfl rfl ?_
  refine s_ret rfl ?_
  rw [pTerm_v h1] at t2
  exact ⟨_, rfl, by rw [ep]; simpa only [List.append_assoc, List.cons_append, List.nil_append] using t2, m2⟩
theorem x_sb36 {h : mj_H} {T A : Nat} {l : List Nat} (t0 : cTl h T A l) {q0 : Nat} {ins : Nat → Int32} {B : Nat → Nat} (hq : mj_rd h q0 = some (inC ins)) (hi : ∀ q, q < 8 → ins q = nI (B q)) (h0 : B 0 = 36) (h1 : B 1 < 6) (hn : l.length + (piece (fl1 0 B)).length ≤ 60) : mj_Wp 4 79 (0, [some (.ref q0), some (.ref T)], [], h) (mz_N fun h' => cTl h' T A (l ++ piece (fl1 0 B)) ∧ mz_mo [T, A] 0 0 h h') := by
  have m0 : mz_mo [T, A] 0 0 h h := mz_mo.rf _ _ _ _
  have nq := t0.n hq (fun fs q => by cases q) (fun x q => by cases q)
  obtain ⟨e0, e1, e2, e3, e4⟩ := fl1_0 0 B
  rw [h0, show flS 36 = 64 from rfl] at e0
  have ep : piece (fl1 0 B) = [64, 48 + B 1] := by unfold piece; simp only [e0, e1]; rfl
  have hn2 := hn
  rw [ep] at hn2
  clear hn
  refine s_aldn (p' := 1) rfl rfl rfl ?_
  refine s_gf (p' := 4) rfl hq rfl rfl ?_
  rw [hi 0 (by decide), h0]
  refine s_sp (p' := 73) (ls' := _) rfl rfl rfl ?_
  refine s_aldn (p' := 74) rfl rfl rfl ?_
  refine s_aldn (p' := 75) rfl rfl rfl ?_
  refine s_gf (p' := 78) rfl hq rfl rfl ?_
  rw [hi 0 (by decide), h0]
  refine s_callV (p' := 81) (ls0 := [_]) rfl rfl rfl rfl rfl rfl rfl x_ts36 (by first | decide | omega) rfl ?_
  refine s_callEN (p' := 84) (ls0 := [_, _]) rfl rfl rfl rfl rfl (mj_rcv_is t0.r) rfl (x_ptl t0 (by first | omega | (simp only [List.length_append, List.length_cons, List.length_nil] at *; omega)) (by decide)) rfl rfl ?_
  rintro g1 ⟨t1, n1⟩
  have m1 : mz_mo [T, A] 0 0 h g1 := mo00 m0 n1
  have hq1 := m1.1 _ nq _ hq
  refine s_aldn (p' := 85) rfl rfl rfl ?_
  refine s_aldn (p' := 86) rfl rfl rfl ?_
  refine s_gf (p' := 89) rfl hq1 rfl rfl ?_
  rw [hi 1 (by decide)]
  refine s_callEN (p' := 92) (ls0 := [_, _]) rfl rfl rfl rfl rfl (mj_rcv_is t1.r) rfl (x_ptm t1 (Or.inl (by omega)) (by rw [pTerm_n (by omega), pNum_1 (by omega)]; first | omega | (simp only [List.length_append, List.length_cons, List.length_nil] at *; omega))) rfl rfl ?_
  rintro g2 ⟨t2, n2⟩
  have m2 : mz_mo [T, A] 0 0 h g2 := mo00 m1 n2
  refine s_goto (p' := 122) rfl rfl ?_
  refine s_ret rfl ?_
  rw [pTerm_n (by omega), pNum_1 (by omega)] at t2
  exact ⟨_, rfl, by rw [ep]; simpa only [List.append_assoc, List.cons_append, List.nil_append] using t2, m2⟩
theorem x_sb43 {h : mj_H} {T A : Nat} {l : List Nat} (t0 : cTl h T A l) {q0 : Nat} {ins : Nat → Int32} {B : Nat → Nat} (hq : mj_rd h q0 = some (inC ins)) (hi : ∀ q, q < 8 → ins q = nI (B q)) (h0 : B 0 = 43) (h1 : B 1 < 8) (h2 : okTm (B 2)) (h3 : B 3 = 32 ∨ B 3 ≠ 32 ∧ B 3 < 1000 ∧ okTm (B 4)) (hn : l.length + (piece (fl1 0 B)).length ≤ 60) : mj_Wp 4 79 (0, [some (.ref q0), some (.ref T)], [], h) (mz_N fun h' => cTl h' T A (l ++ piece (fl1 0 B)) ∧ mz_mo [T, A] 0 0 h h') := by
  have m0 : mz_mo [T, A] 0 0 h h := mz_mo.rf _ _ _ _
  have nq := t0.n hq (fun fs q => by cases q) (fun x q => by cases q)
  obtain ⟨e0, e1, e2, e3, e4⟩ := fl1_0 0 B
  rw [h0, show flS 43 = 45 from rfl] at e0
  have ep : piece (fl1 0 B) = (97 + B 1) :: 45 :: pSum B := by unfold piece; simp only [e0, e1, fl_pSum]; rfl
  have hn2 := hn
  rw [ep] at hn2
  clear hn
  refine s_aldn (p' := 1) rfl rfl rfl ?_
  refine s_gf (p' := 4) rfl hq rfl rfl ?_
  rw [hi 0 (by decide), h0]
  refine s_sp (p' := 95) (ls' := _) rfl rfl rfl ?_
  refine s_aldn (p' := 96) rfl rfl rfl ?_
  refine s_aldn (p' := 97) rfl rfl rfl ?_
  refine s_gf (p' := 100) rfl hq rfl rfl ?_
  rw [hi 1 (by decide)]
  refine s_callV (p' := 103) (ls0 := [_]) rfl rfl rfl rfl rfl rfl rfl (x_tof (by omega)) (by first | decide | omega) rfl ?_
  refine s_callEN (p' := 106) (ls0 := [_, _]) rfl rfl rfl rfl rfl (mj_rcv_is t0.r) rfl (x_ptm t0 (Or.inr ⟨B 1, h1, rfl⟩) (by rw [pTerm_v h1]; first | omega | (simp only [List.length_append, List.length_cons, List.length_nil] at *; omega))) rfl rfl ?_
  rintro g1 ⟨t1, n1⟩
  have m1 : mz_mo [T, A] 0 0 h g1 := mo00 m0 n1
  have hq1 := m1.1 _ nq _ hq
  rw [pTerm_v h1] at t1
  refine s_aldn (p' := 107) rfl rfl rfl ?_
  refine s_aldn (p' := 108) rfl rfl rfl ?_
  refine s_gf (p' := 111) rfl hq1 rfl rfl ?_
  rw [hi 0 (by decide), h0]
  refine s_callV (p' := 114) (ls0 := [_]) rfl rfl rfl rfl rfl rfl rfl x_ts43 (by first | decide | omega) rfl ?_
  refine s_callEN (p' := 117) (ls0 := [_, _]) rfl rfl rfl rfl rfl (mj_rcv_is t1.r) rfl (x_ptl t1 (by first | omega | (simp only [List.length_append, List.length_cons, List.length_nil] at *; omega)) (by decide)) rfl rfl ?_
  rintro g2 ⟨t2, n2⟩
  have m2 : mz_mo [T, A] 0 0 h g2 := mo00 m1 n2
  have hq2 := m2.1 _ nq _ hq
  refine s_aldn (p' := 118) rfl rfl rfl ?_
  refine s_aldn (p' := 119) rfl rfl rfl ?_
  refine s_callEN (p' := 122) (ls0 := [_, _]) rfl rfl rfl rfl rfl rfl rfl (x_tms t2 hq2 hi h2 h3 (by first | omega | (simp only [List.length_append, List.length_cons, List.length_nil] at *; omega))) rfl rfl ?_
  rintro g3 ⟨t3, n3⟩
  have m3 : mz_mo [T, A] 0 0 h g3 := mo00 m2 n3
  refine s_ret rfl ?_
  exact ⟨_, rfl, by rw [ep]; simpa only [List.append_assoc, List.cons_append, List.nil_append] using t3, m3⟩
theorem x_sb45 {h : mj_H} {T A : Nat} {l : List Nat} (t0 : cTl h T A l) {q0 : Nat} {ins : Nat → Int32} {B : Nat → Nat} (hq : mj_rd h q0 = some (inC ins)) (hi : ∀ q, q < 8 → ins q = nI (B q)) (h0 : B 0 = 45) (h1 : B 1 < 8) (h2 : okTm (B 2)) (h3 : B 3 = 32 ∨ B 3 ≠ 32 ∧ B 3 < 1000 ∧ okTm (B 4)) (hn : l.length + (piece (fl1 0 B)).length ≤ 60) : mj_Wp 4 79 (0, [some (.ref q0), some (.ref T)], [], h) (mz_N fun h' => cTl h' T A (l ++ piece (fl1 0 B)) ∧ mz_mo [T, A] 0 0 h h') := by
  have m0 : mz_mo [T, A] 0 0 h h := mz_mo.rf _ _ _ _
  have nq := t0.n hq (fun fs q => by cases q) (fun x q => by cases q)
  obtain ⟨e0, e1, e2, e3, e4⟩ := fl1_0 0 B
  rw [h0, show flS 45 = 43 from rfl] at e0
  have ep : piece (fl1 0 B) = (97 + B 1) :: 43 :: pSum B := by unfold piece; simp only [e0, e1, fl_pSum]; rfl
  have hn2 := hn
  rw [ep] at hn2
  clear hn
  refine s_aldn (p' := 1) rfl rfl rfl ?_
  refine s_gf (p' := 4) rfl hq rfl rfl ?_
  rw [hi 0 (by decide), h0]
  refine s_sp (p' := 95) (ls' := _) rfl rfl rfl ?_
  refine s_aldn (p' := 96) rfl rfl rfl ?_
  refine s_aldn (p' := 97) rfl rfl rfl ?_
  refine s_gf (p' := 100) rfl hq rfl rfl ?_
  rw [hi 1 (by decide)]
  refine s_callV (p' := 103) (ls0 := [_]) rfl rfl rfl rfl rfl rfl rfl (x_tof (by omega)) (by first | decide | omega) rfl ?_
  refine s_callEN (p' := 106) (ls0 := [_, _]) rfl rfl rfl rfl rfl (mj_rcv_is t0.r) rfl (x_ptm t0 (Or.inr ⟨B 1, h1, rfl⟩) (by rw [pTerm_v h1]; first | omega | (simp only [List.length_append, List.length_cons, List.length_nil] at *; omega))) rfl rfl ?_
  rintro g1 ⟨t1, n1⟩
  have m1 : mz_mo [T, A] 0 0 h g1 := mo00 m0 n1
  have hq1 := m1.1 _ nq _ hq
  rw [pTerm_v h1] at t1
  refine s_aldn (p' := 107) rfl rfl rfl ?_
  refine s_aldn (p' := 108) rfl rfl rfl ?_
  refine s_gf (p' := 111) rfl hq1 rfl rfl ?_
  rw [hi 0 (by decide), h0]
  refine s_callV (p' := 114) (ls0 := [_]) rfl rfl rfl rfl rfl rfl rfl x_ts45 (by first | decide | omega) rfl ?_
  refine s_callEN (p' := 117) (ls0 := [_, _]) rfl rfl rfl rfl rfl (mj_rcv_is t1.r) rfl (x_ptl t1 (by first | omega | (simp only [List.length_append, List.length_cons, List.length_nil] at *; omega)) (by decide)) rfl rfl ?_
  rintro g2 ⟨t2, n2⟩
  have m2 : mz_mo [T, A] 0 0 h g2 := mo00 m1 n2
  have hq2 := m2.1 _ nq _ hq
  refine s_aldn (p' := 118) rfl rfl rfl ?_
  refine s_aldn (p' := 119) rfl rfl rfl ?_
  refine s_callEN (p' := 122) (ls0 := [_, _]) rfl rfl rfl rfl rfl rfl rfl (x_tms t2 hq2 hi h2 h3 (by first | omega | (simp only [List.length_append, List.length_cons, List.length_nil] at *; omega))) rfl rfl ?_
  rintro g3 ⟨t3, n3⟩
  have m3 : mz_mo [T, A] 0 0 h g3 := mo00 m2 n3
  refine s_ret rfl ?_
  exact ⟨_, rfl, by rw [ep]; simpa only [List.append_assoc, List.cons_append, List.nil_append] using t3, m3⟩
theorem x_sb63 {h : mj_H} {T A : Nat} {l : List Nat} (t0 : cTl h T A l) {q0 : Nat} {ins : Nat → Int32} {B : Nat → Nat} (hq : mj_rd h q0 = some (inC ins)) (hi : ∀ q, q < 8 → ins q = nI (B q)) (h0 : B 0 = 63) (h1 : B 1 < 8) (hn : l.length + (piece (fl1 0 B)).length ≤ 60) : mj_Wp 4 79 (0, [some (.ref q0), some (.ref T)], [], h) (mz_N fun h' => cTl h' T A (l ++ piece (fl1 0 B)) ∧ mz_mo [T, A] 0 0 h h') := by
  have m0 : mz_mo [T, A] 0 0 h h := mz_mo.rf _ _ _ _
  have nq := t0.n hq (fun fs q => by cases q) (fun x q => by cases q)
  obtain ⟨e0, e1, e2, e3, e4⟩ := fl1_0 0 B
  rw [h0, show flS 63 = 33 from rfl] at e0
  have ep : piece (fl1 0 B) = [33, 97 + B 1] := by unfold piece; simp only [e0, e1]; rfl
  have hn2 := hn
  rw [ep] at hn2
  clear hn
  refine s_aldn (p' := 1) rfl rfl rfl ?_
  refine s_gf (p' := 4) rfl hq rfl rfl ?_
  rw [hi 0 (by decide), h0]
  refine s_sp (p' := 48) (ls' := _) rfl rfl rfl ?_
  refine s_aldn (p' := 49) rfl rfl rfl ?_
  refine s_aldn (p' := 50) rfl rfl rfl ?_
  refine s_gf (p' := 53) rfl hq rfl rfl ?_
  rw [hi 0 (by decide), h0]
  refine s_callV (p' := 56) (ls0 := [_]) rfl rfl rfl rfl rfl rfl rfl x_ts63 (by first | decide | omega) rfl ?_
  refine s_callEN (p' := 59) (ls0 := [_, _]) rfl rfl rfl rfl rfl (mj_rcv_is t0.r) rfl (x_ptl t0 (by first | omega | (simp only [List.length_append, List.length_cons, List.length_nil] at *; omega)) (by decide)) rfl rfl ?_
  rintro g1 ⟨t1, n1⟩
  have m1 : mz_mo [T, A] 0 0 h g1 := mo00 m0 n1
  have hq1 := m1.1 _ nq _ hq
  refine s_aldn (p' := 60) rfl rfl rfl ?_
  refine s_aldn (p' := 61) rfl rfl rfl ?_
  refine s_gf (p' := 64) rfl hq1 rfl rfl ?_
  rw [hi 1 (by decide)]
  refine s_callV (p' := 67) (ls0 := [_]) rfl rfl rfl rfl rfl rfl rfl (x_tof (by omega)) (by first | decide | omega) rfl ?_
  refine s_callEN (p' := 70) (ls0 := [_, _]) rfl rfl rfl rfl rfl (mj_rcv_is t1.r) rfl (x_ptm t1 (Or.inr ⟨B 1, h1, rfl⟩) (by rw [pTerm_v h1]; first | omega | (simp only [List.length_append, List.length_cons, List.length_nil] at *; omega))) rfl rfl ?_
  rintro g2 ⟨t2, n2⟩
  have m2 : mz_mo [T, A] 0 0 h g2 := mo00 m1 n2
  refine s_goto (p' := 122) rfl rfl ?_
  refine s_ret rfl ?_
  rw [pTerm_v h1] at t2
  exact ⟨_, rfl, by rw [ep]; simpa only [List.append_assoc, List.cons_append, List.nil_append] using t2, m2⟩
theorem x_sb64 {h : mj_H} {T A : Nat} {l : List Nat} (t0 : cTl h T A l) {q0 : Nat} {ins : Nat → Int32} {B : Nat → Nat} (hq : mj_rd h q0 = some (inC ins)) (hi : ∀ q, q < 8 → ins q = nI (B q)) (h0 : B 0 = 64) (h1 : B 1 < 6) (hn : l.length + (piece (fl1 0 B)).length ≤ 60) : mj_Wp 4 79 (0, [some (.ref q0), some (.ref T)], [], h) (mz_N fun h' => cTl h' T A (l ++ piece (fl1 0 B)) ∧ mz_mo [T, A] 0 0 h h') := by
  have m0 : mz_mo [T, A] 0 0 h h := mz_mo.rf _ _ _ _
  have nq := t0.n hq (fun fs q => by cases q) (fun x q => by cases q)
  obtain ⟨e0, e1, e2, e3, e4⟩ := fl1_0 0 B
  rw [h0, show flS 64 = 36 from rfl] at e0
  have ep : piece (fl1 0 B) = [36, 48 + B 1] := by unfold piece; simp only [e0, e1]; rfl
  have hn2 := hn
  rw [ep] at hn2
  clear hn
  refine s_aldn (p' := 1) rfl rfl rfl ?_
  refine s_gf (p' := 4) rfl hq rfl rfl ?_
  rw [hi 0 (by decide), h0]
  refine s_sp (p' := 73) (ls' := _) rfl rfl rfl ?_
  refine s_aldn (p' := 74) rfl rfl rfl ?_
  refine s_aldn (p' := 75) rfl rfl rfl ?_
  refine s_gf (p' := 78) rfl hq rfl rfl ?_
  rw [hi 0 (by decide), h0]
  refine s_callV (p' := 81) (ls0 := [_]) rfl rfl rfl rfl rfl rfl rfl x_ts64 (by first | decide | omega) rfl ?_
  refine s_callEN (p' := 84) (ls0 := [_, _]) rfl rfl rfl rfl rfl (mj_rcv_is t0.r) rfl (x_ptl t0 (by first | omega | (simp only [List.length_append, List.length_cons, List.length_nil] at *; omega)) (by decide)) rfl rfl ?_
  rintro g1 ⟨t1, n1⟩
  have m1 : mz_mo [T, A] 0 0 h g1 := mo00 m0 n1
  have hq1 := m1.1 _ nq _ hq
  refine s_aldn (p' := 85) rfl rfl rfl ?_
  refine s_aldn (p' := 86) rfl rfl rfl ?_
  refine s_gf (p' := 89) rfl hq1 rfl rfl ?_
  rw [hi 1 (by decide)]
  refine s_callEN (p' := 92) (ls0 := [_, _]) rfl rfl rfl rfl rfl (mj_rcv_is t1.r) rfl (x_ptm t1 (Or.inl (by omega)) (by rw [pTerm_n (by omega), pNum_1 (by omega)]; first | omega | (simp only [List.length_append, List.length_cons, List.length_nil] at *; omega))) rfl rfl ?_
  rintro g2 ⟨t2, n2⟩
  have m2 : mz_mo [T, A] 0 0 h g2 := mo00 m1 n2
  refine s_goto (p' := 122) rfl rfl ?_
  refine s_ret rfl ?_
  rw [pTerm_n (by omega), pNum_1 (by omega)] at t2
  exact ⟨_, rfl, by rw [ep]; simpa only [List.append_assoc, List.cons_append, List.nil_append] using t2, m2⟩
theorem x_sb94 {h : mj_H} {T A : Nat} {l : List Nat} (t0 : cTl h T A l) {q0 : Nat} {ins : Nat → Int32} {B : Nat → Nat} (hq : mj_rd h q0 = some (inC ins)) (hi : ∀ q, q < 8 → ins q = nI (B q)) (h0 : B 0 = 94) (h1 : B 1 < 8) (h2 : okTm (B 2)) (h3 : B 3 = 32 ∨ B 3 ≠ 32 ∧ B 3 < 1000 ∧ okTm (B 4)) (hn : l.length + (piece (fl1 0 B)).length ≤ 60) : mj_Wp 4 79 (0, [some (.ref q0), some (.ref T)], [], h) (mz_N fun h' => cTl h' T A (l ++ piece (fl1 0 B)) ∧ mz_mo [T, A] 0 0 h h') := by
  have m0 : mz_mo [T, A] 0 0 h h := mz_mo.rf _ _ _ _
  have nq := t0.n hq (fun fs q => by cases q) (fun x q => by cases q)
  obtain ⟨e0, e1, e2, e3, e4⟩ := fl1_0 0 B
  rw [h0, show flS 94 = 94 from rfl] at e0
  have ep : piece (fl1 0 B) = (97 + B 1) :: 94 :: pSum B := by unfold piece; simp only [e0, e1, fl_pSum]; rfl
  have hn2 := hn
  rw [ep] at hn2
  clear hn
  refine s_aldn (p' := 1) rfl rfl rfl ?_
  refine s_gf (p' := 4) rfl hq rfl rfl ?_
  rw [hi 0 (by decide), h0]
  refine s_sp (p' := 95) (ls' := _) rfl rfl rfl ?_
  refine s_aldn (p' := 96) rfl rfl rfl ?_
  refine s_aldn (p' := 97) rfl rfl rfl ?_
  refine s_gf (p' := 100) rfl hq rfl rfl ?_
  rw [hi 1 (by decide)]
  refine s_callV (p' := 103) (ls0 := [_]) rfl rfl rfl rfl rfl rfl rfl (x_tof (by omega)) (by first | decide | omega) rfl ?_
  refine s_callEN (p' := 106) (ls0 := [_, _]) rfl rfl rfl rfl rfl (mj_rcv_is t0.r) rfl (x_ptm t0 (Or.inr ⟨B 1, h1, rfl⟩) (by rw [pTerm_v h1]; first | omega | (simp only [List.length_append, List.length_cons, List.length_nil] at *; omega))) rfl rfl ?_
  rintro g1 ⟨t1, n1⟩
  have m1 : mz_mo [T, A] 0 0 h g1 := mo00 m0 n1
  have hq1 := m1.1 _ nq _ hq
  rw [pTerm_v h1] at t1
  refine s_aldn (p' := 107) rfl rfl rfl ?_
  refine s_aldn (p' := 108) rfl rfl rfl ?_
  refine s_gf (p' := 111) rfl hq1 rfl rfl ?_
  rw [hi 0 (by decide), h0]
  refine s_callV (p' := 114) (ls0 := [_]) rfl rfl rfl rfl rfl rfl rfl x_ts94 (by first | decide | omega) rfl ?_
  refine s_callEN (p' := 117) (ls0 := [_, _]) rfl rfl rfl rfl rfl (mj_rcv_is t1.r) rfl (x_ptl t1 (by first | omega | (simp only [List.length_append, List.length_cons, List.length_nil] at *; omega)) (by decide)) rfl rfl ?_
  rintro g2 ⟨t2, n2⟩
  have m2 : mz_mo [T, A] 0 0 h g2 := mo00 m1 n2
  have hq2 := m2.1 _ nq _ hq
  refine s_aldn (p' := 118) rfl rfl rfl ?_
  refine s_aldn (p' := 119) rfl rfl rfl ?_
  refine s_callEN (p' := 122) (ls0 := [_, _]) rfl rfl rfl rfl rfl rfl rfl (x_tms t2 hq2 hi h2 h3 (by first | omega | (simp only [List.length_append, List.length_cons, List.length_nil] at *; omega))) rfl rfl ?_
  rintro g3 ⟨t3, n3⟩
  have m3 : mz_mo [T, A] 0 0 h g3 := mo00 m2 n3
  refine s_ret rfl ?_
  exact ⟨_, rfl, by rw [ep]; simpa only [List.append_assoc, List.cons_append, List.nil_append] using t3, m3⟩
theorem x_sb126 {h : mj_H} {T A : Nat} {l : List Nat} (t0 : cTl h T A l) {q0 : Nat} {ins : Nat → Int32} {B : Nat → Nat} (hq : mj_rd h q0 = some (inC ins)) (hi : ∀ q, q < 8 → ins q = nI (B q)) (h0 : B 0 = 126) (h1 : B 1 < 8) (h2 : okTm (B 2)) (h3 : B 3 = 32 ∨ B 3 ≠ 32 ∧ B 3 < 1000 ∧ okTm (B 4)) (hn : l.length + (piece (fl1 0 B)).length ≤ 60) : mj_Wp 4 79 (0, [some (.ref q0), some (.ref T)], [], h) (mz_N fun h' => cTl h' T A (l ++ piece (fl1 0 B)) ∧ mz_mo [T, A] 0 0 h h') := by
  have m0 : mz_mo [T, A] 0 0 h h := mz_mo.rf _ _ _ _
  have nq := t0.n hq (fun fs q => by cases q) (fun x q => by cases q)
  obtain ⟨e0, e1, e2, e3, e4⟩ := fl1_0 0 B
  rw [h0, show flS 126 = 126 from rfl] at e0
  have ep : piece (fl1 0 B) = (97 + B 1) :: 126 :: pSum B := by unfold piece; simp only [e0, e1, fl_pSum]; rfl
  have hn2 := hn
  rw [ep] at hn2
  clear hn
  refine s_aldn (p' := 1) rfl rfl rfl ?_
  refine s_gf (p' := 4) rfl hq rfl rfl ?_
  rw [hi 0 (by decide), h0]
  refine s_sp (p' := 95) (ls' := _) rfl rfl rfl ?_
  refine s_aldn (p' := 96) rfl rfl rfl ?_
  refine s_aldn (p' := 97) rfl rfl rfl ?_
  refine s_gf (p' := 100) rfl hq rfl rfl ?_
  rw [hi 1 (by decide)]
  refine s_callV (p' := 103) (ls0 := [_]) rfl rfl rfl rfl rfl rfl rfl (x_tof (by omega)) (by first | decide | omega) rfl ?_
  refine s_callEN (p' := 106) (ls0 := [_, _]) rfl rfl rfl rfl rfl (mj_rcv_is t0.r) rfl (x_ptm t0 (Or.inr ⟨B 1, h1, rfl⟩) (by rw [pTerm_v h1]; first | omega | (simp only [List.length_append, List.length_cons, List.length_nil] at *; omega))) rfl rfl ?_
  rintro g1 ⟨t1, n1⟩
  have m1 : mz_mo [T, A] 0 0 h g1 := mo00 m0 n1
  have hq1 := m1.1 _ nq _ hq
  rw [pTerm_v h1] at t1
  refine s_aldn (p' := 107) rfl rfl rfl ?_
  refine s_aldn (p' := 108) rfl rfl rfl ?_
  refine s_gf (p' := 111) rfl hq1 rfl rfl ?_
  rw [hi 0 (by decide), h0]
  refine s_callV (p' := 114) (ls0 := [_]) rfl rfl rfl rfl rfl rfl rfl x_ts126 (by first | decide | omega) rfl ?_
  refine s_callEN (p' := 117) (ls0 := [_, _]) rfl rfl rfl rfl rfl (mj_rcv_is t1.r) rfl (x_ptl t1 (by first | omega | (simp only [List.length_append, List.length_cons, List.length_nil] at *; omega)) (by decide)) rfl rfl ?_
  rintro g2 ⟨t2, n2⟩
  have m2 : mz_mo [T, A] 0 0 h g2 := mo00 m1 n2
  have hq2 := m2.1 _ nq _ hq
  refine s_aldn (p' := 118) rfl rfl rfl ?_
  refine s_aldn (p' := 119) rfl rfl rfl ?_
  refine s_callEN (p' := 122) (ls0 := [_, _]) rfl rfl rfl rfl rfl rfl rfl (x_tms t2 hq2 hi h2 h3 (by first | omega | (simp only [List.length_append, List.length_cons, List.length_nil] at *; omega))) rfl rfl ?_
  rintro g3 ⟨t3, n3⟩
  have m3 : mz_mo [T, A] 0 0 h g3 := mo00 m2 n3
  refine s_ret rfl ?_
  exact ⟨_, rfl, by rw [ep]; simpa only [List.append_assoc, List.cons_append, List.nil_append] using t3, m3⟩
theorem x_stb {h : mj_H} {T A : Nat} {l : List Nat} (t0 : cTl h T A l) {q0 : Nat} {ins : Nat → Int32} {B : Nat → Nat} (hq : mj_rd h q0 = some (inC ins)) (hi : ∀ q, q < 8 → ins q = nI (B q)) (ok : sOk B) (hn : l.length + (piece (fl1 0 B)).length ≤ 60) : mj_Wp 4 79 (0, [some (.ref q0), some (.ref T)], [], h) (mz_N fun h' => cTl h' T A (l ++ piece (fl1 0 B)) ∧ mz_mo [T, A] 0 0 h h') := by
  obtain ⟨ok, -⟩ := ok
  rcases ok with ⟨h0, h1, _⟩ | ⟨h0, h1, _⟩ | ⟨h0, h1, ⟨v, hv, _, h2⟩, h3, _⟩ | ⟨h0, h1, h2, _, h3⟩
  · rcases h0 with h0 | h0
    · exact x_sb33 t0 hq hi h0 h1 hn
    · exact x_sb63 t0 hq hi h0 h1 hn
  · rcases h0 with h0 | h0
    · exact x_sb64 t0 hq hi h0 h1 hn
    · exact x_sb36 t0 hq hi h0 h1 hn
  · exact x_sb126 t0 hq hi h0 h1 (Or.inr ⟨v, hv, h2⟩) (Or.inl h3) hn
  · have h3' : B 3 = 32 ∨ B 3 ≠ 32 ∧ B 3 < 1000 ∧ okTm (B 4) := by
      rcases h3 with h3 | ⟨h3, h4, _⟩
      · exact Or.inl h3.1
      · have := of_decide_eq_true h3
        exact Or.inr ⟨(sB_n h3).1, by omega, h4⟩
    rcases h0 with h0 | h0 | h0
    · exact x_sb43 t0 hq hi h0 h1 h2 h3' hn
    · exact x_sb45 t0 hq hi h0 h1 h2 h3' hn
    · exact x_sb94 t0 hq hi h0 h1 h2 h3' hn
theorem tst.w {a : Nat → Nat} (h : tst a) : okTm (a 2) ∧ (a 3 = 32 ∨ a 3 ≠ 32 ∧ a 3 < 1000 ∧ okTm (a 4)) := by
  have h3 := of_decide_eq_true h.2.1
  exact ⟨h.1, Or.inr ⟨by omega, by omega, h.2.2⟩⟩
theorem wRow.le {x y : Nat → Nat → Nat} {d k k' s : Nat} (h : wSq (wPt x y d) k k' s) : k ≤ k' := (h.S (fun a b a' q => wPt.lt d a b a' q)).1
theorem x_wbr {h : mj_H} {T A : Nat} {l : List Nat} (t0 : cTl h T A l) {b K : Nat} {x y : Nat → Nat → Nat} (hc : cCd h b K x) {d D op a m e a' : Nat} (hop : op < 6) (hD : 3 ≤ D) (hrow : ∀ (k k' s : Nat) (l : List Nat) (h : mj_H), k ≤ k' → wSq (wPt x y d) k k' s → k' ≤ K → cCd h b K x → cTl h T A l → l.length + (pFl y (k' - k) s).length ≤ 60 → mj_Wp D 72 (0, [some (.ref (b + 3)), some (.int (nI k)), some (.int (nI k')), some (.ref T), some (.int (nI (op + 1))), none, none, none], [], h) (mz_N fun h' => cTl h' T A (l ++ pFl y (k' - k) s) ∧ mz_mo [T, A] 0 0 h h')) (h1 : a < m) (h2 : m < e) (he : e < K) (hw : wBr x y a m e a' (a' + (m - a)) (a' + (e - a))) (h5 : wSq (wPt x y d) (a + 1) m (a' + 1)) (h6 : wSq (wPt x y d) (m + 1) e (a' + (m - a) + 1)) (hn : l.length + (pFl y (a' + (e - a) + 1 - a') a').length ≤ 60) : mj_Wp (D + 1) 75 (0, [some (.ref (b + 3)), some (.ref (b + 6 + e)), some (.ref T), some (.int (nI op)), none], [], h) (mz_N fun h' => cTl h' T A (l ++ pFl y (a' + (e - a) + 1 - a') a') ∧ mz_mo [T, A] 0 0 h h') := by
  have m0 : mz_mo [T, A] 0 0 h h := mz_mo.rf _ _ _ _
  have ety := hw.tx (by omega) (by omega)
  rw [show a' + (m - a) - (a' + 1) = m - (a + 1) by omega, show a' + (e - a) - (a' + (m - a) + 1) = e - (m + 1) by omega] at ety
  obtain ⟨bx, by_, z0, -, -⟩ := hw
  obtain ⟨sg, tsa, tse, -, -, -, -, -, lke⟩ := bx
  replace tsa := tsa.w
  replace tse := tse.w
  obtain ⟨ia, ra, va⟩ := hc.2.2.2 a (by omega)
  obtain ⟨ie, re, ve⟩ := hc.2.2.2 e (by omega)
  have h30 := hc.1
  rw [ety] at hn
  simp only [List.length_append, List.length_cons, List.length_nil] at hn
  have r1 := wRow.le h5
  have r2 := wRow.le h6
  refine s_ildn (p' := 1) rfl rfl rfl ?_
  refine s_bip (p' := 3) rfl rfl ?_
  refine s_icmp (p' := 7) true rfl ((ci_lt (by omega) (by omega)).trans (decide_eq_true (by omega))) rfl ?_
  refine s_aldn (p' := 8) rfl rfl rfl ?_
  refine s_aldn (p' := 9) rfl rfl rfl ?_
  refine s_gf (p' := 12) rfl re rfl rfl ?_
  rw [ve 5 (by decide), lke.1]
  refine s_callV (p' := 15) (ls0 := [_, _]) rfl rfl rfl rfl rfl (mj_rcv_is hc.2.1) rfl (x_cda hc (by omega)) (by first | decide | omega) rfl ?_
  refine s_ast (p' := 17) (ls' := [_, _, _, _, _]) rfl rfl rfl rfl ?_
  refine s_aldn (p' := 18) rfl rfl rfl ?_
  refine s_ald (p' := 20) rfl rfl rfl ?_
  refine s_gf (p' := 23) rfl ra rfl rfl ?_
  rw [va 0 (by decide)]
  refine s_callEN (p' := 26) (ls0 := [_, _]) rfl rfl rfl rfl rfl (mj_rcv_is t0.r) rfl (x_ptl t0 (by first | omega | (simp only [List.length_append, List.length_cons, List.length_nil] at *; omega)) (by omega)) (Nat.ble_eq.mpr (by omega)) rfl ?_
  rintro g1 ⟨t1, n1⟩
  have m1 : mz_mo [T, A] 0 0 h g1 := mo00 m0 n1
  have ra1 := m1.1 _ (t0.n ra (fun fs q => by cases q) (fun x q => by cases q)) _ ra
  have re1 := m1.1 _ (t0.n re (fun fs q => by cases q) (fun x q => by cases q)) _ re
  refine s_aldn (p' := 27) rfl rfl rfl ?_
  refine s_aldn (p' := 28) rfl rfl rfl ?_
  refine s_callEN (p' := 31) (ls0 := [_, _]) rfl rfl rfl rfl rfl rfl rfl (x_tms t1 re1 ve tse.1 tse.2 (by first | omega | (simp only [List.length_append, List.length_cons, List.length_nil] at *; omega))) (Nat.ble_eq.mpr (by omega)) rfl ?_
  rintro g2 ⟨t2, n2⟩
  have m2 : mz_mo [T, A] 0 0 h g2 := mo00 m1 n2
  have ra2 := m2.1 _ (t0.n ra (fun fs q => by cases q) (fun x q => by cases q)) _ ra
  have re2 := m2.1 _ (t0.n re (fun fs q => by cases q) (fun x q => by cases q)) _ re
  refine s_aldn (p' := 32) rfl rfl rfl ?_
  refine s_bip (p' := 34) rfl rfl ?_
  refine s_callEN (p' := 37) (ls0 := [_, _]) rfl rfl rfl rfl rfl (mj_rcv_is t2.r) rfl (x_ptl t2 (by first | omega | (simp only [List.length_append, List.length_cons, List.length_nil] at *; omega)) (by decide)) (Nat.ble_eq.mpr (by omega)) rfl ?_
  rintro g3 ⟨t3, n3⟩
  have m3 : mz_mo [T, A] 0 0 h g3 := mo00 m2 n3
  have ra3 := m3.1 _ (t0.n ra (fun fs q => by cases q) (fun x q => by cases q)) _ ra
  have re3 := m3.1 _ (t0.n re (fun fs q => by cases q) (fun x q => by cases q)) _ re
  have c3 := hc.ct t0 m3.1
  refine s_aldn (p' := 38) rfl rfl rfl ?_
  refine s_aldn (p' := 39) rfl rfl rfl ?_
  refine s_gf (p' := 42) rfl re3 rfl rfl ?_
  rw [ve 5 (by decide), lke.1]
  refine s_con (p' := 43) rfl rfl ?_
  refine s_sp (p' := 44) (ls' := _) rfl rfl rfl ?_
  rw [mI_add]
  refine s_aldn (p' := 45) rfl rfl rfl ?_
  refine s_gf (p' := 48) rfl re3 rfl rfl ?_
  rw [ve 6 (by decide), lke.2.1]
  refine s_aldn (p' := 49) rfl rfl rfl ?_
  refine s_ildn (p' := 50) rfl rfl rfl ?_
  refine s_con (p' := 51) rfl rfl ?_
  refine s_sp (p' := 52) (ls' := _) rfl rfl rfl ?_
  rw [mI_add]
  refine s_callEN (p' := 55) (ls0 := [_, _, _, _, _, _, _, _]) rfl rfl rfl rfl rfl rfl rfl (hrow (a + 1) m (a' + 1) _ _ (by omega) h5 (by omega) c3 t3 (by first | omega | (simp only [List.length_append, List.length_cons, List.length_nil] at *; omega))) (Nat.ble_eq.mpr (by omega)) rfl ?_
  rintro g4 ⟨t4, n4⟩
  have m4 : mz_mo [T, A] 0 0 h g4 := mo00 m3 n4
  have ra4 := m4.1 _ (t0.n ra (fun fs q => by cases q) (fun x q => by cases q)) _ ra
  have re4 := m4.1 _ (t0.n re (fun fs q => by cases q) (fun x q => by cases q)) _ re
  refine s_aldn (p' := 56) rfl rfl rfl ?_
  refine s_bip (p' := 58) rfl rfl ?_
  refine s_callEN (p' := 61) (ls0 := [_, _]) rfl rfl rfl rfl rfl (mj_rcv_is t4.r) rfl (x_ptl t4 (by first | omega | (simp only [List.length_append, List.length_cons, List.length_nil] at *; omega)) (by decide)) (Nat.ble_eq.mpr (by omega)) rfl ?_
  rintro g5 ⟨t5, n5⟩
  have m5 : mz_mo [T, A] 0 0 h g5 := mo00 m4 n5
  have ra5 := m5.1 _ (t0.n ra (fun fs q => by cases q) (fun x q => by cases q)) _ ra
  have re5 := m5.1 _ (t0.n re (fun fs q => by cases q) (fun x q => by cases q)) _ re
  have c5 := hc.ct t0 m5.1
  refine s_aldn (p' := 62) rfl rfl rfl ?_
  refine s_aldn (p' := 63) rfl rfl rfl ?_
  refine s_gf (p' := 66) rfl re5 rfl rfl ?_
  rw [ve 6 (by decide), lke.2.1]
  refine s_con (p' := 67) rfl rfl ?_
  refine s_sp (p' := 68) (ls' := _) rfl rfl rfl ?_
  rw [mI_add]
  refine s_aldn (p' := 69) rfl rfl rfl ?_
  refine s_gf (p' := 72) rfl re5 rfl rfl ?_
  rw [ve 7 (by decide), lke.2.2]
  refine s_aldn (p' := 73) rfl rfl rfl ?_
  refine s_ildn (p' := 74) rfl rfl rfl ?_
  refine s_con (p' := 75) rfl rfl ?_
  refine s_sp (p' := 76) (ls' := _) rfl rfl rfl ?_
  rw [mI_add]
  refine s_callEN (p' := 79) (ls0 := [_, _, _, _, _, _, _, _]) rfl rfl rfl rfl rfl rfl rfl (hrow (m + 1) e (a' + (m - a) + 1) _ _ (by omega) h6 (by omega) c5 t5 (by first | omega | (simp only [List.length_append, List.length_cons, List.length_nil] at *; omega))) (Nat.ble_eq.mpr (by omega)) rfl ?_
  rintro g6 ⟨t6, n6⟩
  have m6 : mz_mo [T, A] 0 0 h g6 := mo00 m5 n6
  have ra6 := m6.1 _ (t0.n ra (fun fs q => by cases q) (fun x q => by cases q)) _ ra
  have re6 := m6.1 _ (t0.n re (fun fs q => by cases q) (fun x q => by cases q)) _ re
  refine s_aldn (p' := 80) rfl rfl rfl ?_
  refine s_bip (p' := 82) rfl rfl ?_
  refine s_callEN (p' := 85) (ls0 := [_, _]) rfl rfl rfl rfl rfl (mj_rcv_is t6.r) rfl (x_ptl t6 (by first | omega | (simp only [List.length_append, List.length_cons, List.length_nil] at *; omega)) (by decide)) (Nat.ble_eq.mpr (by omega)) rfl ?_
  rintro g7 ⟨t7, n7⟩
  have m7 : mz_mo [T, A] 0 0 h g7 := mo00 m6 n7
  have ra7 := m7.1 _ (t0.n ra (fun fs q => by cases q) (fun x q => by cases q)) _ ra
  have re7 := m7.1 _ (t0.n re (fun fs q => by cases q) (fun x q => by cases q)) _ re
  refine s_ald (p' := 87) rfl rfl rfl ?_
  refine s_aldn (p' := 88) rfl rfl rfl ?_
  refine s_callEN (p' := 91) (ls0 := [_, _]) rfl rfl rfl rfl rfl rfl rfl (x_tms t7 ra7 va tsa.1 tsa.2 (by first | omega | (simp only [List.length_append, List.length_cons, List.length_nil] at *; omega))) (Nat.ble_eq.mpr (by omega)) rfl ?_
  rintro g8 ⟨t8, n8⟩
  have m8 : mz_mo [T, A] 0 0 h g8 := mo00 m7 n8
  have ra8 := m8.1 _ (t0.n ra (fun fs q => by cases q) (fun x q => by cases q)) _ ra
  have re8 := m8.1 _ (t0.n re (fun fs q => by cases q) (fun x q => by cases q)) _ re
  refine s_aldn (p' := 92) rfl rfl rfl ?_
  refine s_aldn (p' := 93) rfl rfl rfl ?_
  refine s_gf (p' := 96) rfl re8 rfl rfl ?_
  rw [ve 0 (by decide)]
  refine s_callEN (p' := 99) (ls0 := [_, _]) rfl rfl rfl rfl rfl (mj_rcv_is t8.r) rfl (x_ptl t8 (by first | omega | (simp only [List.length_append, List.length_cons, List.length_nil] at *; omega)) (by omega)) (Nat.ble_eq.mpr (by omega)) rfl ?_
  rintro g9 ⟨t9, n9⟩
  have m9 : mz_mo [T, A] 0 0 h g9 := mo00 m8 n9
  refine s_ret rfl ?_
  exact ⟨_, rfl, by rw [ety]; simpa only [List.append_assoc, List.cons_append, List.nil_append] using t9, m9⟩
theorem wPt.cs {x y : Nat → Nat → Nat} {d a b a' : Nat} (h : wPt x y d a b a') : (b = a + 1 ∧ wSm (x a) (y a')) ∨ ∃ d' m e, d = d' + 1 ∧ b = e + 1 ∧ a < m ∧ m < e ∧ wBr x y a m e a' (a' + (m - a)) (a' + (e - a)) ∧ wSq (wPt x y d') (a + 1) m (a' + 1) ∧ wSq (wPt x y d') (m + 1) e (a' + (m - a) + 1) := by
  cases d with
  | zero => exact Or.inl h
  | succ d =>
    rcases h with h | ⟨m, e, h1, h2, h3, h4, h5, h6⟩
    · exact Or.inl h
    · exact Or.inr ⟨d, m, e, rfl, h1, h2, h3, h4, h5, h6⟩
theorem dec_ti {n : Nat} (h : n < 1000) : (nI n - nI 1).toInt = (n : Int) - 1 := by
  cases n with
  | zero => decide +kernel
  | succ n => rw [mI_sub (by omega), mI_ti (by omega)]; omega
/-- one more part in front: its text behind -/
theorem wRow.nx {x y : Nat → Nat → Nat} {d c S p : Nat} {ks : Nat → Nat} (hS : ks c ≤ S) (hj : ∀ j, j < c → wPt x y d (ks j) (ks (j + 1)) (S - ks (j + 1))) (hm : ∀ i j, i + j ≤ c → ks i ≤ ks (i + j)) (hp : p < c) : pFl y (ks c - ks p) (S - ks c) = pFl y (ks c - ks (p + 1)) (S - ks c) ++ ((if p + 1 < c then [59] else []) ++ pFl y (ks (p + 1) - ks p) (S - ks (p + 1))) := by
  have w := hj p hp
  have hlt := wPt.lt d _ _ _ w
  by_cases q : p + 1 < c
  · rw [if_pos q]
    have w1 := hj (p + 1) q
    have hl1 := wPt.lt d _ _ _ w1
    have m1 := hm (p + 1 + 1) (c - (p + 1 + 1)) (by omega)
    rw [show p + 1 + 1 + (c - (p + 1 + 1)) = c by omega] at m1
    have sy := wPt.t d _ _ _ (wPt.sym d _ _ _ w)
    have sy1 := wPt.t d _ _ _ (wPt.sym d _ _ _ w1)
    rw [show S - ks (p + 1 + 1) + (ks (p + 1 + 1) - ks (p + 1)) = S - ks (p + 1) by omega] at sy1
    have e := pFl_sn (x := y) (s := S - ks c) (p := S - ks (p + 1)) (b := S - ks p) (by omega) (by omega) sy1.be.2 sy.be.1
    rw [show S - ks p - (S - ks c) = ks c - ks p by omega, show S - ks (p + 1) - (S - ks c) = ks c - ks (p + 1) by omega, show S - ks p - (S - ks (p + 1)) = ks (p + 1) - ks p by omega] at e
    exact e
  · rw [if_neg q]
    obtain rfl : p + 1 = c := by omega
    rw [Nat.sub_self]
    rfl
theorem wRow.mo {x y : Nat → Nat → Nat} {d c S k k' p : Nat} {ks : Nat → Nat} (e0 : ks 0 = k) (ec : ks c = k') (hS : k' ≤ S) (hj : ∀ j, j < c → wPt x y d (ks j) (ks (j + 1)) (S - ks (j + 1))) (hm : ∀ i j, i + j ≤ c → ks i ≤ ks (i + j)) : p ≤ c → (pFl y (k' - ks p) (S - k')).length ≤ (pFl y (k' - k) (S - k')).length := by
  subst e0 ec
  induction p with
  | zero => exact fun _ => Nat.le_refl _
  | succ p ih =>
    intro hp
    refine Nat.le_trans ?_ (ih (by omega))
    rw [wRow.nx hS hj hm (show p < c by omega)]
    rw [List.length_append]
    omega
theorem x_rbL {h0 : mj_H} {T A : Nat} {l : List Nat} {b K : Nat} {x y : Nat → Nat → Nat} {d D op k k' S c : Nat} {ks : Nat → Nat} (hD : 4 ≤ D) (ht0 : cTl h0 T A l) (hc : cCd h0 b K x) (hbr : ∀ (d' a m e a' : Nat) (l : List Nat) (h : mj_H), d = d' + 1 → a < m → m < e → e < K → wBr x y a m e a' (a' + (m - a)) (a' + (e - a)) → wSq (wPt x y d') (a + 1) m (a' + 1) → wSq (wPt x y d') (m + 1) e (a' + (m - a) + 1) → cCd h b K x → cTl h T A l → l.length + (pFl y (a' + (e - a) + 1 - a') a').length ≤ 60 → mj_Wp D 75 (0, [some (.ref (b + 3)), some (.ref (b + 6 + e)), some (.ref T), some (.int (nI op)), none], [], h) (mz_N fun h' => cTl h' T A (l ++ pFl y (a' + (e - a) + 1 - a') a') ∧ mz_mo [T, A] 0 0 h h')) (e0 : ks 0 = k) (ec : ks c = k') (hk' : k' ≤ K) (hS : k' ≤ S) (hj : ∀ j, j < c → wPt x y d (ks j) (ks (j + 1)) (S - ks (j + 1))) (hm : ∀ i j, i + j ≤ c → ks i ≤ ks (i + j)) (hcc : c ≤ 30) : ∀ (p i : Nat) (l7 : Option Value) (h : mj_H), i + p = c → cTl h T A (l ++ pFl y (k' - ks p) (S - k')) → l.length + (pFl y (k' - k) (S - k')).length ≤ 60 → mz_mo [T, A] 0 0 h0 h → mj_Wp (D + 1) 72 (8, [some (.ref (b + 3)), some (.int (nI k)), some (.int (nI k')), some (.ref T), some (.int (nI op)), some (.int (nI (ks p) - nI 1)), some (.int (nI i)), l7], [], h) (mz_N fun h' => cTl h' T A (l ++ pFl y (k' - k) (S - k')) ∧ mz_mo [T, A] 0 0 h0 h')
  | 0, i, l7, h, hi, t0, hn, m0 => by
    have h30 := hc.1
    have hkk := hm 0 c (by omega)
    rw [Nat.zero_add, e0, ec] at hkk
    refine s_ild (p' := 10) rfl rfl rfl ?_
    refine s_bip (p' := 12) rfl rfl ?_
    by_cases q30 : c = 30
    · refine s_icmp (p' := 96) true rfl ((ci_ge (by omega) (by omega)).trans (decide_eq_true (by omega))) rfl ?_
      refine s_ret rfl ?_
      exact ⟨_, rfl, by rw [e0] at t0; exact t0, m0⟩
    · refine s_icmp (p' := 15) false rfl ((ci_ge (by omega) (by omega)).trans (decide_eq_false (by omega))) rfl ?_
      refine s_ild (p' := 17) rfl rfl rfl ?_
      refine s_ildn (p' := 18) rfl rfl rfl ?_
      refine s_icmp (p' := 96) true rfl ((cg_lt (mI_ti (by omega))).trans (decide_eq_true (by rw [dec_ti (by omega)]; omega))) rfl ?_
      refine s_ret rfl ?_
      exact ⟨_, rfl, by rw [e0] at t0; exact t0, m0⟩
  | p + 1, i, l7, h, hi, t0, hn, m0 => by
    have h30 := hc.1
    have w := hj p (by omega)
    have hlt := wPt.lt d _ _ _ w
    have hle := hm (p + 1) (c - (p + 1)) (by omega)
    have hl0 := hm 0 p (by omega)
    rw [show p + 1 + (c - (p + 1)) = c by omega, ec] at hle
    rw [Nat.zero_add] at hl0
    have enx := wRow.nx (by omega) hj hm (show p < c by omega)
    have hn2 : l.length + (pFl y (k' - ks p) (S - k')).length ≤ 60 := by
      refine Nat.le_trans (Nat.add_le_add_left ?_ _) hn
      exact wRow.mo e0 ec hS hj hm (by omega)
    rw [ec] at enx
    have hn3 := hn2
    rw [enx] at hn3
    simp only [List.length_append] at hn3
    rcases w.cs with w | ⟨d', m, e, hdd, z0, z1, z2, hw, h5, h6⟩
    · have sg : x (ks p) 0 = 33 ∨ x (ks p) 0 = 63 ∨ x (ks p) 0 = 64 ∨ x (ks p) 0 = 36 ∨ x (ks p) 0 = 126 ∨ x (ks p) 0 = 43 ∨ x (ks p) 0 = 45 ∨ x (ks p) 0 = 94 := by have := w.2.1.1; omega
      have eb : pFl y (ks (p + 1) - ks p) (S - ks (p + 1)) = piece (fl1 0 (x (ks p))) := by
        rw [w.1, show ks p + 1 - ks p = 1 by omega]
        show piece (y _) = _
        rw [← w.1]
        exact piece_cg w.2.2
      by_cases qf : p + 1 < c
      · rw [if_pos qf] at enx hn3
        simp only [List.length_cons, List.length_nil] at hn3
        refine s_ild (p' := 10) rfl rfl rfl ?_
        refine s_bip (p' := 12) rfl rfl ?_
        refine s_icmp (p' := 15) false rfl ((ci_ge (by omega) (by omega)).trans (decide_eq_false (by omega))) rfl ?_
        refine s_ild (p' := 17) rfl rfl rfl ?_
        refine s_ildn (p' := 18) rfl rfl rfl ?_
        refine s_icmp (p' := 21) false rfl ((cg_lt (mI_ti (by omega))).trans (decide_eq_false (by rw [dec_ti (by omega)]; omega))) rfl ?_
        refine s_ild (p' := 23) rfl rfl rfl ?_
        refine s_if (p' := 26) false rfl ((cz_le (by omega)).trans (decide_eq_false (by omega))) rfl ?_
        refine s_aldn (p' := 27) rfl rfl rfl ?_
        refine s_bip (p' := 29) rfl rfl ?_
        refine s_callEN (p' := 32) (ls0 := [_, _]) rfl rfl rfl rfl rfl (mj_rcv_is t0.r) rfl (x_ptl t0 (by first | omega | (simp only [List.length_append, List.length_cons, List.length_nil] at *; omega)) (by decide)) (Nat.ble_eq.mpr (by omega)) rfl ?_
        rintro g1 ⟨t1, n1⟩
        have m1 : mz_mo [T, A] 0 0 h0 g1 := mo00 m0 n1
        have c1 : cCd g1 b K x := hc.ct ht0 m1.1
        obtain ⟨ii, rr, vv⟩ := c1.2.2.2 (ks p) (by omega)
        rw [show nI (ks (p + 1)) - nI 1 = nI (ks p) from by rw [mI_sub (by omega), show ks (p + 1) - 1 = ks p by omega]]
        refine s_aldn (p' := 33) rfl rfl rfl ?_
        refine s_ild (p' := 35) rfl rfl rfl ?_
        refine s_callV (p' := 38) (ls0 := [_, _]) rfl rfl rfl rfl rfl (mj_rcv_is c1.2.1) rfl (x_cda c1 (by omega)) (by first | decide | omega) rfl ?_
        refine s_ast (p' := 40) (ls' := [_, _, _, _, _, _, _, _]) rfl rfl rfl rfl ?_
        refine s_ald (p' := 42) rfl rfl rfl ?_
        refine s_gf (p' := 45) rfl rr rfl rfl ?_
        rw [vv 0 (by decide)]
        refine s_bip (p' := 47) rfl rfl ?_
        refine s_icmp (p' := 50) false rfl ((ci_eq (by omega) (by omega)).trans (decide_eq_false (by omega))) rfl ?_
        refine s_ald (p' := 52) rfl rfl rfl ?_
        refine s_gf (p' := 55) rfl rr rfl rfl ?_
        rw [vv 0 (by decide)]
        refine s_bip (p' := 57) rfl rfl ?_
        refine s_icmp (p' := 81) true rfl ((ci_ne (by omega) (by omega)).trans (decide_eq_true (by omega))) rfl ?_
        refine s_ald (p' := 83) rfl rfl rfl ?_
        refine s_aldn (p' := 84) rfl rfl rfl ?_
        refine s_callEN (p' := 87) (ls0 := [_, _]) rfl rfl rfl rfl rfl rfl rfl (x_stb t1 rr vv w.2.1 (by rw [← eb]; first | omega | (simp only [List.length_append, List.length_cons, List.length_nil] at *; omega))) (Nat.ble_eq.mpr (by omega)) rfl ?_
        rintro g2 ⟨t2, n2⟩
        have m2 : mz_mo [T, A] 0 0 h0 g2 := mo00 m1 n2
        rw [← eb] at t2
        refine s_inc (p' := 90) (ls' := [_, _, _, _, _, _, _, _]) rfl rfl rfl rfl rfl ?_
        rw [mI_dec1]
        refine s_inc (p' := 93) (ls' := [_, _, _, _, _, _, _, _]) rfl rfl rfl rfl rfl ?_
        rw [mI_add]
        refine s_goto (p' := 8) rfl rfl ?_
        exact x_rbL hD ht0 hc hbr e0 ec hk' hS hj hm hcc p (i + 1) _ _ (by omega) (by rw [enx]; simpa only [List.append_assoc, List.cons_append, List.nil_append] using t2) hn m2
      · rw [if_neg qf] at enx hn3
        simp only [List.length_cons, List.length_nil] at hn3
        refine s_ild (p' := 10) rfl rfl rfl ?_
        refine s_bip (p' := 12) rfl rfl ?_
        refine s_icmp (p' := 15) false rfl ((ci_ge (by omega) (by omega)).trans (decide_eq_false (by omega))) rfl ?_
        refine s_ild (p' := 17) rfl rfl rfl ?_
        refine s_ildn (p' := 18) rfl rfl rfl ?_
        refine s_icmp (p' := 21) false rfl ((cg_lt (mI_ti (by omega))).trans (decide_eq_false (by rw [dec_ti (by omega)]; omega))) rfl ?_
        refine s_ild (p' := 23) rfl rfl rfl ?_
        refine s_if (p' := 32) true rfl ((cz_le (by omega)).trans (decide_eq_true (by omega))) rfl ?_
        have c0 : cCd h b K x := hc.ct ht0 m0.1
        obtain ⟨ii, rr, vv⟩ := c0.2.2.2 (ks p) (by omega)
        rw [show nI (ks (p + 1)) - nI 1 = nI (ks p) from by rw [mI_sub (by omega), show ks (p + 1) - 1 = ks p by omega]]
        refine s_aldn (p' := 33) rfl rfl rfl ?_
        refine s_ild (p' := 35) rfl rfl rfl ?_
        refine s_callV (p' := 38) (ls0 := [_, _]) rfl rfl rfl rfl rfl (mj_rcv_is c0.2.1) rfl (x_cda c0 (by omega)) (by first | decide | omega) rfl ?_
        refine s_ast (p' := 40) (ls' := [_, _, _, _, _, _, _, _]) rfl rfl rfl rfl ?_
        refine s_ald (p' := 42) rfl rfl rfl ?_
        refine s_gf (p' := 45) rfl rr rfl rfl ?_
        rw [vv 0 (by decide)]
        refine s_bip (p' := 47) rfl rfl ?_
        refine s_icmp (p' := 50) false rfl ((ci_eq (by omega) (by omega)).trans (decide_eq_false (by omega))) rfl ?_
        refine s_ald (p' := 52) rfl rfl rfl ?_
        refine s_gf (p' := 55) rfl rr rfl rfl ?_
        rw [vv 0 (by decide)]
        refine s_bip (p' := 57) rfl rfl ?_
        refine s_icmp (p' := 81) true rfl ((ci_ne (by omega) (by omega)).trans (decide_eq_true (by omega))) rfl ?_
        refine s_ald (p' := 83) rfl rfl rfl ?_
        refine s_aldn (p' := 84) rfl rfl rfl ?_
        refine s_callEN (p' := 87) (ls0 := [_, _]) rfl rfl rfl rfl rfl rfl rfl (x_stb t0 rr vv w.2.1 (by rw [← eb]; first | omega | (simp only [List.length_append, List.length_cons, List.length_nil] at *; omega))) (Nat.ble_eq.mpr (by omega)) rfl ?_
        rintro g2 ⟨t2, n2⟩
        have m2 : mz_mo [T, A] 0 0 h0 g2 := mo00 m0 n2
        rw [← eb] at t2
        refine s_inc (p' := 90) (ls' := [_, _, _, _, _, _, _, _]) rfl rfl rfl rfl rfl ?_
        rw [mI_dec1]
        refine s_inc (p' := 93) (ls' := [_, _, _, _, _, _, _, _]) rfl rfl rfl rfl rfl ?_
        rw [mI_add]
        refine s_goto (p' := 8) rfl rfl ?_
        exact x_rbL hD ht0 hc hbr e0 ec hk' hS hj hm hcc p (i + 1) _ _ (by omega) (by rw [enx]; simpa only [List.append_assoc, List.cons_append, List.nil_append] using t2) hn m2
    · obtain ⟨sg, -, -, -, -, -, -, -, lke⟩ := hw.1
      have eb : pFl y (S - ks (p + 1) + (e - ks p) + 1 - (S - ks (p + 1))) (S - ks (p + 1)) = pFl y (ks (p + 1) - ks p) (S - ks (p + 1)) := by rw [show S - ks (p + 1) + (e - ks p) + 1 - (S - ks (p + 1)) = ks (p + 1) - ks p by omega]
      by_cases qf : p + 1 < c
      · rw [if_pos qf] at enx hn3
        simp only [List.length_cons, List.length_nil] at hn3
        refine s_ild (p' := 10) rfl rfl rfl ?_
        refine s_bip (p' := 12) rfl rfl ?_
        refine s_icmp (p' := 15) false rfl ((ci_ge (by omega) (by omega)).trans (decide_eq_false (by omega))) rfl ?_
        refine s_ild (p' := 17) rfl rfl rfl ?_
        refine s_ildn (p' := 18) rfl rfl rfl ?_
        refine s_icmp (p' := 21) false rfl ((cg_lt (mI_ti (by omega))).trans (decide_eq_false (by rw [dec_ti (by omega)]; omega))) rfl ?_
        refine s_ild (p' := 23) rfl rfl rfl ?_
        refine s_if (p' := 26) false rfl ((cz_le (by omega)).trans (decide_eq_false (by omega))) rfl ?_
        refine s_aldn (p' := 27) rfl rfl rfl ?_
        refine s_bip (p' := 29) rfl rfl ?_
        refine s_callEN (p' := 32) (ls0 := [_, _]) rfl rfl rfl rfl rfl (mj_rcv_is t0.r) rfl (x_ptl t0 (by first | omega | (simp only [List.length_append, List.length_cons, List.length_nil] at *; omega)) (by decide)) (Nat.ble_eq.mpr (by omega)) rfl ?_
        rintro g1 ⟨t1, n1⟩
        have m1 : mz_mo [T, A] 0 0 h0 g1 := mo00 m0 n1
        have c1 : cCd g1 b K x := hc.ct ht0 m1.1
        obtain ⟨ii, rr, vv⟩ := c1.2.2.2 (e) (by omega)
        rw [show nI (ks (p + 1)) - nI 1 = nI (e) from by rw [mI_sub (by omega), show ks (p + 1) - 1 = e by omega]]
        refine s_aldn (p' := 33) rfl rfl rfl ?_
        refine s_ild (p' := 35) rfl rfl rfl ?_
        refine s_callV (p' := 38) (ls0 := [_, _]) rfl rfl rfl rfl rfl (mj_rcv_is c1.2.1) rfl (x_cda c1 (by omega)) (by first | decide | omega) rfl ?_
        refine s_ast (p' := 40) (ls' := [_, _, _, _, _, _, _, _]) rfl rfl rfl rfl ?_
        refine s_ald (p' := 42) rfl rfl rfl ?_
        refine s_gf (p' := 45) rfl rr rfl rfl ?_
        rw [vv 0 (by decide)]
        refine s_bip (p' := 47) rfl rfl ?_
        by_cases q93 : x e 0 = 93
        · refine s_icmp (p' := 60) true rfl ((ci_eq (by omega) (by omega)).trans (decide_eq_true (by omega))) rfl ?_
          refine s_aldn (p' := 61) rfl rfl rfl ?_
          refine s_ald (p' := 63) rfl rfl rfl ?_
          refine s_aldn (p' := 64) rfl rfl rfl ?_
          refine s_ild (p' := 66) rfl rfl rfl ?_
          refine s_callEN (p' := 69) (ls0 := [_, _, _, _, _]) rfl rfl rfl rfl rfl rfl rfl (hbr _ _ _ _ _ _ _ hdd z1 z2 (by omega) hw h5 h6 c1 t1 (by rw [eb]; first | omega | (simp only [List.length_append, List.length_cons, List.length_nil] at *; omega))) (Nat.ble_eq.mpr (by omega)) rfl ?_
          rintro g2 ⟨t2, n2⟩
          have m2 : mz_mo [T, A] 0 0 h0 g2 := mo00 m1 n2
          have rr2 := n2.1 _ (t1.n rr (fun fs q => by cases q) (fun x q => by cases q)) _ rr
          rw [eb] at t2
          refine s_ald (p' := 71) rfl rfl rfl ?_
          refine s_gf (p' := 74) rfl rr2 rfl rfl ?_
          rw [vv 5 (by decide), lke.1]
          refine s_con (p' := 75) rfl rfl ?_
          refine s_sp (p' := 76) (ls' := _) rfl rfl rfl ?_
          refine s_ist (p' := 78) (ls' := [_, _, _, _, _, _, _, _]) rfl rfl rfl rfl ?_
          refine s_goto (p' := 90) rfl rfl ?_
          refine s_inc (p' := 93) (ls' := [_, _, _, _, _, _, _, _]) rfl rfl rfl rfl rfl ?_
          rw [mI_add]
          refine s_goto (p' := 8) rfl rfl ?_
          exact x_rbL hD ht0 hc hbr e0 ec hk' hS hj hm hcc p (i + 1) _ _ (by omega) (by rw [enx]; simpa only [List.append_assoc, List.cons_append, List.nil_append] using t2) hn m2
        · refine s_icmp (p' := 50) false rfl ((ci_eq (by omega) (by omega)).trans (decide_eq_false (by omega))) rfl ?_
          refine s_ald (p' := 52) rfl rfl rfl ?_
          refine s_gf (p' := 55) rfl rr rfl rfl ?_
          rw [vv 0 (by decide)]
          refine s_bip (p' := 57) rfl rfl ?_
          refine s_icmp (p' := 60) false rfl ((ci_ne (by omega) (by omega)).trans (decide_eq_false (by omega))) rfl ?_
          refine s_aldn (p' := 61) rfl rfl rfl ?_
          refine s_ald (p' := 63) rfl rfl rfl ?_
          refine s_aldn (p' := 64) rfl rfl rfl ?_
          refine s_ild (p' := 66) rfl rfl rfl ?_
          refine s_callEN (p' := 69) (ls0 := [_, _, _, _, _]) rfl rfl rfl rfl rfl rfl rfl (hbr _ _ _ _ _ _ _ hdd z1 z2 (by omega) hw h5 h6 c1 t1 (by rw [eb]; first | omega | (simp only [List.length_append, List.length_cons, List.length_nil] at *; omega))) (Nat.ble_eq.mpr (by omega)) rfl ?_
          rintro g2 ⟨t2, n2⟩
          have m2 : mz_mo [T, A] 0 0 h0 g2 := mo00 m1 n2
          have rr2 := n2.1 _ (t1.n rr (fun fs q => by cases q) (fun x q => by cases q)) _ rr
          rw [eb] at t2
          refine s_ald (p' := 71) rfl rfl rfl ?_
          refine s_gf (p' := 74) rfl rr2 rfl rfl ?_
          rw [vv 5 (by decide), lke.1]
          refine s_con (p' := 75) rfl rfl ?_
          refine s_sp (p' := 76) (ls' := _) rfl rfl rfl ?_
          refine s_ist (p' := 78) (ls' := [_, _, _, _, _, _, _, _]) rfl rfl rfl rfl ?_
          refine s_goto (p' := 90) rfl rfl ?_
          refine s_inc (p' := 93) (ls' := [_, _, _, _, _, _, _, _]) rfl rfl rfl rfl rfl ?_
          rw [mI_add]
          refine s_goto (p' := 8) rfl rfl ?_
          exact x_rbL hD ht0 hc hbr e0 ec hk' hS hj hm hcc p (i + 1) _ _ (by omega) (by rw [enx]; simpa only [List.append_assoc, List.cons_append, List.nil_append] using t2) hn m2
      · rw [if_neg qf] at enx hn3
        simp only [List.length_cons, List.length_nil] at hn3
        refine s_ild (p' := 10) rfl rfl rfl ?_
        refine s_bip (p' := 12) rfl rfl ?_
        refine s_icmp (p' := 15) false rfl ((ci_ge (by omega) (by omega)).trans (decide_eq_false (by omega))) rfl ?_
        refine s_ild (p' := 17) rfl rfl rfl ?_
        refine s_ildn (p' := 18) rfl rfl rfl ?_
        refine s_icmp (p' := 21) false rfl ((cg_lt (mI_ti (by omega))).trans (decide_eq_false (by rw [dec_ti (by omega)]; omega))) rfl ?_
        refine s_ild (p' := 23) rfl rfl rfl ?_
        refine s_if (p' := 32) true rfl ((cz_le (by omega)).trans (decide_eq_true (by omega))) rfl ?_
        have c0 : cCd h b K x := hc.ct ht0 m0.1
        obtain ⟨ii, rr, vv⟩ := c0.2.2.2 (e) (by omega)
        rw [show nI (ks (p + 1)) - nI 1 = nI (e) from by rw [mI_sub (by omega), show ks (p + 1) - 1 = e by omega]]
        refine s_aldn (p' := 33) rfl rfl rfl ?_
        refine s_ild (p' := 35) rfl rfl rfl ?_
        refine s_callV (p' := 38) (ls0 := [_, _]) rfl rfl rfl rfl rfl (mj_rcv_is c0.2.1) rfl (x_cda c0 (by omega)) (by first | decide | omega) rfl ?_
        refine s_ast (p' := 40) (ls' := [_, _, _, _, _, _, _, _]) rfl rfl rfl rfl ?_
        refine s_ald (p' := 42) rfl rfl rfl ?_
        refine s_gf (p' := 45) rfl rr rfl rfl ?_
        rw [vv 0 (by decide)]
        refine s_bip (p' := 47) rfl rfl ?_
        by_cases q93 : x e 0 = 93
        · refine s_icmp (p' := 60) true rfl ((ci_eq (by omega) (by omega)).trans (decide_eq_true (by omega))) rfl ?_
          refine s_aldn (p' := 61) rfl rfl rfl ?_
          refine s_ald (p' := 63) rfl rfl rfl ?_
          refine s_aldn (p' := 64) rfl rfl rfl ?_
          refine s_ild (p' := 66) rfl rfl rfl ?_
          refine s_callEN (p' := 69) (ls0 := [_, _, _, _, _]) rfl rfl rfl rfl rfl rfl rfl (hbr _ _ _ _ _ _ _ hdd z1 z2 (by omega) hw h5 h6 c0 t0 (by rw [eb]; first | omega | (simp only [List.length_append, List.length_cons, List.length_nil] at *; omega))) (Nat.ble_eq.mpr (by omega)) rfl ?_
          rintro g2 ⟨t2, n2⟩
          have m2 : mz_mo [T, A] 0 0 h0 g2 := mo00 m0 n2
          have rr2 := n2.1 _ (t0.n rr (fun fs q => by cases q) (fun x q => by cases q)) _ rr
          rw [eb] at t2
          refine s_ald (p' := 71) rfl rfl rfl ?_
          refine s_gf (p' := 74) rfl rr2 rfl rfl ?_
          rw [vv 5 (by decide), lke.1]
          refine s_con (p' := 75) rfl rfl ?_
          refine s_sp (p' := 76) (ls' := _) rfl rfl rfl ?_
          refine s_ist (p' := 78) (ls' := [_, _, _, _, _, _, _, _]) rfl rfl rfl rfl ?_
          refine s_goto (p' := 90) rfl rfl ?_
          refine s_inc (p' := 93) (ls' := [_, _, _, _, _, _, _, _]) rfl rfl rfl rfl rfl ?_
          rw [mI_add]
          refine s_goto (p' := 8) rfl rfl ?_
          exact x_rbL hD ht0 hc hbr e0 ec hk' hS hj hm hcc p (i + 1) _ _ (by omega) (by rw [enx]; simpa only [List.append_assoc, List.cons_append, List.nil_append] using t2) hn m2
        · refine s_icmp (p' := 50) false rfl ((ci_eq (by omega) (by omega)).trans (decide_eq_false (by omega))) rfl ?_
          refine s_ald (p' := 52) rfl rfl rfl ?_
          refine s_gf (p' := 55) rfl rr rfl rfl ?_
          rw [vv 0 (by decide)]
          refine s_bip (p' := 57) rfl rfl ?_
          refine s_icmp (p' := 60) false rfl ((ci_ne (by omega) (by omega)).trans (decide_eq_false (by omega))) rfl ?_
          refine s_aldn (p' := 61) rfl rfl rfl ?_
          refine s_ald (p' := 63) rfl rfl rfl ?_
          refine s_aldn (p' := 64) rfl rfl rfl ?_
          refine s_ild (p' := 66) rfl rfl rfl ?_
          refine s_callEN (p' := 69) (ls0 := [_, _, _, _, _]) rfl rfl rfl rfl rfl rfl rfl (hbr _ _ _ _ _ _ _ hdd z1 z2 (by omega) hw h5 h6 c0 t0 (by rw [eb]; first | omega | (simp only [List.length_append, List.length_cons, List.length_nil] at *; omega))) (Nat.ble_eq.mpr (by omega)) rfl ?_
          rintro g2 ⟨t2, n2⟩
          have m2 : mz_mo [T, A] 0 0 h0 g2 := mo00 m0 n2
          have rr2 := n2.1 _ (t0.n rr (fun fs q => by cases q) (fun x q => by cases q)) _ rr
          rw [eb] at t2
          refine s_ald (p' := 71) rfl rfl rfl ?_
          refine s_gf (p' := 74) rfl rr2 rfl rfl ?_
          rw [vv 5 (by decide), lke.1]
          refine s_con (p' := 75) rfl rfl ?_
          refine s_sp (p' := 76) (ls' := _) rfl rfl rfl ?_
          refine s_ist (p' := 78) (ls' := [_, _, _, _, _, _, _, _]) rfl rfl rfl rfl ?_
          refine s_goto (p' := 90) rfl rfl ?_
          refine s_inc (p' := 93) (ls' := [_, _, _, _, _, _, _, _]) rfl rfl rfl rfl rfl ?_
          rw [mI_add]
          refine s_goto (p' := 8) rfl rfl ?_
          exact x_rbL hD ht0 hc hbr e0 ec hk' hS hj hm hcc p (i + 1) _ _ (by omega) (by rw [enx]; simpa only [List.append_assoc, List.cons_append, List.nil_append] using t2) hn m2
