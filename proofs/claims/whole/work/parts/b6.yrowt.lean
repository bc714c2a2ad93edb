/-! The reference: texts of brackets and rows. -/
theorem aOk.br {x : Nat → Nat → Nat} {K a m e : Nat} (h : aOk x 0 K a) (h0 : x a 0 = 91 ∨ x a 0 = 123) (h6 : x a 6 = m) (h7 : x a 7 = e) : bOk x a m e := by
  rcases h with ⟨h, -⟩ | ⟨o, m', e', b, hj, -⟩
  · omega
  · obtain ⟨sg, -, -, -, -, -, l1, l2, l3⟩ := id b
    rcases hj with rfl | rfl | rfl
    · have := l1.2.1
      have := l1.2.2
      obtain rfl : m = m' := by omega
      obtain rfl : e = e' := by omega
      exact b
    · omega
    · omega
theorem aOk.sm {x : Nat → Nat → Nat} {K a : Nat} (h : aOk x 0 K a) (h0 : brS (x a 0) = false) : sOk (x a) := by
  rcases h with h | ⟨o, m', e', ⟨sg, -⟩, hj, -⟩
  · exact h
  · have : brS (x a 0) = true := brS_t (by rcases hj with rfl | rfl | rfl <;> omega)
    rw [h0] at this
    cases this
theorem sOk.be2 {x : Nat → Nat → Nat} {a : Nat} (h : sOk (x a)) : isB (x a) = true ∧ isE (x a) = true := by
  have := tPt.be (d := 0) (x := x) (a := a) (b := a + 1) ⟨h, rfl⟩
  exact this
theorem bOk.be {x : Nat → Nat → Nat} {a m e : Nat} (h : bOk x a m e) : isB (x a) = true ∧ isE (x e) = true := by
  have sg := h.1
  unfold isB isE
  exact ⟨decide_eq_true (by omega), decide_eq_true (by omega)⟩
theorem yPt.be {I : Nat → Prop} {h : mj_H} {x : Nat → Nat → Nat} {K : Nat} (hA : ∀ j, j < K → aOk x 0 K j) : ∀ (d p a b : Nat), b ≤ K → yPt I h x d p a b → isB (x a) = true ∧ isE (x (b - 1)) = true
  | 0, p, a, b, hb, t => by
    have hlt := yPt.lt _ _ _ _ t
    rw [t.2, Nat.add_sub_cancel]
    exact ((hA a (by omega)).sm t.1.1).be2
  | d + 1, p, a, b, hb, t => by
    have hlt := yPt.lt _ _ _ _ t
    rcases t with t | ⟨m, e, S1, S2, R1, R2, s1, s2, q1, q2, q3, q4, _⟩
    · rw [t.2, Nat.add_sub_cancel]
      exact ((hA a (by omega)).sm t.1.1).be2
    · have := ((hA a (by omega)).br q2 q3 q4).be
      rw [q1, Nat.add_sub_cancel]
      exact this
theorem y_em1 {h : mj_H} {T : Nat} (t : yTx h T []) : mj_run 0 364 (0, [some (.ref T)], [], h) (.inl (some (.int (nI 1))), h) := by
  obtain ⟨_, B, rs, k1, bf, k2, _⟩ := t
  refine s_aldn (p' := 1) rfl rfl rfl ?_
  refine s_gf (p' := 4) rfl k1 rfl rfl ?_
  refine s_len (p' := 5) rfl (mj_rdA_is k2 (by decide)) (by decide) rfl ?_
  refine s_if (p' := 8) false rfl (by decide +kernel) rfl ?_
  refine s_con (p' := 9) rfl rfl ?_
  refine s_goto (p' := 13) rfl rfl ?_
  exact s_iret rfl rfl rfl
theorem y_em0 {h : mj_H} {T : Nat} {l : List Nat} (t : yTx h T l) (h1 : 1 ≤ l.length) (h2 : l.length ≤ 60) : mj_run 0 364 (0, [some (.ref T)], [], h) (.inl (some (.int (nI 0))), h) := by
  obtain ⟨_, B, rs, k1, bf, k2, _⟩ := t
  refine s_aldn (p' := 1) rfl rfl rfl ?_
  refine s_gf (p' := 4) rfl k1 rfl rfl ?_
  refine s_len (p' := 5) rfl (mj_rdA_is k2 (by decide)) (by decide) rfl ?_
  refine s_if (p' := 12) true rfl ((cz_ne (by omega)).trans (decide_eq_true (by omega))) rfl ?_
  refine s_con (p' := 13) rfl rfl ?_
  exact s_iret rfl rfl rfl
theorem yTx.s27 {h : mj_H} {T It : Nat} {l : List Nat} {c : mj_C} {fs : List Value} (t : yTx h T l) (k : mj_rd h It = some (.inr (27, fs))) : yTx (h.set It c) T l := by
  obtain ⟨C, rs, k1, c2, k2⟩ := t.k
  have t0 := t
  obtain ⟨_, B, rs', k1', bf, k2', _⟩ := t0
  refine yStr.fr (M := [It]) (mz_fr.s (by simp) (mz_fr.rf _ _)) (fun q => ?_) (fun B' rs2 q q2 => ?_) t
  · rw [List.mem_singleton.mp q, k] at k1; cases k1
  · rw [k1'] at q
    obtain rfl : B = B' := Value.ref.inj (List.cons.inj (Prod.mk.inj (Sum.inr.inj (Option.some.inj q))).2).1
    rw [List.mem_singleton.mp q2, k] at k2'; cases k2' 
theorem y_br91 {I : Nat → Prop} {h : mj_H} {x : Nat → Nat → Nat} {K d D p a m e S1 S2 R1 R2 : Nat} {s1 s2 : Int32} (hD : 13 ≤ D) (hI : ∀ a, I a → a < mj_CB) (hIl : ∀ a, I a → a < h.length) (hrow : ∀ (Lr k k' : Nat) (g : mj_H), (∀ a, I a → a < g.length) → yRow I g x d Lr k k' → k' ≤ K → (pFl x (k' - k) k).length ≤ 60 → g.length + 40 * (k' - k) + 330 < mj_CB → mj_Wp D 363 (0, [some (.ref Lr), none, none, none], [], g) (mz_V fun r g' => yTf g g' r (pFl x (k' - k) k) ∧ mz_mo [] (40 * (k' - k) + 1) (1050 * (k' - k) + 4) g g')) (h0 : x a 0 = 91) (hb : bOk x a m e) (heK : e < K) (hP : mj_rd h p = some (ptC (nI (x a 0)) s1 s2 .null (.ref S1) (.ref S2) (.ref R1) (.ref R2))) (hs1 : ySu I h S1 (x a 2) (x a 3) (x a 4)) (hs2 : ySu I h S2 (x e 2) (x e 3) (x e 4)) (r1 : yRow I h x d R1 (a + 1) m) (r2 : yRow I h x d R2 (m + 1) e) (hn : (pFl x (e + 1 - a) a).length ≤ 60) (hbd : h.length + 40 * (e + 1 - a) + 300 < mj_CB) : mj_Wp (D + 1) 365 (0, [some (.ref p), none], [], h) (mz_V fun r g => yTf h g r (pFl x (e + 1 - a) a) ∧ mz_mo [] (40 * (e + 1 - a) - 8) (1050 * (e + 1 - a) - 534) h g) := by
  have m0 : mz_mo [] 0 0 h h := mz_mo.rf _ _ _ _
  have u0 := mo_le m0
  have sl1 := hs1.ok
  have sl2 := hs2.ok
  have sg := hb.1
  have g1 := rwP.le (fun p a b => yPt.lt d p a b) r1
  have g2 := rwP.le (fun p a b => yPt.lt d p a b) r2
  have z3a : x a 3 < 256 := by have := of_decide_eq_true hb.2.1.2.1; omega
  have z3e : x e 3 < 256 := by have := of_decide_eq_true hb.2.2.1.2.1; omega
  have he0 : x e 0 = 93 := by omega
  have ex := pFl_br hb (by omega) (by omega)
  rw [h0, he0] at ex
  have hn2 := hn
  rw [ex] at hn2
  simp only [List.length_append, List.length_cons, List.length_nil] at hn2
  refine s_aldn (p' := 1) rfl rfl rfl ?_
  refine s_callV (p' := 4) (ls0 := [_]) rfl rfl rfl rfl rfl (mj_rcv_is hP) rfl (y_isb (s := x a 0) (by omega) hP) (by first | decide | omega) rfl ?_
  refine s_if (p' := 7) false rfl (by rw [decide_eq_true (by omega)]; decide +kernel) rfl ?_
  refine s_newz (p' := 10) (a := h.length) rfl rfl rfl rfl ?_
  generalize hg1 : h ++ [_] = h1
  have s1 : mj_rd h1 h.length = some (.inr (20, [.null, .int (nI 0), .int (nI 0), .int (nI 0)])) := by rw [← hg1]; exact rd_nw (Nat.blt_eq.mpr (by omega)) rfl
  have l1 : h1.length = h.length + 1 := by rw [← hg1, List.length_append]; rfl
  have n1 : mz_mo [] 1 4 h h1 := by rw [← hg1]; exact mz_mo.ap [] _ _
  clear hg1
  have m1 : mz_mo [] 1 4 h h1 := m0.tr n1 (fun y hy => Or.inr (by first | exact absurd hy List.not_mem_nil | (simp only [List.mem_cons, List.not_mem_nil, or_false] at hy; omega))) (by omega) (by omega)
  have u1 := mo_le m1
  clear n1 m0
  refine s_sp (p' := 11) (ls' := _) rfl rfl rfl ?_
  refine s_callEN (p' := 14) (ls0 := [_]) rfl rfl rfl rfl rfl (mj_rcv_is s1) rfl (y_nsb (by omega) (by omega) s1) (Nat.ble_eq.mpr (by omega)) rfl ?_
  rintro h2 ⟨b2, n2⟩
  have w2 := mo_le n2
  have e2 := rd_len b2.k.2.1 b2.k.2.2.choose_spec
  have m2 : mz_mo [] 2 20 h h2 := m1.tr n2 (fun y hy => Or.inr (by first | exact absurd hy List.not_mem_nil | (simp only [List.mem_cons, List.not_mem_nil, or_false] at hy; omega))) (by omega) (by omega)
  have u2 := mo_le m2
  have x2 : h.length ≤ h1.length ∧ h1.length < h2.length := by omega
  clear n2 w2 e2 s1 m1 u1
  refine s_aldn (p' := 15) rfl rfl rfl ?_
  refine s_gf (p' := 18) rfl (m2.1 _ (by simp) _ hP) rfl rfl ?_
  rw [h0]
  refine s_callEV (p' := 21) (ls0 := [_, _]) rfl rfl rfl rfl rfl (mj_rcv_is b2.k.1) rfl (y_aC2 (m := 1) b2 (by omega) (by omega) (by first | omega | (simp only [List.length_append, List.length_cons, List.length_nil, List.nil_append]; omega)) (by decide) (by decide)) (Nat.ble_eq.mpr (by omega)) rfl ?_
  rintro _ h3 ⟨rfl, B3, b3, q3, n3⟩
  have w3 := mo_le n3
  have e3 := rd_len (b3.k.2.1) b3.k.2.2.choose_spec
  have m3 : mz_mo [] 3 32 h h3 := m2.tr n3 (fun y hy => Or.inr (by first | exact absurd hy List.not_mem_nil | (simp only [List.mem_cons, List.not_mem_nil, or_false] at hy; omega))) (by omega) (by omega)
  have u3 := mo_le m3
  have x3 : h.length ≤ B3 ∧ B3 < h3.length := by omega
  clear n3 w3 e3 q3 m2 u2 x2 b2
  refine s_aldn (p' := 22) rfl rfl rfl ?_
  refine s_gf (p' := 25) rfl (m3.1 _ (by simp) _ hP) rfl rfl ?_
  have su1 : ySu I h3 S1 (x a 2) (x a 3) (x a 4) := hs1.mv ⟨m3.1, hI, fun a ha _ => ⟨List.not_mem_nil, ha⟩⟩
  obtain ⟨_, _, _, _, sk1⟩ := su1.k
  refine s_callEV (p' := 28) (ls0 := [_]) rfl rfl rfl rfl rfl (mj_rcv_is sk1) rfl (y_sum su1 z3a (by omega)) (Nat.ble_eq.mpr (by omega)) rfl ?_
  rintro _ h4 ⟨⟨T4, rfl, f1⟩, n4⟩
  have w4 := mo_le n4
  have c4 := b3.fr n4.1 (by simp) (by simp)
  have m4 : mz_mo [] 22 292 h h4 := m3.tr n4 (fun y hy => Or.inr (by first | exact absurd hy List.not_mem_nil | (simp only [List.mem_cons, List.not_mem_nil, or_false] at hy; omega))) (by omega) (by omega)
  have u4 := mo_le m4
  have y4 : h.length ≤ B3 ∧ B3 < h3.length ∧ h3.length ≤ h4.length := by omega
  clear n4 w4 m3 u3 x3 b3 su1 sk1
  refine s_callEV (p' := 31) (ls0 := [_, _]) rfl rfl rfl rfl rfl (mj_rcv_is c4.k.1) rfl (y_aS2 (m := 8) c4 f1.1 (by omega) (by omega) (by first | omega | (simp only [List.length_append, List.length_cons, List.length_nil, List.nil_append]; omega)) (by decide) (fun C rs q => by have := f1.2.2 C rs q; omega)) (Nat.ble_eq.mpr (by omega)) rfl ?_
  rintro _ h5 ⟨rfl, B5, b5, q5, n5⟩
  have w5 := mo_le n5
  have e5 := rd_len (b5.k.2.1) b5.k.2.2.choose_spec
  have m5 : mz_mo [] 23 318 h h5 := m4.tr n5 (fun y hy => Or.inr (by first | exact absurd hy List.not_mem_nil | (simp only [List.mem_cons, List.not_mem_nil, or_false] at hy; omega))) (by omega) (by omega)
  have u5 := mo_le m5
  have x5 : h.length ≤ B5 ∧ B5 < h5.length := by omega
  clear n5 w5 e5 q5 m4 u4 y4 c4 f1
  refine s_sh (p' := 33) (ls' := _) (st' := .ref 1000312 :: _) (h' := _) rfl rfl rfl rfl ?_
  refine s_callEV (p' := 36) (ls0 := [_, _]) rfl rfl rfl rfl rfl (mj_rcv_is b5.k.1) rfl (y_aS2 (m := 9) b5 (k_t312 _) (by omega) (by omega) (by first | omega | (simp only [List.length_append, List.length_cons, List.length_nil, List.nil_append]; omega)) (by decide) (fun C rs q => by cases q; omega)) (Nat.ble_eq.mpr (by omega)) rfl ?_
  rintro _ h6 ⟨rfl, B6, b6, q6, n6⟩
  have w6 := mo_le n6
  have e6 := rd_len (b6.k.2.1) b6.k.2.2.choose_spec
  have m6 : mz_mo [] 24 346 h h6 := m5.tr n6 (fun y hy => Or.inr (by first | exact absurd hy List.not_mem_nil | (simp only [List.mem_cons, List.not_mem_nil, or_false] at hy; omega))) (by omega) (by omega)
  have u6 := mo_le m6
  have x6 : h.length ≤ B6 ∧ B6 < h6.length := by omega
  clear n6 w6 e6 q6 m5 u5 x5 b5
  refine s_aldn (p' := 37) rfl rfl rfl ?_
  refine s_gf (p' := 40) rfl (m6.1 _ (by simp) _ hP) rfl rfl ?_
  have rw1 : yRow I h6 x d R1 (a + 1) m := rwP.mv ⟨m6.1, hI, fun a ha _ => ⟨List.not_mem_nil, ha⟩⟩ (fun p a b _ _ => yPt.mv ⟨m6.1, hI, fun a ha _ => ⟨List.not_mem_nil, ha⟩⟩ d p a b (fun _ _ _ _ _ => rfl)) (fun p a b => yPt.lt d p a b) r1
  refine s_callEV (p' := 43) (ls0 := [_, _, _, _]) rfl rfl rfl rfl rfl rfl rfl (hrow R1 (a + 1) m _ (fun z hz => by have := hIl z hz; omega) rw1 (by omega) (by omega) (by omega)) (Nat.ble_eq.mpr (by omega)) rfl ?_
  rintro _ h7 ⟨⟨T7, rfl, f2⟩, n7⟩
  have w7 := mo_le n7
  have c7 := b6.fr n7.1 (by simp) (by simp)
  have m7 : mz_mo [] (24 + (40 * (m - (a + 1)) + 1)) (346 + (1050 * (m - (a + 1)) + 4)) h h7 := m6.tr n7 (fun y hy => Or.inr (by first | exact absurd hy List.not_mem_nil | (simp only [List.mem_cons, List.not_mem_nil, or_false] at hy; omega))) (by omega) (by omega)
  have u7 := mo_le m7
  have y7 : h.length ≤ B6 ∧ B6 < h6.length ∧ h6.length ≤ h7.length := by omega
  clear n7 w7 m6 u6 x6 b6 rw1
  refine s_callEV (p' := 46) (ls0 := [_, _]) rfl rfl rfl rfl rfl (mj_rcv_is c7.k.1) rfl (y_aS2 (m := 60) c7 f2.1 (by omega) (by omega) (by first | omega | (simp only [List.length_append, List.length_cons, List.length_nil, List.nil_append]; omega)) (by decide) (fun C rs q => by have := f2.2.2 C rs q; omega)) (Nat.ble_eq.mpr (by omega)) rfl ?_
  rintro _ h8 ⟨rfl, B8, b8, q8, n8⟩
  have w8 := mo_le n8
  have e8 := rd_len (b8.k.2.1) b8.k.2.2.choose_spec
  have m8 : mz_mo [] ((24 + (40 * (m - (a + 1)) + 1)) + 1) ((346 + (1050 * (m - (a + 1)) + 4)) + 130) h h8 := m7.tr n8 (fun y hy => Or.inr (by first | exact absurd hy List.not_mem_nil | (simp only [List.mem_cons, List.not_mem_nil, or_false] at hy; omega))) (by omega) (by omega)
  have u8 := mo_le m8
  have x8 : h.length ≤ B8 ∧ B8 < h8.length := by omega
  clear n8 w8 e8 q8 m7 u7 y7 c7 f2
  refine s_sh (p' := 48) (ls' := _) (st' := .ref 1000314 :: _) (h' := _) rfl rfl rfl rfl ?_
  refine s_callEV (p' := 51) (ls0 := [_, _]) rfl rfl rfl rfl rfl (mj_rcv_is b8.k.1) rfl (y_aS2 (m := 60) b8 (k_t314 _) (by omega) (by omega) (by first | omega | (simp only [List.length_append, List.length_cons, List.length_nil, List.nil_append]; omega)) (by decide) (fun C rs q => by cases q; omega)) (Nat.ble_eq.mpr (by omega)) rfl ?_
  rintro _ h9 ⟨rfl, B9, b9, q9, n9⟩
  have w9 := mo_le n9
  have e9 := rd_len (b9.k.2.1) b9.k.2.2.choose_spec
  have m9 : mz_mo [] (((24 + (40 * (m - (a + 1)) + 1)) + 1) + 1) (((346 + (1050 * (m - (a + 1)) + 4)) + 130) + 130) h h9 := m8.tr n9 (fun y hy => Or.inr (by first | exact absurd hy List.not_mem_nil | (simp only [List.mem_cons, List.not_mem_nil, or_false] at hy; omega))) (by omega) (by omega)
  have u9 := mo_le m9
  have x9 : h.length ≤ B9 ∧ B9 < h9.length := by omega
  clear n9 w9 e9 q9 m8 u8 x8 b8
  refine s_aldn (p' := 52) rfl rfl rfl ?_
  refine s_gf (p' := 55) rfl (m9.1 _ (by simp) _ hP) rfl rfl ?_
  have rw2 : yRow I h9 x d R2 (m + 1) e := rwP.mv ⟨m9.1, hI, fun a ha _ => ⟨List.not_mem_nil, ha⟩⟩ (fun p a b _ _ => yPt.mv ⟨m9.1, hI, fun a ha _ => ⟨List.not_mem_nil, ha⟩⟩ d p a b (fun _ _ _ _ _ => rfl)) (fun p a b => yPt.lt d p a b) r2
  refine s_callEV (p' := 58) (ls0 := [_, _, _, _]) rfl rfl rfl rfl rfl rfl rfl (hrow R2 (m + 1) e _ (fun z hz => by have := hIl z hz; omega) rw2 (by omega) (by omega) (by omega)) (Nat.ble_eq.mpr (by omega)) rfl ?_
  rintro _ h10 ⟨⟨T10, rfl, f3⟩, n10⟩
  have w10 := mo_le n10
  have c10 := b9.fr n10.1 (by simp) (by simp)
  have m10 : mz_mo [] ((((24 + (40 * (m - (a + 1)) + 1)) + 1) + 1) + (40 * (e - (m + 1)) + 1)) ((((346 + (1050 * (m - (a + 1)) + 4)) + 130) + 130) + (1050 * (e - (m + 1)) + 4)) h h10 := m9.tr n10 (fun y hy => Or.inr (by first | exact absurd hy List.not_mem_nil | (simp only [List.mem_cons, List.not_mem_nil, or_false] at hy; omega))) (by omega) (by omega)
  have u10 := mo_le m10
  have y10 : h.length ≤ B9 ∧ B9 < h9.length ∧ h9.length ≤ h10.length := by omega
  clear n10 w10 m9 u9 x9 b9 rw2
  refine s_callEV (p' := 61) (ls0 := [_, _]) rfl rfl rfl rfl rfl (mj_rcv_is c10.k.1) rfl (y_aS2 (m := 60) c10 f3.1 (by omega) (by omega) (by first | omega | (simp only [List.length_append, List.length_cons, List.length_nil, List.nil_append]; omega)) (by decide) (fun C rs q => by have := f3.2.2 C rs q; omega)) (Nat.ble_eq.mpr (by omega)) rfl ?_
  rintro _ h11 ⟨rfl, B11, b11, q11, n11⟩
  have w11 := mo_le n11
  have e11 := rd_len (b11.k.2.1) b11.k.2.2.choose_spec
  have m11 : mz_mo [] (((((24 + (40 * (m - (a + 1)) + 1)) + 1) + 1) + (40 * (e - (m + 1)) + 1)) + 1) (((((346 + (1050 * (m - (a + 1)) + 4)) + 130) + 130) + (1050 * (e - (m + 1)) + 4)) + 130) h h11 := m10.tr n11 (fun y hy => Or.inr (by first | exact absurd hy List.not_mem_nil | (simp only [List.mem_cons, List.not_mem_nil, or_false] at hy; omega))) (by omega) (by omega)
  have u11 := mo_le m11
  have x11 : h.length ≤ B11 ∧ B11 < h11.length := by omega
  clear n11 w11 e11 q11 m10 u10 y10 c10 f3
  refine s_sh (p' := 63) (ls' := _) (st' := .ref 1000312 :: _) (h' := _) rfl rfl rfl rfl ?_
  refine s_callEV (p' := 66) (ls0 := [_, _]) rfl rfl rfl rfl rfl (mj_rcv_is b11.k.1) rfl (y_aS2 (m := 60) b11 (k_t312 _) (by omega) (by omega) (by first | omega | (simp only [List.length_append, List.length_cons, List.length_nil, List.nil_append]; omega)) (by decide) (fun C rs q => by cases q; omega)) (Nat.ble_eq.mpr (by omega)) rfl ?_
  rintro _ h12 ⟨rfl, B12, b12, q12, n12⟩
  have w12 := mo_le n12
  have e12 := rd_len (b12.k.2.1) b12.k.2.2.choose_spec
  have m12 : mz_mo [] ((((((24 + (40 * (m - (a + 1)) + 1)) + 1) + 1) + (40 * (e - (m + 1)) + 1)) + 1) + 1) ((((((346 + (1050 * (m - (a + 1)) + 4)) + 130) + 130) + (1050 * (e - (m + 1)) + 4)) + 130) + 130) h h12 := m11.tr n12 (fun y hy => Or.inr (by first | exact absurd hy List.not_mem_nil | (simp only [List.mem_cons, List.not_mem_nil, or_false] at hy; omega))) (by omega) (by omega)
  have u12 := mo_le m12
  have x12 : h.length ≤ B12 ∧ B12 < h12.length := by omega
  clear n12 w12 e12 q12 m11 u11 x11 b11
  refine s_aldn (p' := 67) rfl rfl rfl ?_
  refine s_gf (p' := 70) rfl (m12.1 _ (by simp) _ hP) rfl rfl ?_
  have su2 : ySu I h12 S2 (x e 2) (x e 3) (x e 4) := hs2.mv ⟨m12.1, hI, fun a ha _ => ⟨List.not_mem_nil, ha⟩⟩
  obtain ⟨_, _, _, _, sk2⟩ := su2.k
  refine s_callEV (p' := 73) (ls0 := [_]) rfl rfl rfl rfl rfl (mj_rcv_is sk2) rfl (y_sum su2 z3e (by omega)) (Nat.ble_eq.mpr (by omega)) rfl ?_
  rintro _ h13 ⟨⟨T13, rfl, f4⟩, n13⟩
  have w13 := mo_le n13
  have c13 := b12.fr n13.1 (by simp) (by simp)
  have m13 : mz_mo [] (((((((24 + (40 * (m - (a + 1)) + 1)) + 1) + 1) + (40 * (e - (m + 1)) + 1)) + 1) + 1) + 19) (((((((346 + (1050 * (m - (a + 1)) + 4)) + 130) + 130) + (1050 * (e - (m + 1)) + 4)) + 130) + 130) + 260) h h13 := m12.tr n13 (fun y hy => Or.inr (by first | exact absurd hy List.not_mem_nil | (simp only [List.mem_cons, List.not_mem_nil, or_false] at hy; omega))) (by omega) (by omega)
  have u13 := mo_le m13
  have y13 : h.length ≤ B12 ∧ B12 < h12.length ∧ h12.length ≤ h13.length := by omega
  clear n13 w13 m12 u12 x12 b12 su2 sk2
  refine s_callEV (p' := 76) (ls0 := [_, _]) rfl rfl rfl rfl rfl (mj_rcv_is c13.k.1) rfl (y_aS2 (m := 60) c13 f4.1 (by omega) (by omega) (by first | omega | (simp only [List.length_append, List.length_cons, List.length_nil, List.nil_append]; omega)) (by decide) (fun C rs q => by have := f4.2.2 C rs q; omega)) (Nat.ble_eq.mpr (by omega)) rfl ?_
  rintro _ h14 ⟨rfl, B14, b14, q14, n14⟩
  have w14 := mo_le n14
  have e14 := rd_len (b14.k.2.1) b14.k.2.2.choose_spec
  have m14 : mz_mo [] ((((((((24 + (40 * (m - (a + 1)) + 1)) + 1) + 1) + (40 * (e - (m + 1)) + 1)) + 1) + 1) + 19) + 1) ((((((((346 + (1050 * (m - (a + 1)) + 4)) + 130) + 130) + (1050 * (e - (m + 1)) + 4)) + 130) + 130) + 260) + 130) h h14 := m13.tr n14 (fun y hy => Or.inr (by first | exact absurd hy List.not_mem_nil | (simp only [List.mem_cons, List.not_mem_nil, or_false] at hy; omega))) (by omega) (by omega)
  have u14 := mo_le m14
  have x14 : h.length ≤ B14 ∧ B14 < h14.length := by omega
  clear n14 w14 e14 q14 m13 u13 y13 c13 f4
  refine s_aldn (p' := 77) rfl rfl rfl ?_
  refine s_gf (p' := 80) rfl (m14.1 _ (by simp) _ hP) rfl rfl ?_
  rw [h0]
  refine s_bip (p' := 82) rfl rfl ?_
  refine s_icmp (p' := 85) false rfl ((ci_ne (by decide) (by decide)).trans (decide_eq_false (by decide))) rfl ?_
  refine s_sh (p' := 87) (ls' := _) (st' := .ref 1000316 :: _) (h' := _) rfl rfl rfl rfl ?_
  refine s_goto (p' := 92) rfl rfl ?_
  refine s_callEV (p' := 95) (ls0 := [_, _]) rfl rfl rfl rfl rfl (mj_rcv_is b14.k.1) rfl (y_aS2 (m := 60) b14 (k_t316 _) (by omega) (by omega) (by first | omega | (simp only [List.length_append, List.length_cons, List.length_nil, List.nil_append]; omega)) (by decide) (fun C rs q => by cases q; omega)) (Nat.ble_eq.mpr (by omega)) rfl ?_
  rintro _ h15 ⟨rfl, B15, b15, q15, n15⟩
  have w15 := mo_le n15
  have e15 := rd_len (b15.k.2.1) b15.k.2.2.choose_spec
  have m15 : mz_mo [] (((((((((24 + (40 * (m - (a + 1)) + 1)) + 1) + 1) + (40 * (e - (m + 1)) + 1)) + 1) + 1) + 19) + 1) + 1) (((((((((346 + (1050 * (m - (a + 1)) + 4)) + 130) + 130) + (1050 * (e - (m + 1)) + 4)) + 130) + 130) + 260) + 130) + 130) h h15 := m14.tr n15 (fun y hy => Or.inr (by first | exact absurd hy List.not_mem_nil | (simp only [List.mem_cons, List.not_mem_nil, or_false] at hy; omega))) (by omega) (by omega)
  have u15 := mo_le m15
  have x15 : h.length ≤ B15 ∧ B15 < h15.length := by omega
  clear n15 w15 e15 q15 m14 u14 x14 b14
  refine s_callEV (p' := 98) (ls0 := [_]) rfl rfl rfl rfl rfl (mj_rcv_is b15.k.1) rfl (y_tS2 (m := 60) b15 (by omega) (by first | omega | (simp only [List.length_append, List.length_cons, List.length_nil, List.nil_append]; omega)) (by decide)) (Nat.ble_eq.mpr (by omega)) rfl ?_
  rintro _ h16 ⟨rfl, t16, p16, n16⟩
  have w16 := mo_le n16
  have m16 : mz_mo [] ((((((((((24 + (40 * (m - (a + 1)) + 1)) + 1) + 1) + (40 * (e - (m + 1)) + 1)) + 1) + 1) + 19) + 1) + 1) + 2) ((((((((((346 + (1050 * (m - (a + 1)) + 4)) + 130) + 130) + (1050 * (e - (m + 1)) + 4)) + 130) + 130) + 260) + 130) + 130) + 124) h h16 := m15.tr n16 (fun y hy => Or.inr (by first | exact absurd hy List.not_mem_nil | (simp only [List.mem_cons, List.not_mem_nil, or_false] at hy; omega))) (by omega) (by omega)
  have u16 := mo_le m16
  clear n16 w16 m15 x15 b15
  refine s_aret rfl ?_
  exact ⟨_, _, rfl, ⟨_, rfl, by rw [ex]; simpa only [List.append_assoc, List.cons_append, List.nil_append, List.append_nil] using t16, by omega, fun C rs q => by rw [p16 C rs q]; omega⟩, m16.wk (fun y hy => Or.inl hy) (by omega) (by omega)⟩
theorem y_br123 {I : Nat → Prop} {h : mj_H} {x : Nat → Nat → Nat} {K d D p a m e S1 S2 R1 R2 : Nat} {s1 s2 : Int32} (hD : 13 ≤ D) (hI : ∀ a, I a → a < mj_CB) (hIl : ∀ a, I a → a < h.length) (hrow : ∀ (Lr k k' : Nat) (g : mj_H), (∀ a, I a → a < g.length) → yRow I g x d Lr k k' → k' ≤ K → (pFl x (k' - k) k).length ≤ 60 → g.length + 40 * (k' - k) + 330 < mj_CB → mj_Wp D 363 (0, [some (.ref Lr), none, none, none], [], g) (mz_V fun r g' => yTf g g' r (pFl x (k' - k) k) ∧ mz_mo [] (40 * (k' - k) + 1) (1050 * (k' - k) + 4) g g')) (h0 : x a 0 = 123) (hb : bOk x a m e) (heK : e < K) (hP : mj_rd h p = some (ptC (nI (x a 0)) s1 s2 .null (.ref S1) (.ref S2) (.ref R1) (.ref R2))) (hs1 : ySu I h S1 (x a 2) (x a 3) (x a 4)) (hs2 : ySu I h S2 (x e 2) (x e 3) (x e 4)) (r1 : yRow I h x d R1 (a + 1) m) (r2 : yRow I h x d R2 (m + 1) e) (hn : (pFl x (e + 1 - a) a).length ≤ 60) (hbd : h.length + 40 * (e + 1 - a) + 300 < mj_CB) : mj_Wp (D + 1) 365 (0, [some (.ref p), none], [], h) (mz_V fun r g => yTf h g r (pFl x (e + 1 - a) a) ∧ mz_mo [] (40 * (e + 1 - a) - 8) (1050 * (e + 1 - a) - 534) h g) := by
  have m0 : mz_mo [] 0 0 h h := mz_mo.rf _ _ _ _
  have u0 := mo_le m0
  have sl1 := hs1.ok
  have sl2 := hs2.ok
  have sg := hb.1
  have g1 := rwP.le (fun p a b => yPt.lt d p a b) r1
  have g2 := rwP.le (fun p a b => yPt.lt d p a b) r2
  have z3a : x a 3 < 256 := by have := of_decide_eq_true hb.2.1.2.1; omega
  have z3e : x e 3 < 256 := by have := of_decide_eq_true hb.2.2.1.2.1; omega
  have he0 : x e 0 = 125 := by omega
  have ex := pFl_br hb (by omega) (by omega)
  rw [h0, he0] at ex
  have hn2 := hn
  rw [ex] at hn2
  simp only [List.length_append, List.length_cons, List.length_nil] at hn2
  refine s_aldn (p' := 1) rfl rfl rfl ?_
  refine s_callV (p' := 4) (ls0 := [_]) rfl rfl rfl rfl rfl (mj_rcv_is hP) rfl (y_isb (s := x a 0) (by omega) hP) (by first | decide | omega) rfl ?_
  refine s_if (p' := 7) false rfl (by rw [decide_eq_true (by omega)]; decide +kernel) rfl ?_
  refine s_newz (p' := 10) (a := h.length) rfl rfl rfl rfl ?_
  generalize hg1 : h ++ [_] = h1
  have s1 : mj_rd h1 h.length = some (.inr (20, [.null, .int (nI 0), .int (nI 0), .int (nI 0)])) := by rw [← hg1]; exact rd_nw (Nat.blt_eq.mpr (by omega)) rfl
  have l1 : h1.length = h.length + 1 := by rw [← hg1, List.length_append]; rfl
  have n1 : mz_mo [] 1 4 h h1 := by rw [← hg1]; exact mz_mo.ap [] _ _
  clear hg1
  have m1 : mz_mo [] 1 4 h h1 := m0.tr n1 (fun y hy => Or.inr (by first | exact absurd hy List.not_mem_nil | (simp only [List.mem_cons, List.not_mem_nil, or_false] at hy; omega))) (by omega) (by omega)
  have u1 := mo_le m1
  clear n1 m0
  refine s_sp (p' := 11) (ls' := _) rfl rfl rfl ?_
  refine s_callEN (p' := 14) (ls0 := [_]) rfl rfl rfl rfl rfl (mj_rcv_is s1) rfl (y_nsb (by omega) (by omega) s1) (Nat.ble_eq.mpr (by omega)) rfl ?_
  rintro h2 ⟨b2, n2⟩
  have w2 := mo_le n2
  have e2 := rd_len b2.k.2.1 b2.k.2.2.choose_spec
  have m2 : mz_mo [] 2 20 h h2 := m1.tr n2 (fun y hy => Or.inr (by first | exact absurd hy List.not_mem_nil | (simp only [List.mem_cons, List.not_mem_nil, or_false] at hy; omega))) (by omega) (by omega)
  have u2 := mo_le m2
  have x2 : h.length ≤ h1.length ∧ h1.length < h2.length := by omega
  clear n2 w2 e2 s1 m1 u1
  refine s_aldn (p' := 15) rfl rfl rfl ?_
  refine s_gf (p' := 18) rfl (m2.1 _ (by simp) _ hP) rfl rfl ?_
  rw [h0]
  refine s_callEV (p' := 21) (ls0 := [_, _]) rfl rfl rfl rfl rfl (mj_rcv_is b2.k.1) rfl (y_aC2 (m := 1) b2 (by omega) (by omega) (by first | omega | (simp only [List.length_append, List.length_cons, List.length_nil, List.nil_append]; omega)) (by decide) (by decide)) (Nat.ble_eq.mpr (by omega)) rfl ?_
  rintro _ h3 ⟨rfl, B3, b3, q3, n3⟩
  have w3 := mo_le n3
  have e3 := rd_len (b3.k.2.1) b3.k.2.2.choose_spec
  have m3 : mz_mo [] 3 32 h h3 := m2.tr n3 (fun y hy => Or.inr (by first | exact absurd hy List.not_mem_nil | (simp only [List.mem_cons, List.not_mem_nil, or_false] at hy; omega))) (by omega) (by omega)
  have u3 := mo_le m3
  have x3 : h.length ≤ B3 ∧ B3 < h3.length := by omega
  clear n3 w3 e3 q3 m2 u2 x2 b2
  refine s_aldn (p' := 22) rfl rfl rfl ?_
  refine s_gf (p' := 25) rfl (m3.1 _ (by simp) _ hP) rfl rfl ?_
  have su1 : ySu I h3 S1 (x a 2) (x a 3) (x a 4) := hs1.mv ⟨m3.1, hI, fun a ha _ => ⟨List.not_mem_nil, ha⟩⟩
  obtain ⟨_, _, _, _, sk1⟩ := su1.k
  refine s_callEV (p' := 28) (ls0 := [_]) rfl rfl rfl rfl rfl (mj_rcv_is sk1) rfl (y_sum su1 z3a (by omega)) (Nat.ble_eq.mpr (by omega)) rfl ?_
  rintro _ h4 ⟨⟨T4, rfl, f1⟩, n4⟩
  have w4 := mo_le n4
  have c4 := b3.fr n4.1 (by simp) (by simp)
  have m4 : mz_mo [] 22 292 h h4 := m3.tr n4 (fun y hy => Or.inr (by first | exact absurd hy List.not_mem_nil | (simp only [List.mem_cons, List.not_mem_nil, or_false] at hy; omega))) (by omega) (by omega)
  have u4 := mo_le m4
  have y4 : h.length ≤ B3 ∧ B3 < h3.length ∧ h3.length ≤ h4.length := by omega
  clear n4 w4 m3 u3 x3 b3 su1 sk1
  refine s_callEV (p' := 31) (ls0 := [_, _]) rfl rfl rfl rfl rfl (mj_rcv_is c4.k.1) rfl (y_aS2 (m := 8) c4 f1.1 (by omega) (by omega) (by first | omega | (simp only [List.length_append, List.length_cons, List.length_nil, List.nil_append]; omega)) (by decide) (fun C rs q => by have := f1.2.2 C rs q; omega)) (Nat.ble_eq.mpr (by omega)) rfl ?_
  rintro _ h5 ⟨rfl, B5, b5, q5, n5⟩
  have w5 := mo_le n5
  have e5 := rd_len (b5.k.2.1) b5.k.2.2.choose_spec
  have m5 : mz_mo [] 23 318 h h5 := m4.tr n5 (fun y hy => Or.inr (by first | exact absurd hy List.not_mem_nil | (simp only [List.mem_cons, List.not_mem_nil, or_false] at hy; omega))) (by omega) (by omega)
  have u5 := mo_le m5
  have x5 : h.length ≤ B5 ∧ B5 < h5.length := by omega
  clear n5 w5 e5 q5 m4 u4 y4 c4 f1
  refine s_sh (p' := 33) (ls' := _) (st' := .ref 1000312 :: _) (h' := _) rfl rfl rfl rfl ?_
  refine s_callEV (p' := 36) (ls0 := [_, _]) rfl rfl rfl rfl rfl (mj_rcv_is b5.k.1) rfl (y_aS2 (m := 9) b5 (k_t312 _) (by omega) (by omega) (by first | omega | (simp only [List.length_append, List.length_cons, List.length_nil, List.nil_append]; omega)) (by decide) (fun C rs q => by cases q; omega)) (Nat.ble_eq.mpr (by omega)) rfl ?_
  rintro _ h6 ⟨rfl, B6, b6, q6, n6⟩
  have w6 := mo_le n6
  have e6 := rd_len (b6.k.2.1) b6.k.2.2.choose_spec
  have m6 : mz_mo [] 24 346 h h6 := m5.tr n6 (fun y hy => Or.inr (by first | exact absurd hy List.not_mem_nil | (simp only [List.mem_cons, List.not_mem_nil, or_false] at hy; omega))) (by omega) (by omega)
  have u6 := mo_le m6
  have x6 : h.length ≤ B6 ∧ B6 < h6.length := by omega
  clear n6 w6 e6 q6 m5 u5 x5 b5
  refine s_aldn (p' := 37) rfl rfl rfl ?_
  refine s_gf (p' := 40) rfl (m6.1 _ (by simp) _ hP) rfl rfl ?_
  have rw1 : yRow I h6 x d R1 (a + 1) m := rwP.mv ⟨m6.1, hI, fun a ha _ => ⟨List.not_mem_nil, ha⟩⟩ (fun p a b _ _ => yPt.mv ⟨m6.1, hI, fun a ha _ => ⟨List.not_mem_nil, ha⟩⟩ d p a b (fun _ _ _ _ _ => rfl)) (fun p a b => yPt.lt d p a b) r1
  refine s_callEV (p' := 43) (ls0 := [_, _, _, _]) rfl rfl rfl rfl rfl rfl rfl (hrow R1 (a + 1) m _ (fun z hz => by have := hIl z hz; omega) rw1 (by omega) (by omega) (by omega)) (Nat.ble_eq.mpr (by omega)) rfl ?_
  rintro _ h7 ⟨⟨T7, rfl, f2⟩, n7⟩
  have w7 := mo_le n7
  have c7 := b6.fr n7.1 (by simp) (by simp)
  have m7 : mz_mo [] (24 + (40 * (m - (a + 1)) + 1)) (346 + (1050 * (m - (a + 1)) + 4)) h h7 := m6.tr n7 (fun y hy => Or.inr (by first | exact absurd hy List.not_mem_nil | (simp only [List.mem_cons, List.not_mem_nil, or_false] at hy; omega))) (by omega) (by omega)
  have u7 := mo_le m7
  have y7 : h.length ≤ B6 ∧ B6 < h6.length ∧ h6.length ≤ h7.length := by omega
  clear n7 w7 m6 u6 x6 b6 rw1
  refine s_callEV (p' := 46) (ls0 := [_, _]) rfl rfl rfl rfl rfl (mj_rcv_is c7.k.1) rfl (y_aS2 (m := 60) c7 f2.1 (by omega) (by omega) (by first | omega | (simp only [List.length_append, List.length_cons, List.length_nil, List.nil_append]; omega)) (by decide) (fun C rs q => by have := f2.2.2 C rs q; omega)) (Nat.ble_eq.mpr (by omega)) rfl ?_
  rintro _ h8 ⟨rfl, B8, b8, q8, n8⟩
  have w8 := mo_le n8
  have e8 := rd_len (b8.k.2.1) b8.k.2.2.choose_spec
  have m8 : mz_mo [] ((24 + (40 * (m - (a + 1)) + 1)) + 1) ((346 + (1050 * (m - (a + 1)) + 4)) + 130) h h8 := m7.tr n8 (fun y hy => Or.inr (by first | exact absurd hy List.not_mem_nil | (simp only [List.mem_cons, List.not_mem_nil, or_false] at hy; omega))) (by omega) (by omega)
  have u8 := mo_le m8
  have x8 : h.length ≤ B8 ∧ B8 < h8.length := by omega
  clear n8 w8 e8 q8 m7 u7 y7 c7 f2
  refine s_sh (p' := 48) (ls' := _) (st' := .ref 1000314 :: _) (h' := _) rfl rfl rfl rfl ?_
  refine s_callEV (p' := 51) (ls0 := [_, _]) rfl rfl rfl rfl rfl (mj_rcv_is b8.k.1) rfl (y_aS2 (m := 60) b8 (k_t314 _) (by omega) (by omega) (by first | omega | (simp only [List.length_append, List.length_cons, List.length_nil, List.nil_append]; omega)) (by decide) (fun C rs q => by cases q; omega)) (Nat.ble_eq.mpr (by omega)) rfl ?_
  rintro _ h9 ⟨rfl, B9, b9, q9, n9⟩
  have w9 := mo_le n9
  have e9 := rd_len (b9.k.2.1) b9.k.2.2.choose_spec
  have m9 : mz_mo [] (((24 + (40 * (m - (a + 1)) + 1)) + 1) + 1) (((346 + (1050 * (m - (a + 1)) + 4)) + 130) + 130) h h9 := m8.tr n9 (fun y hy => Or.inr (by first | exact absurd hy List.not_mem_nil | (simp only [List.mem_cons, List.not_mem_nil, or_false] at hy; omega))) (by omega) (by omega)
  have u9 := mo_le m9
  have x9 : h.length ≤ B9 ∧ B9 < h9.length := by omega
  clear n9 w9 e9 q9 m8 u8 x8 b8
  refine s_aldn (p' := 52) rfl rfl rfl ?_
  refine s_gf (p' := 55) rfl (m9.1 _ (by simp) _ hP) rfl rfl ?_
  have rw2 : yRow I h9 x d R2 (m + 1) e := rwP.mv ⟨m9.1, hI, fun a ha _ => ⟨List.not_mem_nil, ha⟩⟩ (fun p a b _ _ => yPt.mv ⟨m9.1, hI, fun a ha _ => ⟨List.not_mem_nil, ha⟩⟩ d p a b (fun _ _ _ _ _ => rfl)) (fun p a b => yPt.lt d p a b) r2
  refine s_callEV (p' := 58) (ls0 := [_, _, _, _]) rfl rfl rfl rfl rfl rfl rfl (hrow R2 (m + 1) e _ (fun z hz => by have := hIl z hz; omega) rw2 (by omega) (by omega) (by omega)) (Nat.ble_eq.mpr (by omega)) rfl ?_
  rintro _ h10 ⟨⟨T10, rfl, f3⟩, n10⟩
  have w10 := mo_le n10
  have c10 := b9.fr n10.1 (by simp) (by simp)
  have m10 : mz_mo [] ((((24 + (40 * (m - (a + 1)) + 1)) + 1) + 1) + (40 * (e - (m + 1)) + 1)) ((((346 + (1050 * (m - (a + 1)) + 4)) + 130) + 130) + (1050 * (e - (m + 1)) + 4)) h h10 := m9.tr n10 (fun y hy => Or.inr (by first | exact absurd hy List.not_mem_nil | (simp only [List.mem_cons, List.not_mem_nil, or_false] at hy; omega))) (by omega) (by omega)
  have u10 := mo_le m10
  have y10 : h.length ≤ B9 ∧ B9 < h9.length ∧ h9.length ≤ h10.length := by omega
  clear n10 w10 m9 u9 x9 b9 rw2
  refine s_callEV (p' := 61) (ls0 := [_, _]) rfl rfl rfl rfl rfl (mj_rcv_is c10.k.1) rfl (y_aS2 (m := 60) c10 f3.1 (by omega) (by omega) (by first | omega | (simp only [List.length_append, List.length_cons, List.length_nil, List.nil_append]; omega)) (by decide) (fun C rs q => by have := f3.2.2 C rs q; omega)) (Nat.ble_eq.mpr (by omega)) rfl ?_
  rintro _ h11 ⟨rfl, B11, b11, q11, n11⟩
  have w11 := mo_le n11
  have e11 := rd_len (b11.k.2.1) b11.k.2.2.choose_spec
  have m11 : mz_mo [] (((((24 + (40 * (m - (a + 1)) + 1)) + 1) + 1) + (40 * (e - (m + 1)) + 1)) + 1) (((((346 + (1050 * (m - (a + 1)) + 4)) + 130) + 130) + (1050 * (e - (m + 1)) + 4)) + 130) h h11 := m10.tr n11 (fun y hy => Or.inr (by first | exact absurd hy List.not_mem_nil | (simp only [List.mem_cons, List.not_mem_nil, or_false] at hy; omega))) (by omega) (by omega)
  have u11 := mo_le m11
  have x11 : h.length ≤ B11 ∧ B11 < h11.length := by omega
  clear n11 w11 e11 q11 m10 u10 y10 c10 f3
  refine s_sh (p' := 63) (ls' := _) (st' := .ref 1000312 :: _) (h' := _) rfl rfl rfl rfl ?_
  refine s_callEV (p' := 66) (ls0 := [_, _]) rfl rfl rfl rfl rfl (mj_rcv_is b11.k.1) rfl (y_aS2 (m := 60) b11 (k_t312 _) (by omega) (by omega) (by first | omega | (simp only [List.length_append, List.length_cons, List.length_nil, List.nil_append]; omega)) (by decide) (fun C rs q => by cases q; omega)) (Nat.ble_eq.mpr (by omega)) rfl ?_
  rintro _ h12 ⟨rfl, B12, b12, q12, n12⟩
  have w12 := mo_le n12
  have e12 := rd_len (b12.k.2.1) b12.k.2.2.choose_spec
  have m12 : mz_mo [] ((((((24 + (40 * (m - (a + 1)) + 1)) + 1) + 1) + (40 * (e - (m + 1)) + 1)) + 1) + 1) ((((((346 + (1050 * (m - (a + 1)) + 4)) + 130) + 130) + (1050 * (e - (m + 1)) + 4)) + 130) + 130) h h12 := m11.tr n12 (fun y hy => Or.inr (by first | exact absurd hy List.not_mem_nil | (simp only [List.mem_cons, List.not_mem_nil, or_false] at hy; omega))) (by omega) (by omega)
  have u12 := mo_le m12
  have x12 : h.length ≤ B12 ∧ B12 < h12.length := by omega
  clear n12 w12 e12 q12 m11 u11 x11 b11
  refine s_aldn (p' := 67) rfl rfl rfl ?_
  refine s_gf (p' := 70) rfl (m12.1 _ (by simp) _ hP) rfl rfl ?_
  have su2 : ySu I h12 S2 (x e 2) (x e 3) (x e 4) := hs2.mv ⟨m12.1, hI, fun a ha _ => ⟨List.not_mem_nil, ha⟩⟩
  obtain ⟨_, _, _, _, sk2⟩ := su2.k
  refine s_callEV (p' := 73) (ls0 := [_]) rfl rfl rfl rfl rfl (mj_rcv_is sk2) rfl (y_sum su2 z3e (by omega)) (Nat.ble_eq.mpr (by omega)) rfl ?_
  rintro _ h13 ⟨⟨T13, rfl, f4⟩, n13⟩
  have w13 := mo_le n13
  have c13 := b12.fr n13.1 (by simp) (by simp)
  have m13 : mz_mo [] (((((((24 + (40 * (m - (a + 1)) + 1)) + 1) + 1) + (40 * (e - (m + 1)) + 1)) + 1) + 1) + 19) (((((((346 + (1050 * (m - (a + 1)) + 4)) + 130) + 130) + (1050 * (e - (m + 1)) + 4)) + 130) + 130) + 260) h h13 := m12.tr n13 (fun y hy => Or.inr (by first | exact absurd hy List.not_mem_nil | (simp only [List.mem_cons, List.not_mem_nil, or_false] at hy; omega))) (by omega) (by omega)
  have u13 := mo_le m13
  have y13 : h.length ≤ B12 ∧ B12 < h12.length ∧ h12.length ≤ h13.length := by omega
  clear n13 w13 m12 u12 x12 b12 su2 sk2
  refine s_callEV (p' := 76) (ls0 := [_, _]) rfl rfl rfl rfl rfl (mj_rcv_is c13.k.1) rfl (y_aS2 (m := 60) c13 f4.1 (by omega) (by omega) (by first | omega | (simp only [List.length_append, List.length_cons, List.length_nil, List.nil_append]; omega)) (by decide) (fun C rs q => by have := f4.2.2 C rs q; omega)) (Nat.ble_eq.mpr (by omega)) rfl ?_
  rintro _ h14 ⟨rfl, B14, b14, q14, n14⟩
  have w14 := mo_le n14
  have e14 := rd_len (b14.k.2.1) b14.k.2.2.choose_spec
  have m14 : mz_mo [] ((((((((24 + (40 * (m - (a + 1)) + 1)) + 1) + 1) + (40 * (e - (m + 1)) + 1)) + 1) + 1) + 19) + 1) ((((((((346 + (1050 * (m - (a + 1)) + 4)) + 130) + 130) + (1050 * (e - (m + 1)) + 4)) + 130) + 130) + 260) + 130) h h14 := m13.tr n14 (fun y hy => Or.inr (by first | exact absurd hy List.not_mem_nil | (simp only [List.mem_cons, List.not_mem_nil, or_false] at hy; omega))) (by omega) (by omega)
  have u14 := mo_le m14
  have x14 : h.length ≤ B14 ∧ B14 < h14.length := by omega
  clear n14 w14 e14 q14 m13 u13 y13 c13 f4
  refine s_aldn (p' := 77) rfl rfl rfl ?_
  refine s_gf (p' := 80) rfl (m14.1 _ (by simp) _ hP) rfl rfl ?_
  rw [h0]
  refine s_bip (p' := 82) rfl rfl ?_
  refine s_icmp (p' := 90) true rfl ((ci_ne (by decide) (by decide)).trans (decide_eq_true (by decide))) rfl ?_
  refine s_sh (p' := 92) (ls' := _) (st' := .ref 1000318 :: _) (h' := _) rfl rfl rfl rfl ?_
  refine s_callEV (p' := 95) (ls0 := [_, _]) rfl rfl rfl rfl rfl (mj_rcv_is b14.k.1) rfl (y_aS2 (m := 60) b14 (k_t318 _) (by omega) (by omega) (by first | omega | (simp only [List.length_append, List.length_cons, List.length_nil, List.nil_append]; omega)) (by decide) (fun C rs q => by cases q; omega)) (Nat.ble_eq.mpr (by omega)) rfl ?_
  rintro _ h15 ⟨rfl, B15, b15, q15, n15⟩
  have w15 := mo_le n15
  have e15 := rd_len (b15.k.2.1) b15.k.2.2.choose_spec
  have m15 : mz_mo [] (((((((((24 + (40 * (m - (a + 1)) + 1)) + 1) + 1) + (40 * (e - (m + 1)) + 1)) + 1) + 1) + 19) + 1) + 1) (((((((((346 + (1050 * (m - (a + 1)) + 4)) + 130) + 130) + (1050 * (e - (m + 1)) + 4)) + 130) + 130) + 260) + 130) + 130) h h15 := m14.tr n15 (fun y hy => Or.inr (by first | exact absurd hy List.not_mem_nil | (simp only [List.mem_cons, List.not_mem_nil, or_false] at hy; omega))) (by omega) (by omega)
  have u15 := mo_le m15
  have x15 : h.length ≤ B15 ∧ B15 < h15.length := by omega
  clear n15 w15 e15 q15 m14 u14 x14 b14
  refine s_callEV (p' := 98) (ls0 := [_]) rfl rfl rfl rfl rfl (mj_rcv_is b15.k.1) rfl (y_tS2 (m := 60) b15 (by omega) (by first | omega | (simp only [List.length_append, List.length_cons, List.length_nil, List.nil_append]; omega)) (by decide)) (Nat.ble_eq.mpr (by omega)) rfl ?_
  rintro _ h16 ⟨rfl, t16, p16, n16⟩
  have w16 := mo_le n16
  have m16 : mz_mo [] ((((((((((24 + (40 * (m - (a + 1)) + 1)) + 1) + 1) + (40 * (e - (m + 1)) + 1)) + 1) + 1) + 19) + 1) + 1) + 2) ((((((((((346 + (1050 * (m - (a + 1)) + 4)) + 130) + 130) + (1050 * (e - (m + 1)) + 4)) + 130) + 130) + 260) + 130) + 130) + 124) h h16 := m15.tr n16 (fun y hy => Or.inr (by first | exact absurd hy List.not_mem_nil | (simp only [List.mem_cons, List.not_mem_nil, or_false] at hy; omega))) (by omega) (by omega)
  have u16 := mo_le m16
  clear n16 w16 m15 x15 b15
  refine s_aret rfl ?_
  exact ⟨_, _, rfl, ⟨_, rfl, by rw [ex]; simpa only [List.append_assoc, List.cons_append, List.nil_append, List.append_nil] using t16, by omega, fun C rs q => by rw [p16 C rs q]; omega⟩, m16.wk (fun y hy => Or.inl hy) (by omega) (by omega)⟩
theorem hasTxt {x : Nat → Nat → Nat} {k a b : Nat} (h1 : k < a) (h2 : a < b) (he : isE (x (a - 1)) = true) (hb : isB (x a) = true) : pFl x (b - k) k = pFl x (a - k) k ++ ([59] ++ pFl x (b - a) a) := by
  rw [pFl_sn h1 h2 he hb]
  rfl
theorem y_rtL {I : Nat → Prop} {h0 : mj_H} {x : Nat → Nat → Nat} {K d P Lr Er c k k' It cap : Nat} {mc : Int32} {ef : Nat → Option Nat} {ps ks : Nat → Nat} (hP : 13 ≤ P) (hA : ∀ j, j < K → aOk x 0 K j) (hI : ∀ a, I a → a < mj_CB) (hpart : ∀ (p a b : Nat) (g : mj_H), (∀ a, I a → a < g.length) → yPt I g x d p a b → b ≤ K → (pFl x (b - a) a).length ≤ 60 → g.length + 40 * (b - a) + 300 < mj_CB → mj_Wp P 365 (0, [some (.ref p), none], [], g) (mz_V fun r g' => yTf g g' r (pFl x (b - a) a) ∧ mz_mo [] (40 * (b - a) - 8) (1050 * (b - a) - 534) g g')) (l1 : mj_rd h0 Lr = some (alC Er c mc)) (l2 : mj_rdA h0 Er = some (6, (cap, objs ef))) (l3 : c ≤ cap) (l4 : cap < 1000) (l6 : ∀ j, j < c → ef j = some (ps j)) (hps : ∀ j, j < c → I (ps j) ∧ yPt I h0 x d (ps j) (ks j) (ks (j + 1))) (k0 : ks 0 = k) (kc : ks c = k') (hkK : k' ≤ K) (hn : (pFl x (k' - k) k).length ≤ 60) (hIt : h0.length = It + 1) (hIn : ∀ a, I a → a < It) (hEr : Er ≠ It) (hLr : Lr ≠ It) (hb : h0.length + 40 * (k' - k) + 329 < mj_CB) : ∀ (r j T : Nat) (lr : Int32) (l3_ : Option Value) (g : mj_H), j + r = c → mj_rd g It = some (.inr (27, [.int (nI j), .int lr, .int mc, .ref Lr])) → yTx g T (pFl x (ks j - k) k) → h0.length ≤ T → (∀ (C : Nat) (rs : List Value), mj_rd g T = some (.inr (21, .ref C :: rs)) → h0.length ≤ C) → mz_mo [It] (40 * (ks j - k)) (1050 * (ks j - k)) h0 g → mj_Wp (P + 1) 363 (10, [some (.ref Lr), some (.ref T), some (.ref It), l3_], [], g) (mz_V fun r g' => yTf h0 g' r (pFl x (k' - k) k) ∧ mz_mo [It] (40 * (k' - k)) (1050 * (k' - k)) h0 g')
  | 0, j, T, lr, l3_, g, hj, hI_, tT, hT, hC, M => by
    have gL := M.1 Lr (fun q => hLr (List.mem_singleton.mp q)) _ l1
    have gE_ := mz_fr.A M.1 (fun q => hEr (List.mem_singleton.mp q)) l2
    refine s_aldn (p' := 11) rfl rfl rfl ?_
    refine s_callV (p' := 16) (ls0 := [_]) rfl rfl rfl rfl rfl (mj_rcv_is hI_) rfl (y_hn hI_ gL (b := 0) (Or.inr ⟨rfl, by omega⟩) (by omega)) (by first | decide | omega) rfl ?_
    refine s_if (p' := 71) true rfl (by decide +kernel) rfl ?_
    refine s_aldn (p' := 72) rfl rfl rfl ?_
    refine s_aret rfl ?_
    have e : j = c := by omega
    rw [e, kc] at tT M
    exact ⟨_, _, rfl, ⟨T, rfl, tT, hT, hC⟩, M⟩
  | r + 1, j, T, lr, l3_, g, hj, hI_, tT, hT, hC, M => by
    have hjc : j < c := by omega
    have hr := fun (lr : Int32) (T : Nat) (l3_ : Option Value) (g : mj_H) => y_rtL hP hA hI hpart l1 l2 l3 l4 l6 hps k0 kc hkK hn hIt hIn hEr hLr hb r (j + 1) T lr l3_ g
    have gL := M.1 Lr (fun q => hLr (List.mem_singleton.mp q)) _ l1
    have gE_ := mz_fr.A M.1 (fun q => hEr (List.mem_singleton.mp q)) l2
    have hin := ks_in (P := fun a b => ∃ p, yPt I h0 x d p a b) (fun a b ⟨p, q⟩ => yPt.lt d p a b q) (c := c) (ks := ks) (fun i hi => ⟨_, (hps i hi).2⟩) hjc
    have hlt := yPt.lt _ _ _ _ (hps j hjc).2
    have be := yPt.be hA d _ _ _ (by omega) (hps j hjc).2
    have hmo : (pFl x (ks (j + 1) - k) k).length ≤ 60 := by
      by_cases q : j + 1 < c
      · have hin2 := ks_in (P := fun a b => ∃ p, yPt I h0 x d p a b) (fun a b ⟨p, q⟩ => yPt.lt d p a b q) (c := c) (ks := ks) (fun i hi => ⟨_, (hps i hi).2⟩) q
        have hlt2 := yPt.lt _ _ _ _ (hps (j + 1) q).2
        have be2 := yPt.be hA d _ _ _ (by omega) (hps (j + 1) q).2
        have e := hasTxt (x := x) (k := k) (a := ks (j + 1)) (b := k') (by omega) (by omega) be.2 be2.1
        rw [e, List.length_append] at hn
        omega
      · rw [show j + 1 = c by omega, kc]; exact hn
    by_cases hj0 : j = 0
    · have ex : pFl x (ks (j + 1) - k) k = pFl x (ks (j + 1) - ks j) (ks j) := by rw [hj0, k0]
      have e0 : ks j - k = 0 := by rw [hj0, k0, Nat.sub_self]
      have hl0 : (pFl x (ks j - k) k).length = 0 := by rw [e0]; rfl
      have hl1 := hmo
      rw [ex] at hl1
      refine s_aldn (p' := 11) rfl rfl rfl ?_
      refine s_callV (p' := 16) (ls0 := [_]) rfl rfl rfl rfl rfl (mj_rcv_is hI_) rfl (y_hn hI_ gL (b := 1) (Or.inl ⟨rfl, hjc⟩) (by omega)) (by first | decide | omega) rfl ?_
      refine s_if (p' := 19) false rfl (by decide +kernel) rfl ?_
      refine s_aldn (p' := 20) rfl rfl rfl ?_
      refine s_callV (p' := 25) (ls0 := [_, _, _]) rfl rfl rfl rfl rfl (mj_rcv_is hI_) rfl (y_nx hI_ gL (by omega) gE_ hjc l3 l4 (l6 j hjc)) (by first | decide | omega) rfl ?_
      generalize hg1 : List.set g It _ = h
      have f1 : mz_fr [It] g h := by rw [← hg1]; exact mz_fr.s (by simp) (mz_fr.rf _ _)
      have ln1 : h.length = g.length := by rw [← hg1, List.length_set]
      have M1 : mz_mo [It] (40 * (ks j - k)) (1050 * (ks j - k)) h0 h := by rw [← hg1]; exact mz_mo.s M (by omega) hI_ rfl (Or.inl (by simp))
      have I1 : mj_rd h It = some (.inr (27, [.int (nI (j + 1)), .int (nI j), .int mc, .ref Lr])) := by rw [← hg1]; exact rd_set (by omega) hI_
      have tU : yTx h T (pFl x (ks j - k) k) := by rw [← hg1]; exact tT.s27 hI_
      clear hg1
      have mv1 : Mv I I [It] h0 h := ⟨M1.1, hI, fun a ha _ => ⟨fun q => by have := hIn a ha; have := List.mem_singleton.mp q; omega, ha⟩⟩
      have pt1 := yPt.mv mv1 d _ _ _ (fun _ _ _ _ _ => rfl) (hps j hjc).2
      have bm := mo_le M1
      obtain ⟨fs1, rd1⟩ := pt1.rd
      have m0 : mz_mo [] 0 0 h h := mz_mo.rf _ _ _ _
      have u0 := mo_le m0
      refine s_cco (p' := 28) rfl rd1 rfl ?_
      refine s_astn (p' := 29) (ls' := [_, _, _, _]) rfl rfl rfl rfl ?_
      refine s_newz (p' := 32) (a := h.length) rfl rfl rfl rfl ?_
      generalize hg1 : h ++ [_] = h1
      have s1 : mj_rd h1 h.length = some (.inr (20, [.null, .int (nI 0), .int (nI 0), .int (nI 0)])) := by rw [← hg1]; exact rd_nw (Nat.blt_eq.mpr (by omega)) rfl
      have l1 : h1.length = h.length + 1 := by rw [← hg1, List.length_append]; rfl
      have n1 : mz_mo [] 1 4 h h1 := by rw [← hg1]; exact mz_mo.ap [] _ _
      clear hg1
      have m1 : mz_mo [] 1 4 h h1 := m0.tr n1 (fun y hy => Or.inr (by first | exact absurd hy List.not_mem_nil | (simp only [List.mem_cons, List.not_mem_nil, or_false] at hy; omega))) (by omega) (by omega)
      have u1 := mo_le m1
      clear n1 m0
      refine s_sp (p' := 33) (ls' := _) rfl rfl rfl ?_
      refine s_callEN (p' := 36) (ls0 := [_]) rfl rfl rfl rfl rfl (mj_rcv_is s1) rfl (y_nsb (by omega) (by omega) s1) (Nat.ble_eq.mpr (by omega)) rfl ?_
      rintro h2 ⟨b2, n2⟩
      have w2 := mo_le n2
      have e2 := rd_len b2.k.2.1 b2.k.2.2.choose_spec
      have m2 : mz_mo [] 2 20 h h2 := m1.tr n2 (fun y hy => Or.inr (by first | exact absurd hy List.not_mem_nil | (simp only [List.mem_cons, List.not_mem_nil, or_false] at hy; omega))) (by omega) (by omega)
      have u2 := mo_le m2
      have x2 : h.length ≤ h1.length ∧ h1.length < h2.length := by omega
      clear n2 w2 e2 s1 m1 u1
      refine s_aldn (p' := 37) rfl rfl rfl ?_
      refine s_callEV (p' := 40) (ls0 := [_, _]) rfl rfl rfl rfl rfl (mj_rcv_is b2.k.1) rfl (y_aS2 (m := 60) b2 (tU.f0 m2.1) (by omega) (by omega) (by first | omega | (simp only [List.length_append, List.length_cons, List.length_nil, List.nil_append]; omega)) (by decide) (tU.ne m2.1 (by omega) b2.k.2.1)) (Nat.ble_eq.mpr (by omega)) rfl ?_
      rintro _ h3 ⟨rfl, B3, b3, q3, n3⟩
      have w3 := mo_le n3
      have e3 := rd_len (b3.k.2.1) b3.k.2.2.choose_spec
      have m3 : mz_mo [] 3 150 h h3 := m2.tr n3 (fun y hy => Or.inr (by first | exact absurd hy List.not_mem_nil | (simp only [List.mem_cons, List.not_mem_nil, or_false] at hy; omega))) (by omega) (by omega)
      have u3 := mo_le m3
      have x3 : h.length ≤ B3 ∧ B3 < h3.length := by omega
      clear n3 w3 e3 q3 m2 u2 x2 b2
      refine s_aldn (p' := 41) rfl rfl rfl ?_
      have tE : yTx h3 T [] := by have q := tU.f0 m3.1; rw [show ks j - k = 0 by omega] at q; exact q
      refine s_callV (p' := 44) (ls0 := [_]) rfl rfl rfl rfl rfl (by obtain ⟨_, _, q, _⟩ := tE.k; exact mj_rcv_is q) rfl (y_em1 tE) (by first | decide | omega) rfl ?_
      refine s_if (p' := 47) false rfl (by decide +kernel) rfl ?_
      refine s_sh (p' := 49) (ls' := _) (st' := .ref 1000300 :: _) (h' := _) rfl rfl rfl rfl ?_
      refine s_goto (p' := 54) rfl rfl ?_
      refine s_callEV (p' := 57) (ls0 := [_, _]) rfl rfl rfl rfl rfl (mj_rcv_is b3.k.1) rfl (y_aS2 (m := 60) b3 (k_e _) (by omega) (by omega) (by first | omega | (simp only [List.length_append, List.length_cons, List.length_nil, List.nil_append]; omega)) (by decide) (fun C rs q => by cases q; omega)) (Nat.ble_eq.mpr (by omega)) rfl ?_
      rintro _ h4 ⟨rfl, B4, b4, q4, n4⟩
      have w4 := mo_le n4
      have e4 := rd_len (b4.k.2.1) b4.k.2.2.choose_spec
      have m4 : mz_mo [] 4 280 h h4 := m3.tr n4 (fun y hy => Or.inr (by first | exact absurd hy List.not_mem_nil | (simp only [List.mem_cons, List.not_mem_nil, or_false] at hy; omega))) (by omega) (by omega)
      have u4 := mo_le m4
      have x4 : h.length ≤ B4 ∧ B4 < h4.length := by omega
      clear n4 w4 e4 q4 m3 u3 x3 b3
      refine s_aldn (p' := 58) rfl rfl rfl ?_
      have pt2 : yPt I h4 x d (ps j) (ks j) (ks (j + 1)) := yPt.mv ⟨m4.1, hI, fun a ha _ => ⟨List.not_mem_nil, ha⟩⟩ d _ _ _ (fun _ _ _ _ _ => rfl) pt1
      obtain ⟨fs2, rd2⟩ := pt2.rd
      refine s_callEV (p' := 61) (ls0 := [_, _]) rfl rfl rfl rfl rfl (mj_rcv_is rd2) rfl (hpart (ps j) (ks j) (ks (j + 1)) _ (fun z hz => by have := hIn z hz; omega) pt2 (by omega) (by omega) (by omega)) (Nat.ble_eq.mpr (by omega)) rfl ?_
      rintro _ h5 ⟨⟨T5, rfl, ff⟩, n5⟩
      have w5 := mo_le n5
      have c5 := b4.fr n5.1 (by simp) (by simp)
      have m5 : mz_mo [] (4 + (40 * (ks (j + 1) - ks j) - 8)) (280 + (1050 * (ks (j + 1) - ks j) - 534)) h h5 := m4.tr n5 (fun y hy => Or.inr (by first | exact absurd hy List.not_mem_nil | (simp only [List.mem_cons, List.not_mem_nil, or_false] at hy; omega))) (by omega) (by omega)
      have u5 := mo_le m5
      have y5 : h.length ≤ B4 ∧ B4 < h4.length ∧ h4.length ≤ h5.length := by omega
      clear n5 w5 m4 u4 x4 b4 pt2 rd2
      refine s_callEV (p' := 64) (ls0 := [_, _]) rfl rfl rfl rfl rfl (mj_rcv_is c5.k.1) rfl (y_aS2 (m := 60) c5 ff.1 (by omega) (by omega) (by first | omega | (simp only [List.length_append, List.length_cons, List.length_nil, List.nil_append]; omega)) (by decide) (fun C rs q => by have := ff.2.2 C rs q; omega)) (Nat.ble_eq.mpr (by omega)) rfl ?_
      rintro _ h6 ⟨rfl, B6, b6, q6, n6⟩
      have w6 := mo_le n6
      have e6 := rd_len (b6.k.2.1) b6.k.2.2.choose_spec
      have m6 : mz_mo [] ((4 + (40 * (ks (j + 1) - ks j) - 8)) + 1) ((280 + (1050 * (ks (j + 1) - ks j) - 534)) + 130) h h6 := m5.tr n6 (fun y hy => Or.inr (by first | exact absurd hy List.not_mem_nil | (simp only [List.mem_cons, List.not_mem_nil, or_false] at hy; omega))) (by omega) (by omega)
      have u6 := mo_le m6
      have x6 : h.length ≤ B6 ∧ B6 < h6.length := by omega
      clear n6 w6 e6 q6 m5 u5 y5 c5 ff
      refine s_callEV (p' := 67) (ls0 := [_]) rfl rfl rfl rfl rfl (mj_rcv_is b6.k.1) rfl (y_tS2 (m := 60) b6 (by omega) (by first | omega | (simp only [List.length_append, List.length_cons, List.length_nil, List.nil_append]; omega)) (by decide)) (Nat.ble_eq.mpr (by omega)) rfl ?_
      rintro _ h7 ⟨rfl, t7, p7, n7⟩
      have w7 := mo_le n7
      have m7 : mz_mo [] (((4 + (40 * (ks (j + 1) - ks j) - 8)) + 1) + 2) (((280 + (1050 * (ks (j + 1) - ks j) - 534)) + 130) + 124) h h7 := m6.tr n7 (fun y hy => Or.inr (by first | exact absurd hy List.not_mem_nil | (simp only [List.mem_cons, List.not_mem_nil, or_false] at hy; omega))) (by omega) (by omega)
      have u7 := mo_le m7
      clear n7 w7 m6 x6 b6
      refine s_astn (p' := 68) (ls' := [_, _, _, _]) rfl rfl rfl rfl ?_
      refine s_goto (p' := 10) rfl rfl ?_
      exact hr (nI j) _ _ h7 (by omega) (m7.1 It (by simp) _ I1) (by rw [ex]; simpa only [List.append_assoc, List.cons_append, List.nil_append, List.append_nil] using (show yTx _ _ ([] ++ _) from by have q := t7; rw [e0] at q; exact q)) (by omega) (fun C rs q => by rw [p7 C rs q]; omega) (M1.tr m7 (fun y hy => by cases hy) (by omega) (by omega))
    · have hin0 := ks_in (P := fun a b => ∃ p, yPt I h0 x d p a b) (fun a b ⟨p, q⟩ => yPt.lt d p a b q) (c := c) (ks := ks) (fun i hi => ⟨_, (hps i hi).2⟩) (show j - 1 < c by omega)
      have hlt0 := yPt.lt _ _ _ _ (hps (j - 1) (by omega)).2
      have be0 := yPt.be hA d _ _ _ (by omega) (hps (j - 1) (by omega)).2
      rw [show j - 1 + 1 = j by omega] at hlt0 be0 hin0
      have ex := hasTxt (x := x) (k := k) (a := ks j) (b := ks (j + 1)) (by omega) (by omega) be0.2 be.1
      have hl1 := hmo
      rw [ex] at hl1
      simp only [List.length_append, List.length_cons, List.length_nil] at hl1
      have hl0 := pFl_1 (x := x) (ks j - k) k
      refine s_aldn (p' := 11) rfl rfl rfl ?_
      refine s_callV (p' := 16) (ls0 := [_]) rfl rfl rfl rfl rfl (mj_rcv_is hI_) rfl (y_hn hI_ gL (b := 1) (Or.inl ⟨rfl, hjc⟩) (by omega)) (by first | decide | omega) rfl ?_
      refine s_if (p' := 19) false rfl (by decide +kernel) rfl ?_
      refine s_aldn (p' := 20) rfl rfl rfl ?_
      refine s_callV (p' := 25) (ls0 := [_, _, _]) rfl rfl rfl rfl rfl (mj_rcv_is hI_) rfl (y_nx hI_ gL (by omega) gE_ hjc l3 l4 (l6 j hjc)) (by first | decide | omega) rfl ?_
      generalize hg1 : List.set g It _ = h
      have f1 : mz_fr [It] g h := by rw [← hg1]; exact mz_fr.s (by simp) (mz_fr.rf _ _)
      have ln1 : h.length = g.length := by rw [← hg1, List.length_set]
      have M1 : mz_mo [It] (40 * (ks j - k)) (1050 * (ks j - k)) h0 h := by rw [← hg1]; exact mz_mo.s M (by omega) hI_ rfl (Or.inl (by simp))
      have I1 : mj_rd h It = some (.inr (27, [.int (nI (j + 1)), .int (nI j), .int mc, .ref Lr])) := by rw [← hg1]; exact rd_set (by omega) hI_
      have tU : yTx h T (pFl x (ks j - k) k) := by rw [← hg1]; exact tT.s27 hI_
      clear hg1
      have mv1 : Mv I I [It] h0 h := ⟨M1.1, hI, fun a ha _ => ⟨fun q => by have := hIn a ha; have := List.mem_singleton.mp q; omega, ha⟩⟩
      have pt1 := yPt.mv mv1 d _ _ _ (fun _ _ _ _ _ => rfl) (hps j hjc).2
      have bm := mo_le M1
      obtain ⟨fs1, rd1⟩ := pt1.rd
      have m0 : mz_mo [] 0 0 h h := mz_mo.rf _ _ _ _
      have u0 := mo_le m0
      refine s_cco (p' := 28) rfl rd1 rfl ?_
      refine s_astn (p' := 29) (ls' := [_, _, _, _]) rfl rfl rfl rfl ?_
      refine s_newz (p' := 32) (a := h.length) rfl rfl rfl rfl ?_
      generalize hg1 : h ++ [_] = h1
      have s1 : mj_rd h1 h.length = some (.inr (20, [.null, .int (nI 0), .int (nI 0), .int (nI 0)])) := by rw [← hg1]; exact rd_nw (Nat.blt_eq.mpr (by omega)) rfl
      have l1 : h1.length = h.length + 1 := by rw [← hg1, List.length_append]; rfl
      have n1 : mz_mo [] 1 4 h h1 := by rw [← hg1]; exact mz_mo.ap [] _ _
      clear hg1
      have m1 : mz_mo [] 1 4 h h1 := m0.tr n1 (fun y hy => Or.inr (by first | exact absurd hy List.not_mem_nil | (simp only [List.mem_cons, List.not_mem_nil, or_false] at hy; omega))) (by omega) (by omega)
      have u1 := mo_le m1
      clear n1 m0
      refine s_sp (p' := 33) (ls' := _) rfl rfl rfl ?_
      refine s_callEN (p' := 36) (ls0 := [_]) rfl rfl rfl rfl rfl (mj_rcv_is s1) rfl (y_nsb (by omega) (by omega) s1) (Nat.ble_eq.mpr (by omega)) rfl ?_
      rintro h2 ⟨b2, n2⟩
      have w2 := mo_le n2
      have e2 := rd_len b2.k.2.1 b2.k.2.2.choose_spec
      have m2 : mz_mo [] 2 20 h h2 := m1.tr n2 (fun y hy => Or.inr (by first | exact absurd hy List.not_mem_nil | (simp only [List.mem_cons, List.not_mem_nil, or_false] at hy; omega))) (by omega) (by omega)
      have u2 := mo_le m2
      have x2 : h.length ≤ h1.length ∧ h1.length < h2.length := by omega
      clear n2 w2 e2 s1 m1 u1
      refine s_aldn (p' := 37) rfl rfl rfl ?_
      refine s_callEV (p' := 40) (ls0 := [_, _]) rfl rfl rfl rfl rfl (mj_rcv_is b2.k.1) rfl (y_aS2 (m := 60) b2 (tU.f0 m2.1) (by omega) (by omega) (by first | omega | (simp only [List.length_append, List.length_cons, List.length_nil, List.nil_append]; omega)) (by decide) (tU.ne m2.1 (by omega) b2.k.2.1)) (Nat.ble_eq.mpr (by omega)) rfl ?_
      rintro _ h3 ⟨rfl, B3, b3, q3, n3⟩
      have w3 := mo_le n3
      have e3 := rd_len (b3.k.2.1) b3.k.2.2.choose_spec
      have m3 : mz_mo [] 3 150 h h3 := m2.tr n3 (fun y hy => Or.inr (by first | exact absurd hy List.not_mem_nil | (simp only [List.mem_cons, List.not_mem_nil, or_false] at hy; omega))) (by omega) (by omega)
      have u3 := mo_le m3
      have x3 : h.length ≤ B3 ∧ B3 < h3.length := by omega
      clear n3 w3 e3 q3 m2 u2 x2 b2
      refine s_aldn (p' := 41) rfl rfl rfl ?_
      refine s_callV (p' := 44) (ls0 := [_]) rfl rfl rfl rfl rfl (by obtain ⟨_, _, q, _⟩ := (tU.f0 m3.1).k; exact mj_rcv_is q) rfl (y_em0 (tU.f0 m3.1) (by omega) (by omega)) (by first | decide | omega) rfl ?_
      refine s_if (p' := 52) true rfl (by decide +kernel) rfl ?_
      refine s_sh (p' := 54) (ls' := _) (st' := .ref 1000310 :: _) (h' := _) rfl rfl rfl rfl ?_
      refine s_callEV (p' := 57) (ls0 := [_, _]) rfl rfl rfl rfl rfl (mj_rcv_is b3.k.1) rfl (y_aS2 (m := 60) b3 (k_t310 _) (by omega) (by omega) (by first | omega | (simp only [List.length_append, List.length_cons, List.length_nil, List.nil_append]; omega)) (by decide) (fun C rs q => by cases q; omega)) (Nat.ble_eq.mpr (by omega)) rfl ?_
      rintro _ h4 ⟨rfl, B4, b4, q4, n4⟩
      have w4 := mo_le n4
      have e4 := rd_len (b4.k.2.1) b4.k.2.2.choose_spec
      have m4 : mz_mo [] 4 280 h h4 := m3.tr n4 (fun y hy => Or.inr (by first | exact absurd hy List.not_mem_nil | (simp only [List.mem_cons, List.not_mem_nil, or_false] at hy; omega))) (by omega) (by omega)
      have u4 := mo_le m4
      have x4 : h.length ≤ B4 ∧ B4 < h4.length := by omega
      clear n4 w4 e4 q4 m3 u3 x3 b3
      refine s_aldn (p' := 58) rfl rfl rfl ?_
      have pt2 : yPt I h4 x d (ps j) (ks j) (ks (j + 1)) := yPt.mv ⟨m4.1, hI, fun a ha _ => ⟨List.not_mem_nil, ha⟩⟩ d _ _ _ (fun _ _ _ _ _ => rfl) pt1
      obtain ⟨fs2, rd2⟩ := pt2.rd
      refine s_callEV (p' := 61) (ls0 := [_, _]) rfl rfl rfl rfl rfl (mj_rcv_is rd2) rfl (hpart (ps j) (ks j) (ks (j + 1)) _ (fun z hz => by have := hIn z hz; omega) pt2 (by omega) (by omega) (by omega)) (Nat.ble_eq.mpr (by omega)) rfl ?_
      rintro _ h5 ⟨⟨T5, rfl, ff⟩, n5⟩
      have w5 := mo_le n5
      have c5 := b4.fr n5.1 (by simp) (by simp)
      have m5 : mz_mo [] (4 + (40 * (ks (j + 1) - ks j) - 8)) (280 + (1050 * (ks (j + 1) - ks j) - 534)) h h5 := m4.tr n5 (fun y hy => Or.inr (by first | exact absurd hy List.not_mem_nil | (simp only [List.mem_cons, List.not_mem_nil, or_false] at hy; omega))) (by omega) (by omega)
      have u5 := mo_le m5
      have y5 : h.length ≤ B4 ∧ B4 < h4.length ∧ h4.length ≤ h5.length := by omega
      clear n5 w5 m4 u4 x4 b4 pt2 rd2
      refine s_callEV (p' := 64) (ls0 := [_, _]) rfl rfl rfl rfl rfl (mj_rcv_is c5.k.1) rfl (y_aS2 (m := 60) c5 ff.1 (by omega) (by omega) (by first | omega | (simp only [List.length_append, List.length_cons, List.length_nil, List.nil_append]; omega)) (by decide) (fun C rs q => by have := ff.2.2 C rs q; omega)) (Nat.ble_eq.mpr (by omega)) rfl ?_
      rintro _ h6 ⟨rfl, B6, b6, q6, n6⟩
      have w6 := mo_le n6
      have e6 := rd_len (b6.k.2.1) b6.k.2.2.choose_spec
      have m6 : mz_mo [] ((4 + (40 * (ks (j + 1) - ks j) - 8)) + 1) ((280 + (1050 * (ks (j + 1) - ks j) - 534)) + 130) h h6 := m5.tr n6 (fun y hy => Or.inr (by first | exact absurd hy List.not_mem_nil | (simp only [List.mem_cons, List.not_mem_nil, or_false] at hy; omega))) (by omega) (by omega)
      have u6 := mo_le m6
      have x6 : h.length ≤ B6 ∧ B6 < h6.length := by omega
      clear n6 w6 e6 q6 m5 u5 y5 c5 ff
      refine s_callEV (p' := 67) (ls0 := [_]) rfl rfl rfl rfl rfl (mj_rcv_is b6.k.1) rfl (y_tS2 (m := 60) b6 (by omega) (by first | omega | (simp only [List.length_append, List.length_cons, List.length_nil, List.nil_append]; omega)) (by decide)) (Nat.ble_eq.mpr (by omega)) rfl ?_
      rintro _ h7 ⟨rfl, t7, p7, n7⟩
      have w7 := mo_le n7
      have m7 : mz_mo [] (((4 + (40 * (ks (j + 1) - ks j) - 8)) + 1) + 2) (((280 + (1050 * (ks (j + 1) - ks j) - 534)) + 130) + 124) h h7 := m6.tr n7 (fun y hy => Or.inr (by first | exact absurd hy List.not_mem_nil | (simp only [List.mem_cons, List.not_mem_nil, or_false] at hy; omega))) (by omega) (by omega)
      have u7 := mo_le m7
      clear n7 w7 m6 x6 b6
      refine s_astn (p' := 68) (ls' := [_, _, _, _]) rfl rfl rfl rfl ?_
      refine s_goto (p' := 10) rfl rfl ?_
      exact hr (nI j) _ _ h7 (by omega) (m7.1 It (by simp) _ I1) (by rw [ex]; simpa only [List.append_assoc, List.cons_append, List.nil_append, List.append_nil] using t7) (by omega) (fun C rs q => by rw [p7 C rs q]; omega) (M1.tr m7 (fun y hy => by cases hy) (by omega) (by omega))
theorem y_rt {I : Nat → Prop} {x : Nat → Nat → Nat} {K : Nat} (hA : ∀ j, j < K → aOk x 0 K j) (hI : ∀ a, I a → a < mj_CB) : ∀ (d : Nat) (Lr k k' : Nat) (g : mj_H), (∀ a, I a → a < g.length) → yRow I g x d Lr k k' → k' ≤ K → (pFl x (k' - k) k).length ≤ 60 → g.length + 40 * (k' - k) + 330 < mj_CB → mj_Wp (2 * d + 15) 363 (0, [some (.ref Lr), none, none, none], [], g) (mz_V fun r g' => yTf g g' r (pFl x (k' - k) k) ∧ mz_mo [] (40 * (k' - k) + 1) (1050 * (k' - k) + 4) g g') := by
  intro d
  induction d with
  | zero =>
    intro Lr k k' g hIl hr hkK hn hb
    have eCB : mj_CB = 1000000 := rfl
    obtain ⟨Er, c, ps, ks, l, i1, i2, k0, kc, hps⟩ := hr
    obtain ⟨cap, mc, ef, l1, l2, l3, l4, l5, l6⟩ := l
    refine s_sh (p' := 2) (ls' := _) (st' := .ref 1000300 :: _) (h' := _) rfl rfl rfl rfl ?_
    refine s_astn (p' := 3) (ls' := [_, _, _, _]) rfl rfl rfl rfl ?_
    refine s_aldn (p' := 4) rfl rfl rfl ?_
    refine s_callV (p' := 9) (ls0 := [_]) rfl rfl rfl rfl rfl (mj_rcv_is l1) rfl (y_itr rfl (by omega) l1) (by first | decide | omega) rfl ?_
    refine s_astn (p' := 10) (ls' := [_, _, _, _]) rfl rfl rfl rfl ?_
    generalize hg1 : g ++ [_] = h1
    have f1 : mz_fr [] g h1 := by rw [← hg1]; exact mz_fr.a (mz_fr.rf _ _)
    have m1 : mz_mo [] 1 4 g h1 := by rw [← hg1]; exact mz_mo.ap _ _ _
    have hl1 : h1.length = g.length + 1 := by rw [← hg1]; exact List.length_append
    have I1 : mj_rd h1 g.length = some (.inr (27, [.int (nI 0), .int (nI 4294967295), .int mc, .ref Lr])) := by rw [← hg1]; exact rd_nw (Nat.blt_eq.mpr (by omega)) rfl
    clear hg1
    have mv : Mv I I [] g h1 := ⟨f1, hI, fun a ha _ => ⟨List.not_mem_nil, ha⟩⟩
    have q1 := hIl Lr i1
    have q2 : Er ≠ g.length := by
      rcases i2 with i2 | i2
      · have := hIl Er i2; omega
      · omega
    have q3 : Lr ≠ g.length := by omega
    have q4 : h1.length + 40 * (k' - k) + 329 < mj_CB := by omega
    have q5 : h1.length ≤ 1000300 := by omega
    have r := y_rtL (P := 14) (It := g.length) (by omega) hA hI (fun p a b g2 hIl2 pt hbK hl hb2 => by
      obtain ⟨sm, e⟩ := pt
      subst e
      rw [Nat.add_sub_cancel_left] at hl ⊢
      refine (y_ptS hI sm ((hA a (by omega)).sm sm.1) (by omega)).imp ?_
      rintro _ ⟨r, g', rfl, e, m⟩
      exact ⟨_, _, rfl, e, m.wk (fun y hy => Or.inl hy) (by decide) (by decide)⟩) (f1 _ (by simp) _ l1) (mz_fr.A f1 (by simp) l2) l3 l4 (fun j hj => (l6 j hj).1) (fun j hj => ⟨(hps j hj).1, yPt.mv mv _ _ _ _ (fun _ _ _ _ _ => rfl) (hps j hj).2⟩) k0 kc hkK hn hl1 hIl q2 q3 q4 c 0 1000300 (nI 4294967295) none h1 (Nat.zero_add c) I1 (by rw [k0, Nat.sub_self]; exact k_e h1) q5 (fun C rs q => by have q2 := q; rw [k_300] at q2; have : @Eq Nat 1000301 C := Value.ref.inj (List.cons.inj (Prod.mk.inj (Sum.inr.inj (Option.some.inj q2))).2).1; omega) (by rw [k0, Nat.sub_self]; exact mz_mo.rf _ _ _ _)
    refine r.imp ?_
    rintro _ ⟨rv, g', rfl, ⟨T, rfl, t1, t2, t3⟩, m2⟩
    exact ⟨_, _, rfl, ⟨T, rfl, t1, by omega, fun C rs q => by have := t3 C rs q; omega⟩, m1.tr m2 (fun y hy => Or.inr (by rw [List.mem_singleton.mp hy]; exact Nat.le_refl _)) (by omega) (by omega)⟩
  | succ d ih =>
    intro Lr k k' g hIl hr hkK hn hb
    have eCB : mj_CB = 1000000 := rfl
    obtain ⟨Er, c, ps, ks, l, i1, i2, k0, kc, hps⟩ := hr
    obtain ⟨cap, mc, ef, l1, l2, l3, l4, l5, l6⟩ := l
    refine s_sh (p' := 2) (ls' := _) (st' := .ref 1000300 :: _) (h' := _) rfl rfl rfl rfl ?_
    refine s_astn (p' := 3) (ls' := [_, _, _, _]) rfl rfl rfl rfl ?_
    refine s_aldn (p' := 4) rfl rfl rfl ?_
    refine s_callV (p' := 9) (ls0 := [_]) rfl rfl rfl rfl rfl (mj_rcv_is l1) rfl (y_itr rfl (by omega) l1) (by first | decide | omega) rfl ?_
    refine s_astn (p' := 10) (ls' := [_, _, _, _]) rfl rfl rfl rfl ?_
    generalize hg1 : g ++ [_] = h1
    have f1 : mz_fr [] g h1 := by rw [← hg1]; exact mz_fr.a (mz_fr.rf _ _)
    have m1 : mz_mo [] 1 4 g h1 := by rw [← hg1]; exact mz_mo.ap _ _ _
    have hl1 : h1.length = g.length + 1 := by rw [← hg1]; exact List.length_append
    have I1 : mj_rd h1 g.length = some (.inr (27, [.int (nI 0), .int (nI 4294967295), .int mc, .ref Lr])) := by rw [← hg1]; exact rd_nw (Nat.blt_eq.mpr (by omega)) rfl
    clear hg1
    have mv : Mv I I [] g h1 := ⟨f1, hI, fun a ha _ => ⟨List.not_mem_nil, ha⟩⟩
    have q1 := hIl Lr i1
    have q2 : Er ≠ g.length := by
      rcases i2 with i2 | i2
      · have := hIl Er i2; omega
      · omega
    have q3 : Lr ≠ g.length := by omega
    have q4 : h1.length + 40 * (k' - k) + 329 < mj_CB := by omega
    have q5 : h1.length ≤ 1000300 := by omega
    have r := y_rtL (P := 2 * d + 16) (It := g.length) (by omega) hA hI (fun p a b g2 hIl2 pt hbK hl hb2 => by
      have hlt := yPt.lt _ _ _ _ pt
      rcases pt with ⟨sm, e⟩ | ⟨m, e, S1, S2, R1, R2, s1, s2, q1, q2, q3, q4, q5, q6, q7, q8, r1, r2⟩
      · subst e
        rw [Nat.add_sub_cancel_left] at hl ⊢
        refine mj_Wp.mono ((y_ptS hI sm ((hA a (by omega)).sm sm.1) (by omega)).imp ?_) (by omega)
        rintro _ ⟨r, g', rfl, e, m⟩
        exact ⟨_, _, rfl, e, m.wk (fun y hy => Or.inl hy) (by decide) (by decide)⟩
      · subst q1
        have bk := (hA a (by omega)).br q2 q3 q4
        rcases q2 with q2 | q2
        · exact y_br91 (D := 2 * d + 15) (by omega) hI hIl2 (fun Lr k k' g z1 z2 z3 z4 z5 => ih Lr k k' g z1 z2 z3 z4 (by omega)) q2 bk (by omega) q6 q7 q8 r1 r2 hl (by omega)
        · exact y_br123 (D := 2 * d + 15) (by omega) hI hIl2 (fun Lr k k' g z1 z2 z3 z4 z5 => ih Lr k k' g z1 z2 z3 z4 (by omega)) q2 bk (by omega) q6 q7 q8 r1 r2 hl (by omega)) (f1 _ (by simp) _ l1) (mz_fr.A f1 (by simp) l2) l3 l4 (fun j hj => (l6 j hj).1) (fun j hj => ⟨(hps j hj).1, yPt.mv mv _ _ _ _ (fun _ _ _ _ _ => rfl) (hps j hj).2⟩) k0 kc hkK hn hl1 hIl q2 q3 q4 c 0 1000300 (nI 4294967295) none h1 (Nat.zero_add c) I1 (by rw [k0, Nat.sub_self]; exact k_e h1) q5 (fun C rs q => by have q2 := q; rw [k_300] at q2; have : @Eq Nat 1000301 C := Value.ref.inj (List.cons.inj (Prod.mk.inj (Sum.inr.inj (Option.some.inj q2))).2).1; omega) (by rw [k0, Nat.sub_self]; exact mz_mo.rf _ _ _ _)
    refine r.imp ?_
    rintro _ ⟨rv, g', rfl, ⟨T, rfl, t1, t2, t3⟩, m2⟩
    exact ⟨_, _, rfl, ⟨T, rfl, t1, by omega, fun C rs q => by have := t3 C rs q; omega⟩, m1.tr m2 (fun y hy => Or.inr (by rw [List.mem_singleton.mp hy]; exact Nat.le_refl _)) (by omega) (by omega)⟩
