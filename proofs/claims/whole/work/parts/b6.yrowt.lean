/-! The reference: texts of brackets and rows. -/
theorem aOk.br {x : Nat → Nat → Nat} {K a m e : Nat} (h : aOk x 0 K a) (h0 : x a 0 = 91 ∨ x a 0 = 123) (h6 : x a 6 = m) (h7 : x a 7 = e) : bOk x a m e := by
  rcases h with ⟨h, -⟩ | ⟨o, m', e', b, hj, -⟩
  · omega
  · obtain ⟨sg, -, -, -, -, -, l1, l2, l3⟩ := id b
    rcases hj with rfl | rfl | rfl
    · have := l1.2.1
      have := l1.2.2
      obtain rfl : m = m' := by omega
      obtain rfl : e = e' := by omega
      exact b
    · omega
    · omega
theorem aOk.sm {x : Nat → Nat → Nat} {K a : Nat} (h : aOk x 0 K a) (h0 : brS (x a 0) = false) : sOk (x a) := by
  rcases h with h | ⟨o, m', e', ⟨sg, -⟩, hj, -⟩
  · exact h
  · have : brS (x a 0) = true := brS_t (by rcases hj with rfl | rfl | rfl <;> omega)
    rw [h0] at this
    cases this
theorem sOk.be2 {x : Nat → Nat → Nat} {a : Nat} (h : sOk (x a)) : isB (x a) = true ∧ isE (x a) = true := by
  have := tPt.be (d := 0) (x := x) (a := a) (b := a + 1) ⟨h, rfl⟩
  exact this
theorem bOk.be {x : Nat → Nat → Nat} {a m e : Nat} (h : bOk x a m e) : isB (x a) = true ∧ isE (x e) = true := by
  have sg := h.1
  unfold isB isE
  exact ⟨decide_eq_true (by omega), decide_eq_true (by omega)⟩
theorem yPt.be {I : Nat → Prop} {h : mj_H} {x : Nat → Nat → Nat} {K : Nat} (hA : ∀ j, j < K → aOk x 0 K j) : ∀ (d p a b : Nat), b ≤ K → yPt I h x d p a b → isB (x a) = true ∧ isE (x (b - 1)) = true
  | 0, p, a, b, hb, t => by
    have hlt := yPt.lt _ _ _ _ t
    rw [t.2, Nat.add_sub_cancel]
    exact ((hA a (by omega)).sm t.1.1).be2
  | d + 1, p, a, b, hb, t => by
    have hlt := yPt.lt _ _ _ _ t
    rcases t with t | ⟨m, e, S1, S2, R1, R2, s1, s2, q1, q2, q3, q4, _⟩
    · rw [t.2, Nat.add_sub_cancel]
      exact ((hA a (by omega)).sm t.1.1).be2
    · have := ((hA a (by omega)).br q2 q3 q4).be
      rw [q1, Nat.add_sub_cancel]
      exact this
theorem y_em1 {h : mj_H} {T : Nat} (t : yTx h T []) : mj_run 0 364 (0, [some (.ref T)], [], h) (.inl (some (.int (nI 1))), h) := by
  obtain ⟨_, B, rs, k1, bf, k2, _⟩ := t
  refine s_aldn (p' := 1) rfl rfl rfl ?_
  refine s_gf (p' := 4) rfl k1 rfl rfl ?_
  refine s_len (p' := 5) rfl (mj_rdA_is k2 (by decide)) (by decide) rfl ?_
  refine s_if (p' := 8) false rfl (by decide +kernel) rfl ?_
  refine s_con (p' := 9) rfl rfl ?_
  refine s_goto (p' := 13) rfl rfl ?_
  exact s_iret rfl rfl rfl
theorem y_em0 {h : mj_H} {T : Nat} {l : List Nat} (t : yTx h T l) (h1 : 1 ≤ l.length) (h2 : l.length ≤ 60) : mj_run 0 364 (0, [some (.ref T)], [], h) (.inl (some (.int (nI 0))), h) := by
  obtain ⟨_, B, rs, k1, bf, k2, _⟩ := t
  refine s_aldn (p' := 1) rfl rfl rfl ?_
  refine s_gf (p' := 4) rfl k1 rfl rfl ?_
  refine s_len (p' := 5) rfl (mj_rdA_is k2 (by decide)) (by decide) rfl ?_
  refine s_if (p' := 12) true rfl ((cz_ne (by omega)).trans (decide_eq_true (by omega))) rfl ?_
  refine s_con (p' := 13) rfl rfl ?_
  exact s_iret rfl rfl rfl
theorem yTx.s27 {h : mj_H} {T It : Nat} {l : List Nat} {c : mj_C} {fs : List Value} (t : yTx h T l) (k : mj_rd h It = some (.inr (27, fs))) : yTx (h.set It c) T l := by
  obtain ⟨C, rs, k1, c2, k2⟩ := t.k
  have t0 := t
  obtain ⟨_, B, rs', k1', bf, k2', _⟩ := t0
  refine yStr.fr (M := [It]) (mz_fr.s (by simp) (mz_fr.rf _ _)) (fun q => ?_) (fun B' rs2 q q2 => ?_) t
  · rw [List.mem_singleton.mp q, k] at k1; cases k1
  · rw [k1'] at q
    obtain rfl : B = B' := Value.ref.inj (List.cons.inj (Prod.mk.inj (Sum.inr.inj (Option.some.inj q))).2).1
    rw [List.mem_singleton.mp q2, k] at k2'; cases k2' 
theorem y_br91 {I : Nat → Prop} {h : mj_H} {x : Nat → Nat → Nat} {K d D p a m e S1 S2 R1 R2 : Nat} {s1 s2 : Int32} (hD : 13 ≤ D) (hI : ∀ a, I a → a < mj_CB) (hrow : ∀ (Lr k k' : Nat) (g : mj_H), yRow I g x d Lr k k' → k' ≤ K → (pFl x (k' - k) k).length ≤ 60 → g.length + 40 * (k' - k) + 260 < mj_CB → mj_Wp D 363 (0, [some (.ref Lr), none, none, none], [], g) (mz_V fun r g' => yTf g g' r (pFl x (k' - k) k) ∧ mz_mo [] (40 * (k' - k) + 1) (1050 * (k' - k) + 4) g g')) (h0 : x a 0 = 91) (hb : bOk x a m e) (heK : e < K) (hP : mj_rd h p = some (ptC (nI (x a 0)) s1 s2 .null (.ref S1) (.ref S2) (.ref R1) (.ref R2))) (hs1 : ySu I h S1 (x a 2) (x a 3) (x a 4)) (hs2 : ySu I h S2 (x e 2) (x e 3) (x e 4)) (r1 : yRow I h x d R1 (a + 1) m) (r2 : yRow I h x d R2 (m + 1) e) (hn : (pFl x (e + 1 - a) a).length ≤ 60) (hbd : h.length + 40 * (e + 1 - a) + 300 < mj_CB) : mj_Wp (D + 1) 365 (0, [some (.ref p), none], [], h) (mz_V fun r g => yTf h g r (pFl x (e + 1 - a) a) ∧ mz_mo [] (40 * (e + 1 - a) - 8) (1050 * (e + 1 - a) - 534) h g) := by
  have m0 : mz_mo [] 0 0 h h := mz_mo.rf _ _ _ _
  have u0 := mo_le m0
  have sl1 := hs1.ok
  have sl2 := hs2.ok
  have sg := hb.1
  have g1 := rwP.le (fun p a b => yPt.lt d p a b) r1
  have g2 := rwP.le (fun p a b => yPt.lt d p a b) r2
  have z3a : x a 3 < 256 := by have := of_decide_eq_true hb.2.1.2.1; omega
  have z3e : x e 3 < 256 := by have := of_decide_eq_true hb.2.2.1.2.1; omega
  have he0 : x e 0 = 93 := by omega
  have ex := pFl_br hb (by omega) (by omega)
  rw [h0, he0] at ex
  have hn2 := hn
  rw [ex] at hn2
  simp only [List.length_append, List.length_cons, List.length_nil] at hn2
  refine s_aldn (p' := 1) rfl rfl rfl ?_
  refine s_callV (p' := 4) (ls0 := [_]) rfl rfl rfl rfl rfl (mj_rcv_is hP) rfl (y_isb (s := x a 0) (by omega) hP) (by first | decide | omega) rfl ?_
  refine s_if (p' := 7) false rfl (by rw [decide_eq_true (by omega)]; decide +kernel) rfl ?_
  refine s_newz (p' := 10) (a := h.length) rfl rfl rfl rfl ?_
  generalize hg1 : h ++ [_] = h1
  have s1 : mj_rd h1 h.length = some (.inr (20, [.null, .int (nI 0), .int (nI 0), .int (nI 0)])) := by rw [← hg1]; exact rd_nw (Nat.blt_eq.mpr (by omega)) rfl
  have l1 : h1.length = h.length + 1 := by rw [← hg1, List.length_append]; rfl
  have n1 : mz_mo [] 1 4 h h1 := by rw [← hg1]; exact mz_mo.ap [] _ _
  clear hg1
  have m1 : mz_mo [] 1 4 h h1 := m0.tr n1 (fun y hy => Or.inr (by first | exact absurd hy List.not_mem_nil | (simp only [List.mem_cons, List.not_mem_nil, or_false] at hy; omega))) (by omega) (by omega)
  have u1 := mo_le m1
  clear n1 m0
  refine s_sp (p' := 11) (ls' := _) rfl rfl rfl ?_
  refine s_callEN (p' := 14) (ls0 := [_]) rfl rfl rfl rfl rfl (mj_rcv_is s1) rfl (y_nsb (by omega) (by omega) s1) (Nat.ble_eq.mpr (by omega)) rfl ?_
  rintro h2 ⟨b2, n2⟩
  have w2 := mo_le n2
  have e2 := rd_len b2.k.2.1 b2.k.2.2.choose_spec
  have m2 : mz_mo [] 2 20 h h2 := m1.tr n2 (fun y hy => Or.inr (by first | exact absurd hy List.not_mem_nil | (simp only [List.mem_cons, List.not_mem_nil, or_false] at hy; omega))) (by omega) (by omega)
  have u2 := mo_le m2
  have x2 : h.length ≤ h1.length ∧ h1.length < h2.length := by omega
  clear n2 w2 e2 s1 m1 u1
  refine s_aldn (p' := 15) rfl rfl rfl ?_
  refine s_gf (p' := 18) rfl (m2.1 _ (by simp) _ hP) rfl rfl ?_
  rw [h0]
  refine s_callEV (p' := 21) (ls0 := [_, _]) rfl rfl rfl rfl rfl (mj_rcv_is b2.k.1) rfl (y_aC2 (m := 1) b2 (by omega) (by omega) (by first | omega | (simp only [List.length_append, List.length_cons, List.length_nil, List.nil_append]; omega)) (by decide) (by decide)) (Nat.ble_eq.mpr (by omega)) rfl ?_
  rintro _ h3 ⟨rfl, B3, b3, q3, n3⟩
  have w3 := mo_le n3
  have e3 := rd_len (b3.k.2.1) b3.k.2.2.choose_spec
  have m3 : mz_mo [] 3 32 h h3 := m2.tr n3 (fun y hy => Or.inr (by first | exact absurd hy List.not_mem_nil | (simp only [List.mem_cons, List.not_mem_nil, or_false] at hy; omega))) (by omega) (by omega)
  have u3 := mo_le m3
  have x3 : h.length ≤ B3 ∧ B3 < h3.length := by omega
  clear n3 w3 e3 q3 m2 u2 x2 b2
  refine s_aldn (p' := 22) rfl rfl rfl ?_
  refine s_gf (p' := 25) rfl (m3.1 _ (by simp) _ hP) rfl rfl ?_
  have su1 : ySu I h3 S1 (x a 2) (x a 3) (x a 4) := hs1.mv ⟨m3.1, hI, fun a ha _ => ⟨List.not_mem_nil, ha⟩⟩
  obtain ⟨_, _, _, _, sk1⟩ := su1.k
  refine s_callEV (p' := 28) (ls0 := [_]) rfl rfl rfl rfl rfl (mj_rcv_is sk1) rfl (y_sum su1 z3a (by omega)) (Nat.ble_eq.mpr (by omega)) rfl ?_
  rintro _ h4 ⟨⟨T4, rfl, f1⟩, n4⟩
  have w4 := mo_le n4
  have c4 := b3.fr n4.1 (by simp) (by simp)
  have m4 : mz_mo [] 22 292 h h4 := m3.tr n4 (fun y hy => Or.inr (by first | exact absurd hy List.not_mem_nil | (simp only [List.mem_cons, List.not_mem_nil, or_false] at hy; omega))) (by omega) (by omega)
  have u4 := mo_le m4
  have y4 : h.length ≤ B3 ∧ B3 < h3.length ∧ h3.length ≤ h4.length := by omega
  clear n4 w4 m3 u3 x3 b3 su1 sk1
  refine s_callEV (p' := 31) (ls0 := [_, _]) rfl rfl rfl rfl rfl (mj_rcv_is c4.k.1) rfl (y_aS2 (m := 8) c4 f1.1 (by omega) (by omega) (by first | omega | (simp only [List.length_append, List.length_cons, List.length_nil, List.nil_append]; omega)) (by decide) (fun C rs q => by have := f1.2.2 C rs q; omega)) (Nat.ble_eq.mpr (by omega)) rfl ?_
  rintro _ h5 ⟨rfl, B5, b5, q5, n5⟩
  have w5 := mo_le n5
  have e5 := rd_len (b5.k.2.1) b5.k.2.2.choose_spec
  have m5 : mz_mo [] 23 318 h h5 := m4.tr n5 (fun y hy => Or.inr (by first | exact absurd hy List.not_mem_nil | (simp only [List.mem_cons, List.not_mem_nil, or_false] at hy; omega))) (by omega) (by omega)
  have u5 := mo_le m5
  have x5 : h.length ≤ B5 ∧ B5 < h5.length := by omega
  clear n5 w5 e5 q5 m4 u4 y4 c4 f1
  refine s_sh (p' := 33) (ls' := _) (st' := .ref 1000312 :: _) (h' := _) rfl rfl rfl rfl ?_
  refine s_callEV (p' := 36) (ls0 := [_, _]) rfl rfl rfl rfl rfl (mj_rcv_is b5.k.1) rfl (y_aS2 (m := 9) b5 (k_t312 _) (by omega) (by omega) (by first | omega | (simp only [List.length_append, List.length_cons, List.length_nil, List.nil_append]; omega)) (by decide) (fun C rs q => by cases q; omega)) (Nat.ble_eq.mpr (by omega)) rfl ?_
  rintro _ h6 ⟨rfl, B6, b6, q6, n6⟩
  have w6 := mo_le n6
  have e6 := rd_len (b6.k.2.1) b6.k.2.2.choose_spec
  have m6 : mz_mo [] 24 346 h h6 := m5.tr n6 (fun y hy => Or.inr (by first | exact absurd hy List.not_mem_nil | (simp only [List.mem_cons, List.not_mem_nil, or_false] at hy; omega))) (by omega) (by omega)
  have u6 := mo_le m6
  have x6 : h.length ≤ B6 ∧ B6 < h6.length := by omega
  clear n6 w6 e6 q6 m5 u5 x5 b5
  refine s_aldn (p' := 37) rfl rfl rfl ?_
  refine s_gf (p' := 40) rfl (m6.1 _ (by simp) _ hP) rfl rfl ?_
  have rw1 : yRow I h6 x d R1 (a + 1) m := rwP.mv ⟨m6.1, hI, fun a ha _ => ⟨List.not_mem_nil, ha⟩⟩ (fun p a b _ _ => yPt.mv ⟨m6.1, hI, fun a ha _ => ⟨List.not_mem_nil, ha⟩⟩ d p a b (fun _ _ _ _ _ => rfl)) (fun p a b => yPt.lt d p a b) r1
  refine s_callEV (p' := 43) (ls0 := [_, _, _, _]) rfl rfl rfl rfl rfl rfl rfl (hrow R1 (a + 1) m _ rw1 (by omega) (by omega) (by omega)) (Nat.ble_eq.mpr (by omega)) rfl ?_
  rintro _ h7 ⟨⟨T7, rfl, f2⟩, n7⟩
  have w7 := mo_le n7
  have c7 := b6.fr n7.1 (by simp) (by simp)
  have m7 : mz_mo [] (24 + (40 * (m - (a + 1)) + 1)) (346 + (1050 * (m - (a + 1)) + 4)) h h7 := m6.tr n7 (fun y hy => Or.inr (by first | exact absurd hy List.not_mem_nil | (simp only [List.mem_cons, List.not_mem_nil, or_false] at hy; omega))) (by omega) (by omega)
  have u7 := mo_le m7
  have y7 : h.length ≤ B6 ∧ B6 < h6.length ∧ h6.length ≤ h7.length := by omega
  clear n7 w7 m6 u6 x6 b6 rw1
  refine s_callEV (p' := 46) (ls0 := [_, _]) rfl rfl rfl rfl rfl (mj_rcv_is c7.k.1) rfl (y_aS2 (m := 60) c7 f2.1 (by omega) (by omega) (by first | omega | (simp only [List.length_append, List.length_cons, List.length_nil, List.nil_append]; omega)) (by decide) (fun C rs q => by have := f2.2.2 C rs q; omega)) (Nat.ble_eq.mpr (by omega)) rfl ?_
  rintro _ h8 ⟨rfl, B8, b8, q8, n8⟩
  have w8 := mo_le n8
  have e8 := rd_len (b8.k.2.1) b8.k.2.2.choose_spec
  have m8 : mz_mo [] ((24 + (40 * (m - (a + 1)) + 1)) + 1) ((346 + (1050 * (m - (a + 1)) + 4)) + 130) h h8 := m7.tr n8 (fun y hy => Or.inr (by first | exact absurd hy List.not_mem_nil | (simp only [List.mem_cons, List.not_mem_nil, or_false] at hy; omega))) (by omega) (by omega)
  have u8 := mo_le m8
  have x8 : h.length ≤ B8 ∧ B8 < h8.length := by omega
  clear n8 w8 e8 q8 m7 u7 y7 c7 f2
  refine s_sh (p' := 48) (ls' := _) (st' := .ref 1000314 :: _) (h' := _) rfl rfl rfl rfl ?_
  refine s_callEV (p' := 51) (ls0 := [_, _]) rfl rfl rfl rfl rfl (mj_rcv_is b8.k.1) rfl (y_aS2 (m := 60) b8 (k_t314 _) (by omega) (by omega) (by first | omega | (simp only [List.length_append, List.length_cons, List.length_nil, List.nil_append]; omega)) (by decide) (fun C rs q => by cases q; omega)) (Nat.ble_eq.mpr (by omega)) rfl ?_
  rintro _ h9 ⟨rfl, B9, b9, q9, n9⟩
  have w9 := mo_le n9
  have e9 := rd_len (b9.k.2.1) b9.k.2.2.choose_spec
  have m9 : mz_mo [] (((24 + (40 * (m - (a + 1)) + 1)) + 1) + 1) (((346 + (1050 * (m - (a + 1)) + 4)) + 130) + 130) h h9 := m8.tr n9 (fun y hy => Or.inr (by first | exact absurd hy List.not_mem_nil | (simp only [List.mem_cons, List.not_mem_nil, or_false] at hy; omega))) (by omega) (by omega)
  have u9 := mo_le m9
  have x9 : h.length ≤ B9 ∧ B9 < h9.length := by omega
  clear n9 w9 e9 q9 m8 u8 x8 b8
  refine s_aldn (p' := 52) rfl rfl rfl ?_
  refine s_gf (p' := 55) rfl (m9.1 _ (by simp) _ hP) rfl rfl ?_
  have rw2 : yRow I h9 x d R2 (m + 1) e := rwP.mv ⟨m9.1, hI, fun a ha _ => ⟨List.not_mem_nil, ha⟩⟩ (fun p a b _ _ => yPt.mv ⟨m9.1, hI, fun a ha _ => ⟨List.not_mem_nil, ha⟩⟩ d p a b (fun _ _ _ _ _ => rfl)) (fun p a b => yPt.lt d p a b) r2
  refine s_callEV (p' := 58) (ls0 := [_, _, _, _]) rfl rfl rfl rfl rfl rfl rfl (hrow R2 (m + 1) e _ rw2 (by omega) (by omega) (by omega)) (Nat.ble_eq.mpr (by omega)) rfl ?_
  rintro _ h10 ⟨⟨T10, rfl, f3⟩, n10⟩
  have w10 := mo_le n10
  have c10 := b9.fr n10.1 (by simp) (by simp)
  have m10 : mz_mo [] ((((24 + (40 * (m - (a + 1)) + 1)) + 1) + 1) + (40 * (e - (m + 1)) + 1)) ((((346 + (1050 * (m - (a + 1)) + 4)) + 130) + 130) + (1050 * (e - (m + 1)) + 4)) h h10 := m9.tr n10 (fun y hy => Or.inr (by first | exact absurd hy List.not_mem_nil | (simp only [List.mem_cons, List.not_mem_nil, or_false] at hy; omega))) (by omega) (by omega)
  have u10 := mo_le m10
  have y10 : h.length ≤ B9 ∧ B9 < h9.length ∧ h9.length ≤ h10.length := by omega
  clear n10 w10 m9 u9 x9 b9 rw2
  refine s_callEV (p' := 61) (ls0 := [_, _]) rfl rfl rfl rfl rfl (mj_rcv_is c10.k.1) rfl (y_aS2 (m := 60) c10 f3.1 (by omega) (by omega) (by first | omega | (simp only [List.length_append, List.length_cons, List.length_nil, List.nil_append]; omega)) (by decide) (fun C rs q => by have := f3.2.2 C rs q; omega)) (Nat.ble_eq.mpr (by omega)) rfl ?_
  rintro _ h11 ⟨rfl, B11, b11, q11, n11⟩
  have w11 := mo_le n11
  have e11 := rd_len (b11.k.2.1) b11.k.2.2.choose_spec
  have m11 : mz_mo [] (((((24 + (40 * (m - (a + 1)) + 1)) + 1) + 1) + (40 * (e - (m + 1)) + 1)) + 1) (((((346 + (1050 * (m - (a + 1)) + 4)) + 130) + 130) + (1050 * (e - (m + 1)) + 4)) + 130) h h11 := m10.tr n11 (fun y hy => Or.inr (by first | exact absurd hy List.not_mem_nil | (simp only [List.mem_cons, List.not_mem_nil, or_false] at hy; omega))) (by omega) (by omega)
  have u11 := mo_le m11
  have x11 : h.length ≤ B11 ∧ B11 < h11.length := by omega
  clear n11 w11 e11 q11 m10 u10 y10 c10 f3
  refine s_sh (p' := 63) (ls' := _) (st' := .ref 1000312 :: _) (h' := _) rfl rfl rfl rfl ?_
  refine s_callEV (p' := 66) (ls0 := [_, _]) rfl rfl rfl rfl rfl (mj_rcv_is b11.k.1) rfl (y_aS2 (m := 60) b11 (k_t312 _) (by omega) (by omega) (by first | omega | (simp only [List.length_append, List.length_cons, List.length_nil, List.nil_append]; omega)) (by decide) (fun C rs q => by cases q; omega)) (Nat.ble_eq.mpr (by omega)) rfl ?_
  rintro _ h12 ⟨rfl, B12, b12, q12, n12⟩
  have w12 := mo_le n12
  have e12 := rd_len (b12.k.2.1) b12.k.2.2.choose_spec
  have m12 : mz_mo [] ((((((24 + (40 * (m - (a + 1)) + 1)) + 1) + 1) + (40 * (e - (m + 1)) + 1)) + 1) + 1) ((((((346 + (1050 * (m - (a + 1)) + 4)) + 130) + 130) + (1050 * (e - (m + 1)) + 4)) + 130) + 130) h h12 := m11.tr n12 (fun y hy => Or.inr (by first | exact absurd hy List.not_mem_nil | (simp only [List.mem_cons, List.not_mem_nil, or_false] at hy; omega))) (by omega) (by omega)
  have u12 := mo_le m12
  have x12 : h.length ≤ B12 ∧ B12 < h12.length := by omega
  clear n12 w12 e12 q12 m11 u11 x11 b11
  refine s_aldn (p' := 67) rfl rfl rfl ?_
  refine s_gf (p' := 70) rfl (m12.1 _ (by simp) _ hP) rfl rfl ?_
  have su2 : ySu I h12 S2 (x e 2) (x e 3) (x e 4) := hs2.mv ⟨m12.1, hI, fun a ha _ => ⟨List.not_mem_nil, ha⟩⟩
  obtain ⟨_, _, _, _, sk2⟩ := su2.k
  refine s_callEV (p' := 73) (ls0 := [_]) rfl rfl rfl rfl rfl (mj_rcv_is sk2) rfl (y_sum su2 z3e (by omega)) (Nat.ble_eq.mpr (by omega)) rfl ?_
  rintro _ h13 ⟨⟨T13, rfl, f4⟩, n13⟩
  have w13 := mo_le n13
  have c13 := b12.fr n13.1 (by simp) (by simp)
  have m13 : mz_mo [] (((((((24 + (40 * (m - (a + 1)) + 1)) + 1) + 1) + (40 * (e - (m + 1)) + 1)) + 1) + 1) + 19) (((((((346 + (1050 * (m - (a + 1)) + 4)) + 130) + 130) + (1050 * (e - (m + 1)) + 4)) + 130) + 130) + 260) h h13 := m12.tr n13 (fun y hy => Or.inr (by first | exact absurd hy List.not_mem_nil | (simp only [List.mem_cons, List.not_mem_nil, or_false] at hy; omega))) (by omega) (by omega)
  have u13 := mo_le m13
  have y13 : h.length ≤ B12 ∧ B12 < h12.length ∧ h12.length ≤ h13.length := by omega
  clear n13 w13 m12 u12 x12 b12 su2 sk2
  refine s_callEV (p' := 76) (ls0 := [_, _]) rfl rfl rfl rfl rfl (mj_rcv_is c13.k.1) rfl (y_aS2 (m := 60) c13 f4.1 (by omega) (by omega) (by first | omega | (simp only [List.length_append, List.length_cons, List.length_nil, List.nil_append]; omega)) (by decide) (fun C rs q => by have := f4.2.2 C rs q; omega)) (Nat.ble_eq.mpr (by omega)) rfl ?_
  rintro _ h14 ⟨rfl, B14, b14, q14, n14⟩
  have w14 := mo_le n14
  have e14 := rd_len (b14.k.2.1) b14.k.2.2.choose_spec
  have m14 : mz_mo [] ((((((((24 + (40 * (m - (a + 1)) + 1)) + 1) + 1) + (40 * (e - (m + 1)) + 1)) + 1) + 1) + 19) + 1) ((((((((346 + (1050 * (m - (a + 1)) + 4)) + 130) + 130) + (1050 * (e - (m + 1)) + 4)) + 130) + 130) + 260) + 130) h h14 := m13.tr n14 (fun y hy => Or.inr (by first | exact absurd hy List.not_mem_nil | (simp only [List.mem_cons, List.not_mem_nil, or_false] at hy; omega))) (by omega) (by omega)
  have u14 := mo_le m14
  have x14 : h.length ≤ B14 ∧ B14 < h14.length := by omega
  clear n14 w14 e14 q14 m13 u13 y13 c13 f4
  refine s_aldn (p' := 77) rfl rfl rfl ?_
  refine s_gf (p' := 80) rfl (m14.1 _ (by simp) _ hP) rfl rfl ?_
  rw [h0]
  refine s_bip (p' := 82) rfl rfl ?_
  refine s_icmp (p' := 85) false rfl ((ci_ne (by decide) (by decide)).trans (decide_eq_false (by decide))) rfl ?_
  refine s_sh (p' := 87) (ls' := _) (st' := .ref 1000316 :: _) (h' := _) rfl rfl rfl rfl ?_
  refine s_goto (p' := 92) rfl rfl ?_
  refine s_callEV (p' := 95) (ls0 := [_, _]) rfl rfl rfl rfl rfl (mj_rcv_is b14.k.1) rfl (y_aS2 (m := 60) b14 (k_t316 _) (by omega) (by omega) (by first | omega | (simp only [List.length_append, List.length_cons, List.length_nil, List.nil_append]; omega)) (by decide) (fun C rs q => by cases q; omega)) (Nat.ble_eq.mpr (by omega)) rfl ?_
  rintro _ h15 ⟨rfl, B15, b15, q15, n15⟩
  have w15 := mo_le n15
  have e15 := rd_len (b15.k.2.1) b15.k.2.2.choose_spec
  have m15 : mz_mo [] (((((((((24 + (40 * (m - (a + 1)) + 1)) + 1) + 1) + (40 * (e - (m + 1)) + 1)) + 1) + 1) + 19) + 1) + 1) (((((((((346 + (1050 * (m - (a + 1)) + 4)) + 130) + 130) + (1050 * (e - (m + 1)) + 4)) + 130) + 130) + 260) + 130) + 130) h h15 := m14.tr n15 (fun y hy => Or.inr (by first | exact absurd hy List.not_mem_nil | (simp only [List.mem_cons, List.not_mem_nil, or_false] at hy; omega))) (by omega) (by omega)
  have u15 := mo_le m15
  have x15 : h.length ≤ B15 ∧ B15 < h15.length := by omega
  clear n15 w15 e15 q15 m14 u14 x14 b14
  refine s_callEV (p' := 98) (ls0 := [_]) rfl rfl rfl rfl rfl (mj_rcv_is b15.k.1) rfl (y_tS2 (m := 60) b15 (by omega) (by first | omega | (simp only [List.length_append, List.length_cons, List.length_nil, List.nil_append]; omega)) (by decide)) (Nat.ble_eq.mpr (by omega)) rfl ?_
  rintro _ h16 ⟨rfl, t16, p16, n16⟩
  have w16 := mo_le n16
  have m16 : mz_mo [] ((((((((((24 + (40 * (m - (a + 1)) + 1)) + 1) + 1) + (40 * (e - (m + 1)) + 1)) + 1) + 1) + 19) + 1) + 1) + 2) ((((((((((346 + (1050 * (m - (a + 1)) + 4)) + 130) + 130) + (1050 * (e - (m + 1)) + 4)) + 130) + 130) + 260) + 130) + 130) + 124) h h16 := m15.tr n16 (fun y hy => Or.inr (by first | exact absurd hy List.not_mem_nil | (simp only [List.mem_cons, List.not_mem_nil, or_false] at hy; omega))) (by omega) (by omega)
  have u16 := mo_le m16
  clear n16 w16 m15 x15 b15
  refine s_aret rfl ?_
  exact ⟨_, _, rfl, ⟨_, rfl, by rw [ex]; simpa only [List.append_assoc, List.cons_append, List.nil_append, List.append_nil] using t16, by omega, fun C rs q => by rw [p16 C rs q]; omega⟩, m16.wk (fun y hy => Or.inl hy) (by omega) (by omega)⟩
theorem y_br123 {I : Nat → Prop} {h : mj_H} {x : Nat → Nat → Nat} {K d D p a m e S1 S2 R1 R2 : Nat} {s1 s2 : Int32} (hD : 13 ≤ D) (hI : ∀ a, I a → a < mj_CB) (hrow : ∀ (Lr k k' : Nat) (g : mj_H), yRow I g x d Lr k k' → k' ≤ K → (pFl x (k' - k) k).length ≤ 60 → g.length + 40 * (k' - k) + 260 < mj_CB → mj_Wp D 363 (0, [some (.ref Lr), none, none, none], [], g) (mz_V fun r g' => yTf g g' r (pFl x (k' - k) k) ∧ mz_mo [] (40 * (k' - k) + 1) (1050 * (k' - k) + 4) g g')) (h0 : x a 0 = 123) (hb : bOk x a m e) (heK : e < K) (hP : mj_rd h p = some (ptC (nI (x a 0)) s1 s2 .null (.ref S1) (.ref S2) (.ref R1) (.ref R2))) (hs1 : ySu I h S1 (x a 2) (x a 3) (x a 4)) (hs2 : ySu I h S2 (x e 2) (x e 3) (x e 4)) (r1 : yRow I h x d R1 (a + 1) m) (r2 : yRow I h x d R2 (m + 1) e) (hn : (pFl x (e + 1 - a) a).length ≤ 60) (hbd : h.length + 40 * (e + 1 - a) + 300 < mj_CB) : mj_Wp (D + 1) 365 (0, [some (.ref p), none], [], h) (mz_V fun r g => yTf h g r (pFl x (e + 1 - a) a) ∧ mz_mo [] (40 * (e + 1 - a) - 8) (1050 * (e + 1 - a) - 534) h g) := by
  have m0 : mz_mo [] 0 0 h h := mz_mo.rf _ _ _ _
  have u0 := mo_le m0
  have sl1 := hs1.ok
  have sl2 := hs2.ok
  have sg := hb.1
  have g1 := rwP.le (fun p a b => yPt.lt d p a b) r1
  have g2 := rwP.le (fun p a b => yPt.lt d p a b) r2
  have z3a : x a 3 < 256 := by have := of_decide_eq_true hb.2.1.2.1; omega
  have z3e : x e 3 < 256 := by have := of_decide_eq_true hb.2.2.1.2.1; omega
  have he0 : x e 0 = 125 := by omega
  have ex := pFl_br hb (by omega) (by omega)
  rw [h0, he0] at ex
  have hn2 := hn
  rw [ex] at hn2
  simp only [List.length_append, List.length_cons, List.length_nil] at hn2
  refine s_aldn (p' := 1) rfl rfl rfl ?_
  refine s_callV (p' := 4) (ls0 := [_]) rfl rfl rfl rfl rfl (mj_rcv_is hP) rfl (y_isb (s := x a 0) (by omega) hP) (by first | decide | omega) rfl ?_
  refine s_if (p' := 7) false rfl (by rw [decide_eq_true (by omega)]; decide +kernel) rfl ?_
  refine s_newz (p' := 10) (a := h.length) rfl rfl rfl rfl ?_
  generalize hg1 : h ++ [_] = h1
  have s1 : mj_rd h1 h.length = some (.inr (20, [.null, .int (nI 0), .int (nI 0), .int (nI 0)])) := by rw [← hg1]; exact rd_nw (Nat.blt_eq.mpr (by omega)) rfl
  have l1 : h1.length = h.length + 1 := by rw [← hg1, List.length_append]; rfl
  have n1 : mz_mo [] 1 4 h h1 := by rw [← hg1]; exact mz_mo.ap [] _ _
  clear hg1
  have m1 : mz_mo [] 1 4 h h1 := m0.tr n1 (fun y hy => Or.inr (by first | exact absurd hy List.not_mem_nil | (simp only [List.mem_cons, List.not_mem_nil, or_false] at hy; omega))) (by omega) (by omega)
  have u1 := mo_le m1
  clear n1 m0
  refine s_sp (p' := 11) (ls' := _) rfl rfl rfl ?_
  refine s_callEN (p' := 14) (ls0 := [_]) rfl rfl rfl rfl rfl (mj_rcv_is s1) rfl (y_nsb (by omega) (by omega) s1) (Nat.ble_eq.mpr (by omega)) rfl ?_
  rintro h2 ⟨b2, n2⟩
  have w2 := mo_le n2
  have e2 := rd_len b2.k.2.1 b2.k.2.2.choose_spec
  have m2 : mz_mo [] 2 20 h h2 := m1.tr n2 (fun y hy => Or.inr (by first | exact absurd hy List.not_mem_nil | (simp only [List.mem_cons, List.not_mem_nil, or_false] at hy; omega))) (by omega) (by omega)
  have u2 := mo_le m2
  have x2 : h.length ≤ h1.length ∧ h1.length < h2.length := by omega
  clear n2 w2 e2 s1 m1 u1
  refine s_aldn (p' := 15) rfl rfl rfl ?_
  refine s_gf (p' := 18) rfl (m2.1 _ (by simp) _ hP) rfl rfl ?_
  rw [h0]
  refine s_callEV (p' := 21) (ls0 := [_, _]) rfl rfl rfl rfl rfl (mj_rcv_is b2.k.1) rfl (y_aC2 (m := 1) b2 (by omega) (by omega) (by first | omega | (simp only [List.length_append, List.length_cons, List.length_nil, List.nil_append]; omega)) (by decide) (by decide)) (Nat.ble_eq.mpr (by omega)) rfl ?_
  rintro _ h3 ⟨rfl, B3, b3, q3, n3⟩
  have w3 := mo_le n3
  have e3 := rd_len (b3.k.2.1) b3.k.2.2.choose_spec
  have m3 : mz_mo [] 3 32 h h3 := m2.tr n3 (fun y hy => Or.inr (by first | exact absurd hy List.not_mem_nil | (simp only [List.mem_cons, List.not_mem_nil, or_false] at hy; omega))) (by omega) (by omega)
  have u3 := mo_le m3
  have x3 : h.length ≤ B3 ∧ B3 < h3.length := by omega
  clear n3 w3 e3 q3 m2 u2 x2 b2
  refine s_aldn (p' := 22) rfl rfl rfl ?_
  refine s_gf (p' := 25) rfl (m3.1 _ (by simp) _ hP) rfl rfl ?_
  have su1 : ySu I h3 S1 (x a 2) (x a 3) (x a 4) := hs1.mv ⟨m3.1, hI, fun a ha _ => ⟨List.not_mem_nil, ha⟩⟩
  obtain ⟨_, _, _, _, sk1⟩ := su1.k
  refine s_callEV (p' := 28) (ls0 := [_]) rfl rfl rfl rfl rfl (mj_rcv_is sk1) rfl (y_sum su1 z3a (by omega)) (Nat.ble_eq.mpr (by omega)) rfl ?_
  rintro _ h4 ⟨⟨T4, rfl, f1⟩, n4⟩
  have w4 := mo_le n4
  have c4 := b3.fr n4.1 (by simp) (by simp)
  have m4 : mz_mo [] 22 292 h h4 := m3.tr n4 (fun y hy => Or.inr (by first | exact absurd hy List.not_mem_nil | (simp only [List.mem_cons, List.not_mem_nil, or_false] at hy; omega))) (by omega) (by omega)
  have u4 := mo_le m4
  have y4 : h.length ≤ B3 ∧ B3 < h3.length ∧ h3.length ≤ h4.length := by omega
  clear n4 w4 m3 u3 x3 b3 su1 sk1
  refine s_callEV (p' := 31) (ls0 := [_, _]) rfl rfl rfl rfl rfl (mj_rcv_is c4.k.1) rfl (y_aS2 (m := 8) c4 f1.1 (by omega) (by omega) (by first | omega | (simp only [List.length_append, List.length_cons, List.length_nil, List.nil_append]; omega)) (by decide) (fun C rs q => by have := f1.2.2 C rs q; omega)) (Nat.ble_eq.mpr (by omega)) rfl ?_
  rintro _ h5 ⟨rfl, B5, b5, q5, n5⟩
  have w5 := mo_le n5
  have e5 := rd_len (b5.k.2.1) b5.k.2.2.choose_spec
  have m5 : mz_mo [] 23 318 h h5 := m4.tr n5 (fun y hy => Or.inr (by first | exact absurd hy List.not_mem_nil | (simp only [List.mem_cons, List.not_mem_nil, or_false] at hy; omega))) (by omega) (by omega)
  have u5 := mo_le m5
  have x5 : h.length ≤ B5 ∧ B5 < h5.length := by omega
  clear n5 w5 e5 q5 m4 u4 y4 c4 f1
  refine s_sh (p' := 33) (ls' := _) (st' := .ref 1000312 :: _) (h' := _) rfl rfl rfl rfl ?_
  refine s_callEV (p' := 36) (ls0 := [_, _]) rfl rfl rfl rfl rfl (mj_rcv_is b5.k.1) rfl (y_aS2 (m := 9) b5 (k_t312 _) (by omega) (by omega) (by first | omega | (simp only [List.length_append, List.length_cons, List.length_nil, List.nil_append]; omega)) (by decide) (fun C rs q => by cases q; omega)) (Nat.ble_eq.mpr (by omega)) rfl ?_
  rintro _ h6 ⟨rfl, B6, b6, q6, n6⟩
  have w6 := mo_le n6
  have e6 := rd_len (b6.k.2.1) b6.k.2.2.choose_spec
  have m6 : mz_mo [] 24 346 h h6 := m5.tr n6 (fun y hy => Or.inr (by first | exact absurd hy List.not_mem_nil | (simp only [List.mem_cons, List.not_mem_nil, or_false] at hy; omega))) (by omega) (by omega)
  have u6 := mo_le m6
  have x6 : h.length ≤ B6 ∧ B6 < h6.length := by omega
  clear n6 w6 e6 q6 m5 u5 x5 b5
  refine s_aldn (p' := 37) rfl rfl rfl ?_
  refine s_gf (p' := 40) rfl (m6.1 _ (by simp) _ hP) rfl rfl ?_
  have rw1 : yRow I h6 x d R1 (a + 1) m := rwP.mv ⟨m6.1, hI, fun a ha _ => ⟨List.not_mem_nil, ha⟩⟩ (fun p a b _ _ => yPt.mv ⟨m6.1, hI, fun a ha _ => ⟨List.not_mem_nil, ha⟩⟩ d p a b (fun _ _ _ _ _ => rfl)) (fun p a b => yPt.lt d p a b) r1
  refine s_callEV (p' := 43) (ls0 := [_, _, _, _]) rfl rfl rfl rfl rfl rfl rfl (hrow R1 (a + 1) m _ rw1 (by omega) (by omega) (by omega)) (Nat.ble_eq.mpr (by omega)) rfl ?_
  rintro _ h7 ⟨⟨T7, rfl, f2⟩, n7⟩
  have w7 := mo_le n7
  have c7 := b6.fr n7.1 (by simp) (by simp)
  have m7 : mz_mo [] (24 + (40 * (m - (a + 1)) + 1)) (346 + (1050 * (m - (a + 1)) + 4)) h h7 := m6.tr n7 (fun y hy => Or.inr (by first | exact absurd hy List.not_mem_nil | (simp only [List.mem_cons, List.not_mem_nil, or_false] at hy; omega))) (by omega) (by omega)
  have u7 := mo_le m7
  have y7 : h.length ≤ B6 ∧ B6 < h6.length ∧ h6.length ≤ h7.length := by omega
  clear n7 w7 m6 u6 x6 b6 rw1
  refine s_callEV (p' := 46) (ls0 := [_, _]) rfl rfl rfl rfl rfl (mj_rcv_is c7.k.1) rfl (y_aS2 (m := 60) c7 f2.1 (by omega) (by omega) (by first | omega | (simp only [List.length_append, List.length_cons, List.length_nil, List.nil_append]; omega)) (by decide) (fun C rs q => by have := f2.2.2 C rs q; omega)) (Nat.ble_eq.mpr (by omega)) rfl ?_
  rintro _ h8 ⟨rfl, B8, b8, q8, n8⟩
  have w8 := mo_le n8
  have e8 := rd_len (b8.k.2.1) b8.k.2.2.choose_spec
  have m8 : mz_mo [] ((24 + (40 * (m - (a + 1)) + 1)) + 1) ((346 + (1050 * (m - (a + 1)) + 4)) + 130) h h8 := m7.tr n8 (fun y hy => Or.inr (by first | exact absurd hy List.not_mem_nil | (simp only [List.mem_cons, List.not_mem_nil, or_false] at hy; omega))) (by omega) (by omega)
  have u8 := mo_le m8
  have x8 : h.length ≤ B8 ∧ B8 < h8.length := by omega
  clear n8 w8 e8 q8 m7 u7 y7 c7 f2
  refine s_sh (p' := 48) (ls' := _) (st' := .ref 1000314 :: _) (h' := _) rfl rfl rfl rfl ?_
  refine s_callEV (p' := 51) (ls0 := [_, _]) rfl rfl rfl rfl rfl (mj_rcv_is b8.k.1) rfl (y_aS2 (m := 60) b8 (k_t314 _) (by omega) (by omega) (by first | omega | (simp only [List.length_append, List.length_cons, List.length_nil, List.nil_append]; omega)) (by decide) (fun C rs q => by cases q; omega)) (Nat.ble_eq.mpr (by omega)) rfl ?_
  rintro _ h9 ⟨rfl, B9, b9, q9, n9⟩
  have w9 := mo_le n9
  have e9 := rd_len (b9.k.2.1) b9.k.2.2.choose_spec
  have m9 : mz_mo [] (((24 + (40 * (m - (a + 1)) + 1)) + 1) + 1) (((346 + (1050 * (m - (a + 1)) + 4)) + 130) + 130) h h9 := m8.tr n9 (fun y hy => Or.inr (by first | exact absurd hy List.not_mem_nil | (simp only [List.mem_cons, List.not_mem_nil, or_false] at hy; omega))) (by omega) (by omega)
  have u9 := mo_le m9
  have x9 : h.length ≤ B9 ∧ B9 < h9.length := by omega
  clear n9 w9 e9 q9 m8 u8 x8 b8
  refine s_aldn (p' := 52) rfl rfl rfl ?_
  refine s_gf (p' := 55) rfl (m9.1 _ (by simp) _ hP) rfl rfl ?_
  have rw2 : yRow I h9 x d R2 (m + 1) e := rwP.mv ⟨m9.1, hI, fun a ha _ => ⟨List.not_mem_nil, ha⟩⟩ (fun p a b _ _ => yPt.mv ⟨m9.1, hI, fun a ha _ => ⟨List.not_mem_nil, ha⟩⟩ d p a b (fun _ _ _ _ _ => rfl)) (fun p a b => yPt.lt d p a b) r2
  refine s_callEV (p' := 58) (ls0 := [_, _, _, _]) rfl rfl rfl rfl rfl rfl rfl (hrow R2 (m + 1) e _ rw2 (by omega) (by omega) (by omega)) (Nat.ble_eq.mpr (by omega)) rfl ?_
  rintro _ h10 ⟨⟨T10, rfl, f3⟩, n10⟩
  have w10 := mo_le n10
  have c10 := b9.fr n10.1 (by simp) (by simp)
  have m10 : mz_mo [] ((((24 + (40 * (m - (a + 1)) + 1)) + 1) + 1) + (40 * (e - (m + 1)) + 1)) ((((346 + (1050 * (m - (a + 1)) + 4)) + 130) + 130) + (1050 * (e - (m + 1)) + 4)) h h10 := m9.tr n10 (fun y hy => Or.inr (by first | exact absurd hy List.not_mem_nil | (simp only [List.mem_cons, List.not_mem_nil, or_false] at hy; omega))) (by omega) (by omega)
  have u10 := mo_le m10
  have y10 : h.length ≤ B9 ∧ B9 < h9.length ∧ h9.length ≤ h10.length := by omega
  clear n10 w10 m9 u9 x9 b9 rw2
  refine s_callEV (p' := 61) (ls0 := [_, _]) rfl rfl rfl rfl rfl (mj_rcv_is c10.k.1) rfl (y_aS2 (m := 60) c10 f3.1 (by omega) (by omega) (by first | omega | (simp only [List.length_append, List.length_cons, List.length_nil, List.nil_append]; omega)) (by decide) (fun C rs q => by have := f3.2.2 C rs q; omega)) (Nat.ble_eq.mpr (by omega)) rfl ?_
  rintro _ h11 ⟨rfl, B11, b11, q11, n11⟩
  have w11 := mo_le n11
  have e11 := rd_len (b11.k.2.1) b11.k.2.2.choose_spec
  have m11 : mz_mo [] (((((24 + (40 * (m - (a + 1)) + 1)) + 1) + 1) + (40 * (e - (m + 1)) + 1)) + 1) (((((346 + (1050 * (m - (a + 1)) + 4)) + 130) + 130) + (1050 * (e - (m + 1)) + 4)) + 130) h h11 := m10.tr n11 (fun y hy => Or.inr (by first | exact absurd hy List.not_mem_nil | (simp only [List.mem_cons, List.not_mem_nil, or_false] at hy; omega))) (by omega) (by omega)
  have u11 := mo_le m11
  have x11 : h.length ≤ B11 ∧ B11 < h11.length := by omega
  clear n11 w11 e11 q11 m10 u10 y10 c10 f3
  refine s_sh (p' := 63) (ls' := _) (st' := .ref 1000312 :: _) (h' := _) rfl rfl rfl rfl ?_
  refine s_callEV (p' := 66) (ls0 := [_, _]) rfl rfl rfl rfl rfl (mj_rcv_is b11.k.1) rfl (y_aS2 (m := 60) b11 (k_t312 _) (by omega) (by omega) (by first | omega | (simp only [List.length_append, List.length_cons, List.length_nil, List.nil_append]; omega)) (by decide) (fun C rs q => by cases q; omega)) (Nat.ble_eq.mpr (by omega)) rfl ?_
  rintro _ h12 ⟨rfl, B12, b12, q12, n12⟩
  have w12 := mo_le n12
  have e12 := rd_len (b12.k.2.1) b12.k.2.2.choose_spec
  have m12 : mz_mo [] ((((((24 + (40 * (m - (a + 1)) + 1)) + 1) + 1) + (40 * (e - (m + 1)) + 1)) + 1) + 1) ((((((346 + (1050 * (m - (a + 1)) + 4)) + 130) + 130) + (1050 * (e - (m + 1)) + 4)) + 130) + 130) h h12 := m11.tr n12 (fun y hy => Or.inr (by first | exact absurd hy List.not_mem_nil | (simp only [List.mem_cons, List.not_mem_nil, or_false] at hy; omega))) (by omega) (by omega)
  have u12 := mo_le m12
  have x12 : h.length ≤ B12 ∧ B12 < h12.length := by omega
  clear n12 w12 e12 q12 m11 u11 x11 b11
  refine s_aldn (p' := 67) rfl rfl rfl ?_
  refine s_gf (p' := 70) rfl (m12.1 _ (by simp) _ hP) rfl rfl ?_
  have su2 : ySu I h12 S2 (x e 2) (x e 3) (x e 4) := hs2.mv ⟨m12.1, hI, fun a ha _ => ⟨List.not_mem_nil, ha⟩⟩
  obtain ⟨_, _, _, _, sk2⟩ := su2.k
  refine s_callEV (p' := 73) (ls0 := [_]) rfl rfl rfl rfl rfl (mj_rcv_is sk2) rfl (y_sum su2 z3e (by omega)) (Nat.ble_eq.mpr (by omega)) rfl ?_
  rintro _ h13 ⟨⟨T13, rfl, f4⟩, n13⟩
  have w13 := mo_le n13
  have c13 := b12.fr n13.1 (by simp) (by simp)
  have m13 : mz_mo [] (((((((24 + (40 * (m - (a + 1)) + 1)) + 1) + 1) + (40 * (e - (m + 1)) + 1)) + 1) + 1) + 19) (((((((346 + (1050 * (m - (a + 1)) + 4)) + 130) + 130) + (1050 * (e - (m + 1)) + 4)) + 130) + 130) + 260) h h13 := m12.tr n13 (fun y hy => Or.inr (by first | exact absurd hy List.not_mem_nil | (simp only [List.mem_cons, List.not_mem_nil, or_false] at hy; omega))) (by omega) (by omega)
  have u13 := mo_le m13
  have y13 : h.length ≤ B12 ∧ B12 < h12.length ∧ h12.length ≤ h13.length := by omega
  clear n13 w13 m12 u12 x12 b12 su2 sk2
  refine s_callEV (p' := 76) (ls0 := [_, _]) rfl rfl rfl rfl rfl (mj_rcv_is c13.k.1) rfl (y_aS2 (m := 60) c13 f4.1 (by omega) (by omega) (by first | omega | (simp only [List.length_append, List.length_cons, List.length_nil, List.nil_append]; omega)) (by decide) (fun C rs q => by have := f4.2.2 C rs q; omega)) (Nat.ble_eq.mpr (by omega)) rfl ?_
  rintro _ h14 ⟨rfl, B14, b14, q14, n14⟩
  have w14 := mo_le n14
  have e14 := rd_len (b14.k.2.1) b14.k.2.2.choose_spec
  have m14 : mz_mo [] ((((((((24 + (40 * (m - (a + 1)) + 1)) + 1) + 1) + (40 * (e - (m + 1)) + 1)) + 1) + 1) + 19) + 1) ((((((((346 + (1050 * (m - (a + 1)) + 4)) + 130) + 130) + (1050 * (e - (m + 1)) + 4)) + 130) + 130) + 260) + 130) h h14 := m13.tr n14 (fun y hy => Or.inr (by first | exact absurd hy List.not_mem_nil | (simp only [List.mem_cons, List.not_mem_nil, or_false] at hy; omega))) (by omega) (by omega)
  have u14 := mo_le m14
  have x14 : h.length ≤ B14 ∧ B14 < h14.length := by omega
  clear n14 w14 e14 q14 m13 u13 y13 c13 f4
  refine s_aldn (p' := 77) rfl rfl rfl ?_
  refine s_gf (p' := 80) rfl (m14.1 _ (by simp) _ hP) rfl rfl ?_
  rw [h0]
  refine s_bip (p' := 82) rfl rfl ?_
  refine s_icmp (p' := 90) true rfl ((ci_ne (by decide) (by decide)).trans (decide_eq_true (by decide))) rfl ?_
  refine s_sh (p' := 92) (ls' := _) (st' := .ref 1000318 :: _) (h' := _) rfl rfl rfl rfl ?_
  refine s_callEV (p' := 95) (ls0 := [_, _]) rfl rfl rfl rfl rfl (mj_rcv_is b14.k.1) rfl (y_aS2 (m := 60) b14 (k_t318 _) (by omega) (by omega) (by first | omega | (simp only [List.length_append, List.length_cons, List.length_nil, List.nil_append]; omega)) (by decide) (fun C rs q => by cases q; omega)) (Nat.ble_eq.mpr (by omega)) rfl ?_
  rintro _ h15 ⟨rfl, B15, b15, q15, n15⟩
  have w15 := mo_le n15
  have e15 := rd_len (b15.k.2.1) b15.k.2.2.choose_spec
  have m15 : mz_mo [] (((((((((24 + (40 * (m - (a + 1)) + 1)) + 1) + 1) + (40 * (e - (m + 1)) + 1)) + 1) + 1) + 19) + 1) + 1) (((((((((346 + (1050 * (m - (a + 1)) + 4)) + 130) + 130) + (1050 * (e - (m + 1)) + 4)) + 130) + 130) + 260) + 130) + 130) h h15 := m14.tr n15 (fun y hy => Or.inr (by first | exact absurd hy List.not_mem_nil | (simp only [List.mem_cons, List.not_mem_nil, or_false] at hy; omega))) (by omega) (by omega)
  have u15 := mo_le m15
  have x15 : h.length ≤ B15 ∧ B15 < h15.length := by omega
  clear n15 w15 e15 q15 m14 u14 x14 b14
  refine s_callEV (p' := 98) (ls0 := [_]) rfl rfl rfl rfl rfl (mj_rcv_is b15.k.1) rfl (y_tS2 (m := 60) b15 (by omega) (by first | omega | (simp only [List.length_append, List.length_cons, List.length_nil, List.nil_append]; omega)) (by decide)) (Nat.ble_eq.mpr (by omega)) rfl ?_
  rintro _ h16 ⟨rfl, t16, p16, n16⟩
  have w16 := mo_le n16
  have m16 : mz_mo [] ((((((((((24 + (40 * (m - (a + 1)) + 1)) + 1) + 1) + (40 * (e - (m + 1)) + 1)) + 1) + 1) + 19) + 1) + 1) + 2) ((((((((((346 + (1050 * (m - (a + 1)) + 4)) + 130) + 130) + (1050 * (e - (m + 1)) + 4)) + 130) + 130) + 260) + 130) + 130) + 124) h h16 := m15.tr n16 (fun y hy => Or.inr (by first | exact absurd hy List.not_mem_nil | (simp only [List.mem_cons, List.not_mem_nil, or_false] at hy; omega))) (by omega) (by omega)
  have u16 := mo_le m16
  clear n16 w16 m15 x15 b15
  refine s_aret rfl ?_
  exact ⟨_, _, rfl, ⟨_, rfl, by rw [ex]; simpa only [List.append_assoc, List.cons_append, List.nil_append, List.append_nil] using t16, by omega, fun C rs q => by rw [p16 C rs q]; omega⟩, m16.wk (fun y hy => Or.inl hy) (by omega) (by omega)⟩
