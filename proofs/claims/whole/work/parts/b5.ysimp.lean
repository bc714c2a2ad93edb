/-! The reference: texts of statements. -/
theorem y_pt64 {I : Nat → Prop} {h : mj_H} {p : Nat} {A : Nat → Nat} {bb : Int32} {vv : Value} (hI : ∀ a, I a → a < mj_CB) (hP : mj_rd h p = some (ptC (nI (A 0)) (nI (A 1)) bb vv .null .null .null .null)) (hb : h.length + 200 < mj_CB) (h0 : A 0 = 64) (h1 : A 1 < 6)  : mj_Wp 14 365 (0, [some (.ref p), none], [], h) (mz_V fun r g => yTf h g r ([64] ++ pNum (A 1)) ∧ mz_mo [] 32 500 h g) := by
  have m0 : mz_mo [] 0 0 h h := mz_mo.rf _ _ _ _
  have u0 := mo_le m0
  have pn := pNum_1 (t := A 1) (by omega)
  have pl : (pNum (A 1)).length = 1 := by rw [pn]; rfl
  refine s_aldn (p' := 1) rfl rfl rfl ?_
  refine s_callV (p' := 4) (ls0 := [_]) rfl rfl rfl rfl rfl (mj_rcv_is hP) rfl (y_isb (s := A 0) (by omega) hP) (by first | decide | omega) rfl ?_
  refine s_if (p' := 99) true rfl (by rw [decide_eq_false (by omega)]; decide +kernel) rfl ?_
  refine s_newz (p' := 102) (a := h.length) rfl rfl rfl rfl ?_
  generalize hg1 : h ++ [_] = h1
  have s1 : mj_rd h1 h.length = some (.inr (20, [.null, .int (nI 0), .int (nI 0), .int (nI 0)])) := by rw [← hg1]; exact rd_nw (Nat.blt_eq.mpr (by omega)) rfl
  have l1 : h1.length = h.length + 1 := by rw [← hg1, List.length_append]; rfl
  have n1 : mz_mo [] 1 4 h h1 := by rw [← hg1]; exact mz_mo.ap [] _ _
  clear hg1
  have m1 : mz_mo [] 1 4 h h1 := m0.tr n1 (fun y hy => Or.inr (by first | exact absurd hy List.not_mem_nil | (simp only [List.mem_cons, List.not_mem_nil, or_false] at hy; omega))) (by omega) (by omega)
  have u1 := mo_le m1
  clear n1 m0
  refine s_sp (p' := 103) (ls' := _) rfl rfl rfl ?_
  refine s_callEN (p' := 106) (ls0 := [_]) rfl rfl rfl rfl rfl (mj_rcv_is s1) rfl (y_nsb (by omega) (by omega) s1) (Nat.ble_eq.mpr (by omega)) rfl ?_
  rintro h2 ⟨b2, n2⟩
  have w2 := mo_le n2
  have e2 := rd_len b2.k.2.1 b2.k.2.2.choose_spec
  have m2 : mz_mo [] 2 20 h h2 := m1.tr n2 (fun y hy => Or.inr (by first | exact absurd hy List.not_mem_nil | (simp only [List.mem_cons, List.not_mem_nil, or_false] at hy; omega))) (by omega) (by omega)
  have u2 := mo_le m2
  have x2 : h.length ≤ h1.length ∧ h1.length < h2.length := by omega
  clear n2 w2 e2 s1 m1 u1
  refine s_sh (p' := 108) (ls' := _) (st' := .ref 1000300 :: _) (h' := _) rfl rfl rfl rfl ?_
  refine s_callEV (p' := 111) (ls0 := [_, _]) rfl rfl rfl rfl rfl (mj_rcv_is b2.k.1) rfl (y_aS2 (m := 0) b2 (k_e _) (by omega) (by omega) (by first | omega | (simp only [List.length_append, List.length_cons, List.length_nil, List.nil_append]; omega)) (by decide) (fun C rs q => by cases q; omega)) (Nat.ble_eq.mpr (by omega)) rfl ?_
  rintro _ h3 ⟨rfl, B3, b3, q3, n3⟩
  have w3 := mo_le n3
  have e3 := rd_len (b3.k.2.1) b3.k.2.2.choose_spec
  have m3 : mz_mo [] 3 30 h h3 := m2.tr n3 (fun y hy => Or.inr (by first | exact absurd hy List.not_mem_nil | (simp only [List.mem_cons, List.not_mem_nil, or_false] at hy; omega))) (by omega) (by omega)
  have u3 := mo_le m3
  have x3 : h.length ≤ B3 ∧ B3 < h3.length := by omega
  clear n3 w3 e3 q3 m2 u2 x2 b2
  refine s_bip (p' := 113) rfl rfl ?_
  refine s_aldn (p' := 114) rfl rfl rfl ?_
  refine s_gf (p' := 117) rfl (m3.1 _ (by simp) _ hP) rfl rfl ?_
  refine s_sp (p' := 118) (ls' := _) rfl rfl rfl ?_
  rw [mI_add]
  refine s_sp (p' := 119) (ls' := _) rfl rfl rfl ?_
  rw [i2c_n (by omega)]
  refine s_callEV (p' := 122) (ls0 := [_, _]) rfl rfl rfl rfl rfl (mj_rcv_is b3.k.1) rfl (y_aC2 (m := 1) b3 (by omega) (by omega) (by first | omega | (simp only [List.length_append, List.length_cons, List.length_nil, List.nil_append]; omega)) (by decide) (by omega)) (Nat.ble_eq.mpr (by omega)) rfl ?_
  rintro _ h4 ⟨rfl, B4, b4, q4, n4⟩
  have w4 := mo_le n4
  have e4 := rd_len (b4.k.2.1) b4.k.2.2.choose_spec
  have m4 : mz_mo [] 4 42 h h4 := m3.tr n4 (fun y hy => Or.inr (by first | exact absurd hy List.not_mem_nil | (simp only [List.mem_cons, List.not_mem_nil, or_false] at hy; omega))) (by omega) (by omega)
  have u4 := mo_le m4
  have x4 : h.length ≤ B4 ∧ B4 < h4.length := by omega
  clear n4 w4 e4 q4 m3 u3 x3 b3
  refine s_callEV (p' := 125) (ls0 := [_]) rfl rfl rfl rfl rfl (mj_rcv_is b4.k.1) rfl (y_tS2 (m := 1) b4 (by omega) (by first | omega | (simp only [List.length_append, List.length_cons, List.length_nil, List.nil_append]; omega)) (by decide)) (Nat.ble_eq.mpr (by omega)) rfl ?_
  rintro _ h5 ⟨rfl, t5, p5, n5⟩
  have w5 := mo_le n5
  have m5 : mz_mo [] 6 48 h h5 := m4.tr n5 (fun y hy => Or.inr (by first | exact absurd hy List.not_mem_nil | (simp only [List.mem_cons, List.not_mem_nil, or_false] at hy; omega))) (by omega) (by omega)
  have u5 := mo_le m5
  clear n5 w5 m4 x4 b4
  have a5 : mz_mo [] 0 0 h5 h5 := mz_mo.rf _ _ _ _
  refine s_astn (p' := 126) (ls' := [_, _]) rfl rfl rfl rfl ?_
  refine s_aldn (p' := 127) rfl rfl rfl ?_
  refine s_gf (p' := 130) rfl (m5.1 _ (by simp) _ hP) rfl rfl ?_
  rw [h0]
  refine s_bip (p' := 132) rfl rfl ?_
  refine s_icmp (p' := 144) true rfl ((ci_eq (by decide) (by decide)).trans (decide_eq_true (by decide))) rfl ?_
  refine s_newz (p' := 147) (a := h5.length) rfl rfl rfl rfl ?_
  generalize hg6 : h5 ++ [_] = h6
  have s6 : mj_rd h6 h5.length = some (.inr (20, [.null, .int (nI 0), .int (nI 0), .int (nI 0)])) := by rw [← hg6]; exact rd_nw (Nat.blt_eq.mpr (by omega)) rfl
  have l6 : h6.length = h5.length + 1 := by rw [← hg6, List.length_append]; rfl
  have n6 : mz_mo [] 1 4 h5 h6 := by rw [← hg6]; exact mz_mo.ap [] _ _
  clear hg6
  have m6 : mz_mo [] 7 52 h h6 := m5.tr n6 (fun y hy => Or.inr (by first | exact absurd hy List.not_mem_nil | (simp only [List.mem_cons, List.not_mem_nil, or_false] at hy; omega))) (by omega) (by omega)
  have a6 : mz_mo [] 1 4 h5 h6 := a5.tr n6 (fun y hy => Or.inr (by first | exact absurd hy List.not_mem_nil | (simp only [List.mem_cons, List.not_mem_nil, or_false] at hy; omega))) (by omega) (by omega)
  have u6 := mo_le m6
  clear n6 m5 a5
  refine s_sp (p' := 148) (ls' := _) rfl rfl rfl ?_
  refine s_callEN (p' := 151) (ls0 := [_]) rfl rfl rfl rfl rfl (mj_rcv_is s6) rfl (y_nsb (by omega) (by omega) s6) (Nat.ble_eq.mpr (by omega)) rfl ?_
  rintro h7 ⟨b7, n7⟩
  have w7 := mo_le n7
  have e7 := rd_len b7.k.2.1 b7.k.2.2.choose_spec
  have m7 : mz_mo [] 8 68 h h7 := m6.tr n7 (fun y hy => Or.inr (by first | exact absurd hy List.not_mem_nil | (simp only [List.mem_cons, List.not_mem_nil, or_false] at hy; omega))) (by omega) (by omega)
  have a7 : mz_mo [] 2 20 h5 h7 := a6.tr n7 (fun y hy => Or.inr (by first | exact absurd hy List.not_mem_nil | (simp only [List.mem_cons, List.not_mem_nil, or_false] at hy; omega))) (by omega) (by omega)
  have u7 := mo_le m7
  have x7 : h5.length ≤ h6.length ∧ h6.length < h7.length := by omega
  clear n7 w7 e7 s6 m6 a6 u6
  refine s_sh (p' := 153) (ls' := _) (st' := .ref 1000300 :: _) (h' := _) rfl rfl rfl rfl ?_
  refine s_callEV (p' := 156) (ls0 := [_, _]) rfl rfl rfl rfl rfl (mj_rcv_is b7.k.1) rfl (y_aS2 (m := 0) b7 (k_e _) (by omega) (by omega) (by first | omega | (simp only [List.length_append, List.length_cons, List.length_nil, List.nil_append]; omega)) (by decide) (fun C rs q => by cases q; omega)) (Nat.ble_eq.mpr (by omega)) rfl ?_
  rintro _ h8 ⟨rfl, B8, b8, q8, n8⟩
  have w8 := mo_le n8
  have e8 := rd_len (b8.k.2.1) b8.k.2.2.choose_spec
  have m8 : mz_mo [] 9 78 h h8 := m7.tr n8 (fun y hy => Or.inr (by first | exact absurd hy List.not_mem_nil | (simp only [List.mem_cons, List.not_mem_nil, or_false] at hy; omega))) (by omega) (by omega)
  have a8 : mz_mo [] 3 30 h5 h8 := a7.tr n8 (fun y hy => Or.inr (by first | exact absurd hy List.not_mem_nil | (simp only [List.mem_cons, List.not_mem_nil, or_false] at hy; omega))) (by omega) (by omega)
  have u8 := mo_le m8
  have x8 : h5.length ≤ B8 ∧ B8 < h8.length := by omega
  clear n8 w8 e8 q8 m7 a7 u7 x7 b7
  refine s_aldn (p' := 157) rfl rfl rfl ?_
  refine s_gf (p' := 160) rfl (m8.1 _ (by simp) _ hP) rfl rfl ?_
  rw [h0]
  refine s_callEV (p' := 163) (ls0 := [_, _]) rfl rfl rfl rfl rfl (mj_rcv_is b8.k.1) rfl (y_aC2 (m := 1) b8 (by omega) (by omega) (by first | omega | (simp only [List.length_append, List.length_cons, List.length_nil, List.nil_append]; omega)) (by decide) (by decide)) (Nat.ble_eq.mpr (by omega)) rfl ?_
  rintro _ h9 ⟨rfl, B9, b9, q9, n9⟩
  have w9 := mo_le n9
  have e9 := rd_len (b9.k.2.1) b9.k.2.2.choose_spec
  have m9 : mz_mo [] 10 90 h h9 := m8.tr n9 (fun y hy => Or.inr (by first | exact absurd hy List.not_mem_nil | (simp only [List.mem_cons, List.not_mem_nil, or_false] at hy; omega))) (by omega) (by omega)
  have a9 : mz_mo [] 4 42 h5 h9 := a8.tr n9 (fun y hy => Or.inr (by first | exact absurd hy List.not_mem_nil | (simp only [List.mem_cons, List.not_mem_nil, or_false] at hy; omega))) (by omega) (by omega)
  have u9 := mo_le m9
  have x9 : h5.length ≤ B9 ∧ B9 < h9.length := by omega
  clear n9 w9 e9 q9 m8 a8 u8 x8 b8
  refine s_aldn (p' := 164) rfl rfl rfl ?_
  refine s_gf (p' := 167) rfl (m9.1 _ (by simp) _ hP) rfl rfl ?_
  refine s_callEV (p' := 170) (ls0 := [_, _]) rfl rfl rfl rfl rfl (mj_rcv_is b9.k.1) rfl (y_aI2 (m := 4) b9 (by omega) (by omega) (by first | omega | (simp only [List.length_append, List.length_cons, List.length_nil, List.nil_append]; omega)) (by decide) (by omega)) (Nat.ble_eq.mpr (by omega)) rfl ?_
  rintro _ h10 ⟨rfl, B10, b10, q10, n10⟩
  have w10 := mo_le n10
  have e10 := rd_len (b10.k.2.1) b10.k.2.2.choose_spec
  have m10 : mz_mo [] 11 108 h h10 := m9.tr n10 (fun y hy => Or.inr (by first | exact absurd hy List.not_mem_nil | (simp only [List.mem_cons, List.not_mem_nil, or_false] at hy; omega))) (by omega) (by omega)
  have a10 : mz_mo [] 5 60 h5 h10 := a9.tr n10 (fun y hy => Or.inr (by first | exact absurd hy List.not_mem_nil | (simp only [List.mem_cons, List.not_mem_nil, or_false] at hy; omega))) (by omega) (by omega)
  have u10 := mo_le m10
  have x10 : h5.length ≤ B10 ∧ B10 < h10.length := by omega
  clear n10 w10 e10 q10 m9 a9 u9 x9 b9
  refine s_callEV (p' := 173) (ls0 := [_]) rfl rfl rfl rfl rfl (mj_rcv_is b10.k.1) rfl (y_tS2 (m := 4) b10 (by omega) (by first | omega | (simp only [List.length_append, List.length_cons, List.length_nil, List.nil_append]; omega)) (by decide)) (Nat.ble_eq.mpr (by omega)) rfl ?_
  rintro _ h11 ⟨rfl, t11, p11, n11⟩
  have w11 := mo_le n11
  have m11 : mz_mo [] 13 120 h h11 := m10.tr n11 (fun y hy => Or.inr (by first | exact absurd hy List.not_mem_nil | (simp only [List.mem_cons, List.not_mem_nil, or_false] at hy; omega))) (by omega) (by omega)
  have a11 : mz_mo [] 7 72 h5 h11 := a10.tr n11 (fun y hy => Or.inr (by first | exact absurd hy List.not_mem_nil | (simp only [List.mem_cons, List.not_mem_nil, or_false] at hy; omega))) (by omega) (by omega)
  have u11 := mo_le m11
  clear n11 w11 m10 a10 x10 b10
  refine s_aret rfl ?_
  exact ⟨_, _, rfl, ⟨_, rfl, by simpa only [List.append_assoc, List.cons_append, List.nil_append, List.append_nil] using t11, by omega, fun C rs q => by rw [p11 C rs q]; omega⟩, m11.wk (fun y hy => Or.inl hy) (by omega) (by omega)⟩
theorem y_pt36 {I : Nat → Prop} {h : mj_H} {p : Nat} {A : Nat → Nat} {bb : Int32} {vv : Value} (hI : ∀ a, I a → a < mj_CB) (hP : mj_rd h p = some (ptC (nI (A 0)) (nI (A 1)) bb vv .null .null .null .null)) (hb : h.length + 200 < mj_CB) (h0 : A 0 = 36) (h1 : A 1 < 6)  : mj_Wp 14 365 (0, [some (.ref p), none], [], h) (mz_V fun r g => yTf h g r ([36] ++ pNum (A 1)) ∧ mz_mo [] 32 500 h g) := by
  have m0 : mz_mo [] 0 0 h h := mz_mo.rf _ _ _ _
  have u0 := mo_le m0
  have pn := pNum_1 (t := A 1) (by omega)
  have pl : (pNum (A 1)).length = 1 := by rw [pn]; rfl
  refine s_aldn (p' := 1) rfl rfl rfl ?_
  refine s_callV (p' := 4) (ls0 := [_]) rfl rfl rfl rfl rfl (mj_rcv_is hP) rfl (y_isb (s := A 0) (by omega) hP) (by first | decide | omega) rfl ?_
  refine s_if (p' := 99) true rfl (by rw [decide_eq_false (by omega)]; decide +kernel) rfl ?_
  refine s_newz (p' := 102) (a := h.length) rfl rfl rfl rfl ?_
  generalize hg1 : h ++ [_] = h1
  have s1 : mj_rd h1 h.length = some (.inr (20, [.null, .int (nI 0), .int (nI 0), .int (nI 0)])) := by rw [← hg1]; exact rd_nw (Nat.blt_eq.mpr (by omega)) rfl
  have l1 : h1.length = h.length + 1 := by rw [← hg1, List.length_append]; rfl
  have n1 : mz_mo [] 1 4 h h1 := by rw [← hg1]; exact mz_mo.ap [] _ _
  clear hg1
  have m1 : mz_mo [] 1 4 h h1 := m0.tr n1 (fun y hy => Or.inr (by first | exact absurd hy List.not_mem_nil | (simp only [List.mem_cons, List.not_mem_nil, or_false] at hy; omega))) (by omega) (by omega)
  have u1 := mo_le m1
  clear n1 m0
  refine s_sp (p' := 103) (ls' := _) rfl rfl rfl ?_
  refine s_callEN (p' := 106) (ls0 := [_]) rfl rfl rfl rfl rfl (mj_rcv_is s1) rfl (y_nsb (by omega) (by omega) s1) (Nat.ble_eq.mpr (by omega)) rfl ?_
  rintro h2 ⟨b2, n2⟩
  have w2 := mo_le n2
  have e2 := rd_len b2.k.2.1 b2.k.2.2.choose_spec
  have m2 : mz_mo [] 2 20 h h2 := m1.tr n2 (fun y hy => Or.inr (by first | exact absurd hy List.not_mem_nil | (simp only [List.mem_cons, List.not_mem_nil, or_false] at hy; omega))) (by omega) (by omega)
  have u2 := mo_le m2
  have x2 : h.length ≤ h1.length ∧ h1.length < h2.length := by omega
  clear n2 w2 e2 s1 m1 u1
  refine s_sh (p' := 108) (ls' := _) (st' := .ref 1000300 :: _) (h' := _) rfl rfl rfl rfl ?_
  refine s_callEV (p' := 111) (ls0 := [_, _]) rfl rfl rfl rfl rfl (mj_rcv_is b2.k.1) rfl (y_aS2 (m := 0) b2 (k_e _) (by omega) (by omega) (by first | omega | (simp only [List.length_append, List.length_cons, List.length_nil, List.nil_append]; omega)) (by decide) (fun C rs q => by cases q; omega)) (Nat.ble_eq.mpr (by omega)) rfl ?_
  rintro _ h3 ⟨rfl, B3, b3, q3, n3⟩
  have w3 := mo_le n3
  have e3 := rd_len (b3.k.2.1) b3.k.2.2.choose_spec
  have m3 : mz_mo [] 3 30 h h3 := m2.tr n3 (fun y hy => Or.inr (by first | exact absurd hy List.not_mem_nil | (simp only [List.mem_cons, List.not_mem_nil, or_false] at hy; omega))) (by omega) (by omega)
  have u3 := mo_le m3
  have x3 : h.length ≤ B3 ∧ B3 < h3.length := by omega
  clear n3 w3 e3 q3 m2 u2 x2 b2
  refine s_bip (p' := 113) rfl rfl ?_
  refine s_aldn (p' := 114) rfl rfl rfl ?_
  refine s_gf (p' := 117) rfl (m3.1 _ (by simp) _ hP) rfl rfl ?_
  refine s_sp (p' := 118) (ls' := _) rfl rfl rfl ?_
  rw [mI_add]
  refine s_sp (p' := 119) (ls' := _) rfl rfl rfl ?_
  rw [i2c_n (by omega)]
  refine s_callEV (p' := 122) (ls0 := [_, _]) rfl rfl rfl rfl rfl (mj_rcv_is b3.k.1) rfl (y_aC2 (m := 1) b3 (by omega) (by omega) (by first | omega | (simp only [List.length_append, List.length_cons, List.length_nil, List.nil_append]; omega)) (by decide) (by omega)) (Nat.ble_eq.mpr (by omega)) rfl ?_
  rintro _ h4 ⟨rfl, B4, b4, q4, n4⟩
  have w4 := mo_le n4
  have e4 := rd_len (b4.k.2.1) b4.k.2.2.choose_spec
  have m4 : mz_mo [] 4 42 h h4 := m3.tr n4 (fun y hy => Or.inr (by first | exact absurd hy List.not_mem_nil | (simp only [List.mem_cons, List.not_mem_nil, or_false] at hy; omega))) (by omega) (by omega)
  have u4 := mo_le m4
  have x4 : h.length ≤ B4 ∧ B4 < h4.length := by omega
  clear n4 w4 e4 q4 m3 u3 x3 b3
  refine s_callEV (p' := 125) (ls0 := [_]) rfl rfl rfl rfl rfl (mj_rcv_is b4.k.1) rfl (y_tS2 (m := 1) b4 (by omega) (by first | omega | (simp only [List.length_append, List.length_cons, List.length_nil, List.nil_append]; omega)) (by decide)) (Nat.ble_eq.mpr (by omega)) rfl ?_
  rintro _ h5 ⟨rfl, t5, p5, n5⟩
  have w5 := mo_le n5
  have m5 : mz_mo [] 6 48 h h5 := m4.tr n5 (fun y hy => Or.inr (by first | exact absurd hy List.not_mem_nil | (simp only [List.mem_cons, List.not_mem_nil, or_false] at hy; omega))) (by omega) (by omega)
  have u5 := mo_le m5
  clear n5 w5 m4 x4 b4
  have a5 : mz_mo [] 0 0 h5 h5 := mz_mo.rf _ _ _ _
  refine s_astn (p' := 126) (ls' := [_, _]) rfl rfl rfl rfl ?_
  refine s_aldn (p' := 127) rfl rfl rfl ?_
  refine s_gf (p' := 130) rfl (m5.1 _ (by simp) _ hP) rfl rfl ?_
  rw [h0]
  refine s_bip (p' := 132) rfl rfl ?_
  refine s_icmp (p' := 135) false rfl ((ci_eq (by decide) (by decide)).trans (decide_eq_false (by decide))) rfl ?_
  refine s_aldn (p' := 136) rfl rfl rfl ?_
  refine s_gf (p' := 139) rfl (m5.1 _ (by simp) _ hP) rfl rfl ?_
  rw [h0]
  refine s_bip (p' := 141) rfl rfl ?_
  refine s_icmp (p' := 144) false rfl ((ci_ne (by decide) (by decide)).trans (decide_eq_false (by decide))) rfl ?_
  refine s_newz (p' := 147) (a := h5.length) rfl rfl rfl rfl ?_
  generalize hg6 : h5 ++ [_] = h6
  have s6 : mj_rd h6 h5.length = some (.inr (20, [.null, .int (nI 0), .int (nI 0), .int (nI 0)])) := by rw [← hg6]; exact rd_nw (Nat.blt_eq.mpr (by omega)) rfl
  have l6 : h6.length = h5.length + 1 := by rw [← hg6, List.length_append]; rfl
  have n6 : mz_mo [] 1 4 h5 h6 := by rw [← hg6]; exact mz_mo.ap [] _ _
  clear hg6
  have m6 : mz_mo [] 7 52 h h6 := m5.tr n6 (fun y hy => Or.inr (by first | exact absurd hy List.not_mem_nil | (simp only [List.mem_cons, List.not_mem_nil, or_false] at hy; omega))) (by omega) (by omega)
  have a6 : mz_mo [] 1 4 h5 h6 := a5.tr n6 (fun y hy => Or.inr (by first | exact absurd hy List.not_mem_nil | (simp only [List.mem_cons, List.not_mem_nil, or_false] at hy; omega))) (by omega) (by omega)
  have u6 := mo_le m6
  clear n6 m5 a5
  refine s_sp (p' := 148) (ls' := _) rfl rfl rfl ?_
  refine s_callEN (p' := 151) (ls0 := [_]) rfl rfl rfl rfl rfl (mj_rcv_is s6) rfl (y_nsb (by omega) (by omega) s6) (Nat.ble_eq.mpr (by omega)) rfl ?_
  rintro h7 ⟨b7, n7⟩
  have w7 := mo_le n7
  have e7 := rd_len b7.k.2.1 b7.k.2.2.choose_spec
  have m7 : mz_mo [] 8 68 h h7 := m6.tr n7 (fun y hy => Or.inr (by first | exact absurd hy List.not_mem_nil | (simp only [List.mem_cons, List.not_mem_nil, or_false] at hy; omega))) (by omega) (by omega)
  have a7 : mz_mo [] 2 20 h5 h7 := a6.tr n7 (fun y hy => Or.inr (by first | exact absurd hy List.not_mem_nil | (simp only [List.mem_cons, List.not_mem_nil, or_false] at hy; omega))) (by omega) (by omega)
  have u7 := mo_le m7
  have x7 : h5.length ≤ h6.length ∧ h6.length < h7.length := by omega
  clear n7 w7 e7 s6 m6 a6 u6
  refine s_sh (p' := 153) (ls' := _) (st' := .ref 1000300 :: _) (h' := _) rfl rfl rfl rfl ?_
  refine s_callEV (p' := 156) (ls0 := [_, _]) rfl rfl rfl rfl rfl (mj_rcv_is b7.k.1) rfl (y_aS2 (m := 0) b7 (k_e _) (by omega) (by omega) (by first | omega | (simp only [List.length_append, List.length_cons, List.length_nil, List.nil_append]; omega)) (by decide) (fun C rs q => by cases q; omega)) (Nat.ble_eq.mpr (by omega)) rfl ?_
  rintro _ h8 ⟨rfl, B8, b8, q8, n8⟩
  have w8 := mo_le n8
  have e8 := rd_len (b8.k.2.1) b8.k.2.2.choose_spec
  have m8 : mz_mo [] 9 78 h h8 := m7.tr n8 (fun y hy => Or.inr (by first | exact absurd hy List.not_mem_nil | (simp only [List.mem_cons, List.not_mem_nil, or_false] at hy; omega))) (by omega) (by omega)
  have a8 : mz_mo [] 3 30 h5 h8 := a7.tr n8 (fun y hy => Or.inr (by first | exact absurd hy List.not_mem_nil | (simp only [List.mem_cons, List.not_mem_nil, or_false] at hy; omega))) (by omega) (by omega)
  have u8 := mo_le m8
  have x8 : h5.length ≤ B8 ∧ B8 < h8.length := by omega
  clear n8 w8 e8 q8 m7 a7 u7 x7 b7
  refine s_aldn (p' := 157) rfl rfl rfl ?_
  refine s_gf (p' := 160) rfl (m8.1 _ (by simp) _ hP) rfl rfl ?_
  rw [h0]
  refine s_callEV (p' := 163) (ls0 := [_, _]) rfl rfl rfl rfl rfl (mj_rcv_is b8.k.1) rfl (y_aC2 (m := 1) b8 (by omega) (by omega) (by first | omega | (simp only [List.length_append, List.length_cons, List.length_nil, List.nil_append]; omega)) (by decide) (by decide)) (Nat.ble_eq.mpr (by omega)) rfl ?_
  rintro _ h9 ⟨rfl, B9, b9, q9, n9⟩
  have w9 := mo_le n9
  have e9 := rd_len (b9.k.2.1) b9.k.2.2.choose_spec
  have m9 : mz_mo [] 10 90 h h9 := m8.tr n9 (fun y hy => Or.inr (by first | exact absurd hy List.not_mem_nil | (simp only [List.mem_cons, List.not_mem_nil, or_false] at hy; omega))) (by omega) (by omega)
  have a9 : mz_mo [] 4 42 h5 h9 := a8.tr n9 (fun y hy => Or.inr (by first | exact absurd hy List.not_mem_nil | (simp only [List.mem_cons, List.not_mem_nil, or_false] at hy; omega))) (by omega) (by omega)
  have u9 := mo_le m9
  have x9 : h5.length ≤ B9 ∧ B9 < h9.length := by omega
  clear n9 w9 e9 q9 m8 a8 u8 x8 b8
  refine s_aldn (p' := 164) rfl rfl rfl ?_
  refine s_gf (p' := 167) rfl (m9.1 _ (by simp) _ hP) rfl rfl ?_
  refine s_callEV (p' := 170) (ls0 := [_, _]) rfl rfl rfl rfl rfl (mj_rcv_is b9.k.1) rfl (y_aI2 (m := 4) b9 (by omega) (by omega) (by first | omega | (simp only [List.length_append, List.length_cons, List.length_nil, List.nil_append]; omega)) (by decide) (by omega)) (Nat.ble_eq.mpr (by omega)) rfl ?_
  rintro _ h10 ⟨rfl, B10, b10, q10, n10⟩
  have w10 := mo_le n10
  have e10 := rd_len (b10.k.2.1) b10.k.2.2.choose_spec
  have m10 : mz_mo [] 11 108 h h10 := m9.tr n10 (fun y hy => Or.inr (by first | exact absurd hy List.not_mem_nil | (simp only [List.mem_cons, List.not_mem_nil, or_false] at hy; omega))) (by omega) (by omega)
  have a10 : mz_mo [] 5 60 h5 h10 := a9.tr n10 (fun y hy => Or.inr (by first | exact absurd hy List.not_mem_nil | (simp only [List.mem_cons, List.not_mem_nil, or_false] at hy; omega))) (by omega) (by omega)
  have u10 := mo_le m10
  have x10 : h5.length ≤ B10 ∧ B10 < h10.length := by omega
  clear n10 w10 e10 q10 m9 a9 u9 x9 b9
  refine s_callEV (p' := 173) (ls0 := [_]) rfl rfl rfl rfl rfl (mj_rcv_is b10.k.1) rfl (y_tS2 (m := 4) b10 (by omega) (by first | omega | (simp only [List.length_append, List.length_cons, List.length_nil, List.nil_append]; omega)) (by decide)) (Nat.ble_eq.mpr (by omega)) rfl ?_
  rintro _ h11 ⟨rfl, t11, p11, n11⟩
  have w11 := mo_le n11
  have m11 : mz_mo [] 13 120 h h11 := m10.tr n11 (fun y hy => Or.inr (by first | exact absurd hy List.not_mem_nil | (simp only [List.mem_cons, List.not_mem_nil, or_false] at hy; omega))) (by omega) (by omega)
  have a11 : mz_mo [] 7 72 h5 h11 := a10.tr n11 (fun y hy => Or.inr (by first | exact absurd hy List.not_mem_nil | (simp only [List.mem_cons, List.not_mem_nil, or_false] at hy; omega))) (by omega) (by omega)
  have u11 := mo_le m11
  clear n11 w11 m10 a10 x10 b10
  refine s_aret rfl ?_
  exact ⟨_, _, rfl, ⟨_, rfl, by simpa only [List.append_assoc, List.cons_append, List.nil_append, List.append_nil] using t11, by omega, fun C rs q => by rw [p11 C rs q]; omega⟩, m11.wk (fun y hy => Or.inl hy) (by omega) (by omega)⟩
theorem y_pt33 {I : Nat → Prop} {h : mj_H} {p : Nat} {A : Nat → Nat} {bb : Int32} {vv : Value} (hI : ∀ a, I a → a < mj_CB) (hP : mj_rd h p = some (ptC (nI (A 0)) (nI (A 1)) bb vv .null .null .null .null)) (hb : h.length + 200 < mj_CB) (h0 : A 0 = 33) (h1 : A 1 < 8)  : mj_Wp 14 365 (0, [some (.ref p), none], [], h) (mz_V fun r g => yTf h g r ([33] ++ [97 + A 1]) ∧ mz_mo [] 32 500 h g) := by
  have m0 : mz_mo [] 0 0 h h := mz_mo.rf _ _ _ _
  have u0 := mo_le m0
  refine s_aldn (p' := 1) rfl rfl rfl ?_
  refine s_callV (p' := 4) (ls0 := [_]) rfl rfl rfl rfl rfl (mj_rcv_is hP) rfl (y_isb (s := A 0) (by omega) hP) (by first | decide | omega) rfl ?_
  refine s_if (p' := 99) true rfl (by rw [decide_eq_false (by omega)]; decide +kernel) rfl ?_
  refine s_newz (p' := 102) (a := h.length) rfl rfl rfl rfl ?_
  generalize hg1 : h ++ [_] = h1
  have s1 : mj_rd h1 h.length = some (.inr (20, [.null, .int (nI 0), .int (nI 0), .int (nI 0)])) := by rw [← hg1]; exact rd_nw (Nat.blt_eq.mpr (by omega)) rfl
  have l1 : h1.length = h.length + 1 := by rw [← hg1, List.length_append]; rfl
  have n1 : mz_mo [] 1 4 h h1 := by rw [← hg1]; exact mz_mo.ap [] _ _
  clear hg1
  have m1 : mz_mo [] 1 4 h h1 := m0.tr n1 (fun y hy => Or.inr (by first | exact absurd hy List.not_mem_nil | (simp only [List.mem_cons, List.not_mem_nil, or_false] at hy; omega))) (by omega) (by omega)
  have u1 := mo_le m1
  clear n1 m0
  refine s_sp (p' := 103) (ls' := _) rfl rfl rfl ?_
  refine s_callEN (p' := 106) (ls0 := [_]) rfl rfl rfl rfl rfl (mj_rcv_is s1) rfl (y_nsb (by omega) (by omega) s1) (Nat.ble_eq.mpr (by omega)) rfl ?_
  rintro h2 ⟨b2, n2⟩
  have w2 := mo_le n2
  have e2 := rd_len b2.k.2.1 b2.k.2.2.choose_spec
  have m2 : mz_mo [] 2 20 h h2 := m1.tr n2 (fun y hy => Or.inr (by first | exact absurd hy List.not_mem_nil | (simp only [List.mem_cons, List.not_mem_nil, or_false] at hy; omega))) (by omega) (by omega)
  have u2 := mo_le m2
  have x2 : h.length ≤ h1.length ∧ h1.length < h2.length := by omega
  clear n2 w2 e2 s1 m1 u1
  refine s_sh (p' := 108) (ls' := _) (st' := .ref 1000300 :: _) (h' := _) rfl rfl rfl rfl ?_
  refine s_callEV (p' := 111) (ls0 := [_, _]) rfl rfl rfl rfl rfl (mj_rcv_is b2.k.1) rfl (y_aS2 (m := 0) b2 (k_e _) (by omega) (by omega) (by first | omega | (simp only [List.length_append, List.length_cons, List.length_nil, List.nil_append]; omega)) (by decide) (fun C rs q => by cases q; omega)) (Nat.ble_eq.mpr (by omega)) rfl ?_
  rintro _ h3 ⟨rfl, B3, b3, q3, n3⟩
  have w3 := mo_le n3
  have e3 := rd_len (b3.k.2.1) b3.k.2.2.choose_spec
  have m3 : mz_mo [] 3 30 h h3 := m2.tr n3 (fun y hy => Or.inr (by first | exact absurd hy List.not_mem_nil | (simp only [List.mem_cons, List.not_mem_nil, or_false] at hy; omega))) (by omega) (by omega)
  have u3 := mo_le m3
  have x3 : h.length ≤ B3 ∧ B3 < h3.length := by omega
  clear n3 w3 e3 q3 m2 u2 x2 b2
  refine s_bip (p' := 113) rfl rfl ?_
  refine s_aldn (p' := 114) rfl rfl rfl ?_
  refine s_gf (p' := 117) rfl (m3.1 _ (by simp) _ hP) rfl rfl ?_
  refine s_sp (p' := 118) (ls' := _) rfl rfl rfl ?_
  rw [mI_add]
  refine s_sp (p' := 119) (ls' := _) rfl rfl rfl ?_
  rw [i2c_n (by omega)]
  refine s_callEV (p' := 122) (ls0 := [_, _]) rfl rfl rfl rfl rfl (mj_rcv_is b3.k.1) rfl (y_aC2 (m := 1) b3 (by omega) (by omega) (by first | omega | (simp only [List.length_append, List.length_cons, List.length_nil, List.nil_append]; omega)) (by decide) (by omega)) (Nat.ble_eq.mpr (by omega)) rfl ?_
  rintro _ h4 ⟨rfl, B4, b4, q4, n4⟩
  have w4 := mo_le n4
  have e4 := rd_len (b4.k.2.1) b4.k.2.2.choose_spec
  have m4 : mz_mo [] 4 42 h h4 := m3.tr n4 (fun y hy => Or.inr (by first | exact absurd hy List.not_mem_nil | (simp only [List.mem_cons, List.not_mem_nil, or_false] at hy; omega))) (by omega) (by omega)
  have u4 := mo_le m4
  have x4 : h.length ≤ B4 ∧ B4 < h4.length := by omega
  clear n4 w4 e4 q4 m3 u3 x3 b3
  refine s_callEV (p' := 125) (ls0 := [_]) rfl rfl rfl rfl rfl (mj_rcv_is b4.k.1) rfl (y_tS2 (m := 1) b4 (by omega) (by first | omega | (simp only [List.length_append, List.length_cons, List.length_nil, List.nil_append]; omega)) (by decide)) (Nat.ble_eq.mpr (by omega)) rfl ?_
  rintro _ h5 ⟨rfl, t5, p5, n5⟩
  have w5 := mo_le n5
  have m5 : mz_mo [] 6 48 h h5 := m4.tr n5 (fun y hy => Or.inr (by first | exact absurd hy List.not_mem_nil | (simp only [List.mem_cons, List.not_mem_nil, or_false] at hy; omega))) (by omega) (by omega)
  have u5 := mo_le m5
  clear n5 w5 m4 x4 b4
  have a5 : mz_mo [] 0 0 h5 h5 := mz_mo.rf _ _ _ _
  refine s_astn (p' := 126) (ls' := [_, _]) rfl rfl rfl rfl ?_
  refine s_aldn (p' := 127) rfl rfl rfl ?_
  refine s_gf (p' := 130) rfl (m5.1 _ (by simp) _ hP) rfl rfl ?_
  rw [h0]
  refine s_bip (p' := 132) rfl rfl ?_
  refine s_icmp (p' := 135) false rfl ((ci_eq (by decide) (by decide)).trans (decide_eq_false (by decide))) rfl ?_
  refine s_aldn (p' := 136) rfl rfl rfl ?_
  refine s_gf (p' := 139) rfl (m5.1 _ (by simp) _ hP) rfl rfl ?_
  rw [h0]
  refine s_bip (p' := 141) rfl rfl ?_
  refine s_icmp (p' := 174) true rfl ((ci_ne (by decide) (by decide)).trans (decide_eq_true (by decide))) rfl ?_
  refine s_aldn (p' := 175) rfl rfl rfl ?_
  refine s_gf (p' := 178) rfl (m5.1 _ (by simp) _ hP) rfl rfl ?_
  rw [h0]
  refine s_bip (p' := 180) rfl rfl ?_
  refine s_icmp (p' := 192) true rfl ((ci_eq (by decide) (by decide)).trans (decide_eq_true (by decide))) rfl ?_
  refine s_newz (p' := 195) (a := h5.length) rfl rfl rfl rfl ?_
  generalize hg6 : h5 ++ [_] = h6
  have s6 : mj_rd h6 h5.length = some (.inr (20, [.null, .int (nI 0), .int (nI 0), .int (nI 0)])) := by rw [← hg6]; exact rd_nw (Nat.blt_eq.mpr (by omega)) rfl
  have l6 : h6.length = h5.length + 1 := by rw [← hg6, List.length_append]; rfl
  have n6 : mz_mo [] 1 4 h5 h6 := by rw [← hg6]; exact mz_mo.ap [] _ _
  clear hg6
  have m6 : mz_mo [] 7 52 h h6 := m5.tr n6 (fun y hy => Or.inr (by first | exact absurd hy List.not_mem_nil | (simp only [List.mem_cons, List.not_mem_nil, or_false] at hy; omega))) (by omega) (by omega)
  have a6 : mz_mo [] 1 4 h5 h6 := a5.tr n6 (fun y hy => Or.inr (by first | exact absurd hy List.not_mem_nil | (simp only [List.mem_cons, List.not_mem_nil, or_false] at hy; omega))) (by omega) (by omega)
  have u6 := mo_le m6
  clear n6 m5 a5
  refine s_sp (p' := 196) (ls' := _) rfl rfl rfl ?_
  refine s_callEN (p' := 199) (ls0 := [_]) rfl rfl rfl rfl rfl (mj_rcv_is s6) rfl (y_nsb (by omega) (by omega) s6) (Nat.ble_eq.mpr (by omega)) rfl ?_
  rintro h7 ⟨b7, n7⟩
  have w7 := mo_le n7
  have e7 := rd_len b7.k.2.1 b7.k.2.2.choose_spec
  have m7 : mz_mo [] 8 68 h h7 := m6.tr n7 (fun y hy => Or.inr (by first | exact absurd hy List.not_mem_nil | (simp only [List.mem_cons, List.not_mem_nil, or_false] at hy; omega))) (by omega) (by omega)
  have a7 : mz_mo [] 2 20 h5 h7 := a6.tr n7 (fun y hy => Or.inr (by first | exact absurd hy List.not_mem_nil | (simp only [List.mem_cons, List.not_mem_nil, or_false] at hy; omega))) (by omega) (by omega)
  have u7 := mo_le m7
  have x7 : h5.length ≤ h6.length ∧ h6.length < h7.length := by omega
  clear n7 w7 e7 s6 m6 a6 u6
  refine s_aldn (p' := 200) rfl rfl rfl ?_
  refine s_gf (p' := 203) rfl (m7.1 _ (by simp) _ hP) rfl rfl ?_
  rw [h0]
  refine s_callEV (p' := 206) (ls0 := [_, _]) rfl rfl rfl rfl rfl (mj_rcv_is b7.k.1) rfl (y_aC2 (m := 1) b7 (by omega) (by omega) (by first | omega | (simp only [List.length_append, List.length_cons, List.length_nil, List.nil_append]; omega)) (by decide) (by decide)) (Nat.ble_eq.mpr (by omega)) rfl ?_
  rintro _ h8 ⟨rfl, B8, b8, q8, n8⟩
  have w8 := mo_le n8
  have e8 := rd_len (b8.k.2.1) b8.k.2.2.choose_spec
  have m8 : mz_mo [] 9 80 h h8 := m7.tr n8 (fun y hy => Or.inr (by first | exact absurd hy List.not_mem_nil | (simp only [List.mem_cons, List.not_mem_nil, or_false] at hy; omega))) (by omega) (by omega)
  have a8 : mz_mo [] 3 32 h5 h8 := a7.tr n8 (fun y hy => Or.inr (by first | exact absurd hy List.not_mem_nil | (simp only [List.mem_cons, List.not_mem_nil, or_false] at hy; omega))) (by omega) (by omega)
  have u8 := mo_le m8
  have x8 : h5.length ≤ B8 ∧ B8 < h8.length := by omega
  clear n8 w8 e8 q8 m7 a7 u7 x7 b7
  refine s_aldn (p' := 207) rfl rfl rfl ?_
  refine s_callEV (p' := 210) (ls0 := [_, _]) rfl rfl rfl rfl rfl (mj_rcv_is b8.k.1) rfl (y_aS2 (m := 2) b8 (t5.f0 a8.1) (by omega) (by omega) (by first | omega | (simp only [List.length_append, List.length_cons, List.length_nil, List.nil_append]; omega)) (by decide) (t5.ne a8.1 (by omega) b8.k.2.1)) (Nat.ble_eq.mpr (by omega)) rfl ?_
  rintro _ h9 ⟨rfl, B9, b9, q9, n9⟩
  have w9 := mo_le n9
  have e9 := rd_len (b9.k.2.1) b9.k.2.2.choose_spec
  have m9 : mz_mo [] 10 94 h h9 := m8.tr n9 (fun y hy => Or.inr (by first | exact absurd hy List.not_mem_nil | (simp only [List.mem_cons, List.not_mem_nil, or_false] at hy; omega))) (by omega) (by omega)
  have a9 : mz_mo [] 4 46 h5 h9 := a8.tr n9 (fun y hy => Or.inr (by first | exact absurd hy List.not_mem_nil | (simp only [List.mem_cons, List.not_mem_nil, or_false] at hy; omega))) (by omega) (by omega)
  have u9 := mo_le m9
  have x9 : h5.length ≤ B9 ∧ B9 < h9.length := by omega
  clear n9 w9 e9 q9 m8 a8 u8 x8 b8
  refine s_callEV (p' := 213) (ls0 := [_]) rfl rfl rfl rfl rfl (mj_rcv_is b9.k.1) rfl (y_tS2 (m := 2) b9 (by omega) (by first | omega | (simp only [List.length_append, List.length_cons, List.length_nil, List.nil_append]; omega)) (by decide)) (Nat.ble_eq.mpr (by omega)) rfl ?_
  rintro _ h10 ⟨rfl, t10, p10, n10⟩
  have w10 := mo_le n10
  have m10 : mz_mo [] 12 102 h h10 := m9.tr n10 (fun y hy => Or.inr (by first | exact absurd hy List.not_mem_nil | (simp only [List.mem_cons, List.not_mem_nil, or_false] at hy; omega))) (by omega) (by omega)
  have a10 : mz_mo [] 6 54 h5 h10 := a9.tr n10 (fun y hy => Or.inr (by first | exact absurd hy List.not_mem_nil | (simp only [List.mem_cons, List.not_mem_nil, or_false] at hy; omega))) (by omega) (by omega)
  have u10 := mo_le m10
  clear n10 w10 m9 a9 x9 b9
  refine s_aret rfl ?_
  exact ⟨_, _, rfl, ⟨_, rfl, by simpa only [List.append_assoc, List.cons_append, List.nil_append, List.append_nil] using t10, by omega, fun C rs q => by rw [p10 C rs q]; omega⟩, m10.wk (fun y hy => Or.inl hy) (by omega) (by omega)⟩
theorem y_pt63 {I : Nat → Prop} {h : mj_H} {p : Nat} {A : Nat → Nat} {bb : Int32} {vv : Value} (hI : ∀ a, I a → a < mj_CB) (hP : mj_rd h p = some (ptC (nI (A 0)) (nI (A 1)) bb vv .null .null .null .null)) (hb : h.length + 200 < mj_CB) (h0 : A 0 = 63) (h1 : A 1 < 8)  : mj_Wp 14 365 (0, [some (.ref p), none], [], h) (mz_V fun r g => yTf h g r ([63] ++ [97 + A 1]) ∧ mz_mo [] 32 500 h g) := by
  have m0 : mz_mo [] 0 0 h h := mz_mo.rf _ _ _ _
  have u0 := mo_le m0
  refine s_aldn (p' := 1) rfl rfl rfl ?_
  refine s_callV (p' := 4) (ls0 := [_]) rfl rfl rfl rfl rfl (mj_rcv_is hP) rfl (y_isb (s := A 0) (by omega) hP) (by first | decide | omega) rfl ?_
  refine s_if (p' := 99) true rfl (by rw [decide_eq_false (by omega)]; decide +kernel) rfl ?_
  refine s_newz (p' := 102) (a := h.length) rfl rfl rfl rfl ?_
  generalize hg1 : h ++ [_] = h1
  have s1 : mj_rd h1 h.length = some (.inr (20, [.null, .int (nI 0), .int (nI 0), .int (nI 0)])) := by rw [← hg1]; exact rd_nw (Nat.blt_eq.mpr (by omega)) rfl
  have l1 : h1.length = h.length + 1 := by rw [← hg1, List.length_append]; rfl
  have n1 : mz_mo [] 1 4 h h1 := by rw [← hg1]; exact mz_mo.ap [] _ _
  clear hg1
  have m1 : mz_mo [] 1 4 h h1 := m0.tr n1 (fun y hy => Or.inr (by first | exact absurd hy List.not_mem_nil | (simp only [List.mem_cons, List.not_mem_nil, or_false] at hy; omega))) (by omega) (by omega)
  have u1 := mo_le m1
  clear n1 m0
  refine s_sp (p' := 103) (ls' := _) rfl rfl rfl ?_
  refine s_callEN (p' := 106) (ls0 := [_]) rfl rfl rfl rfl rfl (mj_rcv_is s1) rfl (y_nsb (by omega) (by omega) s1) (Nat.ble_eq.mpr (by omega)) rfl ?_
  rintro h2 ⟨b2, n2⟩
  have w2 := mo_le n2
  have e2 := rd_len b2.k.2.1 b2.k.2.2.choose_spec
  have m2 : mz_mo [] 2 20 h h2 := m1.tr n2 (fun y hy => Or.inr (by first | exact absurd hy List.not_mem_nil | (simp only [List.mem_cons, List.not_mem_nil, or_false] at hy; omega))) (by omega) (by omega)
  have u2 := mo_le m2
  have x2 : h.length ≤ h1.length ∧ h1.length < h2.length := by omega
  clear n2 w2 e2 s1 m1 u1
  refine s_sh (p' := 108) (ls' := _) (st' := .ref 1000300 :: _) (h' := _) rfl rfl rfl rfl ?_
  refine s_callEV (p' := 111) (ls0 := [_, _]) rfl rfl rfl rfl rfl (mj_rcv_is b2.k.1) rfl (y_aS2 (m := 0) b2 (k_e _) (by omega) (by omega) (by first | omega | (simp only [List.length_append, List.length_cons, List.length_nil, List.nil_append]; omega)) (by decide) (fun C rs q => by cases q; omega)) (Nat.ble_eq.mpr (by omega)) rfl ?_
  rintro _ h3 ⟨rfl, B3, b3, q3, n3⟩
  have w3 := mo_le n3
  have e3 := rd_len (b3.k.2.1) b3.k.2.2.choose_spec
  have m3 : mz_mo [] 3 30 h h3 := m2.tr n3 (fun y hy => Or.inr (by first | exact absurd hy List.not_mem_nil | (simp only [List.mem_cons, List.not_mem_nil, or_false] at hy; omega))) (by omega) (by omega)
  have u3 := mo_le m3
  have x3 : h.length ≤ B3 ∧ B3 < h3.length := by omega
  clear n3 w3 e3 q3 m2 u2 x2 b2
  refine s_bip (p' := 113) rfl rfl ?_
  refine s_aldn (p' := 114) rfl rfl rfl ?_
  refine s_gf (p' := 117) rfl (m3.1 _ (by simp) _ hP) rfl rfl ?_
  refine s_sp (p' := 118) (ls' := _) rfl rfl rfl ?_
  rw [mI_add]
  refine s_sp (p' := 119) (ls' := _) rfl rfl rfl ?_
  rw [i2c_n (by omega)]
  refine s_callEV (p' := 122) (ls0 := [_, _]) rfl rfl rfl rfl rfl (mj_rcv_is b3.k.1) rfl (y_aC2 (m := 1) b3 (by omega) (by omega) (by first | omega | (simp only [List.length_append, List.length_cons, List.length_nil, List.nil_append]; omega)) (by decide) (by omega)) (Nat.ble_eq.mpr (by omega)) rfl ?_
  rintro _ h4 ⟨rfl, B4, b4, q4, n4⟩
  have w4 := mo_le n4
  have e4 := rd_len (b4.k.2.1) b4.k.2.2.choose_spec
  have m4 : mz_mo [] 4 42 h h4 := m3.tr n4 (fun y hy => Or.inr (by first | exact absurd hy List.not_mem_nil | (simp only [List.mem_cons, List.not_mem_nil, or_false] at hy; omega))) (by omega) (by omega)
  have u4 := mo_le m4
  have x4 : h.length ≤ B4 ∧ B4 < h4.length := by omega
  clear n4 w4 e4 q4 m3 u3 x3 b3
  refine s_callEV (p' := 125) (ls0 := [_]) rfl rfl rfl rfl rfl (mj_rcv_is b4.k.1) rfl (y_tS2 (m := 1) b4 (by omega) (by first | omega | (simp only [List.length_append, List.length_cons, List.length_nil, List.nil_append]; omega)) (by decide)) (Nat.ble_eq.mpr (by omega)) rfl ?_
  rintro _ h5 ⟨rfl, t5, p5, n5⟩
  have w5 := mo_le n5
  have m5 : mz_mo [] 6 48 h h5 := m4.tr n5 (fun y hy => Or.inr (by first | exact absurd hy List.not_mem_nil | (simp only [List.mem_cons, List.not_mem_nil, or_false] at hy; omega))) (by omega) (by omega)
  have u5 := mo_le m5
  clear n5 w5 m4 x4 b4
  have a5 : mz_mo [] 0 0 h5 h5 := mz_mo.rf _ _ _ _
  refine s_astn (p' := 126) (ls' := [_, _]) rfl rfl rfl rfl ?_
  refine s_aldn (p' := 127) rfl rfl rfl ?_
  refine s_gf (p' := 130) rfl (m5.1 _ (by simp) _ hP) rfl rfl ?_
  rw [h0]
  refine s_bip (p' := 132) rfl rfl ?_
  refine s_icmp (p' := 135) false rfl ((ci_eq (by decide) (by decide)).trans (decide_eq_false (by decide))) rfl ?_
  refine s_aldn (p' := 136) rfl rfl rfl ?_
  refine s_gf (p' := 139) rfl (m5.1 _ (by simp) _ hP) rfl rfl ?_
  rw [h0]
  refine s_bip (p' := 141) rfl rfl ?_
  refine s_icmp (p' := 174) true rfl ((ci_ne (by decide) (by decide)).trans (decide_eq_true (by decide))) rfl ?_
  refine s_aldn (p' := 175) rfl rfl rfl ?_
  refine s_gf (p' := 178) rfl (m5.1 _ (by simp) _ hP) rfl rfl ?_
  rw [h0]
  refine s_bip (p' := 180) rfl rfl ?_
  refine s_icmp (p' := 183) false rfl ((ci_eq (by decide) (by decide)).trans (decide_eq_false (by decide))) rfl ?_
  refine s_aldn (p' := 184) rfl rfl rfl ?_
  refine s_gf (p' := 187) rfl (m5.1 _ (by simp) _ hP) rfl rfl ?_
  rw [h0]
  refine s_bip (p' := 189) rfl rfl ?_
  refine s_icmp (p' := 192) false rfl ((ci_ne (by decide) (by decide)).trans (decide_eq_false (by decide))) rfl ?_
  refine s_newz (p' := 195) (a := h5.length) rfl rfl rfl rfl ?_
  generalize hg6 : h5 ++ [_] = h6
  have s6 : mj_rd h6 h5.length = some (.inr (20, [.null, .int (nI 0), .int (nI 0), .int (nI 0)])) := by rw [← hg6]; exact rd_nw (Nat.blt_eq.mpr (by omega)) rfl
  have l6 : h6.length = h5.length + 1 := by rw [← hg6, List.length_append]; rfl
  have n6 : mz_mo [] 1 4 h5 h6 := by rw [← hg6]; exact mz_mo.ap [] _ _
  clear hg6
  have m6 : mz_mo [] 7 52 h h6 := m5.tr n6 (fun y hy => Or.inr (by first | exact absurd hy List.not_mem_nil | (simp only [List.mem_cons, List.not_mem_nil, or_false] at hy; omega))) (by omega) (by omega)
  have a6 : mz_mo [] 1 4 h5 h6 := a5.tr n6 (fun y hy => Or.inr (by first | exact absurd hy List.not_mem_nil | (simp only [List.mem_cons, List.not_mem_nil, or_false] at hy; omega))) (by omega) (by omega)
  have u6 := mo_le m6
  clear n6 m5 a5
  refine s_sp (p' := 196) (ls' := _) rfl rfl rfl ?_
  refine s_callEN (p' := 199) (ls0 := [_]) rfl rfl rfl rfl rfl (mj_rcv_is s6) rfl (y_nsb (by omega) (by omega) s6) (Nat.ble_eq.mpr (by omega)) rfl ?_
  rintro h7 ⟨b7, n7⟩
  have w7 := mo_le n7
  have e7 := rd_len b7.k.2.1 b7.k.2.2.choose_spec
  have m7 : mz_mo [] 8 68 h h7 := m6.tr n7 (fun y hy => Or.inr (by first | exact absurd hy List.not_mem_nil | (simp only [List.mem_cons, List.not_mem_nil, or_false] at hy; omega))) (by omega) (by omega)
  have a7 : mz_mo [] 2 20 h5 h7 := a6.tr n7 (fun y hy => Or.inr (by first | exact absurd hy List.not_mem_nil | (simp only [List.mem_cons, List.not_mem_nil, or_false] at hy; omega))) (by omega) (by omega)
  have u7 := mo_le m7
  have x7 : h5.length ≤ h6.length ∧ h6.length < h7.length := by omega
  clear n7 w7 e7 s6 m6 a6 u6
  refine s_aldn (p' := 200) rfl rfl rfl ?_
  refine s_gf (p' := 203) rfl (m7.1 _ (by simp) _ hP) rfl rfl ?_
  rw [h0]
  refine s_callEV (p' := 206) (ls0 := [_, _]) rfl rfl rfl rfl rfl (mj_rcv_is b7.k.1) rfl (y_aC2 (m := 1) b7 (by omega) (by omega) (by first | omega | (simp only [List.length_append, List.length_cons, List.length_nil, List.nil_append]; omega)) (by decide) (by decide)) (Nat.ble_eq.mpr (by omega)) rfl ?_
  rintro _ h8 ⟨rfl, B8, b8, q8, n8⟩
  have w8 := mo_le n8
  have e8 := rd_len (b8.k.2.1) b8.k.2.2.choose_spec
  have m8 : mz_mo [] 9 80 h h8 := m7.tr n8 (fun y hy => Or.inr (by first | exact absurd hy List.not_mem_nil | (simp only [List.mem_cons, List.not_mem_nil, or_false] at hy; omega))) (by omega) (by omega)
  have a8 : mz_mo [] 3 32 h5 h8 := a7.tr n8 (fun y hy => Or.inr (by first | exact absurd hy List.not_mem_nil | (simp only [List.mem_cons, List.not_mem_nil, or_false] at hy; omega))) (by omega) (by omega)
  have u8 := mo_le m8
  have x8 : h5.length ≤ B8 ∧ B8 < h8.length := by omega
  clear n8 w8 e8 q8 m7 a7 u7 x7 b7
  refine s_aldn (p' := 207) rfl rfl rfl ?_
  refine s_callEV (p' := 210) (ls0 := [_, _]) rfl rfl rfl rfl rfl (mj_rcv_is b8.k.1) rfl (y_aS2 (m := 2) b8 (t5.f0 a8.1) (by omega) (by omega) (by first | omega | (simp only [List.length_append, List.length_cons, List.length_nil, List.nil_append]; omega)) (by decide) (t5.ne a8.1 (by omega) b8.k.2.1)) (Nat.ble_eq.mpr (by omega)) rfl ?_
  rintro _ h9 ⟨rfl, B9, b9, q9, n9⟩
  have w9 := mo_le n9
  have e9 := rd_len (b9.k.2.1) b9.k.2.2.choose_spec
  have m9 : mz_mo [] 10 94 h h9 := m8.tr n9 (fun y hy => Or.inr (by first | exact absurd hy List.not_mem_nil | (simp only [List.mem_cons, List.not_mem_nil, or_false] at hy; omega))) (by omega) (by omega)
  have a9 : mz_mo [] 4 46 h5 h9 := a8.tr n9 (fun y hy => Or.inr (by first | exact absurd hy List.not_mem_nil | (simp only [List.mem_cons, List.not_mem_nil, or_false] at hy; omega))) (by omega) (by omega)
  have u9 := mo_le m9
  have x9 : h5.length ≤ B9 ∧ B9 < h9.length := by omega
  clear n9 w9 e9 q9 m8 a8 u8 x8 b8
  refine s_callEV (p' := 213) (ls0 := [_]) rfl rfl rfl rfl rfl (mj_rcv_is b9.k.1) rfl (y_tS2 (m := 2) b9 (by omega) (by first | omega | (simp only [List.length_append, List.length_cons, List.length_nil, List.nil_append]; omega)) (by decide)) (Nat.ble_eq.mpr (by omega)) rfl ?_
  rintro _ h10 ⟨rfl, t10, p10, n10⟩
  have w10 := mo_le n10
  have m10 : mz_mo [] 12 102 h h10 := m9.tr n10 (fun y hy => Or.inr (by first | exact absurd hy List.not_mem_nil | (simp only [List.mem_cons, List.not_mem_nil, or_false] at hy; omega))) (by omega) (by omega)
  have a10 : mz_mo [] 6 54 h5 h10 := a9.tr n10 (fun y hy => Or.inr (by first | exact absurd hy List.not_mem_nil | (simp only [List.mem_cons, List.not_mem_nil, or_false] at hy; omega))) (by omega) (by omega)
  have u10 := mo_le m10
  clear n10 w10 m9 a9 x9 b9
  refine s_aret rfl ?_
  exact ⟨_, _, rfl, ⟨_, rfl, by simpa only [List.append_assoc, List.cons_append, List.nil_append, List.append_nil] using t10, by omega, fun C rs q => by rw [p10 C rs q]; omega⟩, m10.wk (fun y hy => Or.inl hy) (by omega) (by omega)⟩
theorem y_pt126 {I : Nat → Prop} {h : mj_H} {p : Nat} {A : Nat → Nat} {vv : Value} {w : Nat} (hI : ∀ a, I a → a < mj_CB) (hP : mj_rd h p = some (ptC (nI (A 0)) (nI (A 1)) (nI w) vv .null .null .null .null)) (hb : h.length + 200 < mj_CB) (h0 : A 0 = 126) (h1 : A 1 < 8) (hw : w < 8)  : mj_Wp 14 365 (0, [some (.ref p), none], [], h) (mz_V fun r g => yTf h g r ([97 + A 1] ++ [126] ++ [97 + w]) ∧ mz_mo [] 32 500 h g) := by
  have m0 : mz_mo [] 0 0 h h := mz_mo.rf _ _ _ _
  have u0 := mo_le m0
  refine s_aldn (p' := 1) rfl rfl rfl ?_
  refine s_callV (p' := 4) (ls0 := [_]) rfl rfl rfl rfl rfl (mj_rcv_is hP) rfl (y_isb (s := A 0) (by omega) hP) (by first | decide | omega) rfl ?_
  refine s_if (p' := 99) true rfl (by rw [decide_eq_false (by omega)]; decide +kernel) rfl ?_
  refine s_newz (p' := 102) (a := h.length) rfl rfl rfl rfl ?_
  generalize hg1 : h ++ [_] = h1
  have s1 : mj_rd h1 h.length = some (.inr (20, [.null, .int (nI 0), .int (nI 0), .int (nI 0)])) := by rw [← hg1]; exact rd_nw (Nat.blt_eq.mpr (by omega)) rfl
  have l1 : h1.length = h.length + 1 := by rw [← hg1, List.length_append]; rfl
  have n1 : mz_mo [] 1 4 h h1 := by rw [← hg1]; exact mz_mo.ap [] _ _
  clear hg1
  have m1 : mz_mo [] 1 4 h h1 := m0.tr n1 (fun y hy => Or.inr (by first | exact absurd hy List.not_mem_nil | (simp only [List.mem_cons, List.not_mem_nil, or_false] at hy; omega))) (by omega) (by omega)
  have u1 := mo_le m1
  clear n1 m0
  refine s_sp (p' := 103) (ls' := _) rfl rfl rfl ?_
  refine s_callEN (p' := 106) (ls0 := [_]) rfl rfl rfl rfl rfl (mj_rcv_is s1) rfl (y_nsb (by omega) (by omega) s1) (Nat.ble_eq.mpr (by omega)) rfl ?_
  rintro h2 ⟨b2, n2⟩
  have w2 := mo_le n2
  have e2 := rd_len b2.k.2.1 b2.k.2.2.choose_spec
  have m2 : mz_mo [] 2 20 h h2 := m1.tr n2 (fun y hy => Or.inr (by first | exact absurd hy List.not_mem_nil | (simp only [List.mem_cons, List.not_mem_nil, or_false] at hy; omega))) (by omega) (by omega)
  have u2 := mo_le m2
  have x2 : h.length ≤ h1.length ∧ h1.length < h2.length := by omega
  clear n2 w2 e2 s1 m1 u1
  refine s_sh (p' := 108) (ls' := _) (st' := .ref 1000300 :: _) (h' := _) rfl rfl rfl rfl ?_
  refine s_callEV (p' := 111) (ls0 := [_, _]) rfl rfl rfl rfl rfl (mj_rcv_is b2.k.1) rfl (y_aS2 (m := 0) b2 (k_e _) (by omega) (by omega) (by first | omega | (simp only [List.length_append, List.length_cons, List.length_nil, List.nil_append]; omega)) (by decide) (fun C rs q => by cases q; omega)) (Nat.ble_eq.mpr (by omega)) rfl ?_
  rintro _ h3 ⟨rfl, B3, b3, q3, n3⟩
  have w3 := mo_le n3
  have e3 := rd_len (b3.k.2.1) b3.k.2.2.choose_spec
  have m3 : mz_mo [] 3 30 h h3 := m2.tr n3 (fun y hy => Or.inr (by first | exact absurd hy List.not_mem_nil | (simp only [List.mem_cons, List.not_mem_nil, or_false] at hy; omega))) (by omega) (by omega)
  have u3 := mo_le m3
  have x3 : h.length ≤ B3 ∧ B3 < h3.length := by omega
  clear n3 w3 e3 q3 m2 u2 x2 b2
  refine s_bip (p' := 113) rfl rfl ?_
  refine s_aldn (p' := 114) rfl rfl rfl ?_
  refine s_gf (p' := 117) rfl (m3.1 _ (by simp) _ hP) rfl rfl ?_
  refine s_sp (p' := 118) (ls' := _) rfl rfl rfl ?_
  rw [mI_add]
  refine s_sp (p' := 119) (ls' := _) rfl rfl rfl ?_
  rw [i2c_n (by omega)]
  refine s_callEV (p' := 122) (ls0 := [_, _]) rfl rfl rfl rfl rfl (mj_rcv_is b3.k.1) rfl (y_aC2 (m := 1) b3 (by omega) (by omega) (by first | omega | (simp only [List.length_append, List.length_cons, List.length_nil, List.nil_append]; omega)) (by decide) (by omega)) (Nat.ble_eq.mpr (by omega)) rfl ?_
  rintro _ h4 ⟨rfl, B4, b4, q4, n4⟩
  have w4 := mo_le n4
  have e4 := rd_len (b4.k.2.1) b4.k.2.2.choose_spec
  have m4 : mz_mo [] 4 42 h h4 := m3.tr n4 (fun y hy => Or.inr (by first | exact absurd hy List.not_mem_nil | (simp only [List.mem_cons, List.not_mem_nil, or_false] at hy; omega))) (by omega) (by omega)
  have u4 := mo_le m4
  have x4 : h.length ≤ B4 ∧ B4 < h4.length := by omega
  clear n4 w4 e4 q4 m3 u3 x3 b3
  refine s_callEV (p' := 125) (ls0 := [_]) rfl rfl rfl rfl rfl (mj_rcv_is b4.k.1) rfl (y_tS2 (m := 1) b4 (by omega) (by first | omega | (simp only [List.length_append, List.length_cons, List.length_nil, List.nil_append]; omega)) (by decide)) (Nat.ble_eq.mpr (by omega)) rfl ?_
  rintro _ h5 ⟨rfl, t5, p5, n5⟩
  have w5 := mo_le n5
  have m5 : mz_mo [] 6 48 h h5 := m4.tr n5 (fun y hy => Or.inr (by first | exact absurd hy List.not_mem_nil | (simp only [List.mem_cons, List.not_mem_nil, or_false] at hy; omega))) (by omega) (by omega)
  have u5 := mo_le m5
  clear n5 w5 m4 x4 b4
  have a5 : mz_mo [] 0 0 h5 h5 := mz_mo.rf _ _ _ _
  refine s_astn (p' := 126) (ls' := [_, _]) rfl rfl rfl rfl ?_
  refine s_aldn (p' := 127) rfl rfl rfl ?_
  refine s_gf (p' := 130) rfl (m5.1 _ (by simp) _ hP) rfl rfl ?_
  rw [h0]
  refine s_bip (p' := 132) rfl rfl ?_
  refine s_icmp (p' := 135) false rfl ((ci_eq (by decide) (by decide)).trans (decide_eq_false (by decide))) rfl ?_
  refine s_aldn (p' := 136) rfl rfl rfl ?_
  refine s_gf (p' := 139) rfl (m5.1 _ (by simp) _ hP) rfl rfl ?_
  rw [h0]
  refine s_bip (p' := 141) rfl rfl ?_
  refine s_icmp (p' := 174) true rfl ((ci_ne (by decide) (by decide)).trans (decide_eq_true (by decide))) rfl ?_
  refine s_aldn (p' := 175) rfl rfl rfl ?_
  refine s_gf (p' := 178) rfl (m5.1 _ (by simp) _ hP) rfl rfl ?_
  rw [h0]
  refine s_bip (p' := 180) rfl rfl ?_
  refine s_icmp (p' := 183) false rfl ((ci_eq (by decide) (by decide)).trans (decide_eq_false (by decide))) rfl ?_
  refine s_aldn (p' := 184) rfl rfl rfl ?_
  refine s_gf (p' := 187) rfl (m5.1 _ (by simp) _ hP) rfl rfl ?_
  rw [h0]
  refine s_bip (p' := 189) rfl rfl ?_
  refine s_icmp (p' := 214) true rfl ((ci_ne (by decide) (by decide)).trans (decide_eq_true (by decide))) rfl ?_
  refine s_aldn (p' := 215) rfl rfl rfl ?_
  refine s_gf (p' := 218) rfl (m5.1 _ (by simp) _ hP) rfl rfl ?_
  rw [h0]
  refine s_bip (p' := 220) rfl rfl ?_
  refine s_icmp (p' := 223) false rfl ((ci_ne (by decide) (by decide)).trans (decide_eq_false (by decide))) rfl ?_
  refine s_newz (p' := 226) (a := h5.length) rfl rfl rfl rfl ?_
  generalize hg6 : h5 ++ [_] = h6
  have s6 : mj_rd h6 h5.length = some (.inr (20, [.null, .int (nI 0), .int (nI 0), .int (nI 0)])) := by rw [← hg6]; exact rd_nw (Nat.blt_eq.mpr (by omega)) rfl
  have l6 : h6.length = h5.length + 1 := by rw [← hg6, List.length_append]; rfl
  have n6 : mz_mo [] 1 4 h5 h6 := by rw [← hg6]; exact mz_mo.ap [] _ _
  clear hg6
  have m6 : mz_mo [] 7 52 h h6 := m5.tr n6 (fun y hy => Or.inr (by first | exact absurd hy List.not_mem_nil | (simp only [List.mem_cons, List.not_mem_nil, or_false] at hy; omega))) (by omega) (by omega)
  have a6 : mz_mo [] 1 4 h5 h6 := a5.tr n6 (fun y hy => Or.inr (by first | exact absurd hy List.not_mem_nil | (simp only [List.mem_cons, List.not_mem_nil, or_false] at hy; omega))) (by omega) (by omega)
  have u6 := mo_le m6
  clear n6 m5 a5
  refine s_sp (p' := 227) (ls' := _) rfl rfl rfl ?_
  refine s_callEN (p' := 230) (ls0 := [_]) rfl rfl rfl rfl rfl (mj_rcv_is s6) rfl (y_nsb (by omega) (by omega) s6) (Nat.ble_eq.mpr (by omega)) rfl ?_
  rintro h7 ⟨b7, n7⟩
  have w7 := mo_le n7
  have e7 := rd_len b7.k.2.1 b7.k.2.2.choose_spec
  have m7 : mz_mo [] 8 68 h h7 := m6.tr n7 (fun y hy => Or.inr (by first | exact absurd hy List.not_mem_nil | (simp only [List.mem_cons, List.not_mem_nil, or_false] at hy; omega))) (by omega) (by omega)
  have a7 : mz_mo [] 2 20 h5 h7 := a6.tr n7 (fun y hy => Or.inr (by first | exact absurd hy List.not_mem_nil | (simp only [List.mem_cons, List.not_mem_nil, or_false] at hy; omega))) (by omega) (by omega)
  have u7 := mo_le m7
  have x7 : h5.length ≤ h6.length ∧ h6.length < h7.length := by omega
  clear n7 w7 e7 s6 m6 a6 u6
  refine s_aldn (p' := 231) rfl rfl rfl ?_
  refine s_callEV (p' := 234) (ls0 := [_, _]) rfl rfl rfl rfl rfl (mj_rcv_is b7.k.1) rfl (y_aS2 (m := 1) b7 (t5.f0 a7.1) (by omega) (by omega) (by first | omega | (simp only [List.length_append, List.length_cons, List.length_nil, List.nil_append]; omega)) (by decide) (t5.ne a7.1 (by omega) b7.k.2.1)) (Nat.ble_eq.mpr (by omega)) rfl ?_
  rintro _ h8 ⟨rfl, B8, b8, q8, n8⟩
  have w8 := mo_le n8
  have e8 := rd_len (b8.k.2.1) b8.k.2.2.choose_spec
  have m8 : mz_mo [] 9 80 h h8 := m7.tr n8 (fun y hy => Or.inr (by first | exact absurd hy List.not_mem_nil | (simp only [List.mem_cons, List.not_mem_nil, or_false] at hy; omega))) (by omega) (by omega)
  have a8 : mz_mo [] 3 32 h5 h8 := a7.tr n8 (fun y hy => Or.inr (by first | exact absurd hy List.not_mem_nil | (simp only [List.mem_cons, List.not_mem_nil, or_false] at hy; omega))) (by omega) (by omega)
  have u8 := mo_le m8
  have x8 : h5.length ≤ B8 ∧ B8 < h8.length := by omega
  clear n8 w8 e8 q8 m7 a7 u7 x7 b7
  refine s_sh (p' := 236) (ls' := _) (st' := .ref 1000320 :: _) (h' := _) rfl rfl rfl rfl ?_
  refine s_callEV (p' := 239) (ls0 := [_, _]) rfl rfl rfl rfl rfl (mj_rcv_is b8.k.1) rfl (y_aS2 (m := 2) b8 (k_t320 _) (by omega) (by omega) (by first | omega | (simp only [List.length_append, List.length_cons, List.length_nil, List.nil_append]; omega)) (by decide) (fun C rs q => by cases q; omega)) (Nat.ble_eq.mpr (by omega)) rfl ?_
  rintro _ h9 ⟨rfl, B9, b9, q9, n9⟩
  have w9 := mo_le n9
  have e9 := rd_len (b9.k.2.1) b9.k.2.2.choose_spec
  have m9 : mz_mo [] 10 94 h h9 := m8.tr n9 (fun y hy => Or.inr (by first | exact absurd hy List.not_mem_nil | (simp only [List.mem_cons, List.not_mem_nil, or_false] at hy; omega))) (by omega) (by omega)
  have a9 : mz_mo [] 4 46 h5 h9 := a8.tr n9 (fun y hy => Or.inr (by first | exact absurd hy List.not_mem_nil | (simp only [List.mem_cons, List.not_mem_nil, or_false] at hy; omega))) (by omega) (by omega)
  have u9 := mo_le m9
  have x9 : h5.length ≤ B9 ∧ B9 < h9.length := by omega
  clear n9 w9 e9 q9 m8 a8 u8 x8 b8
  refine s_bip (p' := 241) rfl rfl ?_
  refine s_aldn (p' := 242) rfl rfl rfl ?_
  refine s_gf (p' := 245) rfl (m9.1 _ (by simp) _ hP) rfl rfl ?_
  refine s_sp (p' := 246) (ls' := _) rfl rfl rfl ?_
  rw [mI_add]
  refine s_sp (p' := 247) (ls' := _) rfl rfl rfl ?_
  rw [i2c_n (by omega)]
  refine s_callEV (p' := 250) (ls0 := [_, _]) rfl rfl rfl rfl rfl (mj_rcv_is b9.k.1) rfl (y_aC2 (m := 3) b9 (by omega) (by omega) (by first | omega | (simp only [List.length_append, List.length_cons, List.length_nil, List.nil_append]; omega)) (by decide) (by omega)) (Nat.ble_eq.mpr (by omega)) rfl ?_
  rintro _ h10 ⟨rfl, B10, b10, q10, n10⟩
  have w10 := mo_le n10
  have e10 := rd_len (b10.k.2.1) b10.k.2.2.choose_spec
  have m10 : mz_mo [] 11 110 h h10 := m9.tr n10 (fun y hy => Or.inr (by first | exact absurd hy List.not_mem_nil | (simp only [List.mem_cons, List.not_mem_nil, or_false] at hy; omega))) (by omega) (by omega)
  have a10 : mz_mo [] 5 62 h5 h10 := a9.tr n10 (fun y hy => Or.inr (by first | exact absurd hy List.not_mem_nil | (simp only [List.mem_cons, List.not_mem_nil, or_false] at hy; omega))) (by omega) (by omega)
  have u10 := mo_le m10
  have x10 : h5.length ≤ B10 ∧ B10 < h10.length := by omega
  clear n10 w10 e10 q10 m9 a9 u9 x9 b9
  refine s_callEV (p' := 253) (ls0 := [_]) rfl rfl rfl rfl rfl (mj_rcv_is b10.k.1) rfl (y_tS2 (m := 3) b10 (by omega) (by first | omega | (simp only [List.length_append, List.length_cons, List.length_nil, List.nil_append]; omega)) (by decide)) (Nat.ble_eq.mpr (by omega)) rfl ?_
  rintro _ h11 ⟨rfl, t11, p11, n11⟩
  have w11 := mo_le n11
  have m11 : mz_mo [] 13 120 h h11 := m10.tr n11 (fun y hy => Or.inr (by first | exact absurd hy List.not_mem_nil | (simp only [List.mem_cons, List.not_mem_nil, or_false] at hy; omega))) (by omega) (by omega)
  have a11 : mz_mo [] 7 72 h5 h11 := a10.tr n11 (fun y hy => Or.inr (by first | exact absurd hy List.not_mem_nil | (simp only [List.mem_cons, List.not_mem_nil, or_false] at hy; omega))) (by omega) (by omega)
  have u11 := mo_le m11
  clear n11 w11 m10 a10 x10 b10
  refine s_goto (p' := 287) rfl rfl ?_
  refine s_aret rfl ?_
  exact ⟨_, _, rfl, ⟨_, rfl, by simpa only [List.append_assoc, List.cons_append, List.nil_append, List.append_nil] using t11, by omega, fun C rs q => by rw [p11 C rs q]; omega⟩, m11.wk (fun y hy => Or.inl hy) (by omega) (by omega)⟩
theorem y_pt43 {I : Nat → Prop} {h : mj_H} {p : Nat} {A : Nat → Nat} {bb : Int32} {S : Nat} (hI : ∀ a, I a → a < mj_CB) (hP : mj_rd h p = some (ptC (nI (A 0)) (nI (A 1)) bb (.ref S) .null .null .null .null)) (hb : h.length + 200 < mj_CB) (h0 : A 0 = 43) (h1 : A 1 < 8) (hs : ySu I h S (A 2) (A 3) (A 4)) (z3 : A 3 < 256)  : mj_Wp 14 365 (0, [some (.ref p), none], [], h) (mz_V fun r g => yTf h g r ([97 + A 1] ++ [43] ++ pSum A) ∧ mz_mo [] 32 500 h g) := by
  have m0 : mz_mo [] 0 0 h h := mz_mo.rf _ _ _ _
  have u0 := mo_le m0
  refine s_aldn (p' := 1) rfl rfl rfl ?_
  refine s_callV (p' := 4) (ls0 := [_]) rfl rfl rfl rfl rfl (mj_rcv_is hP) rfl (y_isb (s := A 0) (by omega) hP) (by first | decide | omega) rfl ?_
  refine s_if (p' := 99) true rfl (by rw [decide_eq_false (by omega)]; decide +kernel) rfl ?_
  refine s_newz (p' := 102) (a := h.length) rfl rfl rfl rfl ?_
  generalize hg1 : h ++ [_] = h1
  have s1 : mj_rd h1 h.length = some (.inr (20, [.null, .int (nI 0), .int (nI 0), .int (nI 0)])) := by rw [← hg1]; exact rd_nw (Nat.blt_eq.mpr (by omega)) rfl
  have l1 : h1.length = h.length + 1 := by rw [← hg1, List.length_append]; rfl
  have n1 : mz_mo [] 1 4 h h1 := by rw [← hg1]; exact mz_mo.ap [] _ _
  clear hg1
  have m1 : mz_mo [] 1 4 h h1 := m0.tr n1 (fun y hy => Or.inr (by first | exact absurd hy List.not_mem_nil | (simp only [List.mem_cons, List.not_mem_nil, or_false] at hy; omega))) (by omega) (by omega)
  have u1 := mo_le m1
  clear n1 m0
  refine s_sp (p' := 103) (ls' := _) rfl rfl rfl ?_
  refine s_callEN (p' := 106) (ls0 := [_]) rfl rfl rfl rfl rfl (mj_rcv_is s1) rfl (y_nsb (by omega) (by omega) s1) (Nat.ble_eq.mpr (by omega)) rfl ?_
  rintro h2 ⟨b2, n2⟩
  have w2 := mo_le n2
  have e2 := rd_len b2.k.2.1 b2.k.2.2.choose_spec
  have m2 : mz_mo [] 2 20 h h2 := m1.tr n2 (fun y hy => Or.inr (by first | exact absurd hy List.not_mem_nil | (simp only [List.mem_cons, List.not_mem_nil, or_false] at hy; omega))) (by omega) (by omega)
  have u2 := mo_le m2
  have x2 : h.length ≤ h1.length ∧ h1.length < h2.length := by omega
  clear n2 w2 e2 s1 m1 u1
  refine s_sh (p' := 108) (ls' := _) (st' := .ref 1000300 :: _) (h' := _) rfl rfl rfl rfl ?_
  refine s_callEV (p' := 111) (ls0 := [_, _]) rfl rfl rfl rfl rfl (mj_rcv_is b2.k.1) rfl (y_aS2 (m := 0) b2 (k_e _) (by omega) (by omega) (by first | omega | (simp only [List.length_append, List.length_cons, List.length_nil, List.nil_append]; omega)) (by decide) (fun C rs q => by cases q; omega)) (Nat.ble_eq.mpr (by omega)) rfl ?_
  rintro _ h3 ⟨rfl, B3, b3, q3, n3⟩
  have w3 := mo_le n3
  have e3 := rd_len (b3.k.2.1) b3.k.2.2.choose_spec
  have m3 : mz_mo [] 3 30 h h3 := m2.tr n3 (fun y hy => Or.inr (by first | exact absurd hy List.not_mem_nil | (simp only [List.mem_cons, List.not_mem_nil, or_false] at hy; omega))) (by omega) (by omega)
  have u3 := mo_le m3
  have x3 : h.length ≤ B3 ∧ B3 < h3.length := by omega
  clear n3 w3 e3 q3 m2 u2 x2 b2
  refine s_bip (p' := 113) rfl rfl ?_
  refine s_aldn (p' := 114) rfl rfl rfl ?_
  refine s_gf (p' := 117) rfl (m3.1 _ (by simp) _ hP) rfl rfl ?_
  refine s_sp (p' := 118) (ls' := _) rfl rfl rfl ?_
  rw [mI_add]
  refine s_sp (p' := 119) (ls' := _) rfl rfl rfl ?_
  rw [i2c_n (by omega)]
  refine s_callEV (p' := 122) (ls0 := [_, _]) rfl rfl rfl rfl rfl (mj_rcv_is b3.k.1) rfl (y_aC2 (m := 1) b3 (by omega) (by omega) (by first | omega | (simp only [List.length_append, List.length_cons, List.length_nil, List.nil_append]; omega)) (by decide) (by omega)) (Nat.ble_eq.mpr (by omega)) rfl ?_
  rintro _ h4 ⟨rfl, B4, b4, q4, n4⟩
  have w4 := mo_le n4
  have e4 := rd_len (b4.k.2.1) b4.k.2.2.choose_spec
  have m4 : mz_mo [] 4 42 h h4 := m3.tr n4 (fun y hy => Or.inr (by first | exact absurd hy List.not_mem_nil | (simp only [List.mem_cons, List.not_mem_nil, or_false] at hy; omega))) (by omega) (by omega)
  have u4 := mo_le m4
  have x4 : h.length ≤ B4 ∧ B4 < h4.length := by omega
  clear n4 w4 e4 q4 m3 u3 x3 b3
  refine s_callEV (p' := 125) (ls0 := [_]) rfl rfl rfl rfl rfl (mj_rcv_is b4.k.1) rfl (y_tS2 (m := 1) b4 (by omega) (by first | omega | (simp only [List.length_append, List.length_cons, List.length_nil, List.nil_append]; omega)) (by decide)) (Nat.ble_eq.mpr (by omega)) rfl ?_
  rintro _ h5 ⟨rfl, t5, p5, n5⟩
  have w5 := mo_le n5
  have m5 : mz_mo [] 6 48 h h5 := m4.tr n5 (fun y hy => Or.inr (by first | exact absurd hy List.not_mem_nil | (simp only [List.mem_cons, List.not_mem_nil, or_false] at hy; omega))) (by omega) (by omega)
  have u5 := mo_le m5
  clear n5 w5 m4 x4 b4
  have a5 : mz_mo [] 0 0 h5 h5 := mz_mo.rf _ _ _ _
  refine s_astn (p' := 126) (ls' := [_, _]) rfl rfl rfl rfl ?_
  refine s_aldn (p' := 127) rfl rfl rfl ?_
  refine s_gf (p' := 130) rfl (m5.1 _ (by simp) _ hP) rfl rfl ?_
  rw [h0]
  refine s_bip (p' := 132) rfl rfl ?_
  refine s_icmp (p' := 135) false rfl ((ci_eq (by decide) (by decide)).trans (decide_eq_false (by decide))) rfl ?_
  refine s_aldn (p' := 136) rfl rfl rfl ?_
  refine s_gf (p' := 139) rfl (m5.1 _ (by simp) _ hP) rfl rfl ?_
  rw [h0]
  refine s_bip (p' := 141) rfl rfl ?_
  refine s_icmp (p' := 174) true rfl ((ci_ne (by decide) (by decide)).trans (decide_eq_true (by decide))) rfl ?_
  refine s_aldn (p' := 175) rfl rfl rfl ?_
  refine s_gf (p' := 178) rfl (m5.1 _ (by simp) _ hP) rfl rfl ?_
  rw [h0]
  refine s_bip (p' := 180) rfl rfl ?_
  refine s_icmp (p' := 183) false rfl ((ci_eq (by decide) (by decide)).trans (decide_eq_false (by decide))) rfl ?_
  refine s_aldn (p' := 184) rfl rfl rfl ?_
  refine s_gf (p' := 187) rfl (m5.1 _ (by simp) _ hP) rfl rfl ?_
  rw [h0]
  refine s_bip (p' := 189) rfl rfl ?_
  refine s_icmp (p' := 214) true rfl ((ci_ne (by decide) (by decide)).trans (decide_eq_true (by decide))) rfl ?_
  refine s_aldn (p' := 215) rfl rfl rfl ?_
  refine s_gf (p' := 218) rfl (m5.1 _ (by simp) _ hP) rfl rfl ?_
  rw [h0]
  refine s_bip (p' := 220) rfl rfl ?_
  refine s_icmp (p' := 256) true rfl ((ci_ne (by decide) (by decide)).trans (decide_eq_true (by decide))) rfl ?_
  refine s_newz (p' := 259) (a := h5.length) rfl rfl rfl rfl ?_
  generalize hg6 : h5 ++ [_] = h6
  have s6 : mj_rd h6 h5.length = some (.inr (20, [.null, .int (nI 0), .int (nI 0), .int (nI 0)])) := by rw [← hg6]; exact rd_nw (Nat.blt_eq.mpr (by omega)) rfl
  have l6 : h6.length = h5.length + 1 := by rw [← hg6, List.length_append]; rfl
  have n6 : mz_mo [] 1 4 h5 h6 := by rw [← hg6]; exact mz_mo.ap [] _ _
  clear hg6
  have m6 : mz_mo [] 7 52 h h6 := m5.tr n6 (fun y hy => Or.inr (by first | exact absurd hy List.not_mem_nil | (simp only [List.mem_cons, List.not_mem_nil, or_false] at hy; omega))) (by omega) (by omega)
  have a6 : mz_mo [] 1 4 h5 h6 := a5.tr n6 (fun y hy => Or.inr (by first | exact absurd hy List.not_mem_nil | (simp only [List.mem_cons, List.not_mem_nil, or_false] at hy; omega))) (by omega) (by omega)
  have u6 := mo_le m6
  clear n6 m5 a5
  refine s_sp (p' := 260) (ls' := _) rfl rfl rfl ?_
  refine s_callEN (p' := 263) (ls0 := [_]) rfl rfl rfl rfl rfl (mj_rcv_is s6) rfl (y_nsb (by omega) (by omega) s6) (Nat.ble_eq.mpr (by omega)) rfl ?_
  rintro h7 ⟨b7, n7⟩
  have w7 := mo_le n7
  have e7 := rd_len b7.k.2.1 b7.k.2.2.choose_spec
  have m7 : mz_mo [] 8 68 h h7 := m6.tr n7 (fun y hy => Or.inr (by first | exact absurd hy List.not_mem_nil | (simp only [List.mem_cons, List.not_mem_nil, or_false] at hy; omega))) (by omega) (by omega)
  have a7 : mz_mo [] 2 20 h5 h7 := a6.tr n7 (fun y hy => Or.inr (by first | exact absurd hy List.not_mem_nil | (simp only [List.mem_cons, List.not_mem_nil, or_false] at hy; omega))) (by omega) (by omega)
  have u7 := mo_le m7
  have x7 : h5.length ≤ h6.length ∧ h6.length < h7.length := by omega
  clear n7 w7 e7 s6 m6 a6 u6
  refine s_aldn (p' := 264) rfl rfl rfl ?_
  refine s_callEV (p' := 267) (ls0 := [_, _]) rfl rfl rfl rfl rfl (mj_rcv_is b7.k.1) rfl (y_aS2 (m := 1) b7 (t5.f0 a7.1) (by omega) (by omega) (by first | omega | (simp only [List.length_append, List.length_cons, List.length_nil, List.nil_append]; omega)) (by decide) (t5.ne a7.1 (by omega) b7.k.2.1)) (Nat.ble_eq.mpr (by omega)) rfl ?_
  rintro _ h8 ⟨rfl, B8, b8, q8, n8⟩
  have w8 := mo_le n8
  have e8 := rd_len (b8.k.2.1) b8.k.2.2.choose_spec
  have m8 : mz_mo [] 9 80 h h8 := m7.tr n8 (fun y hy => Or.inr (by first | exact absurd hy List.not_mem_nil | (simp only [List.mem_cons, List.not_mem_nil, or_false] at hy; omega))) (by omega) (by omega)
  have a8 : mz_mo [] 3 32 h5 h8 := a7.tr n8 (fun y hy => Or.inr (by first | exact absurd hy List.not_mem_nil | (simp only [List.mem_cons, List.not_mem_nil, or_false] at hy; omega))) (by omega) (by omega)
  have u8 := mo_le m8
  have x8 : h5.length ≤ B8 ∧ B8 < h8.length := by omega
  clear n8 w8 e8 q8 m7 a7 u7 x7 b7
  refine s_aldn (p' := 268) rfl rfl rfl ?_
  refine s_gf (p' := 271) rfl (m8.1 _ (by simp) _ hP) rfl rfl ?_
  rw [h0]
  refine s_callEV (p' := 274) (ls0 := [_, _]) rfl rfl rfl rfl rfl (mj_rcv_is b8.k.1) rfl (y_aC2 (m := 2) b8 (by omega) (by omega) (by first | omega | (simp only [List.length_append, List.length_cons, List.length_nil, List.nil_append]; omega)) (by decide) (by decide)) (Nat.ble_eq.mpr (by omega)) rfl ?_
  rintro _ h9 ⟨rfl, B9, b9, q9, n9⟩
  have w9 := mo_le n9
  have e9 := rd_len (b9.k.2.1) b9.k.2.2.choose_spec
  have m9 : mz_mo [] 10 94 h h9 := m8.tr n9 (fun y hy => Or.inr (by first | exact absurd hy List.not_mem_nil | (simp only [List.mem_cons, List.not_mem_nil, or_false] at hy; omega))) (by omega) (by omega)
  have a9 : mz_mo [] 4 46 h5 h9 := a8.tr n9 (fun y hy => Or.inr (by first | exact absurd hy List.not_mem_nil | (simp only [List.mem_cons, List.not_mem_nil, or_false] at hy; omega))) (by omega) (by omega)
  have u9 := mo_le m9
  have x9 : h5.length ≤ B9 ∧ B9 < h9.length := by omega
  clear n9 w9 e9 q9 m8 a8 u8 x8 b8
  refine s_aldn (p' := 275) rfl rfl rfl ?_
  refine s_gf (p' := 278) rfl (m9.1 _ (by simp) _ hP) rfl rfl ?_
  have sl := hs.ok
  have sm : ySu I h9 S (A 2) (A 3) (A 4) := hs.mv ⟨m9.1, hI, fun a ha _ => ⟨List.not_mem_nil, ha⟩⟩
  obtain ⟨_, _, _, _, sk⟩ := sm.k
  refine s_callEV (p' := 281) (ls0 := [_]) rfl rfl rfl rfl rfl (mj_rcv_is sk) rfl (y_sum sm z3 (by omega)) (Nat.ble_eq.mpr (by omega)) rfl ?_
  rintro _ h10 ⟨⟨T10, rfl, ff⟩, n10⟩
  have w10 := mo_le n10
  have c10 := b9.fr n10.1 (by simp) (by simp)
  have m10 : mz_mo [] 29 354 h h10 := m9.tr n10 (fun y hy => Or.inr (by first | exact absurd hy List.not_mem_nil | (simp only [List.mem_cons, List.not_mem_nil, or_false] at hy; omega))) (by omega) (by omega)
  have a10 : mz_mo [] 23 306 h5 h10 := a9.tr n10 (fun y hy => Or.inr (by first | exact absurd hy List.not_mem_nil | (simp only [List.mem_cons, List.not_mem_nil, or_false] at hy; omega))) (by omega) (by omega)
  have u10 := mo_le m10
  have y10 : h5.length ≤ B9 ∧ B9 < h9.length ∧ h9.length ≤ h10.length := by omega
  clear n10 w10 m9 a9 u9 x9 b9 
  refine s_callEV (p' := 284) (ls0 := [_, _]) rfl rfl rfl rfl rfl (mj_rcv_is c10.k.1) rfl (y_aS2 (m := 9) c10 ff.1 (by omega) (by omega) (by first | omega | (simp only [List.length_append, List.length_cons, List.length_nil, List.nil_append]; omega)) (by decide) (fun C rs q => by have := ff.2.2 C rs q; omega)) (Nat.ble_eq.mpr (by omega)) rfl ?_
  rintro _ h11 ⟨rfl, B11, b11, q11, n11⟩
  have w11 := mo_le n11
  have e11 := rd_len (b11.k.2.1) b11.k.2.2.choose_spec
  have m11 : mz_mo [] 30 382 h h11 := m10.tr n11 (fun y hy => Or.inr (by first | exact absurd hy List.not_mem_nil | (simp only [List.mem_cons, List.not_mem_nil, or_false] at hy; omega))) (by omega) (by omega)
  have a11 : mz_mo [] 24 334 h5 h11 := a10.tr n11 (fun y hy => Or.inr (by first | exact absurd hy List.not_mem_nil | (simp only [List.mem_cons, List.not_mem_nil, or_false] at hy; omega))) (by omega) (by omega)
  have u11 := mo_le m11
  have x11 : h5.length ≤ B11 ∧ B11 < h11.length := by omega
  clear n11 w11 e11 q11 m10 a10 u10 y10 c10 ff
  refine s_callEV (p' := 287) (ls0 := [_]) rfl rfl rfl rfl rfl (mj_rcv_is b11.k.1) rfl (y_tS2 (m := 9) b11 (by omega) (by first | omega | (simp only [List.length_append, List.length_cons, List.length_nil, List.nil_append]; omega)) (by decide)) (Nat.ble_eq.mpr (by omega)) rfl ?_
  rintro _ h12 ⟨rfl, t12, p12, n12⟩
  have w12 := mo_le n12
  have m12 : mz_mo [] 32 404 h h12 := m11.tr n12 (fun y hy => Or.inr (by first | exact absurd hy List.not_mem_nil | (simp only [List.mem_cons, List.not_mem_nil, or_false] at hy; omega))) (by omega) (by omega)
  have a12 : mz_mo [] 26 356 h5 h12 := a11.tr n12 (fun y hy => Or.inr (by first | exact absurd hy List.not_mem_nil | (simp only [List.mem_cons, List.not_mem_nil, or_false] at hy; omega))) (by omega) (by omega)
  have u12 := mo_le m12
  clear n12 w12 m11 a11 x11 b11
  refine s_aret rfl ?_
  exact ⟨_, _, rfl, ⟨_, rfl, by simpa only [List.append_assoc, List.cons_append, List.nil_append, List.append_nil] using t12, by omega, fun C rs q => by rw [p12 C rs q]; omega⟩, m12.wk (fun y hy => Or.inl hy) (by omega) (by omega)⟩
theorem y_pt45 {I : Nat → Prop} {h : mj_H} {p : Nat} {A : Nat → Nat} {bb : Int32} {S : Nat} (hI : ∀ a, I a → a < mj_CB) (hP : mj_rd h p = some (ptC (nI (A 0)) (nI (A 1)) bb (.ref S) .null .null .null .null)) (hb : h.length + 200 < mj_CB) (h0 : A 0 = 45) (h1 : A 1 < 8) (hs : ySu I h S (A 2) (A 3) (A 4)) (z3 : A 3 < 256)  : mj_Wp 14 365 (0, [some (.ref p), none], [], h) (mz_V fun r g => yTf h g r ([97 + A 1] ++ [45] ++ pSum A) ∧ mz_mo [] 32 500 h g) := by
  have m0 : mz_mo [] 0 0 h h := mz_mo.rf _ _ _ _
  have u0 := mo_le m0
  refine s_aldn (p' := 1) rfl rfl rfl ?_
  refine s_callV (p' := 4) (ls0 := [_]) rfl rfl rfl rfl rfl (mj_rcv_is hP) rfl (y_isb (s := A 0) (by omega) hP) (by first | decide | omega) rfl ?_
  refine s_if (p' := 99) true rfl (by rw [decide_eq_false (by omega)]; decide +kernel) rfl ?_
  refine s_newz (p' := 102) (a := h.length) rfl rfl rfl rfl ?_
  generalize hg1 : h ++ [_] = h1
  have s1 : mj_rd h1 h.length = some (.inr (20, [.null, .int (nI 0), .int (nI 0), .int (nI 0)])) := by rw [← hg1]; exact rd_nw (Nat.blt_eq.mpr (by omega)) rfl
  have l1 : h1.length = h.length + 1 := by rw [← hg1, List.length_append]; rfl
  have n1 : mz_mo [] 1 4 h h1 := by rw [← hg1]; exact mz_mo.ap [] _ _
  clear hg1
  have m1 : mz_mo [] 1 4 h h1 := m0.tr n1 (fun y hy => Or.inr (by first | exact absurd hy List.not_mem_nil | (simp only [List.mem_cons, List.not_mem_nil, or_false] at hy; omega))) (by omega) (by omega)
  have u1 := mo_le m1
  clear n1 m0
  refine s_sp (p' := 103) (ls' := _) rfl rfl rfl ?_
  refine s_callEN (p' := 106) (ls0 := [_]) rfl rfl rfl rfl rfl (mj_rcv_is s1) rfl (y_nsb (by omega) (by omega) s1) (Nat.ble_eq.mpr (by omega)) rfl ?_
  rintro h2 ⟨b2, n2⟩
  have w2 := mo_le n2
  have e2 := rd_len b2.k.2.1 b2.k.2.2.choose_spec
  have m2 : mz_mo [] 2 20 h h2 := m1.tr n2 (fun y hy => Or.inr (by first | exact absurd hy List.not_mem_nil | (simp only [List.mem_cons, List.not_mem_nil, or_false] at hy; omega))) (by omega) (by omega)
  have u2 := mo_le m2
  have x2 : h.length ≤ h1.length ∧ h1.length < h2.length := by omega
  clear n2 w2 e2 s1 m1 u1
  refine s_sh (p' := 108) (ls' := _) (st' := .ref 1000300 :: _) (h' := _) rfl rfl rfl rfl ?_
  refine s_callEV (p' := 111) (ls0 := [_, _]) rfl rfl rfl rfl rfl (mj_rcv_is b2.k.1) rfl (y_aS2 (m := 0) b2 (k_e _) (by omega) (by omega) (by first | omega | (simp only [List.length_append, List.length_cons, List.length_nil, List.nil_append]; omega)) (by decide) (fun C rs q => by cases q; omega)) (Nat.ble_eq.mpr (by omega)) rfl ?_
  rintro _ h3 ⟨rfl, B3, b3, q3, n3⟩
  have w3 := mo_le n3
  have e3 := rd_len (b3.k.2.1) b3.k.2.2.choose_spec
  have m3 : mz_mo [] 3 30 h h3 := m2.tr n3 (fun y hy => Or.inr (by first | exact absurd hy List.not_mem_nil | (simp only [List.mem_cons, List.not_mem_nil, or_false] at hy; omega))) (by omega) (by omega)
  have u3 := mo_le m3
  have x3 : h.length ≤ B3 ∧ B3 < h3.length := by omega
  clear n3 w3 e3 q3 m2 u2 x2 b2
  refine s_bip (p' := 113) rfl rfl ?_
  refine s_aldn (p' := 114) rfl rfl rfl ?_
  refine s_gf (p' := 117) rfl (m3.1 _ (by simp) _ hP) rfl rfl ?_
  refine s_sp (p' := 118) (ls' := _) rfl rfl rfl ?_
  rw [mI_add]
  refine s_sp (p' := 119) (ls' := _) rfl rfl rfl ?_
  rw [i2c_n (by omega)]
  refine s_callEV (p' := 122) (ls0 := [_, _]) rfl rfl rfl rfl rfl (mj_rcv_is b3.k.1) rfl (y_aC2 (m := 1) b3 (by omega) (by omega) (by first | omega | (simp only [List.length_append, List.length_cons, List.length_nil, List.nil_append]; omega)) (by decide) (by omega)) (Nat.ble_eq.mpr (by omega)) rfl ?_
  rintro _ h4 ⟨rfl, B4, b4, q4, n4⟩
  have w4 := mo_le n4
  have e4 := rd_len (b4.k.2.1) b4.k.2.2.choose_spec
  have m4 : mz_mo [] 4 42 h h4 := m3.tr n4 (fun y hy => Or.inr (by first | exact absurd hy List.not_mem_nil | (simp only [List.mem_cons, List.not_mem_nil, or_false] at hy; omega))) (by omega) (by omega)
  have u4 := mo_le m4
  have x4 : h.length ≤ B4 ∧ B4 < h4.length := by omega
  clear n4 w4 e4 q4 m3 u3 x3 b3
  refine s_callEV (p' := 125) (ls0 := [_]) rfl rfl rfl rfl rfl (mj_rcv_is b4.k.1) rfl (y_tS2 (m := 1) b4 (by omega) (by first | omega | (simp only [List.length_append, List.length_cons, List.length_nil, List.nil_append]; omega)) (by decide)) (Nat.ble_eq.mpr (by omega)) rfl ?_
  rintro _ h5 ⟨rfl, t5, p5, n5⟩
  have w5 := mo_le n5
  have m5 : mz_mo [] 6 48 h h5 := m4.tr n5 (fun y hy => Or.inr (by first | exact absurd hy List.not_mem_nil | (simp only [List.mem_cons, List.not_mem_nil, or_false] at hy; omega))) (by omega) (by omega)
  have u5 := mo_le m5
  clear n5 w5 m4 x4 b4
  have a5 : mz_mo [] 0 0 h5 h5 := mz_mo.rf _ _ _ _
  refine s_astn (p' := 126) (ls' := [_, _]) rfl rfl rfl rfl ?_
  refine s_aldn (p' := 127) rfl rfl rfl ?_
  refine s_gf (p' := 130) rfl (m5.1 _ (by simp) _ hP) rfl rfl ?_
  rw [h0]
  refine s_bip (p' := 132) rfl rfl ?_
  refine s_icmp (p' := 135) false rfl ((ci_eq (by decide) (by decide)).trans (decide_eq_false (by decide))) rfl ?_
  refine s_aldn (p' := 136) rfl rfl rfl ?_
  refine s_gf (p' := 139) rfl (m5.1 _ (by simp) _ hP) rfl rfl ?_
  rw [h0]
  refine s_bip (p' := 141) rfl rfl ?_
  refine s_icmp (p' := 174) true rfl ((ci_ne (by decide) (by decide)).trans (decide_eq_true (by decide))) rfl ?_
  refine s_aldn (p' := 175) rfl rfl rfl ?_
  refine s_gf (p' := 178) rfl (m5.1 _ (by simp) _ hP) rfl rfl ?_
  rw [h0]
  refine s_bip (p' := 180) rfl rfl ?_
  refine s_icmp (p' := 183) false rfl ((ci_eq (by decide) (by decide)).trans (decide_eq_false (by decide))) rfl ?_
  refine s_aldn (p' := 184) rfl rfl rfl ?_
  refine s_gf (p' := 187) rfl (m5.1 _ (by simp) _ hP) rfl rfl ?_
  rw [h0]
  refine s_bip (p' := 189) rfl rfl ?_
  refine s_icmp (p' := 214) true rfl ((ci_ne (by decide) (by decide)).trans (decide_eq_true (by decide))) rfl ?_
  refine s_aldn (p' := 215) rfl rfl rfl ?_
  refine s_gf (p' := 218) rfl (m5.1 _ (by simp) _ hP) rfl rfl ?_
  rw [h0]
  refine s_bip (p' := 220) rfl rfl ?_
  refine s_icmp (p' := 256) true rfl ((ci_ne (by decide) (by decide)).trans (decide_eq_true (by decide))) rfl ?_
  refine s_newz (p' := 259) (a := h5.length) rfl rfl rfl rfl ?_
  generalize hg6 : h5 ++ [_] = h6
  have s6 : mj_rd h6 h5.length = some (.inr (20, [.null, .int (nI 0), .int (nI 0), .int (nI 0)])) := by rw [← hg6]; exact rd_nw (Nat.blt_eq.mpr (by omega)) rfl
  have l6 : h6.length = h5.length + 1 := by rw [← hg6, List.length_append]; rfl
  have n6 : mz_mo [] 1 4 h5 h6 := by rw [← hg6]; exact mz_mo.ap [] _ _
  clear hg6
  have m6 : mz_mo [] 7 52 h h6 := m5.tr n6 (fun y hy => Or.inr (by first | exact absurd hy List.not_mem_nil | (simp only [List.mem_cons, List.not_mem_nil, or_false] at hy; omega))) (by omega) (by omega)
  have a6 : mz_mo [] 1 4 h5 h6 := a5.tr n6 (fun y hy => Or.inr (by first | exact absurd hy List.not_mem_nil | (simp only [List.mem_cons, List.not_mem_nil, or_false] at hy; omega))) (by omega) (by omega)
  have u6 := mo_le m6
  clear n6 m5 a5
  refine s_sp (p' := 260) (ls' := _) rfl rfl rfl ?_
  refine s_callEN (p' := 263) (ls0 := [_]) rfl rfl rfl rfl rfl (mj_rcv_is s6) rfl (y_nsb (by omega) (by omega) s6) (Nat.ble_eq.mpr (by omega)) rfl ?_
  rintro h7 ⟨b7, n7⟩
  have w7 := mo_le n7
  have e7 := rd_len b7.k.2.1 b7.k.2.2.choose_spec
  have m7 : mz_mo [] 8 68 h h7 := m6.tr n7 (fun y hy => Or.inr (by first | exact absurd hy List.not_mem_nil | (simp only [List.mem_cons, List.not_mem_nil, or_false] at hy; omega))) (by omega) (by omega)
  have a7 : mz_mo [] 2 20 h5 h7 := a6.tr n7 (fun y hy => Or.inr (by first | exact absurd hy List.not_mem_nil | (simp only [List.mem_cons, List.not_mem_nil, or_false] at hy; omega))) (by omega) (by omega)
  have u7 := mo_le m7
  have x7 : h5.length ≤ h6.length ∧ h6.length < h7.length := by omega
  clear n7 w7 e7 s6 m6 a6 u6
  refine s_aldn (p' := 264) rfl rfl rfl ?_
  refine s_callEV (p' := 267) (ls0 := [_, _]) rfl rfl rfl rfl rfl (mj_rcv_is b7.k.1) rfl (y_aS2 (m := 1) b7 (t5.f0 a7.1) (by omega) (by omega) (by first | omega | (simp only [List.length_append, List.length_cons, List.length_nil, List.nil_append]; omega)) (by decide) (t5.ne a7.1 (by omega) b7.k.2.1)) (Nat.ble_eq.mpr (by omega)) rfl ?_
  rintro _ h8 ⟨rfl, B8, b8, q8, n8⟩
  have w8 := mo_le n8
  have e8 := rd_len (b8.k.2.1) b8.k.2.2.choose_spec
  have m8 : mz_mo [] 9 80 h h8 := m7.tr n8 (fun y hy => Or.inr (by first | exact absurd hy List.not_mem_nil | (simp only [List.mem_cons, List.not_mem_nil, or_false] at hy; omega))) (by omega) (by omega)
  have a8 : mz_mo [] 3 32 h5 h8 := a7.tr n8 (fun y hy => Or.inr (by first | exact absurd hy List.not_mem_nil | (simp only [List.mem_cons, List.not_mem_nil, or_false] at hy; omega))) (by omega) (by omega)
  have u8 := mo_le m8
  have x8 : h5.length ≤ B8 ∧ B8 < h8.length := by omega
  clear n8 w8 e8 q8 m7 a7 u7 x7 b7
  refine s_aldn (p' := 268) rfl rfl rfl ?_
  refine s_gf (p' := 271) rfl (m8.1 _ (by simp) _ hP) rfl rfl ?_
  rw [h0]
  refine s_callEV (p' := 274) (ls0 := [_, _]) rfl rfl rfl rfl rfl (mj_rcv_is b8.k.1) rfl (y_aC2 (m := 2) b8 (by omega) (by omega) (by first | omega | (simp only [List.length_append, List.length_cons, List.length_nil, List.nil_append]; omega)) (by decide) (by decide)) (Nat.ble_eq.mpr (by omega)) rfl ?_
  rintro _ h9 ⟨rfl, B9, b9, q9, n9⟩
  have w9 := mo_le n9
  have e9 := rd_len (b9.k.2.1) b9.k.2.2.choose_spec
  have m9 : mz_mo [] 10 94 h h9 := m8.tr n9 (fun y hy => Or.inr (by first | exact absurd hy List.not_mem_nil | (simp only [List.mem_cons, List.not_mem_nil, or_false] at hy; omega))) (by omega) (by omega)
  have a9 : mz_mo [] 4 46 h5 h9 := a8.tr n9 (fun y hy => Or.inr (by first | exact absurd hy List.not_mem_nil | (simp only [List.mem_cons, List.not_mem_nil, or_false] at hy; omega))) (by omega) (by omega)
  have u9 := mo_le m9
  have x9 : h5.length ≤ B9 ∧ B9 < h9.length := by omega
  clear n9 w9 e9 q9 m8 a8 u8 x8 b8
  refine s_aldn (p' := 275) rfl rfl rfl ?_
  refine s_gf (p' := 278) rfl (m9.1 _ (by simp) _ hP) rfl rfl ?_
  have sl := hs.ok
  have sm : ySu I h9 S (A 2) (A 3) (A 4) := hs.mv ⟨m9.1, hI, fun a ha _ => ⟨List.not_mem_nil, ha⟩⟩
  obtain ⟨_, _, _, _, sk⟩ := sm.k
  refine s_callEV (p' := 281) (ls0 := [_]) rfl rfl rfl rfl rfl (mj_rcv_is sk) rfl (y_sum sm z3 (by omega)) (Nat.ble_eq.mpr (by omega)) rfl ?_
  rintro _ h10 ⟨⟨T10, rfl, ff⟩, n10⟩
  have w10 := mo_le n10
  have c10 := b9.fr n10.1 (by simp) (by simp)
  have m10 : mz_mo [] 29 354 h h10 := m9.tr n10 (fun y hy => Or.inr (by first | exact absurd hy List.not_mem_nil | (simp only [List.mem_cons, List.not_mem_nil, or_false] at hy; omega))) (by omega) (by omega)
  have a10 : mz_mo [] 23 306 h5 h10 := a9.tr n10 (fun y hy => Or.inr (by first | exact absurd hy List.not_mem_nil | (simp only [List.mem_cons, List.not_mem_nil, or_false] at hy; omega))) (by omega) (by omega)
  have u10 := mo_le m10
  have y10 : h5.length ≤ B9 ∧ B9 < h9.length ∧ h9.length ≤ h10.length := by omega
  clear n10 w10 m9 a9 u9 x9 b9 
  refine s_callEV (p' := 284) (ls0 := [_, _]) rfl rfl rfl rfl rfl (mj_rcv_is c10.k.1) rfl (y_aS2 (m := 9) c10 ff.1 (by omega) (by omega) (by first | omega | (simp only [List.length_append, List.length_cons, List.length_nil, List.nil_append]; omega)) (by decide) (fun C rs q => by have := ff.2.2 C rs q; omega)) (Nat.ble_eq.mpr (by omega)) rfl ?_
  rintro _ h11 ⟨rfl, B11, b11, q11, n11⟩
  have w11 := mo_le n11
  have e11 := rd_len (b11.k.2.1) b11.k.2.2.choose_spec
  have m11 : mz_mo [] 30 382 h h11 := m10.tr n11 (fun y hy => Or.inr (by first | exact absurd hy List.not_mem_nil | (simp only [List.mem_cons, List.not_mem_nil, or_false] at hy; omega))) (by omega) (by omega)
  have a11 : mz_mo [] 24 334 h5 h11 := a10.tr n11 (fun y hy => Or.inr (by first | exact absurd hy List.not_mem_nil | (simp only [List.mem_cons, List.not_mem_nil, or_false] at hy; omega))) (by omega) (by omega)
  have u11 := mo_le m11
  have x11 : h5.length ≤ B11 ∧ B11 < h11.length := by omega
  clear n11 w11 e11 q11 m10 a10 u10 y10 c10 ff
  refine s_callEV (p' := 287) (ls0 := [_]) rfl rfl rfl rfl rfl (mj_rcv_is b11.k.1) rfl (y_tS2 (m := 9) b11 (by omega) (by first | omega | (simp only [List.length_append, List.length_cons, List.length_nil, List.nil_append]; omega)) (by decide)) (Nat.ble_eq.mpr (by omega)) rfl ?_
  rintro _ h12 ⟨rfl, t12, p12, n12⟩
  have w12 := mo_le n12
  have m12 : mz_mo [] 32 404 h h12 := m11.tr n12 (fun y hy => Or.inr (by first | exact absurd hy List.not_mem_nil | (simp only [List.mem_cons, List.not_mem_nil, or_false] at hy; omega))) (by omega) (by omega)
  have a12 : mz_mo [] 26 356 h5 h12 := a11.tr n12 (fun y hy => Or.inr (by first | exact absurd hy List.not_mem_nil | (simp only [List.mem_cons, List.not_mem_nil, or_false] at hy; omega))) (by omega) (by omega)
  have u12 := mo_le m12
  clear n12 w12 m11 a11 x11 b11
  refine s_aret rfl ?_
  exact ⟨_, _, rfl, ⟨_, rfl, by simpa only [List.append_assoc, List.cons_append, List.nil_append, List.append_nil] using t12, by omega, fun C rs q => by rw [p12 C rs q]; omega⟩, m12.wk (fun y hy => Or.inl hy) (by omega) (by omega)⟩
theorem y_pt94 {I : Nat → Prop} {h : mj_H} {p : Nat} {A : Nat → Nat} {bb : Int32} {S : Nat} (hI : ∀ a, I a → a < mj_CB) (hP : mj_rd h p = some (ptC (nI (A 0)) (nI (A 1)) bb (.ref S) .null .null .null .null)) (hb : h.length + 200 < mj_CB) (h0 : A 0 = 94) (h1 : A 1 < 8) (hs : ySu I h S (A 2) (A 3) (A 4)) (z3 : A 3 < 256)  : mj_Wp 14 365 (0, [some (.ref p), none], [], h) (mz_V fun r g => yTf h g r ([97 + A 1] ++ [94] ++ pSum A) ∧ mz_mo [] 32 500 h g) := by
  have m0 : mz_mo [] 0 0 h h := mz_mo.rf _ _ _ _
  have u0 := mo_le m0
  refine s_aldn (p' := 1) rfl rfl rfl ?_
  refine s_callV (p' := 4) (ls0 := [_]) rfl rfl rfl rfl rfl (mj_rcv_is hP) rfl (y_isb (s := A 0) (by omega) hP) (by first | decide | omega) rfl ?_
  refine s_if (p' := 99) true rfl (by rw [decide_eq_false (by omega)]; decide +kernel) rfl ?_
  refine s_newz (p' := 102) (a := h.length) rfl rfl rfl rfl ?_
  generalize hg1 : h ++ [_] = h1
  have s1 : mj_rd h1 h.length = some (.inr (20, [.null, .int (nI 0), .int (nI 0), .int (nI 0)])) := by rw [← hg1]; exact rd_nw (Nat.blt_eq.mpr (by omega)) rfl
  have l1 : h1.length = h.length + 1 := by rw [← hg1, List.length_append]; rfl
  have n1 : mz_mo [] 1 4 h h1 := by rw [← hg1]; exact mz_mo.ap [] _ _
  clear hg1
  have m1 : mz_mo [] 1 4 h h1 := m0.tr n1 (fun y hy => Or.inr (by first | exact absurd hy List.not_mem_nil | (simp only [List.mem_cons, List.not_mem_nil, or_false] at hy; omega))) (by omega) (by omega)
  have u1 := mo_le m1
  clear n1 m0
  refine s_sp (p' := 103) (ls' := _) rfl rfl rfl ?_
  refine s_callEN (p' := 106) (ls0 := [_]) rfl rfl rfl rfl rfl (mj_rcv_is s1) rfl (y_nsb (by omega) (by omega) s1) (Nat.ble_eq.mpr (by omega)) rfl ?_
  rintro h2 ⟨b2, n2⟩
  have w2 := mo_le n2
  have e2 := rd_len b2.k.2.1 b2.k.2.2.choose_spec
  have m2 : mz_mo [] 2 20 h h2 := m1.tr n2 (fun y hy => Or.inr (by first | exact absurd hy List.not_mem_nil | (simp only [List.mem_cons, List.not_mem_nil, or_false] at hy; omega))) (by omega) (by omega)
  have u2 := mo_le m2
  have x2 : h.length ≤ h1.length ∧ h1.length < h2.length := by omega
  clear n2 w2 e2 s1 m1 u1
  refine s_sh (p' := 108) (ls' := _) (st' := .ref 1000300 :: _) (h' := _) rfl rfl rfl rfl ?_
  refine s_callEV (p' := 111) (ls0 := [_, _]) rfl rfl rfl rfl rfl (mj_rcv_is b2.k.1) rfl (y_aS2 (m := 0) b2 (k_e _) (by omega) (by omega) (by first | omega | (simp only [List.length_append, List.length_cons, List.length_nil, List.nil_append]; omega)) (by decide) (fun C rs q => by cases q; omega)) (Nat.ble_eq.mpr (by omega)) rfl ?_
  rintro _ h3 ⟨rfl, B3, b3, q3, n3⟩
  have w3 := mo_le n3
  have e3 := rd_len (b3.k.2.1) b3.k.2.2.choose_spec
  have m3 : mz_mo [] 3 30 h h3 := m2.tr n3 (fun y hy => Or.inr (by first | exact absurd hy List.not_mem_nil | (simp only [List.mem_cons, List.not_mem_nil, or_false] at hy; omega))) (by omega) (by omega)
  have u3 := mo_le m3
  have x3 : h.length ≤ B3 ∧ B3 < h3.length := by omega
  clear n3 w3 e3 q3 m2 u2 x2 b2
  refine s_bip (p' := 113) rfl rfl ?_
  refine s_aldn (p' := 114) rfl rfl rfl ?_
  refine s_gf (p' := 117) rfl (m3.1 _ (by simp) _ hP) rfl rfl ?_
  refine s_sp (p' := 118) (ls' := _) rfl rfl rfl ?_
  rw [mI_add]
  refine s_sp (p' := 119) (ls' := _) rfl rfl rfl ?_
  rw [i2c_n (by omega)]
  refine s_callEV (p' := 122) (ls0 := [_, _]) rfl rfl rfl rfl rfl (mj_rcv_is b3.k.1) rfl (y_aC2 (m := 1) b3 (by omega) (by omega) (by first | omega | (simp only [List.length_append, List.length_cons, List.length_nil, List.nil_append]; omega)) (by decide) (by omega)) (Nat.ble_eq.mpr (by omega)) rfl ?_
  rintro _ h4 ⟨rfl, B4, b4, q4, n4⟩
  have w4 := mo_le n4
  have e4 := rd_len (b4.k.2.1) b4.k.2.2.choose_spec
  have m4 : mz_mo [] 4 42 h h4 := m3.tr n4 (fun y hy => Or.inr (by first | exact absurd hy List.not_mem_nil | (simp only [List.mem_cons, List.not_mem_nil, or_false] at hy; omega))) (by omega) (by omega)
  have u4 := mo_le m4
  have x4 : h.length ≤ B4 ∧ B4 < h4.length := by omega
  clear n4 w4 e4 q4 m3 u3 x3 b3
  refine s_callEV (p' := 125) (ls0 := [_]) rfl rfl rfl rfl rfl (mj_rcv_is b4.k.1) rfl (y_tS2 (m := 1) b4 (by omega) (by first | omega | (simp only [List.length_append, List.length_cons, List.length_nil, List.nil_append]; omega)) (by decide)) (Nat.ble_eq.mpr (by omega)) rfl ?_
  rintro _ h5 ⟨rfl, t5, p5, n5⟩
  have w5 := mo_le n5
  have m5 : mz_mo [] 6 48 h h5 := m4.tr n5 (fun y hy => Or.inr (by first | exact absurd hy List.not_mem_nil | (simp only [List.mem_cons, List.not_mem_nil, or_false] at hy; omega))) (by omega) (by omega)
  have u5 := mo_le m5
  clear n5 w5 m4 x4 b4
  have a5 : mz_mo [] 0 0 h5 h5 := mz_mo.rf _ _ _ _
  refine s_astn (p' := 126) (ls' := [_, _]) rfl rfl rfl rfl ?_
  refine s_aldn (p' := 127) rfl rfl rfl ?_
  refine s_gf (p' := 130) rfl (m5.1 _ (by simp) _ hP) rfl rfl ?_
  rw [h0]
  refine s_bip (p' := 132) rfl rfl ?_
  refine s_icmp (p' := 135) false rfl ((ci_eq (by decide) (by decide)).trans (decide_eq_false (by decide))) rfl ?_
  refine s_aldn (p' := 136) rfl rfl rfl ?_
  refine s_gf (p' := 139) rfl (m5.1 _ (by simp) _ hP) rfl rfl ?_
  rw [h0]
  refine s_bip (p' := 141) rfl rfl ?_
  refine s_icmp (p' := 174) true rfl ((ci_ne (by decide) (by decide)).trans (decide_eq_true (by decide))) rfl ?_
  refine s_aldn (p' := 175) rfl rfl rfl ?_
  refine s_gf (p' := 178) rfl (m5.1 _ (by simp) _ hP) rfl rfl ?_
  rw [h0]
  refine s_bip (p' := 180) rfl rfl ?_
  refine s_icmp (p' := 183) false rfl ((ci_eq (by decide) (by decide)).trans (decide_eq_false (by decide))) rfl ?_
  refine s_aldn (p' := 184) rfl rfl rfl ?_
  refine s_gf (p' := 187) rfl (m5.1 _ (by simp) _ hP) rfl rfl ?_
  rw [h0]
  refine s_bip (p' := 189) rfl rfl ?_
  refine s_icmp (p' := 214) true rfl ((ci_ne (by decide) (by decide)).trans (decide_eq_true (by decide))) rfl ?_
  refine s_aldn (p' := 215) rfl rfl rfl ?_
  refine s_gf (p' := 218) rfl (m5.1 _ (by simp) _ hP) rfl rfl ?_
  rw [h0]
  refine s_bip (p' := 220) rfl rfl ?_
  refine s_icmp (p' := 256) true rfl ((ci_ne (by decide) (by decide)).trans (decide_eq_true (by decide))) rfl ?_
  refine s_newz (p' := 259) (a := h5.length) rfl rfl rfl rfl ?_
  generalize hg6 : h5 ++ [_] = h6
  have s6 : mj_rd h6 h5.length = some (.inr (20, [.null, .int (nI 0), .int (nI 0), .int (nI 0)])) := by rw [← hg6]; exact rd_nw (Nat.blt_eq.mpr (by omega)) rfl
  have l6 : h6.length = h5.length + 1 := by rw [← hg6, List.length_append]; rfl
  have n6 : mz_mo [] 1 4 h5 h6 := by rw [← hg6]; exact mz_mo.ap [] _ _
  clear hg6
  have m6 : mz_mo [] 7 52 h h6 := m5.tr n6 (fun y hy => Or.inr (by first | exact absurd hy List.not_mem_nil | (simp only [List.mem_cons, List.not_mem_nil, or_false] at hy; omega))) (by omega) (by omega)
  have a6 : mz_mo [] 1 4 h5 h6 := a5.tr n6 (fun y hy => Or.inr (by first | exact absurd hy List.not_mem_nil | (simp only [List.mem_cons, List.not_mem_nil, or_false] at hy; omega))) (by omega) (by omega)
  have u6 := mo_le m6
  clear n6 m5 a5
  refine s_sp (p' := 260) (ls' := _) rfl rfl rfl ?_
  refine s_callEN (p' := 263) (ls0 := [_]) rfl rfl rfl rfl rfl (mj_rcv_is s6) rfl (y_nsb (by omega) (by omega) s6) (Nat.ble_eq.mpr (by omega)) rfl ?_
  rintro h7 ⟨b7, n7⟩
  have w7 := mo_le n7
  have e7 := rd_len b7.k.2.1 b7.k.2.2.choose_spec
  have m7 : mz_mo [] 8 68 h h7 := m6.tr n7 (fun y hy => Or.inr (by first | exact absurd hy List.not_mem_nil | (simp only [List.mem_cons, List.not_mem_nil, or_false] at hy; omega))) (by omega) (by omega)
  have a7 : mz_mo [] 2 20 h5 h7 := a6.tr n7 (fun y hy => Or.inr (by first | exact absurd hy List.not_mem_nil | (simp only [List.mem_cons, List.not_mem_nil, or_false] at hy; omega))) (by omega) (by omega)
  have u7 := mo_le m7
  have x7 : h5.length ≤ h6.length ∧ h6.length < h7.length := by omega
  clear n7 w7 e7 s6 m6 a6 u6
  refine s_aldn (p' := 264) rfl rfl rfl ?_
  refine s_callEV (p' := 267) (ls0 := [_, _]) rfl rfl rfl rfl rfl (mj_rcv_is b7.k.1) rfl (y_aS2 (m := 1) b7 (t5.f0 a7.1) (by omega) (by omega) (by first | omega | (simp only [List.length_append, List.length_cons, List.length_nil, List.nil_append]; omega)) (by decide) (t5.ne a7.1 (by omega) b7.k.2.1)) (Nat.ble_eq.mpr (by omega)) rfl ?_
  rintro _ h8 ⟨rfl, B8, b8, q8, n8⟩
  have w8 := mo_le n8
  have e8 := rd_len (b8.k.2.1) b8.k.2.2.choose_spec
  have m8 : mz_mo [] 9 80 h h8 := m7.tr n8 (fun y hy => Or.inr (by first | exact absurd hy List.not_mem_nil | (simp only [List.mem_cons, List.not_mem_nil, or_false] at hy; omega))) (by omega) (by omega)
  have a8 : mz_mo [] 3 32 h5 h8 := a7.tr n8 (fun y hy => Or.inr (by first | exact absurd hy List.not_mem_nil | (simp only [List.mem_cons, List.not_mem_nil, or_false] at hy; omega))) (by omega) (by omega)
  have u8 := mo_le m8
  have x8 : h5.length ≤ B8 ∧ B8 < h8.length := by omega
  clear n8 w8 e8 q8 m7 a7 u7 x7 b7
  refine s_aldn (p' := 268) rfl rfl rfl ?_
  refine s_gf (p' := 271) rfl (m8.1 _ (by simp) _ hP) rfl rfl ?_
  rw [h0]
  refine s_callEV (p' := 274) (ls0 := [_, _]) rfl rfl rfl rfl rfl (mj_rcv_is b8.k.1) rfl (y_aC2 (m := 2) b8 (by omega) (by omega) (by first | omega | (simp only [List.length_append, List.length_cons, List.length_nil, List.nil_append]; omega)) (by decide) (by decide)) (Nat.ble_eq.mpr (by omega)) rfl ?_
  rintro _ h9 ⟨rfl, B9, b9, q9, n9⟩
  have w9 := mo_le n9
  have e9 := rd_len (b9.k.2.1) b9.k.2.2.choose_spec
  have m9 : mz_mo [] 10 94 h h9 := m8.tr n9 (fun y hy => Or.inr (by first | exact absurd hy List.not_mem_nil | (simp only [List.mem_cons, List.not_mem_nil, or_false] at hy; omega))) (by omega) (by omega)
  have a9 : mz_mo [] 4 46 h5 h9 := a8.tr n9 (fun y hy => Or.inr (by first | exact absurd hy List.not_mem_nil | (simp only [List.mem_cons, List.not_mem_nil, or_false] at hy; omega))) (by omega) (by omega)
  have u9 := mo_le m9
  have x9 : h5.length ≤ B9 ∧ B9 < h9.length := by omega
  clear n9 w9 e9 q9 m8 a8 u8 x8 b8
  refine s_aldn (p' := 275) rfl rfl rfl ?_
  refine s_gf (p' := 278) rfl (m9.1 _ (by simp) _ hP) rfl rfl ?_
  have sl := hs.ok
  have sm : ySu I h9 S (A 2) (A 3) (A 4) := hs.mv ⟨m9.1, hI, fun a ha _ => ⟨List.not_mem_nil, ha⟩⟩
  obtain ⟨_, _, _, _, sk⟩ := sm.k
  refine s_callEV (p' := 281) (ls0 := [_]) rfl rfl rfl rfl rfl (mj_rcv_is sk) rfl (y_sum sm z3 (by omega)) (Nat.ble_eq.mpr (by omega)) rfl ?_
  rintro _ h10 ⟨⟨T10, rfl, ff⟩, n10⟩
  have w10 := mo_le n10
  have c10 := b9.fr n10.1 (by simp) (by simp)
  have m10 : mz_mo [] 29 354 h h10 := m9.tr n10 (fun y hy => Or.inr (by first | exact absurd hy List.not_mem_nil | (simp only [List.mem_cons, List.not_mem_nil, or_false] at hy; omega))) (by omega) (by omega)
  have a10 : mz_mo [] 23 306 h5 h10 := a9.tr n10 (fun y hy => Or.inr (by first | exact absurd hy List.not_mem_nil | (simp only [List.mem_cons, List.not_mem_nil, or_false] at hy; omega))) (by omega) (by omega)
  have u10 := mo_le m10
  have y10 : h5.length ≤ B9 ∧ B9 < h9.length ∧ h9.length ≤ h10.length := by omega
  clear n10 w10 m9 a9 u9 x9 b9 
  refine s_callEV (p' := 284) (ls0 := [_, _]) rfl rfl rfl rfl rfl (mj_rcv_is c10.k.1) rfl (y_aS2 (m := 9) c10 ff.1 (by omega) (by omega) (by first | omega | (simp only [List.length_append, List.length_cons, List.length_nil, List.nil_append]; omega)) (by decide) (fun C rs q => by have := ff.2.2 C rs q; omega)) (Nat.ble_eq.mpr (by omega)) rfl ?_
  rintro _ h11 ⟨rfl, B11, b11, q11, n11⟩
  have w11 := mo_le n11
  have e11 := rd_len (b11.k.2.1) b11.k.2.2.choose_spec
  have m11 : mz_mo [] 30 382 h h11 := m10.tr n11 (fun y hy => Or.inr (by first | exact absurd hy List.not_mem_nil | (simp only [List.mem_cons, List.not_mem_nil, or_false] at hy; omega))) (by omega) (by omega)
  have a11 : mz_mo [] 24 334 h5 h11 := a10.tr n11 (fun y hy => Or.inr (by first | exact absurd hy List.not_mem_nil | (simp only [List.mem_cons, List.not_mem_nil, or_false] at hy; omega))) (by omega) (by omega)
  have u11 := mo_le m11
  have x11 : h5.length ≤ B11 ∧ B11 < h11.length := by omega
  clear n11 w11 e11 q11 m10 a10 u10 y10 c10 ff
  refine s_callEV (p' := 287) (ls0 := [_]) rfl rfl rfl rfl rfl (mj_rcv_is b11.k.1) rfl (y_tS2 (m := 9) b11 (by omega) (by first | omega | (simp only [List.length_append, List.length_cons, List.length_nil, List.nil_append]; omega)) (by decide)) (Nat.ble_eq.mpr (by omega)) rfl ?_
  rintro _ h12 ⟨rfl, t12, p12, n12⟩
  have w12 := mo_le n12
  have m12 : mz_mo [] 32 404 h h12 := m11.tr n12 (fun y hy => Or.inr (by first | exact absurd hy List.not_mem_nil | (simp only [List.mem_cons, List.not_mem_nil, or_false] at hy; omega))) (by omega) (by omega)
  have a12 : mz_mo [] 26 356 h5 h12 := a11.tr n12 (fun y hy => Or.inr (by first | exact absurd hy List.not_mem_nil | (simp only [List.mem_cons, List.not_mem_nil, or_false] at hy; omega))) (by omega) (by omega)
  have u12 := mo_le m12
  clear n12 w12 m11 a11 x11 b11
  refine s_aret rfl ?_
  exact ⟨_, _, rfl, ⟨_, rfl, by simpa only [List.append_assoc, List.cons_append, List.nil_append, List.append_nil] using t12, by omega, fun C rs q => by rw [p12 C rs q]; omega⟩, m12.wk (fun y hy => Or.inl hy) (by omega) (by omega)⟩
/-- a statement that is one act -/
theorem y_ptS {I : Nat → Prop} {h : mj_H} {p : Nat} {A : Nat → Nat} (hI : ∀ a, I a → a < mj_CB) (sm : ySim I h A p) (ok : sOk A) (hb : h.length + 200 < mj_CB) : mj_Wp 14 365 (0, [some (.ref p), none], [], h) (mz_V fun r g => yTf h g r (piece A) ∧ mz_mo [] 32 500 h g) := by
  obtain ⟨nb, ip, bb, vv, hP, e1, e2, -⟩ := sm
  obtain ⟨ok, -⟩ := ok
  rcases ok with ⟨h0, h1, _⟩ | ⟨h0, h1, _⟩ | ⟨h0, h1, ⟨v, hv, _, h2⟩, h3, _⟩ | ⟨h0, h1, h2, _, h3⟩
  · have e : piece A = [A 0] ++ [97 + A 1] := by unfold piece; rw [if_neg (by omega), if_neg (by omega), if_neg (by omega), if_pos (by omega)]; rfl
    rw [e]
    rcases h0 with h0 | h0
    · rw [h0]; exact y_pt33 hI hP hb h0 h1
    · rw [h0]; exact y_pt63 hI hP hb h0 h1
  · have e : piece A = [A 0] ++ pNum (A 1) := by unfold piece; rw [if_neg (by omega), if_neg (by omega), if_neg (by omega), if_neg (by omega), if_pos (by omega), pNum_1 (by omega)]; rfl
    rw [e]
    rcases h0 with h0 | h0
    · rw [h0]; exact y_pt64 hI hP hb h0 h1
    · rw [h0]; exact y_pt36 hI hP hb h0 h1
  · obtain ⟨w, hw, q1, q2⟩ := e1 h0
    have e : piece A = [97 + A 1] ++ [126] ++ [97 + w] := by rw [piece_s (by omega), pSum_1 h3, q1, pTerm_v hw, h0]; rfl
    rw [e]
    rw [q2] at hP
    exact y_pt126 hI hP hb h0 h1 hw
  · obtain ⟨S, q1, q2⟩ := e2 h0
    rw [q1] at hP
    have z3 : A 3 < 256 := by
      rcases h3 with h3 | ⟨h3, _⟩
      · omega
      · have := of_decide_eq_true h3; omega
    have e : piece A = [97 + A 1] ++ [A 0] ++ pSum A := by rw [piece_s (by omega)]; rfl
    rw [e]
    rcases h0 with h0 | h0 | h0
    · rw [h0]; exact y_pt43 hI hP hb h0 h1 q2 z3
    · rw [h0]; exact y_pt45 hI hP hb h0 h1 q2 z3
    · rw [h0]; exact y_pt94 hI hP hb h0 h1 q2 z3
