/-! The reference: texts of terms, sums, statements, rows. -/
theorem y_aS2 {h : mj_H} {S B T m : Nat} {a b : List Nat} (hS : yS h S B a) (hT : yTx h T b) (bS : S < mj_CB) (hb : h.length + 20 < mj_CB) (hm : a.length + b.length ≤ m) (h120 : m ≤ 110) (hd : ∀ (C : Nat) (rs : List Value), mj_rd h T = some (.inr (21, .ref C :: rs)) → C ≠ B) : mj_Wp 6 248 (0, [some (.ref S), some (.ref T)], [], h) (mz_V fun r h' => r = .ref S ∧ ∃ B', yS h' S B' (a ++ b) ∧ (B' = B ∨ h.length ≤ B' ∧ B' < h'.length) ∧ mz_mo [S, B] 1 (2 * m + 10) h h') := by
  refine (y_aS hS hT bS hb (by omega) hd).imp ?_
  rintro _ ⟨r, g, rfl, e, B', k1, k2, k3⟩
  exact ⟨_, _, rfl, e, B', k1, k2, k3.wk (fun y hy => Or.inl hy) (Nat.le_refl _) (by omega)⟩
theorem y_aC2 {h : mj_H} {S B c m : Nat} {a : List Nat} (hS : yS h S B a) (bS : S < mj_CB) (hb : h.length + 20 < mj_CB) (hm : a.length + 1 ≤ m) (h120 : m ≤ 110) (hc : c < 256) : mj_Wp 11 272 (0, [some (.ref S), some (.int (nI c))], [], h) (mz_V fun r h' => r = .ref S ∧ ∃ B', yS h' S B' (a ++ [c]) ∧ (B' = B ∨ h.length ≤ B' ∧ B' < h'.length) ∧ mz_mo [S, B] 1 (2 * m + 10) h h') := by
  refine (y_aC hS bS hb (by omega) hc).imp ?_
  rintro _ ⟨r, g, rfl, e, B', k1, k2, k3⟩
  exact ⟨_, _, rfl, e, B', k1, k2, k3.wk (fun y hy => Or.inl hy) (Nat.le_refl _) (by omega)⟩
theorem y_aI2 {h : mj_H} {S B t m : Nat} {a : List Nat} (hS : yS h S B a) (bS : S < mj_CB) (hb : h.length + 20 < mj_CB) (hm : a.length + 1 ≤ m) (h120 : m ≤ 110) (ht : t < 1000) : mj_Wp 6 288 (0, [some (.ref S), some (.int (nI t))], [], h) (mz_V fun r h' => r = .ref S ∧ ∃ B', yS h' S B' (a ++ pNum t) ∧ (B' = B ∨ h.length ≤ B' ∧ B' < h'.length) ∧ mz_mo [S, B] 1 (2 * m + 10) h h') := by
  refine (y_aI hS bS hb (by omega) ht).imp ?_
  rintro _ ⟨r, g, rfl, e, B', k1, k2, k3⟩
  exact ⟨_, _, rfl, e, B', k1, k2, k3.wk (fun y hy => Or.inl hy) (Nat.le_refl _) (by omega)⟩
theorem y_tS2 {h : mj_H} {S B m : Nat} {l : List Nat} (hS : yS h S B l) (hb : h.length + 20 < mj_CB) (hm : l.length ≤ m) (h120 : m ≤ 110) : mj_Wp 10 279 (0, [some (.ref S)], [], h) (mz_V fun r h' => r = .ref h.length ∧ yTx h' h.length l ∧ (∀ (C : Nat) (rs : List Value), mj_rd h' h.length = some (.inr (21, .ref C :: rs)) → C = h.length + 1) ∧ mz_mo [] 2 (4 + 2 * m) h h') := by
  refine (y_tS hS hb (by omega)).imp ?_
  rintro _ ⟨r, g, rfl, e, k1, k2, k3⟩
  exact ⟨_, _, rfl, e, k1, k2, k3.wk (fun y hy => Or.inl hy) (Nat.le_refl _) (by omega)⟩
/-- a text made since h -/
def yTf (h g : mj_H) (r : Value) (l : List Nat) : Prop := ∃ T, r = .ref T ∧ yTx g T l ∧ h.length ≤ T ∧ ∀ (C : Nat) (rs : List Value), mj_rd g T = some (.inr (21, .ref C :: rs)) → h.length ≤ C
theorem yTx.f0 {h g : mj_H} {T : Nat} {l : List Nat} (t : yTx h T l) (m : mz_fr [] h g) : yTx g T l := yStr.fr m (by simp) (fun B rs q => by simp) t
theorem yTx.ne {h g : mj_H} {T B : Nat} {l : List Nat} (t : yTx h T l) (m : mz_fr [] h g) (hB : h.length ≤ B) (bB : B < mj_CB) : ∀ (C : Nat) (rs : List Value), mj_rd g T = some (.inr (21, .ref C :: rs)) → C ≠ B := fun C rs q e => by
  obtain ⟨C', rs', k1, c, k2⟩ := t.k
  rw [m _ (by simp) _ k1] at q
  obtain rfl : C' = C := Value.ref.inj (List.cons.inj (Prod.mk.inj (Sum.inr.inj (Option.some.inj q))).2).1
  rcases rdN k2 with z | z <;> omega
theorem pTerm_3 {t : Nat} (h : okTm t) : (pTerm t).length ≤ 3 := by
  rcases h with h | ⟨v, hv, rfl⟩
  · rw [pTerm_n h]
    by_cases q : t < 10
    · rw [pNum_1 q]; exact Nat.le_of_ble_eq_true rfl
    · by_cases q2 : t < 100
      · rw [pNum_2 (by omega) q2]; exact Nat.le_of_ble_eq_true rfl
      · rw [pNum_3 (by omega) h]; exact Nat.le_of_ble_eq_true rfl
  · rw [pTerm_v hv]; exact Nat.le_of_ble_eq_true rfl
theorem tmR.ok {t : Nat} {v m : Int32} : tmR t v m → okTm t
  | .inl ⟨w, hw, e, _⟩ => Or.inr ⟨w, hw, e⟩
  | .inr ⟨h, _⟩ => Or.inl h
theorem y_tmt0 {h : mj_H} {S V N j k : Nat} {vf nf : Nat → Int32} {sg : Int32} (hs : ySm h S V N vf nf sg k) (hj : j < 2) (hb : h.length + 40 < mj_CB) {t : Nat} (ht : t < 1000) (hv : vf j = nI 4294967295) (hn : nf j = nI t) : mj_Wp 12 367 (0, [some (.ref S), some (.int (nI j))], [], h) (mz_V fun r g => yTf h g r (pNum t) ∧ mz_mo [] 6 76 h g) := by
  have m0 : mz_mo [] 0 0 h h := mz_mo.rf _ _ _ _
  have u0 := mo_le m0
  have h3 := pTerm_3 (Or.inl ht)
  rw [pTerm_n ht] at h3
  refine s_aldn (p' := 1) rfl rfl rfl ?_
  refine s_gf (p' := 4) rfl hs.1 rfl rfl ?_
  refine s_ildn (p' := 5) rfl rfl rfl ?_
  refine s_ial (p' := 6) rfl hs.2.1 (inb_nI (by omega) (by omega)) rfl ?_
  rw [mI_cl (by omega), hv]
  refine s_con (p' := 7) rfl rfl ?_
  refine s_icmp (p' := 10) false rfl ((cg_ne rfl).trans (decide_eq_false (fun q => q rfl))) rfl ?_
  refine s_newz (p' := 13) (a := h.length) rfl rfl rfl rfl ?_
  generalize hg1 : h ++ [_] = h1
  have s1 : mj_rd h1 h.length = some (.inr (20, [.null, .int (nI 0), .int (nI 0), .int (nI 0)])) := by rw [← hg1]; exact rd_nw (Nat.blt_eq.mpr (by omega)) rfl
  have l1 : h1.length = h.length + 1 := by rw [← hg1, List.length_append]; rfl
  have n1 : mz_mo [] 1 4 h h1 := by rw [← hg1]; exact mz_mo.ap [] _ _
  clear hg1
  have m1 : mz_mo [] 1 4 h h1 := m0.tr n1 (fun y hy => Or.inr (by first | exact absurd hy List.not_mem_nil | (simp only [List.mem_cons, List.not_mem_nil, or_false] at hy; omega))) (by omega) (by omega)
  have u1 := mo_le m1
  clear n1 m0
  refine s_sp (p' := 14) (ls' := _) rfl rfl rfl ?_
  refine s_callEN (p' := 17) (ls0 := [_]) rfl rfl rfl rfl rfl (mj_rcv_is s1) rfl (y_nsb (by omega) (by omega) s1) (Nat.ble_eq.mpr (by omega)) rfl ?_
  rintro h2 ⟨b2, n2⟩
  have w2 := mo_le n2
  have e2 := rd_len b2.k.2.1 b2.k.2.2.choose_spec
  have m2 : mz_mo [] 2 20 h h2 := m1.tr n2 (fun y hy => Or.inr (by first | exact absurd hy List.not_mem_nil | (simp only [List.mem_cons, List.not_mem_nil, or_false] at hy; omega))) (by omega) (by omega)
  have u2 := mo_le m2
  have x2 : h.length ≤ h1.length ∧ h1.length < h2.length := by omega
  clear n2 w2 e2 s1 m1 u1
  refine s_sh (p' := 19) (ls' := _) (st' := .ref 1000300 :: _) (h' := _) rfl rfl rfl rfl ?_
  refine s_callEV (p' := 22) (ls0 := [_, _]) rfl rfl rfl rfl rfl (mj_rcv_is b2.k.1) rfl (y_aS2 (m := 0) b2 (k_e _) (by omega) (by omega) (by first | omega | (simp only [List.length_append, List.length_cons, List.length_nil, List.nil_append]; omega)) (by decide) (fun C rs q => by cases q; omega)) (Nat.ble_eq.mpr (by omega)) rfl ?_
  rintro _ h3 ⟨rfl, B3, b3, q3, n3⟩
  have w3 := mo_le n3
  have e3 := rd_len (b3.k.2.1) b3.k.2.2.choose_spec
  have m3 : mz_mo [] 3 30 h h3 := m2.tr n3 (fun y hy => Or.inr (by first | exact absurd hy List.not_mem_nil | (simp only [List.mem_cons, List.not_mem_nil, or_false] at hy; omega))) (by omega) (by omega)
  have u3 := mo_le m3
  have x3 : h.length ≤ B3 ∧ B3 < h3.length := by omega
  clear n3 w3 e3 q3 m2 u2 x2 b2
  refine s_aldn (p' := 23) rfl rfl rfl ?_
  refine s_gf (p' := 26) rfl (m3.1 _ (by simp) _ hs.1) rfl rfl ?_
  refine s_ildn (p' := 27) rfl rfl rfl ?_
  refine s_ial (p' := 28) rfl (m3.1 _ (by simp) _ hs.2.2.1) (inb_nI (by omega) (by omega)) rfl ?_
  rw [mI_cl (by omega), hn]
  refine s_callEV (p' := 31) (ls0 := [_, _]) rfl rfl rfl rfl rfl (mj_rcv_is b3.k.1) rfl (y_aI2 (m := 3) b3 (by omega) (by omega) (by first | omega | (simp only [List.length_append, List.length_cons, List.length_nil, List.nil_append]; omega)) (by decide) ht) (Nat.ble_eq.mpr (by omega)) rfl ?_
  rintro _ h4 ⟨rfl, B4, b4, q4, n4⟩
  have w4 := mo_le n4
  have e4 := rd_len (b4.k.2.1) b4.k.2.2.choose_spec
  have m4 : mz_mo [] 4 46 h h4 := m3.tr n4 (fun y hy => Or.inr (by first | exact absurd hy List.not_mem_nil | (simp only [List.mem_cons, List.not_mem_nil, or_false] at hy; omega))) (by omega) (by omega)
  have u4 := mo_le m4
  have x4 : h.length ≤ B4 ∧ B4 < h4.length := by omega
  clear n4 w4 e4 q4 m3 u3 x3 b3
  refine s_callEV (p' := 34) (ls0 := [_]) rfl rfl rfl rfl rfl (mj_rcv_is b4.k.1) rfl (y_tS2 (m := 3) b4 (by omega) (by first | omega | (simp only [List.length_append, List.length_cons, List.length_nil, List.nil_append]; omega)) (by decide)) (Nat.ble_eq.mpr (by omega)) rfl ?_
  rintro _ h5 ⟨rfl, t5, p5, n5⟩
  have w5 := mo_le n5
  have m5 : mz_mo [] 6 56 h h5 := m4.tr n5 (fun y hy => Or.inr (by first | exact absurd hy List.not_mem_nil | (simp only [List.mem_cons, List.not_mem_nil, or_false] at hy; omega))) (by omega) (by omega)
  have u5 := mo_le m5
  clear n5 w5 m4 x4 b4
  refine s_goto (p' := 65) rfl rfl ?_
  refine s_aret rfl ?_
  exact ⟨_, _, rfl, ⟨_, rfl, by simpa only [List.append_assoc, List.cons_append, List.nil_append, List.append_nil] using t5, by omega, fun C rs q => by rw [p5 C rs q]; omega⟩, m5.wk (fun y hy => Or.inl hy) (by omega) (by omega)⟩
theorem y_tmt1 {h : mj_H} {S V N j k : Nat} {vf nf : Nat → Int32} {sg : Int32} (hs : ySm h S V N vf nf sg k) (hj : j < 2) (hb : h.length + 40 < mj_CB) {w : Nat} (hw : w < 8) (hv : vf j = nI w) : mj_Wp 12 367 (0, [some (.ref S), some (.int (nI j))], [], h) (mz_V fun r g => yTf h g r ([97 + w]) ∧ mz_mo [] 6 76 h g) := by
  have m0 : mz_mo [] 0 0 h h := mz_mo.rf _ _ _ _
  have u0 := mo_le m0
  refine s_aldn (p' := 1) rfl rfl rfl ?_
  refine s_gf (p' := 4) rfl hs.1 rfl rfl ?_
  refine s_ildn (p' := 5) rfl rfl rfl ?_
  refine s_ial (p' := 6) rfl hs.2.1 (inb_nI (by omega) (by omega)) rfl ?_
  rw [mI_cl (by omega), hv]
  refine s_con (p' := 7) rfl rfl ?_
  refine s_icmp (p' := 37) true rfl ((cg_ne (w := -1) (by decide +kernel)).trans (decide_eq_true (by rw [mI_ti (by omega)]; omega))) rfl ?_
  refine s_newz (p' := 40) (a := h.length) rfl rfl rfl rfl ?_
  generalize hg1 : h ++ [_] = h1
  have s1 : mj_rd h1 h.length = some (.inr (20, [.null, .int (nI 0), .int (nI 0), .int (nI 0)])) := by rw [← hg1]; exact rd_nw (Nat.blt_eq.mpr (by omega)) rfl
  have l1 : h1.length = h.length + 1 := by rw [← hg1, List.length_append]; rfl
  have n1 : mz_mo [] 1 4 h h1 := by rw [← hg1]; exact mz_mo.ap [] _ _
  clear hg1
  have m1 : mz_mo [] 1 4 h h1 := m0.tr n1 (fun y hy => Or.inr (by first | exact absurd hy List.not_mem_nil | (simp only [List.mem_cons, List.not_mem_nil, or_false] at hy; omega))) (by omega) (by omega)
  have u1 := mo_le m1
  clear n1 m0
  refine s_sp (p' := 41) (ls' := _) rfl rfl rfl ?_
  refine s_callEN (p' := 44) (ls0 := [_]) rfl rfl rfl rfl rfl (mj_rcv_is s1) rfl (y_nsb (by omega) (by omega) s1) (Nat.ble_eq.mpr (by omega)) rfl ?_
  rintro h2 ⟨b2, n2⟩
  have w2 := mo_le n2
  have e2 := rd_len b2.k.2.1 b2.k.2.2.choose_spec
  have m2 : mz_mo [] 2 20 h h2 := m1.tr n2 (fun y hy => Or.inr (by first | exact absurd hy List.not_mem_nil | (simp only [List.mem_cons, List.not_mem_nil, or_false] at hy; omega))) (by omega) (by omega)
  have u2 := mo_le m2
  have x2 : h.length ≤ h1.length ∧ h1.length < h2.length := by omega
  clear n2 w2 e2 s1 m1 u1
  refine s_sh (p' := 46) (ls' := _) (st' := .ref 1000300 :: _) (h' := _) rfl rfl rfl rfl ?_
  refine s_callEV (p' := 49) (ls0 := [_, _]) rfl rfl rfl rfl rfl (mj_rcv_is b2.k.1) rfl (y_aS2 (m := 0) b2 (k_e _) (by omega) (by omega) (by first | omega | (simp only [List.length_append, List.length_cons, List.length_nil, List.nil_append]; omega)) (by decide) (fun C rs q => by cases q; omega)) (Nat.ble_eq.mpr (by omega)) rfl ?_
  rintro _ h3 ⟨rfl, B3, b3, q3, n3⟩
  have w3 := mo_le n3
  have e3 := rd_len (b3.k.2.1) b3.k.2.2.choose_spec
  have m3 : mz_mo [] 3 30 h h3 := m2.tr n3 (fun y hy => Or.inr (by first | exact absurd hy List.not_mem_nil | (simp only [List.mem_cons, List.not_mem_nil, or_false] at hy; omega))) (by omega) (by omega)
  have u3 := mo_le m3
  have x3 : h.length ≤ B3 ∧ B3 < h3.length := by omega
  clear n3 w3 e3 q3 m2 u2 x2 b2
  refine s_bip (p' := 51) rfl rfl ?_
  refine s_aldn (p' := 52) rfl rfl rfl ?_
  refine s_gf (p' := 55) rfl (m3.1 _ (by simp) _ hs.1) rfl rfl ?_
  refine s_ildn (p' := 56) rfl rfl rfl ?_
  refine s_ial (p' := 57) rfl (m3.1 _ (by simp) _ hs.2.1) (inb_nI (by omega) (by omega)) rfl ?_
  rw [mI_cl (by omega), hv]
  refine s_sp (p' := 58) (ls' := _) rfl rfl rfl ?_
  rw [mI_add]
  refine s_sp (p' := 59) (ls' := _) rfl rfl rfl ?_
  rw [i2c_n (by omega)]
  refine s_callEV (p' := 62) (ls0 := [_, _]) rfl rfl rfl rfl rfl (mj_rcv_is b3.k.1) rfl (y_aC2 (m := 1) b3 (by omega) (by omega) (by first | omega | (simp only [List.length_append, List.length_cons, List.length_nil, List.nil_append]; omega)) (by decide) (by omega)) (Nat.ble_eq.mpr (by omega)) rfl ?_
  rintro _ h4 ⟨rfl, B4, b4, q4, n4⟩
  have w4 := mo_le n4
  have e4 := rd_len (b4.k.2.1) b4.k.2.2.choose_spec
  have m4 : mz_mo [] 4 42 h h4 := m3.tr n4 (fun y hy => Or.inr (by first | exact absurd hy List.not_mem_nil | (simp only [List.mem_cons, List.not_mem_nil, or_false] at hy; omega))) (by omega) (by omega)
  have u4 := mo_le m4
  have x4 : h.length ≤ B4 ∧ B4 < h4.length := by omega
  clear n4 w4 e4 q4 m3 u3 x3 b3
  refine s_callEV (p' := 65) (ls0 := [_]) rfl rfl rfl rfl rfl (mj_rcv_is b4.k.1) rfl (y_tS2 (m := 1) b4 (by omega) (by first | omega | (simp only [List.length_append, List.length_cons, List.length_nil, List.nil_append]; omega)) (by decide)) (Nat.ble_eq.mpr (by omega)) rfl ?_
  rintro _ h5 ⟨rfl, t5, p5, n5⟩
  have w5 := mo_le n5
  have m5 : mz_mo [] 6 48 h h5 := m4.tr n5 (fun y hy => Or.inr (by first | exact absurd hy List.not_mem_nil | (simp only [List.mem_cons, List.not_mem_nil, or_false] at hy; omega))) (by omega) (by omega)
  have u5 := mo_le m5
  clear n5 w5 m4 x4 b4
  refine s_aret rfl ?_
  exact ⟨_, _, rfl, ⟨_, rfl, by simpa only [List.append_assoc, List.cons_append, List.nil_append, List.append_nil] using t5, by omega, fun C rs q => by rw [p5 C rs q]; omega⟩, m5.wk (fun y hy => Or.inl hy) (by omega) (by omega)⟩
theorem y_tmt {h : mj_H} {S V N j k t : Nat} {vf nf : Nat → Int32} {sg : Int32} (hs : ySm h S V N vf nf sg k) (hj : j < 2) (hb : h.length + 40 < mj_CB) (ht : tmR t (vf j) (nf j)) : mj_Wp 12 367 (0, [some (.ref S), some (.int (nI j))], [], h) (mz_V fun r g => yTf h g r (pTerm t) ∧ mz_mo [] 6 76 h g) := by
  rcases ht with ⟨w, hw, rfl, hv⟩ | ⟨ht, hv, hn⟩
  · rw [pTerm_v hw]
    exact y_tmt1 hs hj hb hw hv
  · rw [pTerm_n ht]
    exact y_tmt0 hs hj hb ht hv hn
theorem y_sm1 {h : mj_H} {S V N k : Nat} {vf nf : Nat → Int32} {sg : Int32} (hs : ySm h S V N vf nf sg k) (hb : h.length + 80 < mj_CB) {B : Nat → Nat} (h0 : tmR (B 2) (vf 0) (nf 0)) (hk : k = 1) (h3 : B 3 = 32) : mj_Wp 13 366 (0, [some (.ref S)], [], h) (mz_V fun r g => yTf h g r (pSum B) ∧ mz_mo [] 19 220 h g) := by
  have m0 : mz_mo [] 0 0 h h := mz_mo.rf _ _ _ _
  have u0 := mo_le m0
  refine s_aldn (p' := 1) rfl rfl rfl ?_
  refine s_gf (p' := 4) rfl hs.1 rfl rfl ?_
  refine s_con (p' := 5) rfl rfl ?_
  refine s_icmp (p' := 8) false rfl ((ci_ge (by omega) (by omega)).trans (decide_eq_false (by omega))) rfl ?_
  refine s_aldn (p' := 9) rfl rfl rfl ?_
  refine s_con (p' := 10) rfl rfl ?_
  refine s_callEV (p' := 13) (ls0 := [_, _]) rfl rfl rfl rfl rfl (mj_rcv_is hs.1) rfl (y_tmt hs (by decide) (by omega) h0) rfl rfl ?_
  rintro _ h1 ⟨⟨T, rfl, f⟩, n⟩
  refine s_goto (p' := 49) rfl rfl ?_
  refine s_aret rfl ?_
  exact ⟨_, _, rfl, ⟨T, rfl, by rw [pSum_1 h3]; exact f⟩, n.wk (fun y hy => Or.inl hy) (by decide) (by decide)⟩
theorem y_sm2 {h : mj_H} {S V N k : Nat} {vf nf : Nat → Int32} {sg : Int32} (hs : ySm h S V N vf nf sg k) (hb : h.length + 80 < mj_CB) {B : Nat → Nat} (h0 : tmR (B 2) (vf 0) (nf 0)) (hk : k = 2) (z3 : B 3 ≠ 32) (z5 : B 3 < 256) (hg : sg = nI (B 3)) (z4 : tmR (B 4) (vf 1) (nf 1)) : mj_Wp 13 366 (0, [some (.ref S)], [], h) (mz_V fun r g => yTf h g r (pSum B) ∧ mz_mo [] 19 260 h g) := by
  have m0 : mz_mo [] 0 0 h h := mz_mo.rf _ _ _ _
  have u0 := mo_le m0
  refine s_aldn (p' := 1) rfl rfl rfl ?_
  refine s_gf (p' := 4) rfl hs.1 rfl rfl ?_
  refine s_con (p' := 5) rfl rfl ?_
  refine s_icmp (p' := 16) true rfl ((ci_ge (by omega) (by omega)).trans (decide_eq_true (by omega))) rfl ?_
  refine s_newz (p' := 19) (a := h.length) rfl rfl rfl rfl ?_
  generalize hg1 : h ++ [_] = h1
  have s1 : mj_rd h1 h.length = some (.inr (20, [.null, .int (nI 0), .int (nI 0), .int (nI 0)])) := by rw [← hg1]; exact rd_nw (Nat.blt_eq.mpr (by omega)) rfl
  have l1 : h1.length = h.length + 1 := by rw [← hg1, List.length_append]; rfl
  have n1 : mz_mo [] 1 4 h h1 := by rw [← hg1]; exact mz_mo.ap [] _ _
  clear hg1
  have m1 : mz_mo [] 1 4 h h1 := m0.tr n1 (fun y hy => Or.inr (by first | exact absurd hy List.not_mem_nil | (simp only [List.mem_cons, List.not_mem_nil, or_false] at hy; omega))) (by omega) (by omega)
  have u1 := mo_le m1
  clear n1 m0
  refine s_sp (p' := 20) (ls' := _) rfl rfl rfl ?_
  refine s_callEN (p' := 23) (ls0 := [_]) rfl rfl rfl rfl rfl (mj_rcv_is s1) rfl (y_nsb (by omega) (by omega) s1) (Nat.ble_eq.mpr (by omega)) rfl ?_
  rintro h2 ⟨b2, n2⟩
  have w2 := mo_le n2
  have e2 := rd_len b2.k.2.1 b2.k.2.2.choose_spec
  have m2 : mz_mo [] 2 20 h h2 := m1.tr n2 (fun y hy => Or.inr (by first | exact absurd hy List.not_mem_nil | (simp only [List.mem_cons, List.not_mem_nil, or_false] at hy; omega))) (by omega) (by omega)
  have u2 := mo_le m2
  have x2 : h.length ≤ h1.length ∧ h1.length < h2.length := by omega
  clear n2 w2 e2 s1 m1 u1
  have k1 := pTerm_3 h0.ok
  have k2 := pTerm_3 z4.ok
  have sm1 : ySm h2 S V N vf nf sg k := ⟨m2.1 _ (by simp) _ hs.1, m2.1 _ (by simp) _ hs.2.1, m2.1 _ (by simp) _ hs.2.2.1, hs.2.2.2⟩
  refine s_aldn (p' := 24) rfl rfl rfl ?_
  refine s_con (p' := 25) rfl rfl ?_
  refine s_callEV (p' := 28) (ls0 := [_, _]) rfl rfl rfl rfl rfl (mj_rcv_is sm1.1) rfl (y_tmt sm1 (by decide) (by omega) h0) (Nat.ble_eq.mpr (by omega)) rfl ?_
  rintro _ h3 ⟨⟨T3, rfl, f1⟩, n3⟩
  have w3 := mo_le n3
  have c3 := b2.fr n3.1 (by simp) (by simp)
  have m3 : mz_mo [] 8 96 h h3 := m2.tr n3 (fun y hy => Or.inr (by first | exact absurd hy List.not_mem_nil | (simp only [List.mem_cons, List.not_mem_nil, or_false] at hy; omega))) (by omega) (by omega)
  have u3 := mo_le m3
  have y3 : h.length ≤ h1.length ∧ h1.length < h2.length ∧ h2.length ≤ h3.length := by omega
  clear n3 w3 m2 u2 x2 b2 
  refine s_callEV (p' := 31) (ls0 := [_, _]) rfl rfl rfl rfl rfl (mj_rcv_is c3.k.1) rfl (y_aS2 (m := 3) c3 f1.1 (by omega) (by omega) (by first | omega | (simp only [List.length_append, List.length_cons, List.length_nil, List.nil_append]; omega)) (by decide) (fun C rs q => by have := f1.2.2 C rs q; omega)) (Nat.ble_eq.mpr (by omega)) rfl ?_
  rintro _ h4 ⟨rfl, B4, b4, q4, n4⟩
  have w4 := mo_le n4
  have e4 := rd_len (b4.k.2.1) b4.k.2.2.choose_spec
  have m4 : mz_mo [] 9 112 h h4 := m3.tr n4 (fun y hy => Or.inr (by first | exact absurd hy List.not_mem_nil | (simp only [List.mem_cons, List.not_mem_nil, or_false] at hy; omega))) (by omega) (by omega)
  have u4 := mo_le m4
  have x4 : h.length ≤ B4 ∧ B4 < h4.length := by omega
  clear n4 w4 e4 q4 m3 u3 y3 c3 f1
  refine s_aldn (p' := 32) rfl rfl rfl ?_
  refine s_gf (p' := 35) rfl (m4.1 _ (by simp) _ hs.1) rfl rfl ?_
  rw [hg]
  refine s_callEV (p' := 38) (ls0 := [_, _]) rfl rfl rfl rfl rfl (mj_rcv_is b4.k.1) rfl (y_aC2 (m := 4) b4 (by omega) (by omega) (by first | omega | (simp only [List.length_append, List.length_cons, List.length_nil, List.nil_append]; omega)) (by decide) (by omega)) (Nat.ble_eq.mpr (by omega)) rfl ?_
  rintro _ h5 ⟨rfl, B5, b5, q5, n5⟩
  have w5 := mo_le n5
  have e5 := rd_len (b5.k.2.1) b5.k.2.2.choose_spec
  have m5 : mz_mo [] 10 130 h h5 := m4.tr n5 (fun y hy => Or.inr (by first | exact absurd hy List.not_mem_nil | (simp only [List.mem_cons, List.not_mem_nil, or_false] at hy; omega))) (by omega) (by omega)
  have u5 := mo_le m5
  have x5 : h.length ≤ B5 ∧ B5 < h5.length := by omega
  clear n5 w5 e5 q5 m4 u4 x4 b4
  have sm2 : ySm h5 S V N vf nf sg k := ⟨m5.1 _ (by simp) _ hs.1, m5.1 _ (by simp) _ hs.2.1, m5.1 _ (by simp) _ hs.2.2.1, hs.2.2.2⟩
  refine s_aldn (p' := 39) rfl rfl rfl ?_
  refine s_con (p' := 40) rfl rfl ?_
  refine s_callEV (p' := 43) (ls0 := [_, _]) rfl rfl rfl rfl rfl (mj_rcv_is sm2.1) rfl (y_tmt sm2 (by decide) (by omega) z4) (Nat.ble_eq.mpr (by omega)) rfl ?_
  rintro _ h6 ⟨⟨T6, rfl, f2⟩, n6⟩
  have w6 := mo_le n6
  have c6 := b5.fr n6.1 (by simp) (by simp)
  have m6 : mz_mo [] 16 206 h h6 := m5.tr n6 (fun y hy => Or.inr (by first | exact absurd hy List.not_mem_nil | (simp only [List.mem_cons, List.not_mem_nil, or_false] at hy; omega))) (by omega) (by omega)
  have u6 := mo_le m6
  have y6 : h.length ≤ B5 ∧ B5 < h5.length ∧ h5.length ≤ h6.length := by omega
  clear n6 w6 m5 u5 x5 b5 
  refine s_callEV (p' := 46) (ls0 := [_, _]) rfl rfl rfl rfl rfl (mj_rcv_is c6.k.1) rfl (y_aS2 (m := 7) c6 f2.1 (by omega) (by omega) (by first | omega | (simp only [List.length_append, List.length_cons, List.length_nil, List.nil_append]; omega)) (by decide) (fun C rs q => by have := f2.2.2 C rs q; omega)) (Nat.ble_eq.mpr (by omega)) rfl ?_
  rintro _ h7 ⟨rfl, B7, b7, q7, n7⟩
  have w7 := mo_le n7
  have e7 := rd_len (b7.k.2.1) b7.k.2.2.choose_spec
  have m7 : mz_mo [] 17 230 h h7 := m6.tr n7 (fun y hy => Or.inr (by first | exact absurd hy List.not_mem_nil | (simp only [List.mem_cons, List.not_mem_nil, or_false] at hy; omega))) (by omega) (by omega)
  have u7 := mo_le m7
  have x7 : h.length ≤ B7 ∧ B7 < h7.length := by omega
  clear n7 w7 e7 q7 m6 u6 y6 c6 f2
  refine s_callEV (p' := 49) (ls0 := [_]) rfl rfl rfl rfl rfl (mj_rcv_is b7.k.1) rfl (y_tS2 (m := 7) b7 (by omega) (by first | omega | (simp only [List.length_append, List.length_cons, List.length_nil, List.nil_append]; omega)) (by decide)) (Nat.ble_eq.mpr (by omega)) rfl ?_
  rintro _ h8 ⟨rfl, t8, p8, n8⟩
  have w8 := mo_le n8
  have m8 : mz_mo [] 19 248 h h8 := m7.tr n8 (fun y hy => Or.inr (by first | exact absurd hy List.not_mem_nil | (simp only [List.mem_cons, List.not_mem_nil, or_false] at hy; omega))) (by omega) (by omega)
  have u8 := mo_le m8
  clear n8 w8 m7 x7 b7
  refine s_aret rfl ?_
  exact ⟨_, _, rfl, ⟨_, rfl, by rw [pSum_2 z3]; simpa only [List.append_assoc, List.cons_append, List.nil_append, List.append_nil] using t8, by omega, fun C rs q => by rw [p8 C rs q]; omega⟩, m8.wk (fun y hy => Or.inl hy) (by omega) (by omega)⟩
theorem y_sum {I : Nat → Prop} {h : mj_H} {S : Nat} {B : Nat → Nat} (hs : ySu I h S (B 2) (B 3) (B 4)) (h5 : B 3 < 256) (hb : h.length + 80 < mj_CB) : mj_Wp 13 366 (0, [some (.ref S)], [], h) (mz_V fun r g => yTf h g r (pSum B) ∧ mz_mo [] 19 260 h g) := by
  obtain ⟨V, N, vf, nf, sg, k, s, _, _, _, h0, hk⟩ := hs
  rcases hk with ⟨h3, hk⟩ | ⟨h3, hk, hg, h4⟩
  · refine (y_sm1 s hb h0 hk h3).imp ?_
    rintro _ ⟨r, g, rfl, e, m⟩
    exact ⟨_, _, rfl, e, m.wk (fun y hy => Or.inl hy) (Nat.le_refl _) (by decide)⟩
  · exact y_sm2 s hb h0 hk h3 h5 hg h4
theorem ySu.k {I : Nat → Prop} {h : mj_H} {S t p u : Nat} : ySu I h S t p u → ∃ V N sg k, mj_rd h S = some (smC V N sg k)
  | ⟨V, N, _, _, sg, k, s, _⟩ => ⟨V, N, sg, k, s.1⟩
theorem ySu.ok {I : Nat → Prop} {h : mj_H} {S : Nat} {B : Nat → Nat} : ySu I h S (B 2) (B 3) (B 4) → (pSum B).length ≤ 7
  | ⟨V, N, vf, nf, sg, k, s, _, _, _, h0, hk⟩ => by
    have k1 := pTerm_3 h0.ok
    rcases hk with ⟨h3, hk⟩ | ⟨h3, hk, hg, h4⟩
    · rw [pSum_1 h3]; omega
    · have k2 := pTerm_3 h4.ok
      rw [pSum_2 h3, List.length_append, List.length_cons]; omega
