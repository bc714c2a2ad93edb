/-! The class: its library; define, invert and what is asked of procedures. -/
theorem tx_of {ch : Nat → Nat} : ∀ (l : List Nat) (a : Nat), (∀ j c, l[j]? = some c → ch (a + j) = c) → tx ch a l
  | [], _, _ => trivial
  | c :: l, a, h => ⟨h 0 c rfl, tx_of l (a + 1) fun j d e => by rw [show a + 1 + j = a + (j + 1) by omega]; exact h (j + 1) d e⟩
/-- what is printed is read again -/
theorem rAll_p {y : Nat → Nat → Nat} {K n : Nat} {f : Nat → Nat} (ht : tRow y 6 0 K) (hl : (pFl y K 0).length = n) (hn : n ≤ 60) (hf : ∀ j c, (pFl y K 0)[j]? = some c → f j = c) : ∃ z, rAll n f = .inr (n, K, z) ∧ ∀ j, j < K → ∀ q, q < 8 → z j q = y j q := by
  have e := rRw_p (ch := chA n f) (x := y) 6 70000 0 K 0 (fun _ _ => 0) (by decide) (Or.inr (Or.inr rfl)) ht (by
    rw [Nat.sub_zero]
    refine tx_of _ _ fun j c q => ?_
    have hj := (List.getElem?_eq_some_iff.mp q).1
    unfold chA
    rw [Nat.zero_add, if_pos (by omega)]
    exact hf j c q) (by
    rw [Nat.sub_zero, Nat.zero_add, hl]
    unfold chA
    exact if_neg (Nat.lt_irrefl _)) (by rw [Nat.sub_zero, hl]; exact hn)
  rw [Nat.sub_zero, Nat.zero_add, hl] at e
  obtain ⟨z, e1, e2, _⟩ := e
  exact ⟨z, e1, fun j hj => e2 j (Nat.zero_le j) hj⟩
theorem rAll_cg {n : Nat} {f g : Nat → Nat} (h : ∀ j, j < n → f j = g j) : rAll n f = rAll n g := by
  have e : chA n f = chA n g := funext fun a => by
    unfold chA
    by_cases q : a < n
    · rw [if_pos q, if_pos q]; exact h a q
    · rw [if_neg q, if_neg q]
  unfold rAll
  rw [e]
theorem pTerm_lt {t : Nat} (h : okTm t) : ∀ c, c ∈ pTerm t → c < 200 := by
  intro c hc
  rcases h with h | ⟨v, hv, rfl⟩
  · rw [pTerm_n h] at hc
    unfold pNum at hc
    simp only [List.mem_append, List.mem_singleton] at hc
    rcases hc with hc | hc | hc
    · by_cases q : 100 ≤ t
      · rw [if_pos q, List.mem_singleton] at hc; omega
      · rw [if_neg q] at hc; cases hc
    · by_cases q : 10 ≤ t
      · rw [if_pos q, List.mem_singleton] at hc; omega
      · rw [if_neg q] at hc; cases hc
    · omega
  · rw [pTerm_v hv, List.mem_singleton] at hc
    omega
theorem pSum_lt {a : Nat → Nat} (h2 : okTm (a 2)) (h3 : a 3 = 32 ∨ a 3 ≠ 32 ∧ a 3 < 200 ∧ okTm (a 4)) : ∀ c, c ∈ pSum a → c < 200 := by
  intro c hc
  rcases h3 with h3 | ⟨h3, h5, h4⟩
  · rw [pSum_1 h3] at hc
    exact pTerm_lt h2 c hc
  · rw [pSum_2 h3, List.mem_append, List.mem_cons] at hc
    rcases hc with hc | rfl | hc
    · exact pTerm_lt h2 c hc
    · exact h5
    · exact pTerm_lt h4 c hc
theorem tst.w2 {a : Nat → Nat} (h : tst a) : okTm (a 2) ∧ (a 3 = 32 ∨ a 3 ≠ 32 ∧ a 3 < 200 ∧ okTm (a 4)) := by
  have h3 := of_decide_eq_true h.2.1
  exact ⟨h.1, Or.inr ⟨by omega, by omega, h.2.2⟩⟩
theorem piece_lt {x : Nat → Nat → Nat} {k k' j : Nat} (h : aOk x k k' j) : ∀ c, c ∈ piece (x j) → c < 200 := by
  intro c hc
  rcases h with ⟨h, -⟩ | ⟨a, m, e, ⟨sg, ta, te, -⟩, hj, -⟩
  · rcases h with ⟨h0, h1, _⟩ | ⟨h0, h1, _⟩ | ⟨h0, h1, ⟨v, hv, _, h2⟩, h3, _⟩ | ⟨h0, h1, h2, _, h3⟩
    · have e : piece (x j) = [x j 0, 97 + x j 1] := by unfold piece; rw [if_neg (by omega), if_neg (by omega), if_neg (by omega), if_pos (by omega)]
      rw [e] at hc
      simp only [List.mem_cons, List.not_mem_nil, or_false] at hc
      omega
    · have e : piece (x j) = [x j 0, 48 + x j 1] := by unfold piece; rw [if_neg (by omega), if_neg (by omega), if_neg (by omega), if_neg (by omega), if_pos (by omega)]
      rw [e] at hc
      simp only [List.mem_cons, List.not_mem_nil, or_false] at hc
      omega
    · rw [piece_s (by omega), List.mem_cons, List.mem_cons] at hc
      rcases hc with rfl | rfl | hc
      · omega
      · omega
      · exact pSum_lt (Or.inr ⟨v, hv, h2⟩) (Or.inl h3) c hc
    · rw [piece_s (by omega), List.mem_cons, List.mem_cons] at hc
      rcases hc with rfl | rfl | hc
      · omega
      · omega
      · refine pSum_lt h2 ?_ c hc
        rcases h3 with h3 | ⟨h3, h4, _⟩
        · exact Or.inl h3.1
        · have := of_decide_eq_true h3
          exact Or.inr ⟨(sB_n h3).1, by omega, h4⟩
  · rcases hj with rfl | rfl | rfl
    · have e : piece (x j) = x j 0 :: (pSum (x j) ++ [58]) := by unfold piece; rw [if_pos (by omega)]
      rw [e, List.mem_cons, List.mem_append, List.mem_singleton] at hc
      rcases hc with rfl | hc | rfl
      · omega
      · exact pSum_lt ta.w2.1 ta.w2.2 c hc
      · omega
    · have e : piece (x j) = [124] := by unfold piece; rw [if_neg (by omega), if_pos (by omega)]
      rw [e, List.mem_singleton] at hc
      omega
    · have e : piece (x j) = 58 :: (pSum (x j) ++ [x j 0]) := by unfold piece; rw [if_neg (by omega), if_neg (by omega), if_pos (by omega)]
      rw [e, List.mem_cons, List.mem_append, List.mem_singleton] at hc
      rcases hc with rfl | hc | rfl
      · omega
      · exact pSum_lt te.w2.1 te.w2.2 c hc
      · omega
theorem pFl_lt {x : Nat → Nat → Nat} : ∀ (n k : Nat), (∀ j, k ≤ j → j < k + n → ∀ c, c ∈ piece (x j) → c < 200) → ∀ c, c ∈ pFl x n k → c < 200
  | 0, _, _, c, hc => by cases hc
  | 1, k, h, c, hc => h k (Nat.le_refl _) (by omega) c hc
  | n + 2, k, h, c, hc => by
    rw [pFl, List.mem_append, List.mem_append] at hc
    rcases hc with hc | hc | hc
    · exact h k (Nat.le_refl _) (by omega) c hc
    · unfold spc at hc
      by_cases q : isE (x k) = true ∧ isB (x (k + 1)) = true
      · rw [if_pos q, List.mem_singleton] at hc; omega
      · rw [if_neg q] at hc; cases hc
    · exact pFl_lt (n + 1) (k + 1) (fun j h1 h2 => h j (by omega) (by omega)) c hc
theorem tRow.lt200 {x : Nat → Nat → Nat} {d K : Nat} (t : tRow x d 0 K) : ∀ c, c ∈ pFl x K 0 → c < 200 := pFl_lt K 0 fun j _ h2 => piece_lt (t.act j (Nat.zero_le j) (by omega))
/-! texts -/
abbrev lsF (n : Nat) (f : Nat → Nat) : List Nat := (List.range n).map f
abbrev lF (l : List Nat) : Nat → Nat := fun j => l.getD j 0
theorem lsF_len (n : Nat) (f : Nat → Nat) : (lsF n f).length = n := by rw [List.length_map, List.length_range]
theorem lsF_at {n j c : Nat} {f : Nat → Nat} (h : (lsF n f)[j]? = some c) : j < n ∧ f j = c := by
  have hj := (List.getElem?_eq_some_iff.mp h).1
  rw [lsF_len] at hj
  rw [List.getElem?_map, List.getElem?_range hj] at h
  exact ⟨hj, Option.some.inj h⟩
theorem lF_at {l : List Nat} {j c : Nat} (h : l[j]? = some c) : lF l j = c := by
  show l.getD j 0 = c
  rw [List.getD_eq_getElem?_getD, h]
  rfl
theorem lF_ls {n j : Nat} {f : Nat → Nat} (h : j < n) : lF (lsF n f) j = f j := lF_at (by rw [List.getElem?_map, List.getElem?_range h]; rfl)
theorem lF_lt {l : List Nat} {m : Nat} (h : ∀ c, c ∈ l → c < m) {j : Nat} (hj : j < l.length) : lF l j < m := by
  rw [lF_at (List.getElem?_eq_some_iff.mpr ⟨hj, rfl⟩)]
  exact h _ (List.getElem_mem hj)
theorem cTx.l {h : mj_H} {b n : Nat} {f : Nat → Nat} (hb : b + 2 < mj_CB) (hn : n ≤ 60) : cTx h b n f → cTl h (b + 1) (b + 2) (lsF n f)
  | ⟨tf, h1, h2, h3⟩ => ⟨by rw [lsF_len]; exact hn, by omega, hb, tf, by rw [lsF_len]; exact h1, h2, fun j c q => by
      have := lsF_at q
      rw [h3 j this.1, this.2]⟩
theorem cTl.x {h : mj_H} {b : Nat} {l : List Nat} : cTl h (b + 1) (b + 2) l → cTx h b l.length (lF l)
  | ⟨_, _, _, tf, h1, h2, h3⟩ => ⟨tf, h1, h2, fun j hj => by
      have q : l[j]? = some l[j] := List.getElem?_eq_some_iff.mpr ⟨hj, rfl⟩
      rw [h3 j _ q, lF_at q]⟩
theorem cTl.fr {h g : mj_H} {T A : Nat} {l : List Nat} {L : List Nat} (e : mz_fr L h g) (h1 : T ∉ L) (h2 : A ∉ L) : cTl h T A l → cTl g T A l
  | ⟨a, b, c, tf, k1, k2, k3⟩ => ⟨a, b, c, tf, e _ h1 _ k1, e _ h2 _ k2, k3⟩
/-- the class's procedure at b: the text n f; of its acts: k, x -/
def pcC (b : Nat) : mj_C := .inr (1, [.ref (b + 1), .ref (b + 3), .ref (b + 36)])
def cPx (h : mj_H) (b n : Nat) (f : Nat → Nat) : Prop := mj_rd h b = some (pcC b) ∧ n ≤ 60 ∧ cX h b n f
def cPr (h : mj_H) (b n : Nat) (f : Nat → Nat) (k : Nat) (x : Nat → Nat → Nat) : Prop := mj_rd h b = some (pcC b) ∧ n ≤ 60 ∧ k ≤ 30 ∧ ∃ (at_ : Nat) (fp fs tm : Int32) (ins : Nat → Nat → Int32), cR h b n f at_ fp fs tm k ins ∧ ∀ j, j < k → ∀ q, q < 8 → ins j q = nI (x j q)
theorem cR.fr {h g : mj_H} {L : List Nat} {b n at_ k : Nat} {f : Nat → Nat} {fp fs tm : Int32} {ins : Nat → Nat → Int32} (e : mz_fr L h g) (hL : ∀ x, x ∈ L → x ≤ b ∨ b + 37 ≤ x) : cR h b n f at_ fp fs tm k ins → cR g b n f at_ fp fs tm k ins
  | ⟨r0, ⟨tf, t1, t2, t3⟩, r1, ⟨rw, w1, w2⟩, r2⟩ => ⟨e _ (fun q => by have := hL _ q; omega) _ r0, ⟨tf, e _ (fun q => by have := hL _ q; omega) _ t1, e _ (fun q => by have := hL _ q; omega) _ t2, t3⟩, e _ (fun q => by have := hL _ q; omega) _ r1, ⟨rw, e _ (fun q => by have := hL _ q; omega) _ w1, w2⟩, fun j hj => e _ (fun q => by have := hL _ q; omega) _ (r2 j hj)⟩
theorem cPx.fr {h g : mj_H} {L : List Nat} {b n : Nat} {f : Nat → Nat} (c : cPx h b n f) (e : mz_fr L h g) (hL : ∀ x, x ∈ L → x < b ∨ b + 37 ≤ x) : cPx g b n f := ⟨e _ (fun q => by have := hL _ q; omega) _ c.1, c.2.1, c.2.2.fr e (fun x hx => by have := hL x hx; omega)⟩
theorem cPr.fr {h g : mj_H} {L : List Nat} {b n k : Nat} {f : Nat → Nat} {x : Nat → Nat → Nat} (c : cPr h b n f k x) (e : mz_fr L h g) (hL : ∀ x, x ∈ L → x < b ∨ b + 37 ≤ x) : cPr g b n f k x := by
  obtain ⟨c1, c2, c3, at_, fp, fs, tm, ins, r, hi⟩ := c
  exact ⟨e _ (fun q => by have := hL _ q; omega) _ c1, c2, c3, at_, fp, fs, tm, ins, r.fr e (fun x hx => by have := hL x hx; omega), hi⟩
theorem cPr.px {h : mj_H} {b n k : Nat} {f : Nat → Nat} {x : Nat → Nat → Nat} : cPr h b n f k x → cPx h b n f
  | ⟨c1, c2, c3, at_, fp, fs, tm, ins, r, hi⟩ => ⟨c1, c2, at_, k, fp, fs, tm, ins, r⟩
theorem cPx.t {h : mj_H} {b n : Nat} {f : Nat → Nat} (hb : b + 2 < mj_CB) : cPx h b n f → cTl h (b + 1) (b + 2) (lsF n f)
  | ⟨_, hn, at_, k, fp, fs, tm, ins, r⟩ => r.2.1.l hb hn
theorem cPr.cd {h : mj_H} {b n k : Nat} {f : Nat → Nat} {x : Nat → Nat → Nat} : cPr h b n f k x → cCd h b k x
  | ⟨c1, c2, c3, at_, fp, fs, tm, ins, r, hi⟩ => ⟨c3, r.2.2.1, r.2.2.2.1, fun j hj => ⟨ins j, r.2.2.2.2 j (by omega), hi j hj⟩⟩
/-- another text written there -/
theorem cPx.ct {h g : mj_H} {b n : Nat} {f : Nat → Nat} {l : List Nat} (c : cPx h b n f) (e : mz_fr [b + 1, b + 2] h g) (t : cTl g (b + 1) (b + 2) l) : cPx g b l.length (lF l) := by
  obtain ⟨c1, c2, at_, k, fp, fs, tm, ins, r0, r1, r2, ⟨rw, w1, w2⟩, r3⟩ := c
  have n : ∀ y, y ≠ b + 1 → y ≠ b + 2 → y ∉ [b + 1, b + 2] := fun y y1 y2 q => by simp only [List.mem_cons, List.not_mem_nil, or_false] at q; omega
  exact ⟨e _ (n _ (by omega) (by omega)) _ c1, t.1, at_, k, fp, fs, tm, ins, e _ (n _ (by omega) (by omega)) _ r0, t.x, e _ (n _ (by omega) (by omega)) _ r2, ⟨rw, e _ (n _ (by omega) (by omega)) _ w1, w2⟩, fun j hj => e _ (n _ (by omega) (by omega)) _ (r3 j hj)⟩
theorem cPx.rd {h : mj_H} {b n : Nat} {f : Nat → Nat} (c : cPx h b n f) : ∃ (at_ k : Nat) (fp fs tm : Int32), mj_rd h (b + 36) = some (rdC b at_ fp fs tm) := by
  obtain ⟨_, _, at_, k, fp, fs, tm, ins, r⟩ := c
  exact ⟨at_, k, fp, fs, tm, r.1⟩
/-- a text read: that it went well -/
theorem x_rdT {h : mj_H} {b n : Nat} {f : Nat → Nat} (bb : b + 37 ≤ 414) (c : cPx h b n f) (hf : ∀ j, j < n → f j < 65536) {s : PS} (e : rAll n f = .inr s) (hk : s.2.1 ≤ 30) : mj_Wp 100 81 (0, [some (.ref (b + 36))], [], h) (mz_V fun r g => r = .int (nI 1) ∧ cPr g b n f s.2.1 s.2.2 ∧ mz_mo (cL b) 0 0 h g) := by
  obtain ⟨c1, hn, at_, k, fp, fs, tm, ins, r⟩ := c
  refine (x_all bb hn hf r).imp ?_
  rintro _ ⟨v, g, rfl, hq⟩
  rw [e] at hq
  obtain ⟨⟨s', e1, rfl, q1⟩ | ⟨e', e1, _⟩, q2⟩ := hq
  · cases e1
    obtain ⟨fp, fs, tm, ins, r, hi⟩ := q1
    exact ⟨_, _, rfl, rfl, ⟨q2.1 b (fun q => by have := mem_cL.mp q; omega) _ c1, hn, hk, s.1, fp, fs, tm, ins, r, hi⟩, q2⟩
  · cases e1
theorem x_rdF {h : mj_H} {b n : Nat} {f : Nat → Nat} (bb : b + 37 ≤ 414) (c : cPx h b n f) (hf : ∀ j, j < n → f j < 65536) {e : Nat × Nat} (e0 : rAll n f = .inl e) : mj_Wp 100 81 (0, [some (.ref (b + 36))], [], h) (mz_V fun r g => r = .int (nI 0) ∧ cPx g b n f ∧ mz_mo (cL b) 0 0 h g) := by
  obtain ⟨c1, hn, at_, k, fp, fs, tm, ins, r⟩ := c
  refine (x_all bb hn hf r).imp ?_
  rintro _ ⟨v, g, rfl, hq⟩
  rw [e0] at hq
  obtain ⟨⟨s', e1, rfl, q1⟩ | ⟨e', e1, rfl, q1⟩, q2⟩ := hq
  · cases e1
  · exact ⟨_, _, rfl, rfl, ⟨q2.1 b (fun q => by have := mem_cL.mp q; omega) _ c1, hn, q1.x⟩, q2⟩
theorem rAll_K {n : Nat} {f : Nat → Nat} {s : PS} (hn : n ≤ 60) (hf : ∀ j, j < n → f j < 65536) (h : rAll n f = .inr s) : s.2.1 ≤ 30 := by
  have h2 := rRw_b (chA_ok n f) 8 70000 0 (0, 0, fun _ _ => 0) (Nat.zero_le n)
  have e : rRw (chA n f) 8 70000 0 (0, 0, fun _ _ => 0) = .inr s := h
  have h3 := h2.1 s e
  dsimp only at h3
  omega
theorem x_emp {h : mj_H} {T A : Nat} {l : List Nat} (t : cTl h T A l) : mj_Wp 0 13 (0, [some (.ref T)], [], h) (mz_N fun g => cTl g T A [] ∧ mz_mo [T, A] 0 0 h g) := by
  obtain ⟨t1, t2, t3, tf, k1, k2, k3⟩ := t
  have hne : A ≠ T := fun e => by rw [e, k1] at k2; cases k2
  refine s_aldn (p' := 1) rfl rfl rfl ?_
  refine s_con (p' := 2) rfl rfl ?_
  refine s_pf (p' := 5) (fs' := [_, _]) rfl t2 k1 (Nat.blt_eq.mp rfl) rfl rfl rfl ?_
  refine s_ret rfl ?_
  exact ⟨_, rfl, ⟨Nat.zero_le _, t2, t3, tf, rd_set t2 k1, (rd_setn (Ne.symm hne)).trans k2, fun j c q => by cases q⟩, mz_mo.s (mz_mo.rf _ _ _ _) t2 k1 rfl (Or.inl (by simp))⟩
theorem x_tsg_ {h : mj_H} {T A j c : Nat} {l : List Nat} (t0 : cTl h T A l) (hj : l[j]? = some c) : mj_run 0 105 (0, [some (.ref T), some (.int (nI j))], [], h) (.inl (some (.int (nI c))), h) := by
  have h60 := t0.1
  have hl := (List.getElem?_eq_some_iff.mp hj).1
  obtain ⟨_, _, _, tf, _, k2, k3⟩ := id t0
  refine s_ildn (p' := 1) rfl rfl rfl ?_
  refine s_if (p' := 4) false rfl (cz_lt (by omega)) rfl ?_
  refine s_ildn (p' := 5) rfl rfl rfl ?_
  refine s_aldn (p' := 6) rfl rfl rfl ?_
  refine s_gf (p' := 9) rfl t0.r rfl rfl ?_
  refine s_icmp (p' := 12) false rfl ((ci_ge (by omega) (by omega)).trans (decide_eq_false (by omega))) rfl ?_
  refine s_ildn (p' := 13) rfl rfl rfl ?_
  refine s_aldn (p' := 14) rfl rfl rfl ?_
  refine s_gf (p' := 17) rfl t0.r rfl rfl ?_
  refine s_len (p' := 18) rfl (mj_rdA_is k2 (by decide)) (by decide) rfl ?_
  refine s_icmp (p' := 21) false rfl ((ci_ge (by omega) (by omega)).trans (decide_eq_false (by omega))) rfl ?_
  refine s_aldn (p' := 22) rfl rfl rfl ?_
  refine s_gf (p' := 25) rfl t0.r rfl rfl ?_
  refine s_ildn (p' := 26) rfl rfl rfl ?_
  refine s_cal (p' := 27) rfl k2 (inb_nI (by omega) (by omega)) rfl ?_
  rw [mI_cl (by omega), k3 j c hj]
  refine s_goto (p' := 31) rfl rfl ?_
  exact s_iret rfl rfl rfl
theorem x_tcL {h0 : mj_H} {S B T A : Nat} {l : List Nat} (ts : cTl h0 S B l) (n1 : S ∉ [T, A]) (n2 : B ∉ [T, A]) (hl : ∀ c, c ∈ l → c < 65536) : ∀ (m i : Nat) (h : mj_H), i + m = l.length → cTl h T A (l.take i) → mz_mo [T, A] 0 0 h0 h → mj_Wp 2 130 (6, [some (.ref T), some (.ref S), some (.int (nI i))], [], h) (mz_N fun g => cTl g T A l ∧ mz_mo [T, A] 0 0 h0 g)
  | 0, i, h, hi, t1, m0 => by
    have t0 := ts.fr m0.1 n1 n2
    have h60 := ts.1
    refine s_ildn (p' := 7) rfl rfl rfl ?_
    refine s_aldn (p' := 8) rfl rfl rfl ?_
    refine s_gf (p' := 11) rfl t0.r rfl rfl ?_
    refine s_icmp (p' := 36) true rfl ((ci_ge (by omega) (by omega)).trans (decide_eq_true (by omega))) rfl ?_
    refine s_ret rfl ?_
    have e : i = l.length := by omega
    rw [e, List.take_length] at t1
    exact ⟨_, rfl, t1, m0⟩
  | m + 1, i, h, hi, t1, m0 => by
    have t0 := ts.fr m0.1 n1 n2
    have h60 := ts.1
    have hlt : i < l.length := by omega
    have hat : l[i]? = some l[i] := List.getElem?_eq_some_iff.mpr ⟨hlt, rfl⟩
    have hc := hl _ (List.getElem_mem hlt)
    refine s_ildn (p' := 7) rfl rfl rfl ?_
    refine s_aldn (p' := 8) rfl rfl rfl ?_
    refine s_gf (p' := 11) rfl t0.r rfl rfl ?_
    refine s_icmp (p' := 14) false rfl ((ci_ge (by omega) (by omega)).trans (decide_eq_false (by omega))) rfl ?_
    refine s_ildn (p' := 15) rfl rfl rfl ?_
    refine s_bip (p' := 17) rfl rfl ?_
    refine s_icmp (p' := 20) false rfl ((ci_ge (by omega) (by omega)).trans (decide_eq_false (by omega))) rfl ?_
    refine s_aldn (p' := 21) rfl rfl rfl ?_
    refine s_aldn (p' := 22) rfl rfl rfl ?_
    refine s_ildn (p' := 23) rfl rfl rfl ?_
    refine s_callV (p' := 26) (ls0 := [_, _]) rfl rfl rfl rfl rfl (mj_rcv_is t0.r) rfl (x_tsg_ t0 hat) (by first | decide | omega) rfl ?_
    refine s_sp (p' := 27) (ls' := _) rfl rfl rfl ?_
    rw [i2c_n hc]
    refine s_callEN (p' := 30) (ls0 := [_, _]) rfl rfl rfl rfl rfl (mj_rcv_is t1.r) rfl (x_ptl t1 (by rw [List.length_take]; omega) hc) rfl rfl ?_
    rintro g1 ⟨u1, n3⟩
    have m1 : mz_mo [T, A] 0 0 h0 g1 := mo00 m0 n3
    refine s_inc (p' := 33) (ls' := [_, _, _]) rfl rfl rfl rfl rfl ?_
    rw [mI_add]
    refine s_goto (p' := 6) rfl rfl ?_
    exact x_tcL ts n1 n2 hl m (i + 1) _ (by omega) (by rw [List.take_succ, List.getElem?_eq_getElem hlt]; exact u1) m1
theorem x_tcp {h : mj_H} {S B T A : Nat} {l : List Nat} (ts : cTl h S B l) (n1 : S ∉ [T, A]) (n2 : B ∉ [T, A]) {l0 : List Nat} (hl : ∀ c, c ∈ l → c < 65536) (t : cTl h T A l0) : mj_Wp 2 130 (0, [some (.ref T), some (.ref S), none], [], h) (mz_N fun g => cTl g T A l ∧ mz_mo [T, A] 0 0 h g) := by
  refine s_aldn (p' := 1) rfl rfl rfl ?_
  refine s_callEN (p' := 4) (ls0 := [_]) rfl rfl rfl rfl rfl (mj_rcv_is t.r) rfl (x_emp t) rfl rfl ?_
  rintro g0 ⟨t1, m0⟩
  refine s_con (p' := 5) rfl rfl ?_
  refine s_istn (p' := 6) (ls' := [_, _, _]) rfl rfl rfl rfl ?_
  exact x_tcL ts n1 n2 hl l.length 0 _ (Nat.zero_add _) (by rw [List.take_zero]; exact t1) m0
theorem x_smL {h : mj_H} {S B T A : Nat} {l : List Nat} (t0 : cTl h S B l) (t1 : cTl h T A l) : ∀ (m i : Nat), i + m = l.length → mj_run 1 104 (15, [some (.ref S), some (.ref T), some (.int (nI i))], [], h) (.inl (some (.int (nI 1))), h)
  | 0, i, hi => by
    have h60 := t0.1
    refine s_ildn (p' := 16) rfl rfl rfl ?_
    refine s_aldn (p' := 17) rfl rfl rfl ?_
    refine s_gf (p' := 20) rfl t0.r rfl rfl ?_
    refine s_icmp (p' := 44) true rfl ((ci_ge (by omega) (by omega)).trans (decide_eq_true (by omega))) rfl ?_
    refine s_con (p' := 45) rfl rfl ?_
    exact s_iret rfl rfl rfl
  | m + 1, i, hi => by
    have h60 := t0.1
    have hlt : i < l.length := by omega
    have hat : l[i]? = some l[i] := List.getElem?_eq_some_iff.mpr ⟨hlt, rfl⟩
    refine s_ildn (p' := 16) rfl rfl rfl ?_
    refine s_aldn (p' := 17) rfl rfl rfl ?_
    refine s_gf (p' := 20) rfl t0.r rfl rfl ?_
    refine s_icmp (p' := 23) false rfl ((ci_ge (by omega) (by omega)).trans (decide_eq_false (by omega))) rfl ?_
    refine s_aldn (p' := 24) rfl rfl rfl ?_
    refine s_ildn (p' := 25) rfl rfl rfl ?_
    refine s_callV (p' := 28) (ls0 := [_, _]) rfl rfl rfl rfl rfl (mj_rcv_is t0.r) rfl (x_tsg_ t0 hat) (by first | decide | omega) rfl ?_
    refine s_aldn (p' := 29) rfl rfl rfl ?_
    refine s_ildn (p' := 30) rfl rfl rfl ?_
    refine s_callV (p' := 33) (ls0 := [_, _]) rfl rfl rfl rfl rfl (mj_rcv_is t1.r) rfl (x_tsg_ t1 hat) (by first | decide | omega) rfl ?_
    refine s_icmp (p' := 38) true rfl ((cg_eq rfl).trans (decide_eq_true rfl)) rfl ?_
    refine s_inc (p' := 41) (ls' := [_, _, _]) rfl rfl rfl rfl rfl ?_
    rw [mI_add]
    refine s_goto (p' := 15) rfl rfl ?_
    exact x_smL t0 t1 m (i + 1) (by omega)
theorem x_sm {h : mj_H} {S B T A : Nat} {l : List Nat} (t0 : cTl h S B l) (t1 : cTl h T A l) : mj_run 1 104 (0, [some (.ref S), some (.ref T), none], [], h) (.inl (some (.int (nI 1))), h) := by
  refine s_aldn (p' := 1) rfl rfl rfl ?_
  refine s_gf (p' := 4) rfl t0.r rfl rfl ?_
  refine s_aldn (p' := 5) rfl rfl rfl ?_
  refine s_gf (p' := 8) rfl t1.r rfl rfl ?_
  refine s_icmp (p' := 13) true rfl ((cg_eq rfl).trans (decide_eq_true rfl)) rfl ?_
  refine s_con (p' := 14) rfl rfl ?_
  refine s_istn (p' := 15) (ls' := [_, _, _]) rfl rfl rfl rfl ?_
  exact x_smL t0 t1 l.length 0 (Nat.zero_add _)
theorem x_wrow {b K : Nat} {x y : Nat → Nat → Nat} {T A : Nat} : ∀ (d op : Nat), op + d = 6 → ∀ (k k' s : Nat) (l : List Nat) (h : mj_H), k ≤ k' → wSq (wPt x y d) k k' s → k' ≤ K → cCd h b K x → cTl h T A l → l.length + (pFl y (k' - k) s).length ≤ 60 → mj_Wp (2 * d + 5) 72 (0, [some (.ref (b + 3)), some (.int (nI k)), some (.int (nI k')), some (.ref T), some (.int (nI op)), none, none, none], [], h) (mz_N fun g => cTl g T A (l ++ pFl y (k' - k) s) ∧ mz_mo [T, A] 0 0 h g) := by
  intro d
  induction d with
  | zero =>
    intro op hop k k' s l h hkk w hk' hc t hn
    obtain ⟨hk, c, ks, e0, ec, hj, hm⟩ := w.S (fun a b a' q => wPt.lt _ a b a' q)
    have hcc : c ≤ 30 := by
      have h30 := hc.1
      have : ∀ i, i ≤ c → i + k ≤ ks i := by
        intro i
        induction i with
        | zero => intro _; omega
        | succ i ih2 =>
          intro q
          have := ih2 (by omega)
          have := wPt.lt _ _ _ _ (hj i (by omega))
          omega
      have := this c (Nat.le_refl c)
      omega
    have hh : s + k' - k' = s := by omega
    refine s_ildn (p' := 1) rfl rfl rfl ?_
    refine s_con (p' := 2) rfl rfl ?_
    refine s_sp (p' := 3) (ls' := _) rfl rfl rfl ?_
    refine s_ist (p' := 5) (ls' := [_, _, _, _, _, _, _, _]) rfl rfl rfl rfl ?_
    refine s_con (p' := 6) rfl rfl ?_
    refine s_ist (p' := 8) (ls' := [_, _, _, _, _, _, _, _]) rfl rfl rfl rfl ?_
    have r := x_rbL (D := 4) (op := op) (by omega) t hc (fun d' a m e a' l h hd => by omega) e0 ec hk' (show k' ≤ s + k' by omega) hj hm hcc c 0 none h (Nat.zero_add c) (by rw [ec, Nat.sub_self]; simpa only [pFl, List.append_nil] using t) (by rw [hh]; exact hn) (mz_mo.rf _ _ _ _)
    rw [hh, ec] at r
    exact r
  | succ d ih =>
    intro op hop k k' s l h hkk w hk' hc t hn
    obtain ⟨hk, c, ks, e0, ec, hj, hm⟩ := w.S (fun a b a' q => wPt.lt _ a b a' q)
    have hcc : c ≤ 30 := by
      have h30 := hc.1
      have : ∀ i, i ≤ c → i + k ≤ ks i := by
        intro i
        induction i with
        | zero => intro _; omega
        | succ i ih2 =>
          intro q
          have := ih2 (by omega)
          have := wPt.lt _ _ _ _ (hj i (by omega))
          omega
      have := this c (Nat.le_refl c)
      omega
    have hh : s + k' - k' = s := by omega
    refine s_ildn (p' := 1) rfl rfl rfl ?_
    refine s_con (p' := 2) rfl rfl ?_
    refine s_sp (p' := 3) (ls' := _) rfl rfl rfl ?_
    refine s_ist (p' := 5) (ls' := [_, _, _, _, _, _, _, _]) rfl rfl rfl rfl ?_
    refine s_con (p' := 6) rfl rfl ?_
    refine s_ist (p' := 8) (ls' := [_, _, _, _, _, _, _, _]) rfl rfl rfl rfl ?_
    have r := x_rbL (D := 2 * d + 6) (op := op) (by omega) t hc (fun d' a m e a' l h hd h1 h2 he hw h5 h6 hc2 t2 hn2 => by
      obtain rfl : d = d' := by omega
      exact x_wbr (D := 2 * d + 5) t2 hc2 (by omega) (by omega) (fun k k' s l h q1 q2 q3 q4 q5 q6 => ih (op + 1) (by omega) k k' s l h q1 q2 q3 q4 q5 q6) h1 h2 he hw h5 h6 hn2) e0 ec hk' (show k' ≤ s + k' by omega) hj hm hcc c 0 none h (Nat.zero_add c) (by rw [ec, Nat.sub_self]; simpa only [pFl, List.append_nil] using t) (by rw [hh]; exact hn) (mz_mo.rf _ _ _ _)
    rw [hh, ec] at r
    exact r
theorem x_wb {h : mj_H} {b K T A : Nat} {x y : Nat → Nat → Nat} {l0 : List Nat} (hc : cCd h b K x) (t : cTl h T A l0) (w : wRow x y 6 0 K 0) (hn : (pFl y K 0).length ≤ 60) : mj_Wp 20 71 (0, [some (.ref (b + 3)), some (.ref T)], [], h) (mz_N fun g => cTl g T A (pFl y K 0) ∧ mz_mo [T, A] 0 0 h g) := by
  refine s_aldn (p' := 1) rfl rfl rfl ?_
  refine s_callEN (p' := 4) (ls0 := [_]) rfl rfl rfl rfl rfl (mj_rcv_is t.r) rfl (x_emp t) rfl rfl ?_
  rintro g0 ⟨t1, m0⟩
  have c1 := hc.ct t m0.1
  refine s_aldn (p' := 5) rfl rfl rfl ?_
  refine s_con (p' := 6) rfl rfl ?_
  refine s_aldn (p' := 7) rfl rfl rfl ?_
  refine s_gf (p' := 10) rfl c1.2.1 rfl rfl ?_
  refine s_aldn (p' := 11) rfl rfl rfl ?_
  refine s_con (p' := 12) rfl rfl ?_
  refine s_callEN (p' := 15) (ls0 := [_, _, _, _, _, _, _, _]) rfl rfl rfl rfl rfl rfl rfl (x_wrow 6 0 rfl 0 K 0 [] _ (Nat.zero_le K) w (Nat.le_refl K) c1 t1 (by rw [Nat.sub_zero, List.length_nil, Nat.zero_add]; exact hn)) rfl rfl ?_
  rintro g1 ⟨t2, m1⟩
  rw [Nat.sub_zero, List.nil_append] at t2
  refine s_ret rfl ?_
  exact ⟨_, rfl, t2, mo00 m0 m1⟩
