/-! Acts laid out of parts. -/
abbrev actC (s : Int32) (p : Value) (o m e : Int32) : mj_C := .inr (28, [.int s, p, .int o, .int m, .int e])
def yAp (I : Nat → Prop) (h : mj_H) (x : Nat → Nat → Nat) (p j : Nat) : Prop := ySim I h (x j) p ∨ (brS (x j 0) = true ∧ ∃ (S1 S2 R1 R2 : Nat) (s1 s2 : Int32), I p ∧ mj_rd h p = some (ptC (nI (x (x j 5) 0)) s1 s2 .null (.ref S1) (.ref S2) (.ref R1) (.ref R2)) ∧ ySu I h S1 (x (x j 5) 2) (x (x j 5) 3) (x (x j 5) 4) ∧ ySu I h S2 (x (x j 7) 2) (x (x j 7) 3) (x (x j 7) 4))
/-- the act at q is x's j-th -/
def yAc (I : Nat → Prop) (h : mj_H) (x : Nat → Nat → Nat) (q j : Nat) : Prop := I q ∧ ∃ p, mj_rd h q = some (actC (nI (x j 0)) (.ref p) (nI (x j 5)) (nI (x j 6)) (nI (x j 7))) ∧ yAp I h x p j
theorem yAp.mv {I J : Nat → Prop} {L : List Nat} {h g : mj_H} {x : Nat → Nat → Nat} {p j : Nat} (m : Mv I J L h g) : yAp I h x p j → yAp J g x p j
  | .inl s => .inl (s.mv m)
  | .inr ⟨b, S1, S2, R1, R2, s1, s2, i, r, u1, u2⟩ => .inr ⟨b, S1, S2, R1, R2, s1, s2, m.j i r, m.rd i r, u1.mv m, u2.mv m⟩
theorem yAc.mv {I J : Nat → Prop} {L : List Nat} {h g : mj_H} {x : Nat → Nat → Nat} {q j : Nat} (m : Mv I J L h g) : yAc I h x q j → yAc J g x q j
  | ⟨i, p, r, a⟩ => ⟨m.j i r, p, m.rd i r, a.mv m⟩
/-- objects are no lists and no rows of lists -/
theorem ls_ni {h : mj_H} {La E n q c : Nat} {F : Nat → Nat} {fs : List Value} (l : yLs h La E n F) (hr : mj_rd h q = some (.inr (c, fs))) (hc : c ≠ 18) : q ≠ La ∧ q ≠ E := by
  obtain ⟨cap, mc, ef, l1, l2, _⟩ := l
  refine ⟨fun e => ?_, fun e => ?_⟩
  · rw [e, l1] at hr
    exact hc (Prod.mk.inj (Sum.inr.inj (Option.some.inj hr))).1.symm
  · rw [e, rdA_lt l2] at hr
    cases hr
theorem ls_na {h : mj_H} {La E n q : Nat} {F : Nat → Nat} {y : vp_A} {t : Nat} (l : yLs h La E n F) (hr : mj_rd h q = some (.inl (t, y))) (ht : t ≠ 6) : q ≠ La ∧ q ≠ E := by
  obtain ⟨cap, mc, ef, l1, l2, _⟩ := l
  refine ⟨fun e => ?_, fun e => ?_⟩
  · rw [e, l1] at hr
    cases hr
  · rw [e, rdA_lt l2] at hr
    exact ht (Prod.mk.inj (Sum.inl.inj (Option.some.inj hr))).1.symm
theorem ls_len {h : mj_H} {La E n : Nat} {F : Nat → Nat} (l : yLs h La E n F) : (La < h.length ∨ mj_CB ≤ La) ∧ (E = 1000000 ∨ E < h.length) := by
  obtain ⟨cap, mc, ef, l1, l2, l3, l4, l5, _⟩ := l
  have h1 := rdN l1
  have h2 := rdN (rdA_lt l2)
  have e1 : mj_CB = 1000000 := rfl
  exact ⟨h1, by omega⟩
/-- parts, sums stay when a list changes -/
theorem ySu.ls {I : Nat → Prop} {h g : mj_H} {La E n S t p u : Nat} {F : Nat → Nat} (l : yLs h La E n F) (e : mz_fr [La, E] h g) : ySu I h S t p u → ySu I g S t p u
  | ⟨V, N, vf, nf, sg, k, s, i1, i2, i3, r⟩ => by
    have n1 := ls_ni l s.1 (by decide)
    have n2 := ls_na l s.2.1 (by decide)
    have n3 := ls_na l s.2.2.1 (by decide)
    exact ⟨V, N, vf, nf, sg, k, s.fr e (by simp [n1]) (by simp [n2]) (by simp [n3]), i1, i2, i3, r⟩
theorem ySim.ls {I : Nat → Prop} {h g : mj_H} {La E n p : Nat} {F A : Nat → Nat} (l : yLs h La E n F) (e : mz_fr [La, E] h g) : ySim I h A p → ySim I g A p
  | ⟨b, i, s, v, r, w, u⟩ => ⟨b, i, s, v, e _ (by have := ls_ni l r (by decide); simp [this]) _ r, w, fun z => by
      obtain ⟨S, e1, e2⟩ := u z
      exact ⟨S, e1, e2.ls l e⟩⟩
theorem yAp.ls {I : Nat → Prop} {h g : mj_H} {La E n p j : Nat} {F : Nat → Nat} {x : Nat → Nat → Nat} (l : yLs h La E n F) (e : mz_fr [La, E] h g) : yAp I h x p j → yAp I g x p j
  | .inl s => .inl (s.ls l e)
  | .inr ⟨b, S1, S2, R1, R2, s1, s2, i, r, u1, u2⟩ => .inr ⟨b, S1, S2, R1, R2, s1, s2, i, e _ (by have := ls_ni l r (by decide); simp [this]) _ r, u1.ls l e, u2.ls l e⟩
theorem yAc.ls {I : Nat → Prop} {h g : mj_H} {La E n q j : Nat} {F : Nat → Nat} {x : Nat → Nat → Nat} (l : yLs h La E n F) (e : mz_fr [La, E] h g) : yAc I h x q j → yAc I g x q j
  | ⟨i, p, r, a⟩ => ⟨i, p, e _ (by have := ls_ni l r (by decide); simp [this]) _ r, a.ls l e⟩
theorem aOk_s {x : Nat → Nat → Nat} {k K a : Nat} (h : aOk x k K a) (hb : brS (x a 0) = false) : sOk (x a) := by
  rcases h with h | ⟨o, m, e, b, hj, _⟩
  · exact h
  · have b1 := b.1
    have hb := of_decide_eq_false hb
    rcases hj with rfl | rfl | rfl <;> omega
theorem aOk_b {x : Nat → Nat → Nat} {k K a : Nat} (h : aOk x k K a) (hb : x a 0 = 91 ∨ x a 0 = 123) : bOk x a (x a 6) (x a 7) ∧ a < x a 6 ∧ x a 6 < x a 7 ∧ x a 7 < K := by
  rcases h with h | ⟨o, m, e, b, hj, h1, h2, h3, h4⟩
  · have := h.1
    omega
  · have b1 := b.1
    have b0 := b
    obtain ⟨_, _, _, _, _, _, l1, l2, l3⟩ := b
    have : a = o := by rcases hj with rfl | rfl | rfl <;> omega
    subst this
    rw [l1.2.1, l1.2.2]
    exact ⟨b0, h2, h3, h4⟩
theorem aOk_0 {x : Nat → Nat → Nat} {k K a : Nat} (h : aOk x k K a) : x a 0 < 200 := by
  rcases h with h | ⟨o, m, e, b, hj, _⟩
  · have := h.1
    omega
  · have b1 := b.1
    rcases hj with rfl | rfl | rfl <;> omega
theorem gE_ac {h : mj_H} {p : Nat} {fs : List Value} (hr : mj_rd h p = some (.inr (28, fs))) : gE h p := ⟨28, fs, hr, by decide, by decide⟩
theorem y_aci {h : mj_H} {q s p : Nat} {v1 v2 v3 v4 v5 : Value} (bq : q < mj_CB) (hs : s < 65536) (hq : mj_rd h q = some (.inr (28, [v1, v2, v3, v4, v5]))) : mj_Wp 0 355 (0, [some (.ref q), some (.int (nI s)), some (.ref p)], [], h) (fun o => o = (.inl none, h.set q (.inr (28, [.int (nI s), .ref p, v3, v4, v5])))) := by
  refine s_aldn (p' := 1) rfl rfl rfl ?_
  refine s_primN (p' := 4) (q := 3) rfl rfl rfl rfl rfl rfl rfl rfl ?_
  refine s_aldn (p' := 5) rfl rfl rfl ?_
  refine s_ildn (p' := 6) rfl rfl rfl ?_
  refine s_pf (p' := 9) (fs' := [_, _, _, _, _]) rfl bq hq (Nat.blt_eq.mp rfl) (chr_fit hs) rfl rfl ?_
  refine s_aldn (p' := 10) rfl rfl rfl ?_
  refine s_aldn (p' := 11) rfl rfl rfl ?_
  refine s_pf (p' := 14) (fs' := [_, _, _, _, _]) rfl bq (rd_set bq hq) (Nat.blt_eq.mp rfl) rfl rfl rfl ?_
  rw [List.set_set]
  exact s_ret rfl rfl
theorem yLs.app {h : mj_H} {La E n : Nat} {F : Nat → Nat} {t : mj_H} : yLs h La E n F → yLs (h ++ t) La E n F
  | ⟨cap, mc, ef, l1, l2, l3, l4, l5, l6⟩ => ⟨cap, mc, ef, rd_app l1, rdA_app l2, l3, l4, l5, fun j hj => ⟨(l6 j hj).1, (l6 j hj).2.app⟩⟩
theorem yLs.st {h : mj_H} {La E n q c : Nat} {F : Nat → Nat} {fs gs : List Value} (l : yLs h La E n F) (bq : q < mj_CB) (hc : c ≠ 18) (hr : mj_rd h q = some (.inr (c, fs))) : yLs (h.set q (.inr (c, gs))) La E n F := by
  have hn := ls_ni l hr hc
  obtain ⟨cap, mc, ef, l1, l2, l3, l4, l5, l6⟩ := l
  refine ⟨cap, mc, ef, (rd_setn hn.1).trans l1, rdA_sn (beq_eq_false_iff_ne.mpr hn.2) l2, l3, l4, l5, fun j hj => ⟨(l6 j hj).1, ?_⟩⟩
  by_cases e : F j = q
  · obtain ⟨c1, fs1, r1, r2, r3⟩ := (l6 j hj).2
    rw [e] at r1 ⊢
    rw [hr] at r1
    have e2 := (Prod.mk.inj (Sum.inr.inj (Option.some.inj r1))).1
    exact ⟨c, gs, rd_set bq hr, e2 ▸ r2, hc⟩
  · exact (l6 j hj).2.st e
theorem y_ly0 {I J : Nat → Prop} {x : Nat → Nat → Nat} {KK B D La Lr It : Nat} {w0 w1 : Value} (hA : ∀ j, j < KK → aOk x 0 KK j) (hK : KK ≤ 30) (bL : La < mj_CB) (hIB : ∀ a, I a → a < B) (hBL : B ≤ La) (hIJ : ∀ a, I a → J a) (hIC : ∀ a, I a → a < mj_CB) {g : mj_H} {E p a : Nat} {F : Nat → Nat} {l4 l5 l6 l7 l8 l9 l10 l11 : Option Value} {K : Nat} {Q : mj_O × mj_H → Prop} (hb : g.length + 20 < mj_CB) (hJ : ∀ q, g.length ≤ q → q < mj_CB → J q) (hD : mj_rd g D = some (.inr (26, [w0, w1, .ref La]))) (l : yLs g La E a F) (hE : E = 1000000 ∨ B ≤ E) (ha : a < KK) (s : ySim I g (x a) p) (hn : ∀ (g' : mj_H) (E' : Nat) (F' : Nat → Nat) (l3 l4 l5 l6 l7 l8 l9 l10 l11 : Option Value), yLs g' La E' (a + 1) F' ∧ (∀ j, j < a → F' j = F j) ∧ (∀ j, a ≤ j → j < (a + 1) → yAc J g' x (F' j) j) ∧ mz_mo [La, E] (4) (100) g g' ∧ (E' = 1000000 ∨ B ≤ E') → mj_Wp (K + 12) 347 (7, [some (.ref D), some (.ref Lr), some (.ref It), l3, l4, l5, l6, l7, l8, l9, l10, l11], [], g') Q) : mj_Wp (K + 12) 347 (26, [some (.ref D), some (.ref Lr), some (.ref It), some (.ref p), l4, l5, l6, l7, l8, l9, l10, l11], [], g) Q := by
  have sb : brS (x a 0) = false := s.1
  obtain ⟨s2, sv, sr⟩ : ∃ (b : Int32) (v : Value), mj_rd g p = some (ptC (nI (x a 0)) (nI (x a 1)) b v .null .null .null .null) := by
    obtain ⟨_, _, b, v, r, _⟩ := s
    exact ⟨b, v, r⟩
  have hs := aOk_0 (hA a ha)
  have so := (aOk_s (hA a ha) sb).2
  obtain ⟨q, eq⟩ : ∃ q, q = g.length := ⟨_, rfl⟩
  have hln := ls_len l
  have e1 : mj_CB = 1000000 := rfl
  refine s_newz (p' := 29) (a := q) rfl eq.symm rfl rfl ?_
  generalize hg1 : g ++ [_] = g1
  have l1 : g1.length = g.length + 1 := by rw [← hg1, List.length_append]; rfl
  have f1 : mz_fr [La, E] g g1 := by rw [← hg1]; exact mz_fr.a (mz_fr.rf _ _)
  have m1 : mz_mo [La, E] 1 5 g g1 := by rw [← hg1]; exact mz_mo.ap _ _ _
  have q1 : mj_rd g1 q = some (actC 0 .null 0 0 0) := by rw [← hg1]; exact rd_nw (Nat.blt_eq.mpr (by omega)) eq.symm
  have yl1 : yLs g1 La E a F := by rw [← hg1]; exact l.app
  clear hg1
  refine s_sp (p' := 30) (ls' := _) rfl rfl rfl ?_
  refine s_aldn (p' := 31) rfl rfl rfl ?_
  refine s_gf (p' := 34) rfl (f1 _ (by have := ls_ni l sr (by decide); simp [this]) _ sr) rfl rfl ?_
  refine s_aldn (p' := 35) rfl rfl rfl ?_
  refine s_callN (p' := 38) (ls0 := [_, _, _]) rfl rfl rfl rfl rfl (mj_rcv_is q1) rfl (y_aci (by omega) (by omega) q1) (by first | decide | omega) rfl ?_
  generalize hg2 : List.set g1 q _ = g2
  have l2 : g2.length = g.length + 1 := by rw [← hg2, List.length_set, l1]
  have m2 : mz_mo [La, E] 1 5 g g2 := by rw [← hg2]; exact mz_mo.s m1 (by omega) q1 rfl (Or.inr (by omega))
  have q2 : mj_rd g2 q = some (actC (nI (x a 0)) (.ref p) 0 0 0) := by rw [← hg2]; exact rd_set (by omega) q1
  have yl2 : yLs g2 La E a F := by rw [← hg2]; exact yl1.st (by omega) (by omega) q1
  have D2 : mj_rd g2 D = some (.inr (26, [w0, w1, .ref La])) := m2.1 _ (by have := ls_ni l hD (by decide); simp [this]) _ hD
  clear hg2
  refine s_ast (p' := 40) (ls' := [_, _, _, _, _, _, _, _, _, _, _, _]) rfl rfl rfl rfl ?_
  refine s_aldn (p' := 41) rfl rfl rfl ?_
  refine s_gf (p' := 44) rfl D2 rfl rfl ?_
  refine s_ald (p' := 46) rfl rfl rfl ?_
  refine s_callEV (p' := 51) (ls0 := [_, _]) rfl rfl rfl rfl rfl (by obtain ⟨_, _, _, z, _⟩ := yl2; exact mj_rcv_is z) rfl (y_ad bL (by omega) (by omega) yl2 (gE_ac q2)) (Nat.ble_eq.mpr (by omega)) rfl ?_
  rintro _ g3 ⟨rfl, E3, yl3, hE3, bE3, m3⟩
  have m23 : mz_mo [La, E] 4 100 g g3 := m2.tr m3 (fun y hy => Or.inl hy) (by omega) (by omega)
  have p3 := m23.1 _ (by have := ls_ni l sr (by decide); simp [this]) _ sr
  refine s_sp (p' := 52) (ls' := _) rfl rfl rfl ?_
  refine s_aldn (p' := 53) rfl rfl rfl ?_
  refine s_callV (p' := 56) (ls0 := [_]) rfl rfl rfl rfl rfl (mj_rcv_is p3) rfl (y_isb (by omega) p3) (by first | decide | omega) rfl ?_
  refine s_if (p' := 59) false rfl (by rw [decide_eq_false (by have := of_decide_eq_false sb; omega)]; rfl) rfl ?_
  refine s_goto (p' := 7) rfl rfl ?_
  refine hn g3 E3 _ _ _ _ _ _ _ _ _ _ ⟨yl3, fun j hj => if_neg (by omega), fun j h1 h2 => ?_, m23, by omega⟩
  obtain rfl : j = a := by omega
  rw [show upN F j q j = q from if_pos rfl]
  have mv : Mv I J [La, E] g g3 := ⟨m23.1, hIC, fun a ha _ => ⟨by have := hIB a ha; simp only [List.mem_cons, List.not_mem_nil, or_false]; omega, hIJ a ha⟩⟩
  refine ⟨hJ q (by omega) (by omega), p, ?_, Or.inl (s.mv mv)⟩
  rw [so.1, so.2.1, so.2.2]
  exact m3.1 _ (by have := ls_ni yl2 q2 (by decide); simp [this]) _ q2
