/-! Acts laid out of parts. -/
abbrev actC (s : Int32) (p : Value) (o m e : Int32) : mj_C := .inr (28, [.int s, p, .int o, .int m, .int e])
def yAp (I : Nat → Prop) (h : mj_H) (x : Nat → Nat → Nat) (p j : Nat) : Prop := ySim I h (x j) p ∨ (brS (x j 0) = true ∧ ∃ (S1 S2 R1 R2 : Nat) (s1 s2 : Int32), I p ∧ mj_rd h p = some (ptC (nI (x (x j 5) 0)) s1 s2 .null (.ref S1) (.ref S2) (.ref R1) (.ref R2)) ∧ ySu I h S1 (x (x j 5) 2) (x (x j 5) 3) (x (x j 5) 4) ∧ ySu I h S2 (x (x j 7) 2) (x (x j 7) 3) (x (x j 7) 4))
/-- the act at q is x's j-th -/
def yAc (I : Nat → Prop) (h : mj_H) (x : Nat → Nat → Nat) (q j : Nat) : Prop := I q ∧ ∃ p, mj_rd h q = some (actC (nI (x j 0)) (.ref p) (nI (x j 5)) (nI (x j 6)) (nI (x j 7))) ∧ yAp I h x p j
theorem yAp.mv {I J : Nat → Prop} {L : List Nat} {h g : mj_H} {x : Nat → Nat → Nat} {p j : Nat} (m : Mv I J L h g) : yAp I h x p j → yAp J g x p j
  | .inl s => .inl (s.mv m)
  | .inr ⟨b, S1, S2, R1, R2, s1, s2, i, r, u1, u2⟩ => .inr ⟨b, S1, S2, R1, R2, s1, s2, m.j i r, m.rd i r, u1.mv m, u2.mv m⟩
theorem yAc.mv {I J : Nat → Prop} {L : List Nat} {h g : mj_H} {x : Nat → Nat → Nat} {q j : Nat} (m : Mv I J L h g) : yAc I h x q j → yAc J g x q j
  | ⟨i, p, r, a⟩ => ⟨m.j i r, p, m.rd i r, a.mv m⟩
/-- objects are no lists and no rows of lists -/
theorem ls_ni {h : mj_H} {La E n q c : Nat} {F : Nat → Nat} {fs : List Value} (l : yLs h La E n F) (hr : mj_rd h q = some (.inr (c, fs))) (hc : c ≠ 18) : q ≠ La ∧ q ≠ E := by
  obtain ⟨cap, mc, ef, l1, l2, _⟩ := l
  refine ⟨fun e => ?_, fun e => ?_⟩
  · rw [e, l1] at hr
    exact hc (Prod.mk.inj (Sum.inr.inj (Option.some.inj hr))).1.symm
  · rw [e, rdA_lt l2] at hr
    cases hr
theorem ls_na {h : mj_H} {La E n q : Nat} {F : Nat → Nat} {y : vp_A} {t : Nat} (l : yLs h La E n F) (hr : mj_rd h q = some (.inl (t, y))) (ht : t ≠ 6) : q ≠ La ∧ q ≠ E := by
  obtain ⟨cap, mc, ef, l1, l2, _⟩ := l
  refine ⟨fun e => ?_, fun e => ?_⟩
  · rw [e, l1] at hr
    cases hr
  · rw [e, rdA_lt l2] at hr
    exact ht (Prod.mk.inj (Sum.inl.inj (Option.some.inj hr))).1.symm
theorem ls_len {h : mj_H} {La E n : Nat} {F : Nat → Nat} (l : yLs h La E n F) : (La < h.length ∨ mj_CB ≤ La) ∧ (E = 1000000 ∨ E < h.length) := by
  obtain ⟨cap, mc, ef, l1, l2, l3, l4, l5, _⟩ := l
  have h1 := rdN l1
  have h2 := rdN (rdA_lt l2)
  have e1 : mj_CB = 1000000 := rfl
  exact ⟨h1, by omega⟩
/-- parts, sums stay when a list changes -/
theorem ySu.ls {I : Nat → Prop} {h g : mj_H} {La E n S t p u : Nat} {F : Nat → Nat} (l : yLs h La E n F) (e : mz_fr [La, E] h g) : ySu I h S t p u → ySu I g S t p u
  | ⟨V, N, vf, nf, sg, k, s, i1, i2, i3, r⟩ => by
    have n1 := ls_ni l s.1 (by decide)
    have n2 := ls_na l s.2.1 (by decide)
    have n3 := ls_na l s.2.2.1 (by decide)
    exact ⟨V, N, vf, nf, sg, k, s.fr e (by simp [n1]) (by simp [n2]) (by simp [n3]), i1, i2, i3, r⟩
theorem ySim.ls {I : Nat → Prop} {h g : mj_H} {La E n p : Nat} {F A : Nat → Nat} (l : yLs h La E n F) (e : mz_fr [La, E] h g) : ySim I h A p → ySim I g A p
  | ⟨b, i, s, v, r, w, u, zz⟩ => ⟨b, i, s, v, e _ (by have := ls_ni l r (by decide); simp [this]) _ r, w, fun z => (u z).imp fun _ q => ⟨q.1, q.2.ls l e⟩, zz⟩
theorem yAp.ls {I : Nat → Prop} {h g : mj_H} {La E n p j : Nat} {F : Nat → Nat} {x : Nat → Nat → Nat} (l : yLs h La E n F) (e : mz_fr [La, E] h g) : yAp I h x p j → yAp I g x p j
  | .inl s => .inl (s.ls l e)
  | .inr ⟨b, S1, S2, R1, R2, s1, s2, i, r, u1, u2⟩ => .inr ⟨b, S1, S2, R1, R2, s1, s2, i, e _ (by have := ls_ni l r (by decide); simp [this]) _ r, u1.ls l e, u2.ls l e⟩
theorem yAc.ls {I : Nat → Prop} {h g : mj_H} {La E n q j : Nat} {F : Nat → Nat} {x : Nat → Nat → Nat} (l : yLs h La E n F) (e : mz_fr [La, E] h g) : yAc I h x q j → yAc I g x q j
  | ⟨i, p, r, a⟩ => ⟨i, p, e _ (by have := ls_ni l r (by decide); simp [this]) _ r, a.ls l e⟩
theorem aOk_s {x : Nat → Nat → Nat} {k K a : Nat} (h : aOk x k K a) (hb : brS (x a 0) = false) : sOk (x a) := by
  rcases h with h | ⟨o, m, e, b, hj, _⟩
  · exact h
  · have b1 := b.1
    have hb := of_decide_eq_false hb
    rcases hj with rfl | rfl | rfl <;> omega
theorem aOk_b {x : Nat → Nat → Nat} {k K a : Nat} (h : aOk x k K a) (hb : x a 0 = 91 ∨ x a 0 = 123) : bOk x a (x a 6) (x a 7) ∧ a < x a 6 ∧ x a 6 < x a 7 ∧ x a 7 < K := by
  rcases h with h | ⟨o, m, e, b, hj, h1, h2, h3, h4⟩
  · have := h.1
    omega
  · have b1 := b.1
    have b0 := b
    obtain ⟨_, _, _, _, _, _, l1, l2, l3⟩ := b
    have : a = o := by rcases hj with rfl | rfl | rfl <;> omega
    subst this
    rw [l1.2.1, l1.2.2]
    exact ⟨b0, h2, h3, h4⟩
theorem aOk_0 {x : Nat → Nat → Nat} {k K a : Nat} (h : aOk x k K a) : x a 0 < 200 := by
  rcases h with h | ⟨o, m, e, b, hj, _⟩
  · have := h.1
    omega
  · have b1 := b.1
    rcases hj with rfl | rfl | rfl <;> omega
theorem gE_ac {h : mj_H} {p : Nat} {fs : List Value} (hr : mj_rd h p = some (.inr (28, fs))) : gE h p := ⟨28, fs, hr, by decide, by decide⟩
theorem y_aci {h : mj_H} {q s p : Nat} {v1 v2 v3 v4 v5 : Value} (bq : q < mj_CB) (hs : s < 65536) (hq : mj_rd h q = some (.inr (28, [v1, v2, v3, v4, v5]))) : mj_Wp 0 355 (0, [some (.ref q), some (.int (nI s)), some (.ref p)], [], h) (fun o => o = (.inl none, h.set q (.inr (28, [.int (nI s), .ref p, v3, v4, v5])))) := by
  refine s_aldn (p' := 1) rfl rfl rfl ?_
  refine s_primN (p' := 4) (q := 3) rfl rfl rfl rfl rfl rfl rfl rfl ?_
  refine s_aldn (p' := 5) rfl rfl rfl ?_
  refine s_ildn (p' := 6) rfl rfl rfl ?_
  refine s_pf (p' := 9) (fs' := [_, _, _, _, _]) rfl bq hq (Nat.blt_eq.mp rfl) (chr_fit hs) rfl rfl ?_
  refine s_aldn (p' := 10) rfl rfl rfl ?_
  refine s_aldn (p' := 11) rfl rfl rfl ?_
  refine s_pf (p' := 14) (fs' := [_, _, _, _, _]) rfl bq (rd_set bq hq) (Nat.blt_eq.mp rfl) rfl rfl rfl ?_
  rw [List.set_set]
  exact s_ret rfl rfl
theorem yLs.app {h : mj_H} {La E n : Nat} {F : Nat → Nat} {t : mj_H} : yLs h La E n F → yLs (h ++ t) La E n F
  | ⟨cap, mc, ef, l1, l2, l3, l4, l5, l6⟩ => ⟨cap, mc, ef, rd_app l1, rdA_app l2, l3, l4, l5, fun j hj => ⟨(l6 j hj).1, (l6 j hj).2.app⟩⟩
theorem yLs.st {h : mj_H} {La E n q c : Nat} {F : Nat → Nat} {fs gs : List Value} (l : yLs h La E n F) (bq : q < mj_CB) (hc : c ≠ 18) (hr : mj_rd h q = some (.inr (c, fs))) : yLs (h.set q (.inr (c, gs))) La E n F := by
  have hn := ls_ni l hr hc
  obtain ⟨cap, mc, ef, l1, l2, l3, l4, l5, l6⟩ := l
  refine ⟨cap, mc, ef, (rd_setn hn.1).trans l1, rdA_sn (beq_eq_false_iff_ne.mpr hn.2) l2, l3, l4, l5, fun j hj => ⟨(l6 j hj).1, ?_⟩⟩
  by_cases e : F j = q
  · obtain ⟨c1, fs1, r1, r2, r3⟩ := (l6 j hj).2
    rw [e] at r1 ⊢
    rw [hr] at r1
    have e2 := (Prod.mk.inj (Sum.inr.inj (Option.some.inj r1))).1
    exact ⟨c, gs, rd_set bq hr, e2 ▸ r2, hc⟩
  · exact (l6 j hj).2.st e
theorem y_ly0 {I J : Nat → Prop} {x : Nat → Nat → Nat} {KK B D La Lr It : Nat} {w0 w1 : Value} (hA : ∀ j, j < KK → aOk x 0 KK j) (hK : KK ≤ 30) (bL : La < mj_CB) (hIB : ∀ a, I a → a < B) (hBL : B ≤ La) (hIJ : ∀ a, I a → J a) (hIC : ∀ a, I a → a < mj_CB) {g : mj_H} {E p a : Nat} {F : Nat → Nat} {l4 l5 l6 l7 l8 l9 l10 l11 : Option Value} {K : Nat} {Q : mj_O × mj_H → Prop} (hb : g.length + 20 < mj_CB) (hJ : ∀ q, g.length ≤ q → q < mj_CB → J q) (hD : mj_rd g D = some (.inr (26, [w0, w1, .ref La]))) (l : yLs g La E a F) (hE : E = 1000000 ∨ B ≤ E) (ha : a < KK) (s : ySim I g (x a) p) (hn : ∀ (g' : mj_H) (E' : Nat) (F' : Nat → Nat) (l3 l4 l5 l6 l7 l8 l9 l10 l11 : Option Value), yLs g' La E' (a + 1) F' ∧ (∀ j, j < a → F' j = F j) ∧ (∀ j, a ≤ j → j < (a + 1) → yAc J g' x (F' j) j) ∧ mz_mo [La, E] (4) (100) g g' ∧ (E' = 1000000 ∨ B ≤ E') ∧ (E' = E ∨ g.length ≤ E') ∧ (∀ j, a ≤ j → j < (a + 1) → g.length ≤ F' j) → mj_Wp (K + 12) 347 (7, [some (.ref D), some (.ref Lr), some (.ref It), l3, l4, l5, l6, l7, l8, l9, l10, l11], [], g') Q) : mj_Wp (K + 12) 347 (26, [some (.ref D), some (.ref Lr), some (.ref It), some (.ref p), l4, l5, l6, l7, l8, l9, l10, l11], [], g) Q := by
  have sb : brS (x a 0) = false := s.1
  obtain ⟨s2, sv, sr⟩ : ∃ (b : Int32) (v : Value), mj_rd g p = some (ptC (nI (x a 0)) (nI (x a 1)) b v .null .null .null .null) := by
    obtain ⟨_, _, b, v, r, _⟩ := s
    exact ⟨b, v, r⟩
  have hs := aOk_0 (hA a ha)
  have so := (aOk_s (hA a ha) sb).2
  obtain ⟨q, eq⟩ : ∃ q, q = g.length := ⟨_, rfl⟩
  have hln := ls_len l
  have e1 : mj_CB = 1000000 := rfl
  refine s_newz (p' := 29) (a := q) rfl eq.symm rfl rfl ?_
  generalize hg1 : g ++ [_] = g1
  have l1 : g1.length = g.length + 1 := by rw [← hg1, List.length_append]; rfl
  have f1 : mz_fr [La, E] g g1 := by rw [← hg1]; exact mz_fr.a (mz_fr.rf _ _)
  have m1 : mz_mo [La, E] 1 5 g g1 := by rw [← hg1]; exact mz_mo.ap _ _ _
  have q1 : mj_rd g1 q = some (actC 0 .null 0 0 0) := by rw [← hg1]; exact rd_nw (Nat.blt_eq.mpr (by omega)) eq.symm
  have yl1 : yLs g1 La E a F := by rw [← hg1]; exact l.app
  clear hg1
  refine s_sp (p' := 30) (ls' := _) rfl rfl rfl ?_
  refine s_aldn (p' := 31) rfl rfl rfl ?_
  refine s_gf (p' := 34) rfl (f1 _ (by have := ls_ni l sr (by decide); simp [this]) _ sr) rfl rfl ?_
  refine s_aldn (p' := 35) rfl rfl rfl ?_
  refine s_callN (p' := 38) (ls0 := [_, _, _]) rfl rfl rfl rfl rfl (mj_rcv_is q1) rfl (y_aci (by omega) (by omega) q1) (by first | decide | omega) rfl ?_
  generalize hg2 : List.set g1 q _ = g2
  have l2 : g2.length = g.length + 1 := by rw [← hg2, List.length_set, l1]
  have m2 : mz_mo [La, E] 1 5 g g2 := by rw [← hg2]; exact mz_mo.s m1 (by omega) q1 rfl (Or.inr (by omega))
  have q2 : mj_rd g2 q = some (actC (nI (x a 0)) (.ref p) 0 0 0) := by rw [← hg2]; exact rd_set (by omega) q1
  have yl2 : yLs g2 La E a F := by rw [← hg2]; exact yl1.st (by omega) (by omega) q1
  have D2 : mj_rd g2 D = some (.inr (26, [w0, w1, .ref La])) := m2.1 _ (by have := ls_ni l hD (by decide); simp [this]) _ hD
  clear hg2
  refine s_ast (p' := 40) (ls' := [_, _, _, _, _, _, _, _, _, _, _, _]) rfl rfl rfl rfl ?_
  refine s_aldn (p' := 41) rfl rfl rfl ?_
  refine s_gf (p' := 44) rfl D2 rfl rfl ?_
  refine s_ald (p' := 46) rfl rfl rfl ?_
  refine s_callEV (p' := 51) (ls0 := [_, _]) rfl rfl rfl rfl rfl (by obtain ⟨_, _, _, z, _⟩ := yl2; exact mj_rcv_is z) rfl (y_ad bL (by omega) (by omega) yl2 (gE_ac q2)) (Nat.ble_eq.mpr (by omega)) rfl ?_
  rintro _ g3 ⟨rfl, E3, yl3, hE3, bE3, m3⟩
  have m23 : mz_mo [La, E] 4 100 g g3 := m2.tr m3 (fun y hy => Or.inl hy) (by omega) (by omega)
  have p3 := m23.1 _ (by have := ls_ni l sr (by decide); simp [this]) _ sr
  refine s_sp (p' := 52) (ls' := _) rfl rfl rfl ?_
  refine s_aldn (p' := 53) rfl rfl rfl ?_
  refine s_callV (p' := 56) (ls0 := [_]) rfl rfl rfl rfl rfl (mj_rcv_is p3) rfl (y_isb (by omega) p3) (by first | decide | omega) rfl ?_
  refine s_if (p' := 59) false rfl (by rw [decide_eq_false (by have := of_decide_eq_false sb; omega)]; rfl) rfl ?_
  refine s_goto (p' := 7) rfl rfl ?_
  refine hn g3 E3 _ _ _ _ _ _ _ _ _ _ ⟨yl3, fun j hj => if_neg (by omega), fun j h1 h2 => ?_, m23, by omega, by omega, fun j h1 h2 => by rw [show upN F a q j = q from if_pos (by omega)]; omega⟩
  obtain rfl : j = a := by omega
  rw [show upN F j q j = q from if_pos rfl]
  have mv : Mv I J [La, E] g g3 := ⟨m23.1, hIC, fun a ha _ => ⟨by have := hIB a ha; simp only [List.mem_cons, List.not_mem_nil, or_false]; omega, hIJ a ha⟩⟩
  refine ⟨hJ q (by omega) (by omega), p, ?_, Or.inl (s.mv mv)⟩
  rw [so.1, so.2.1, so.2.2]
  exact m3.1 _ (by have := ls_ni yl2 q2 (by decide); simp [this]) _ q2
theorem yAc.fr {I : Nat → Prop} {h g : mj_H} {x : Nat → Nat → Nat} {q j : Nat} {L : List Nat} (e : mz_fr L h g) (hL : ∀ a, a ∈ L → a ≠ q ∧ ∀ c, mj_rd h a = some c → (∃ fs, c = .inr (18, fs)) ∨ (∃ y, c = .inl (6, y)) ∨ (∃ fs, c = .inr (28, fs)) ∨ ∃ fs, c = .inr (27, fs)) (hq : mj_rd h q ≠ none → True) : yAc I h x q j → yAc I g x q j
  | ⟨i, p, r, a⟩ => by
    have key : ∀ b c, mj_rd h b = some c → (∀ fs, c ≠ .inr (18, fs)) → (∀ y, c ≠ .inl (6, y)) → (∀ fs, c ≠ .inr (28, fs)) → (∀ fs, c ≠ .inr (27, fs)) → mj_rd g b = some c := fun b c h1 h2 h3 h4 h5 => e b (fun hb => by
      rcases (hL b hb).2 c h1 with ⟨fs, z⟩ | ⟨y, z⟩ | ⟨fs, z⟩ | ⟨fs, z⟩
      · exact h2 fs z
      · exact h3 y z
      · exact h4 fs z
      · exact h5 fs z) c h1
    have ks : ∀ S t p u, ySu I h S t p u → ySu I g S t p u := fun S t p u z => by
      obtain ⟨V, N, vf, nf, sg, k, s, r⟩ := z
      exact ⟨V, N, vf, nf, sg, k, ⟨key _ _ s.1 (fun _ z => by cases z) (fun _ z => by cases z) (fun _ z => by cases z) (fun _ z => by cases z), key _ _ s.2.1 (fun _ z => by cases z) (fun _ z => by cases z) (fun _ z => by cases z) (fun _ z => by cases z), key _ _ s.2.2.1 (fun _ z => by cases z) (fun _ z => by cases z) (fun _ z => by cases z) (fun _ z => by cases z), s.2.2.2⟩, r⟩
    refine ⟨i, p, e q (fun hb => (hL q hb).1 rfl) _ r, ?_⟩
    rcases a with ⟨b, i, s, v, r, w, u, zz⟩ | ⟨b, S1, S2, R1, R2, s1, s2, i, r, u1, u2⟩
    · exact Or.inl ⟨b, i, s, v, key _ _ r (fun _ z => by cases z) (fun _ z => by cases z) (fun _ z => by cases z) (fun _ z => by cases z), w, fun z => (u z).imp fun S q => ⟨q.1, ks _ _ _ _ q.2⟩, zz⟩
    · exact Or.inr ⟨b, S1, S2, R1, R2, s1, s2, i, key _ _ r (fun _ z => by cases z) (fun _ z => by cases z) (fun _ z => by cases z) (fun _ z => by cases z), ks _ _ _ _ u1, ks _ _ _ _ u2⟩
theorem yLs.sta {h : mj_H} {La E n q t : Nat} {F : Nat → Nat} {y z : vp_A} (l : yLs h La E n F) (bq : q < mj_CB) (ht : t ≠ 6) (hr : mj_rd h q = some (.inl (t, y))) : yLs (h.set q (.inl (t, z))) La E n F := by
  have hn := ls_na l hr ht
  obtain ⟨cap, mc, ef, l1, l2, l3, l4, l5, l6⟩ := l
  exact ⟨cap, mc, ef, (rd_setn hn.1).trans l1, rdA_sn (beq_eq_false_iff_ne.mpr hn.2) l2, l3, l4, l5, fun j hj => ⟨(l6 j hj).1, (l6 j hj).2.st ((l6 j hj).2.neE hr)⟩⟩
theorem ls_kd {h : mj_H} {La E n : Nat} {F : Nat → Nat} (l : yLs h La E n F) : (∃ fs, mj_rd h La = some (.inr (18, fs))) ∧ ∃ y, mj_rd h E = some (.inl (6, y)) := by
  obtain ⟨cap, mc, ef, l1, l2, _⟩ := l
  exact ⟨⟨_, l1⟩, ⟨_, rdA_lt l2⟩⟩
theorem y_sg1 {k s : Nat} {ls : mj_L} {st : List Value} {h : mj_H} {Q : mj_O × mj_H → Prop} (hs : s < 200) (hn : mj_Wp k 347 (106, ls, .int (nI (if s = 91 then 124 else 47)) :: st, h) Q) : mj_Wp k 347 (94, ls, .int (nI s) :: st, h) Q := by
  refine s_bip (p' := 96) rfl rfl ?_
  by_cases q : s = 91
  · refine s_icmp (p' := 99) false rfl ((ci_ne (by omega) (by omega)).trans (decide_eq_false (fun e => e q))) rfl ?_
    refine s_bip (p' := 101) rfl rfl ?_
    refine s_goto (p' := 106) rfl rfl ?_
    rw [if_pos q] at hn
    exact hn
  · refine s_icmp (p' := 104) true rfl ((ci_ne (by omega) (by omega)).trans (decide_eq_true (fun e => q e))) rfl ?_
    refine s_bip (p' := 106) rfl rfl ?_
    rw [if_neg q] at hn
    exact hn
theorem y_sg2 {k s : Nat} {ls : mj_L} {st : List Value} {h : mj_H} {Q : mj_O × mj_H → Prop} (hs : s < 200) (hn : mj_Wp k 347 (168, ls, .int (nI (if s = 91 then 93 else 125)) :: st, h) Q) : mj_Wp k 347 (156, ls, .int (nI s) :: st, h) Q := by
  refine s_bip (p' := 158) rfl rfl ?_
  by_cases q : s = 91
  · refine s_icmp (p' := 161) false rfl ((ci_ne (by omega) (by omega)).trans (decide_eq_false (fun e => e q))) rfl ?_
    refine s_bip (p' := 163) rfl rfl ?_
    refine s_goto (p' := 168) rfl rfl ?_
    rw [if_pos q] at hn
    exact hn
  · refine s_icmp (p' := 166) true rfl ((ci_ne (by omega) (by omega)).trans (decide_eq_true (fun e => q e))) rfl ?_
    refine s_bip (p' := 168) rfl rfl ?_
    rw [if_neg q] at hn
    exact hn
theorem y_ly1 {I J : Nat → Prop} {x : Nat → Nat → Nat} {KK B D La Lr It : Nat} {w0 w1 : Value} (hA : ∀ j, j < KK → aOk x 0 KK j) (hK : KK ≤ 30) (bL : La < mj_CB) (hIB : ∀ a, I a → a < B) (hBL : B ≤ La) (hIJ : ∀ a, I a → J a) (hIC : ∀ a, I a → a < mj_CB) {d : Nat} {g : mj_H} {E p a b : Nat} {F : Nat → Nat} {l4 l5 l6 l7 l8 l9 l10 l11 : Option Value} {K : Nat} (ih : ∀ (Lr k k' E : Nat) (F : Nat → Nat) (g : mj_H), yRow I g x d Lr k k' → k' ≤ KK → mj_rd g D = some (.inr (26, [w0, w1, .ref La])) → yLs g La E k F → (E = 1000000 ∨ B ≤ E) → g.length + 6 * (k' - k) + 34 < mj_CB → (∀ q, g.length ≤ q → q < mj_CB → J q) → mj_Wp K 347 (0, [some (.ref D), some (.ref Lr), none, none, none, none, none, none, none, none, none, none], [], g) (mz_N fun g' => ∃ (E' : Nat) (F' : Nat → Nat), yLs g' La E' k' F' ∧ (∀ j, j < k → F' j = F j) ∧ (∀ j, k ≤ j → j < k' → yAc J g' x (F' j) j) ∧ mz_mo [La, E] (4 * (k' - k) + 1) (100 * (k' - k) + 4) g g' ∧ (E' = 1000000 ∨ B ≤ E') ∧ (E' = E ∨ g.length ≤ E') ∧ ∀ j, k ≤ j → j < k' → g.length ≤ F' j)) {Q : mj_O × mj_H → Prop} (hb : g.length + 6 * (b - a) + 30 < mj_CB) (hJ : ∀ q, g.length ≤ q → q < mj_CB → J q) (hD : mj_rd g D = some (.inr (26, [w0, w1, .ref La]))) (l : yLs g La E a F) (hE : E = 1000000 ∨ B ≤ E) (ha : b ≤ KK) (br : yBr (rwP (yPt I g x d) I g) I g x p a b) (hn : ∀ (g' : mj_H) (E' : Nat) (F' : Nat → Nat) (l3 l4 l5 l6 l7 l8 l9 l10 l11 : Option Value), yLs g' La E' b F' ∧ (∀ j, j < a → F' j = F j) ∧ (∀ j, a ≤ j → j < b → yAc J g' x (F' j) j) ∧ mz_mo [La, E] (4 * (b - a)) (100 * (b - a)) g g' ∧ (E' = 1000000 ∨ B ≤ E') ∧ (E' = E ∨ g.length ≤ E') ∧ (∀ j, a ≤ j → j < b → g.length ≤ F' j) → mj_Wp (K + 12) 347 (7, [some (.ref D), some (.ref Lr), some (.ref It), l3, l4, l5, l6, l7, l8, l9, l10, l11], [], g') Q) : mj_Wp (K + 12) 347 (26, [some (.ref D), some (.ref Lr), some (.ref It), some (.ref p), l4, l5, l6, l7, l8, l9, l10, l11], [], g) Q := by
  obtain ⟨m, e, S1, S2, R1, R2, s1, s2, rfl, h0, hm, he, ip, pr, u1, u2, r1, r2⟩ := br
  have hr1 := rwP.le (fun p a b => yPt.lt d p a b) r1
  have hr2 := rwP.le (fun p a b => yPt.lt d p a b) r2
  have B0 := aOk_b (hA a (by omega)) h0
  rw [hm, he] at B0
  obtain ⟨bo, B1, B2, B3⟩ := B0
  have hs := aOk_0 (hA a (by omega))
  have b0 := bo.1
  obtain ⟨lk1, lk2, lk3⟩ := bo.2.2.2.2.2.2
  have hLa : La < g.length := by have := ls_len l; omega
  have dM0 : E = E ∨ g.length ≤ E := Or.inl rfl
  have M0 : mz_mo [La, E] 0 0 g g := mz_mo.rf _ _ _ _
  obtain ⟨q1, eq1⟩ : ∃ q, q = g.length := ⟨_, rfl⟩
  refine s_newz (p' := 29) (a := q1) rfl eq1.symm rfl rfl ?_
  generalize hg1 : g ++ [_] = g1
  have l1 : g1.length = g.length + 1 := by rw [← hg1, List.length_append]; rfl
  have M1 : mz_mo [La, E] (0 + 1) (0 + 5) g g1 := by rw [← hg1]; exact M0.tr (mz_mo.ap [La, E] _ _) (fun y hy => Or.inl hy) (by omega) (by show (0) + 5 ≤ 0 + 5; omega)
  have D_1 : mj_rd g1 D = some (.inr (26, [w0, w1, .ref La])) := by rw [← hg1]; exact rd_app hD
  have P_1 : mj_rd g1 p = some (ptC (nI (x a 0)) s1 s2 .null (.ref S1) (.ref S2) (.ref R1) (.ref R2)) := by rw [← hg1]; exact rd_app pr
  have q1_1 : mj_rd g1 q1 = some (actC 0 .null 0 0 0) := by rw [← hg1]; exact rd_nw (Nat.blt_eq.mpr (by omega)) eq1.symm
  have yl1 : yLs g1 La E a F := by rw [← hg1]; exact l.app
  clear hg1
  clear M0
  refine s_sp (p' := 30) (ls' := _) rfl rfl rfl ?_
  refine s_aldn (p' := 31) rfl rfl rfl ?_
  refine s_gf (p' := 34) rfl P_1 rfl rfl ?_
  refine s_aldn (p' := 35) rfl rfl rfl ?_
  refine s_callN (p' := 38) (ls0 := [_, _, _]) rfl rfl rfl rfl rfl (mj_rcv_is q1_1) rfl (y_aci (by omega) (by omega) q1_1) (by first | decide | omega) rfl ?_
  generalize hg2 : List.set g1 q1 _ = g2
  have l2 : g2.length = g1.length := by rw [← hg2, List.length_set]
  have M2 : mz_mo [La, E] (0 + 1) (0 + 5) g g2 := by rw [← hg2]; exact mz_mo.s M1 (by omega) q1_1 rfl (Or.inr (by omega))
  have D_2 : mj_rd g2 D = some (.inr (26, [w0, w1, .ref La])) := by rw [← hg2]; exact (rd_setn (by intro z; have z1 := q1_1; rw [z, D_1] at z1; cases z1)).trans D_1
  have P_2 : mj_rd g2 p = some (ptC (nI (x a 0)) s1 s2 .null (.ref S1) (.ref S2) (.ref R1) (.ref R2)) := by rw [← hg2]; exact (rd_setn (by intro z; have z1 := q1_1; rw [z, P_1] at z1; cases z1)).trans P_1
  have q1_2 : mj_rd g2 q1 = some (actC (nI (x a 0)) (.ref p) 0 0 0) := by rw [← hg2]; exact rd_set (by omega) q1_1
  have yl2 : yLs g2 La E a F := by rw [← hg2]; exact yl1.st (by omega) (by decide) q1_1
  clear hg2
  clear M1 D_1 P_1 q1_1
  refine s_ast (p' := 40) (ls' := [_, _, _, _, _, _, _, _, _, _, _, _]) rfl rfl rfl rfl ?_
  refine s_aldn (p' := 41) rfl rfl rfl ?_
  refine s_gf (p' := 44) rfl D_2 rfl rfl ?_
  refine s_ald (p' := 46) rfl rfl rfl ?_
  refine s_callEV (p' := 51) (ls0 := [_, _]) rfl rfl rfl rfl rfl (by obtain ⟨_, _, _, z, _⟩ := yl2; exact mj_rcv_is z) rfl (y_ad bL (by have := mo_le M2; omega) (by omega) yl2 (gE_ac q1_2)) (Nat.ble_eq.mpr (by omega)) rfl ?_
  rintro _ g3 ⟨rfl, E3, yl3, hE3, bE3, mo3⟩
  have l3 := mo_le mo3
  have M3 : mz_mo [La, E] (0 + 1 + (1)) (0 + 5 + (70)) g g3 := M2.tr mo3 (fun y hy => by simp only [List.mem_cons, List.not_mem_nil, or_false] at hy ⊢; omega) (by omega) (by omega)
  have D_3 : mj_rd g3 D = some (.inr (26, [w0, w1, .ref La])) := mo3.1 _ (by have := ls_ni yl2 D_2 (by decide); simp [this]) _ D_2
  have P_3 : mj_rd g3 p = some (ptC (nI (x a 0)) s1 s2 .null (.ref S1) (.ref S2) (.ref R1) (.ref R2)) := mo3.1 _ (by have := ls_ni yl2 P_2 (by decide); simp [this]) _ P_2
  have q1_3 : mj_rd g3 q1 = some (actC (nI (x a 0)) (.ref p) 0 0 0) := mo3.1 _ (by have := ls_ni yl2 q1_2 (by decide); simp [this]) _ q1_2
  have dM3 : E3 = E ∨ g.length ≤ E3 := by omega
  clear hE3 dM0
  clear M2 D_2 P_2 q1_2
  refine s_sp (p' := 52) (ls' := _) rfl rfl rfl ?_
  refine s_aldn (p' := 53) rfl rfl rfl ?_
  refine s_callV (p' := 56) (ls0 := [_]) rfl rfl rfl rfl rfl (mj_rcv_is P_3) rfl (y_isb (by omega) P_3) (by first | decide | omega) rfl ?_
  refine s_if (p' := 62) true rfl (by rw [decide_eq_true (by omega)]; rfl) rfl ?_
  refine s_ald (p' := 64) rfl rfl rfl ?_
  refine s_aldn (p' := 65) rfl rfl rfl ?_
  refine s_gf (p' := 68) rfl D_3 rfl rfl ?_
  refine s_callV (p' := 73) (ls0 := [_]) rfl rfl rfl rfl rfl (by obtain ⟨_, _, _, z, _⟩ := yl3; exact mj_rcv_is z) rfl (by obtain ⟨_, _, _, z, _⟩ := yl3; exact y_siz z) (by first | decide | omega) rfl ?_
  refine s_con (p' := 74) rfl rfl ?_
  refine s_sp (p' := 75) (ls' := _) rfl rfl rfl ?_
  rw [mI_sub (by omega), Nat.add_sub_cancel]
  refine s_pf (p' := 78) (fs' := [_, _, _, _, _]) rfl (by omega) q1_3 (Nat.blt_eq.mp rfl) rfl rfl rfl ?_
  generalize hg4 : List.set g3 q1 _ = g4
  have l4 : g4.length = g3.length := by rw [← hg4, List.length_set]
  have M4 : mz_mo [La, E] (0 + 1 + (1)) (0 + 5 + (70)) g g4 := by rw [← hg4]; exact mz_mo.s M3 (by omega) q1_3 rfl (Or.inr (by omega))
  have D_4 : mj_rd g4 D = some (.inr (26, [w0, w1, .ref La])) := by rw [← hg4]; exact (rd_setn (by intro z; have z1 := q1_3; rw [z, D_3] at z1; cases z1)).trans D_3
  have P_4 : mj_rd g4 p = some (ptC (nI (x a 0)) s1 s2 .null (.ref S1) (.ref S2) (.ref R1) (.ref R2)) := by rw [← hg4]; exact (rd_setn (by intro z; have z1 := q1_3; rw [z, P_3] at z1; cases z1)).trans P_3
  have q1_4 : mj_rd g4 q1 = some (actC (nI (x a 0)) (.ref p) (nI a) 0 0) := by rw [← hg4]; exact rd_set (by omega) q1_3
  have yl4 : yLs g4 La E3 (a + 1) (upN F a q1) := by rw [← hg4]; exact yl3.st (by omega) (by decide) q1_3
  clear hg4
  clear M3 D_3 P_3 q1_3
  refine s_aldn (p' := 79) rfl rfl rfl ?_
  refine s_aldn (p' := 80) rfl rfl rfl ?_
  refine s_gf (p' := 83) rfl P_4 rfl rfl ?_
  refine s_callEN (p' := 86) (ls0 := [_, _, _, _, _, _, _, _, _, _, _, _]) rfl rfl rfl rfl rfl (mj_rcv_is D_4) rfl (ih R1 (a + 1) m E3 (upN F a q1) g4 (yRow.mv ⟨M4.1, hIC, fun a ha _ => ⟨by have := hIB a ha; have := hIC a ha; have e1 : mj_CB = 1000000 := rfl; simp only [List.mem_cons, List.not_mem_nil, or_false]; omega, ha⟩⟩ (fun _ _ _ _ _ => rfl) r1) (by omega) D_4 yl4 (by have e1 : mj_CB = 1000000 := rfl; omega) (by have := mo_le M4; omega) (fun q z1 z2 => hJ q (by have := mo_le M4; omega) z2)) (Nat.ble_eq.mpr (by omega)) rfl ?_
  rintro g5 ⟨E5, F5, yl5, fF5, cF5, mo5, hE5a, hE5, qF5⟩
  have l5 := mo_le mo5
  have M5 : mz_mo [La, E] (0 + 1 + (1) + (4 * (m - (a + 1)) + 1)) (0 + 5 + (70) + (100 * (m - (a + 1)) + 4)) g g5 := M4.tr mo5 (fun y hy => by simp only [List.mem_cons, List.not_mem_nil, or_false] at hy ⊢; omega) (by omega) (by omega)
  have D_5 : mj_rd g5 D = some (.inr (26, [w0, w1, .ref La])) := mo5.1 _ (by have := ls_ni yl4 D_4 (by decide); simp [this]) _ D_4
  have P_5 : mj_rd g5 p = some (ptC (nI (x a 0)) s1 s2 .null (.ref S1) (.ref S2) (.ref R1) (.ref R2)) := mo5.1 _ (by have := ls_ni yl4 P_4 (by decide); simp [this]) _ P_4
  have q1_5 : mj_rd g5 q1 = some (actC (nI (x a 0)) (.ref p) (nI a) 0 0) := mo5.1 _ (by have := ls_ni yl4 q1_4 (by decide); simp [this]) _ q1_4
  have dM5 : E5 = E ∨ g.length ≤ E5 := by omega
  clear hE5a hE5 dM3
  clear M4 D_4 P_4 q1_4
  have kN := q1_5
  have dN5 : E5 = E5 ∨ g5.length ≤ E5 := Or.inl rfl
  have N5 : mz_mo [La, E5, q1] 0 0 g5 g5 := mz_mo.rf _ _ _ _
  obtain ⟨q2, eq2⟩ : ∃ q, q = g5.length := ⟨_, rfl⟩
  refine s_newz (p' := 89) (a := q2) rfl eq2.symm rfl rfl ?_
  generalize hg6 : g5 ++ [_] = g6
  have l6 : g6.length = g5.length + 1 := by rw [← hg6, List.length_append]; rfl
  have M6 : mz_mo [La, E] (0 + 1 + (1) + (4 * (m - (a + 1)) + 1) + 1) (0 + 5 + (70) + (100 * (m - (a + 1)) + 4) + 5) g g6 := by rw [← hg6]; exact M5.tr (mz_mo.ap [La, E] _ _) (fun y hy => Or.inl hy) (by omega) (by show (0 + 5 + (70) + (100 * (m - (a + 1)) + 4)) + 5 ≤ 0 + 5 + (70) + (100 * (m - (a + 1)) + 4) + 5; omega)
  have N6 : mz_mo [La, E5, q1] (0 + 1) (0 + 5) g5 g6 := by rw [← hg6]; exact N5.tr (mz_mo.ap [La, E5, q1] _ _) (fun y hy => Or.inl hy) (by omega) (by show (0) + 5 ≤ 0 + 5; omega)
  have D_6 : mj_rd g6 D = some (.inr (26, [w0, w1, .ref La])) := by rw [← hg6]; exact rd_app D_5
  have P_6 : mj_rd g6 p = some (ptC (nI (x a 0)) s1 s2 .null (.ref S1) (.ref S2) (.ref R1) (.ref R2)) := by rw [← hg6]; exact rd_app P_5
  have q1_6 : mj_rd g6 q1 = some (actC (nI (x a 0)) (.ref p) (nI a) 0 0) := by rw [← hg6]; exact rd_app q1_5
  have q2_6 : mj_rd g6 q2 = some (actC 0 .null 0 0 0) := by rw [← hg6]; exact rd_nw (Nat.blt_eq.mpr (by omega)) eq2.symm
  have yl6 : yLs g6 La E5 m F5 := by rw [← hg6]; exact yl5.app
  clear hg6
  clear M5 N5 D_5 P_5 q1_5
  refine s_sp (p' := 90) (ls' := _) rfl rfl rfl ?_
  refine s_aldn (p' := 91) rfl rfl rfl ?_
  refine s_gf (p' := 94) rfl P_6 rfl rfl ?_
  refine y_sg1 hs ?_
  rw [show (if x a 0 = 91 then 124 else 47) = x m 0 by split <;> omega]
  refine s_aldn (p' := 107) rfl rfl rfl ?_
  refine s_callN (p' := 110) (ls0 := [_, _, _]) rfl rfl rfl rfl rfl (mj_rcv_is q2_6) rfl (y_aci (by omega) (by omega) q2_6) (by first | decide | omega) rfl ?_
  generalize hg7 : List.set g6 q2 _ = g7
  have l7 : g7.length = g6.length := by rw [← hg7, List.length_set]
  have M7 : mz_mo [La, E] (0 + 1 + (1) + (4 * (m - (a + 1)) + 1) + 1) (0 + 5 + (70) + (100 * (m - (a + 1)) + 4) + 5) g g7 := by rw [← hg7]; exact mz_mo.s M6 (by omega) q2_6 rfl (Or.inr (by omega))
  have N7 : mz_mo [La, E5, q1] (0 + 1) (0 + 5) g5 g7 := by rw [← hg7]; exact mz_mo.s N6 (by omega) q2_6 rfl (Or.inr (by omega))
  have D_7 : mj_rd g7 D = some (.inr (26, [w0, w1, .ref La])) := by rw [← hg7]; exact (rd_setn (by intro z; have z1 := q2_6; rw [z, D_6] at z1; cases z1)).trans D_6
  have P_7 : mj_rd g7 p = some (ptC (nI (x a 0)) s1 s2 .null (.ref S1) (.ref S2) (.ref R1) (.ref R2)) := by rw [← hg7]; exact (rd_setn (by intro z; have z1 := q2_6; rw [z, P_6] at z1; cases z1)).trans P_6
  have q1_7 : mj_rd g7 q1 = some (actC (nI (x a 0)) (.ref p) (nI a) 0 0) := by rw [← hg7]; exact (rd_setn (by omega)).trans q1_6
  have q2_7 : mj_rd g7 q2 = some (actC (nI (x m 0)) (.ref p) 0 0 0) := by rw [← hg7]; exact rd_set (by omega) q2_6
  have yl7 : yLs g7 La E5 m F5 := by rw [← hg7]; exact yl6.st (by omega) (by decide) q2_6
  clear hg7
  clear M6 N6 D_6 P_6 q1_6 q2_6
  refine s_ast (p' := 112) (ls' := [_, _, _, _, _, _, _, _, _, _, _, _]) rfl rfl rfl rfl ?_
  refine s_aldn (p' := 113) rfl rfl rfl ?_
  refine s_gf (p' := 116) rfl D_7 rfl rfl ?_
  refine s_ald (p' := 118) rfl rfl rfl ?_
  refine s_callEV (p' := 123) (ls0 := [_, _]) rfl rfl rfl rfl rfl (by obtain ⟨_, _, _, z, _⟩ := yl7; exact mj_rcv_is z) rfl (y_ad bL (by have := mo_le M7; omega) (by omega) yl7 (gE_ac q2_7)) (Nat.ble_eq.mpr (by omega)) rfl ?_
  rintro _ g8 ⟨rfl, E8, yl8, hE8, bE8, mo8⟩
  have l8 := mo_le mo8
  have M8 : mz_mo [La, E] (0 + 1 + (1) + (4 * (m - (a + 1)) + 1) + 1 + (1)) (0 + 5 + (70) + (100 * (m - (a + 1)) + 4) + 5 + (70)) g g8 := M7.tr mo8 (fun y hy => by simp only [List.mem_cons, List.not_mem_nil, or_false] at hy ⊢; omega) (by omega) (by omega)
  have N8 : mz_mo [La, E5, q1] (0 + 1 + (1)) (0 + 5 + (70)) g5 g8 := N7.tr mo8 (fun y hy => by simp only [List.mem_cons, List.not_mem_nil, or_false] at hy ⊢; omega) (by omega) (by omega)
  have D_8 : mj_rd g8 D = some (.inr (26, [w0, w1, .ref La])) := mo8.1 _ (by have := ls_ni yl7 D_7 (by decide); simp [this]) _ D_7
  have P_8 : mj_rd g8 p = some (ptC (nI (x a 0)) s1 s2 .null (.ref S1) (.ref S2) (.ref R1) (.ref R2)) := mo8.1 _ (by have := ls_ni yl7 P_7 (by decide); simp [this]) _ P_7
  have q1_8 : mj_rd g8 q1 = some (actC (nI (x a 0)) (.ref p) (nI a) 0 0) := mo8.1 _ (by have := ls_ni yl7 q1_7 (by decide); simp [this]) _ q1_7
  have q2_8 : mj_rd g8 q2 = some (actC (nI (x m 0)) (.ref p) 0 0 0) := mo8.1 _ (by have := ls_ni yl7 q2_7 (by decide); simp [this]) _ q2_7
  have dM8 : E8 = E ∨ g.length ≤ E8 := by omega
  have dN8 : E8 = E5 ∨ g5.length ≤ E8 := by omega
  clear hE8 dM5 dN5
  clear M7 N7 D_7 P_7 q1_7 q2_7
  refine s_sp (p' := 124) (ls' := _) rfl rfl rfl ?_
  refine s_ald (p' := 126) rfl rfl rfl ?_
  refine s_aldn (p' := 127) rfl rfl rfl ?_
  refine s_gf (p' := 130) rfl D_8 rfl rfl ?_
  refine s_callV (p' := 135) (ls0 := [_]) rfl rfl rfl rfl rfl (by obtain ⟨_, _, _, z, _⟩ := yl8; exact mj_rcv_is z) rfl (by obtain ⟨_, _, _, z, _⟩ := yl8; exact y_siz z) (by first | decide | omega) rfl ?_
  refine s_con (p' := 136) rfl rfl ?_
  refine s_sp (p' := 137) (ls' := _) rfl rfl rfl ?_
  rw [mI_sub (by omega), Nat.add_sub_cancel]
  refine s_pf (p' := 140) (fs' := [_, _, _, _, _]) rfl (by omega) q1_8 (Nat.blt_eq.mp rfl) rfl rfl rfl ?_
  generalize hg9 : List.set g8 q1 _ = g9
  have l9 : g9.length = g8.length := by rw [← hg9, List.length_set]
  have M9 : mz_mo [La, E] (0 + 1 + (1) + (4 * (m - (a + 1)) + 1) + 1 + (1)) (0 + 5 + (70) + (100 * (m - (a + 1)) + 4) + 5 + (70)) g g9 := by rw [← hg9]; exact mz_mo.s M8 (by omega) q1_8 rfl (Or.inr (by omega))
  have N9 : mz_mo [La, E5, q1] (0 + 1 + (1)) (0 + 5 + (70)) g5 g9 := by rw [← hg9]; exact mz_mo.s N8 (by omega) q1_8 rfl (Or.inl (by simp))
  have D_9 : mj_rd g9 D = some (.inr (26, [w0, w1, .ref La])) := by rw [← hg9]; exact (rd_setn (by intro z; have z1 := q1_8; rw [z, D_8] at z1; cases z1)).trans D_8
  have P_9 : mj_rd g9 p = some (ptC (nI (x a 0)) s1 s2 .null (.ref S1) (.ref S2) (.ref R1) (.ref R2)) := by rw [← hg9]; exact (rd_setn (by intro z; have z1 := q1_8; rw [z, P_8] at z1; cases z1)).trans P_8
  have q2_9 : mj_rd g9 q2 = some (actC (nI (x m 0)) (.ref p) 0 0 0) := by rw [← hg9]; exact (rd_setn (by omega)).trans q2_8
  have q1_9 : mj_rd g9 q1 = some (actC (nI (x a 0)) (.ref p) (nI a) (nI m) 0) := by rw [← hg9]; exact rd_set (by omega) q1_8
  have yl9 : yLs g9 La E8 (m + 1) (upN F5 m q2) := by rw [← hg9]; exact yl8.st (by omega) (by decide) q1_8
  clear hg9
  clear M8 N8 D_8 P_8 q1_8 q2_8
  refine s_aldn (p' := 141) rfl rfl rfl ?_
  refine s_aldn (p' := 142) rfl rfl rfl ?_
  refine s_gf (p' := 145) rfl P_9 rfl rfl ?_
  refine s_callEN (p' := 148) (ls0 := [_, _, _, _, _, _, _, _, _, _, _, _]) rfl rfl rfl rfl rfl (mj_rcv_is D_9) rfl (ih R2 (m + 1) e E8 (upN F5 m q2) g9 (yRow.mv ⟨M9.1, hIC, fun a ha _ => ⟨by have := hIB a ha; have := hIC a ha; have e1 : mj_CB = 1000000 := rfl; simp only [List.mem_cons, List.not_mem_nil, or_false]; omega, ha⟩⟩ (fun _ _ _ _ _ => rfl) r2) (by omega) D_9 yl9 (by have e1 : mj_CB = 1000000 := rfl; omega) (by have := mo_le M9; omega) (fun q z1 z2 => hJ q (by have := mo_le M9; omega) z2)) (Nat.ble_eq.mpr (by omega)) rfl ?_
  rintro g10 ⟨E10, F10, yl10, fF10, cF10, mo10, hE10a, hE10, qF10⟩
  have l10 := mo_le mo10
  have M10 : mz_mo [La, E] (0 + 1 + (1) + (4 * (m - (a + 1)) + 1) + 1 + (1) + (4 * (e - (m + 1)) + 1)) (0 + 5 + (70) + (100 * (m - (a + 1)) + 4) + 5 + (70) + (100 * (e - (m + 1)) + 4)) g g10 := M9.tr mo10 (fun y hy => by simp only [List.mem_cons, List.not_mem_nil, or_false] at hy ⊢; omega) (by omega) (by omega)
  have N10 : mz_mo [La, E5, q1] (0 + 1 + (1) + (4 * (e - (m + 1)) + 1)) (0 + 5 + (70) + (100 * (e - (m + 1)) + 4)) g5 g10 := N9.tr mo10 (fun y hy => by simp only [List.mem_cons, List.not_mem_nil, or_false] at hy ⊢; omega) (by omega) (by omega)
  have D_10 : mj_rd g10 D = some (.inr (26, [w0, w1, .ref La])) := mo10.1 _ (by have := ls_ni yl9 D_9 (by decide); simp [this]) _ D_9
  have P_10 : mj_rd g10 p = some (ptC (nI (x a 0)) s1 s2 .null (.ref S1) (.ref S2) (.ref R1) (.ref R2)) := mo10.1 _ (by have := ls_ni yl9 P_9 (by decide); simp [this]) _ P_9
  have q1_10 : mj_rd g10 q1 = some (actC (nI (x a 0)) (.ref p) (nI a) (nI m) 0) := mo10.1 _ (by have := ls_ni yl9 q1_9 (by decide); simp [this]) _ q1_9
  have q2_10 : mj_rd g10 q2 = some (actC (nI (x m 0)) (.ref p) 0 0 0) := mo10.1 _ (by have := ls_ni yl9 q2_9 (by decide); simp [this]) _ q2_9
  have dM10 : E10 = E ∨ g.length ≤ E10 := by omega
  have dN10 : E10 = E5 ∨ g5.length ≤ E10 := by omega
  clear hE10a hE10 dM8 dN8
  clear M9 N9 D_9 P_9 q1_9 q2_9
  have kO := q1_10
  have kP := q2_10
  have dO10 : E10 = E10 ∨ g10.length ≤ E10 := Or.inl rfl
  have O10 : mz_mo [La, E10, q1, q2] 0 0 g10 g10 := mz_mo.rf _ _ _ _
  obtain ⟨q3, eq3⟩ : ∃ q, q = g10.length := ⟨_, rfl⟩
  refine s_newz (p' := 151) (a := q3) rfl eq3.symm rfl rfl ?_
  generalize hg11 : g10 ++ [_] = g11
  have l11 : g11.length = g10.length + 1 := by rw [← hg11, List.length_append]; rfl
  have M11 : mz_mo [La, E] (0 + 1 + (1) + (4 * (m - (a + 1)) + 1) + 1 + (1) + (4 * (e - (m + 1)) + 1) + 1) (0 + 5 + (70) + (100 * (m - (a + 1)) + 4) + 5 + (70) + (100 * (e - (m + 1)) + 4) + 5) g g11 := by rw [← hg11]; exact M10.tr (mz_mo.ap [La, E] _ _) (fun y hy => Or.inl hy) (by omega) (by show (0 + 5 + (70) + (100 * (m - (a + 1)) + 4) + 5 + (70) + (100 * (e - (m + 1)) + 4)) + 5 ≤ 0 + 5 + (70) + (100 * (m - (a + 1)) + 4) + 5 + (70) + (100 * (e - (m + 1)) + 4) + 5; omega)
  have N11 : mz_mo [La, E5, q1] (0 + 1 + (1) + (4 * (e - (m + 1)) + 1) + 1) (0 + 5 + (70) + (100 * (e - (m + 1)) + 4) + 5) g5 g11 := by rw [← hg11]; exact N10.tr (mz_mo.ap [La, E5, q1] _ _) (fun y hy => Or.inl hy) (by omega) (by show (0 + 5 + (70) + (100 * (e - (m + 1)) + 4)) + 5 ≤ 0 + 5 + (70) + (100 * (e - (m + 1)) + 4) + 5; omega)
  have O11 : mz_mo [La, E10, q1, q2] (0 + 1) (0 + 5) g10 g11 := by rw [← hg11]; exact O10.tr (mz_mo.ap [La, E10, q1, q2] _ _) (fun y hy => Or.inl hy) (by omega) (by show (0) + 5 ≤ 0 + 5; omega)
  have D_11 : mj_rd g11 D = some (.inr (26, [w0, w1, .ref La])) := by rw [← hg11]; exact rd_app D_10
  have P_11 : mj_rd g11 p = some (ptC (nI (x a 0)) s1 s2 .null (.ref S1) (.ref S2) (.ref R1) (.ref R2)) := by rw [← hg11]; exact rd_app P_10
  have q1_11 : mj_rd g11 q1 = some (actC (nI (x a 0)) (.ref p) (nI a) (nI m) 0) := by rw [← hg11]; exact rd_app q1_10
  have q2_11 : mj_rd g11 q2 = some (actC (nI (x m 0)) (.ref p) 0 0 0) := by rw [← hg11]; exact rd_app q2_10
  have q3_11 : mj_rd g11 q3 = some (actC 0 .null 0 0 0) := by rw [← hg11]; exact rd_nw (Nat.blt_eq.mpr (by omega)) eq3.symm
  have yl11 : yLs g11 La E10 e F10 := by rw [← hg11]; exact yl10.app
  clear hg11
  clear M10 N10 O10 D_10 P_10 q1_10 q2_10
  refine s_sp (p' := 152) (ls' := _) rfl rfl rfl ?_
  refine s_aldn (p' := 153) rfl rfl rfl ?_
  refine s_gf (p' := 156) rfl P_11 rfl rfl ?_
  refine y_sg2 hs ?_
  rw [show (if x a 0 = 91 then 93 else 125) = x e 0 by split <;> omega]
  refine s_aldn (p' := 169) rfl rfl rfl ?_
  refine s_callN (p' := 172) (ls0 := [_, _, _]) rfl rfl rfl rfl rfl (mj_rcv_is q3_11) rfl (y_aci (by omega) (by omega) q3_11) (by first | decide | omega) rfl ?_
  generalize hg12 : List.set g11 q3 _ = g12
  have l12 : g12.length = g11.length := by rw [← hg12, List.length_set]
  have M12 : mz_mo [La, E] (0 + 1 + (1) + (4 * (m - (a + 1)) + 1) + 1 + (1) + (4 * (e - (m + 1)) + 1) + 1) (0 + 5 + (70) + (100 * (m - (a + 1)) + 4) + 5 + (70) + (100 * (e - (m + 1)) + 4) + 5) g g12 := by rw [← hg12]; exact mz_mo.s M11 (by omega) q3_11 rfl (Or.inr (by omega))
  have N12 : mz_mo [La, E5, q1] (0 + 1 + (1) + (4 * (e - (m + 1)) + 1) + 1) (0 + 5 + (70) + (100 * (e - (m + 1)) + 4) + 5) g5 g12 := by rw [← hg12]; exact mz_mo.s N11 (by omega) q3_11 rfl (Or.inr (by omega))
  have O12 : mz_mo [La, E10, q1, q2] (0 + 1) (0 + 5) g10 g12 := by rw [← hg12]; exact mz_mo.s O11 (by omega) q3_11 rfl (Or.inr (by omega))
  have D_12 : mj_rd g12 D = some (.inr (26, [w0, w1, .ref La])) := by rw [← hg12]; exact (rd_setn (by intro z; have z1 := q3_11; rw [z, D_11] at z1; cases z1)).trans D_11
  have P_12 : mj_rd g12 p = some (ptC (nI (x a 0)) s1 s2 .null (.ref S1) (.ref S2) (.ref R1) (.ref R2)) := by rw [← hg12]; exact (rd_setn (by intro z; have z1 := q3_11; rw [z, P_11] at z1; cases z1)).trans P_11
  have q1_12 : mj_rd g12 q1 = some (actC (nI (x a 0)) (.ref p) (nI a) (nI m) 0) := by rw [← hg12]; exact (rd_setn (by omega)).trans q1_11
  have q2_12 : mj_rd g12 q2 = some (actC (nI (x m 0)) (.ref p) 0 0 0) := by rw [← hg12]; exact (rd_setn (by omega)).trans q2_11
  have q3_12 : mj_rd g12 q3 = some (actC (nI (x e 0)) (.ref p) 0 0 0) := by rw [← hg12]; exact rd_set (by omega) q3_11
  have yl12 : yLs g12 La E10 e F10 := by rw [← hg12]; exact yl11.st (by omega) (by decide) q3_11
  clear hg12
  clear M11 N11 O11 D_11 P_11 q1_11 q2_11 q3_11
  refine s_ast (p' := 174) (ls' := [_, _, _, _, _, _, _, _, _, _, _, _]) rfl rfl rfl rfl ?_
  refine s_aldn (p' := 175) rfl rfl rfl ?_
  refine s_gf (p' := 178) rfl D_12 rfl rfl ?_
  refine s_ald (p' := 180) rfl rfl rfl ?_
  refine s_callEV (p' := 185) (ls0 := [_, _]) rfl rfl rfl rfl rfl (by obtain ⟨_, _, _, z, _⟩ := yl12; exact mj_rcv_is z) rfl (y_ad bL (by have := mo_le M12; omega) (by omega) yl12 (gE_ac q3_12)) (Nat.ble_eq.mpr (by omega)) rfl ?_
  rintro _ g13 ⟨rfl, E13, yl13, hE13, bE13, mo13⟩
  have l13 := mo_le mo13
  have M13 : mz_mo [La, E] (0 + 1 + (1) + (4 * (m - (a + 1)) + 1) + 1 + (1) + (4 * (e - (m + 1)) + 1) + 1 + (1)) (0 + 5 + (70) + (100 * (m - (a + 1)) + 4) + 5 + (70) + (100 * (e - (m + 1)) + 4) + 5 + (70)) g g13 := M12.tr mo13 (fun y hy => by simp only [List.mem_cons, List.not_mem_nil, or_false] at hy ⊢; omega) (by omega) (by omega)
  have N13 : mz_mo [La, E5, q1] (0 + 1 + (1) + (4 * (e - (m + 1)) + 1) + 1 + (1)) (0 + 5 + (70) + (100 * (e - (m + 1)) + 4) + 5 + (70)) g5 g13 := N12.tr mo13 (fun y hy => by simp only [List.mem_cons, List.not_mem_nil, or_false] at hy ⊢; omega) (by omega) (by omega)
  have O13 : mz_mo [La, E10, q1, q2] (0 + 1 + (1)) (0 + 5 + (70)) g10 g13 := O12.tr mo13 (fun y hy => by simp only [List.mem_cons, List.not_mem_nil, or_false] at hy ⊢; omega) (by omega) (by omega)
  have D_13 : mj_rd g13 D = some (.inr (26, [w0, w1, .ref La])) := mo13.1 _ (by have := ls_ni yl12 D_12 (by decide); simp [this]) _ D_12
  have P_13 : mj_rd g13 p = some (ptC (nI (x a 0)) s1 s2 .null (.ref S1) (.ref S2) (.ref R1) (.ref R2)) := mo13.1 _ (by have := ls_ni yl12 P_12 (by decide); simp [this]) _ P_12
  have q1_13 : mj_rd g13 q1 = some (actC (nI (x a 0)) (.ref p) (nI a) (nI m) 0) := mo13.1 _ (by have := ls_ni yl12 q1_12 (by decide); simp [this]) _ q1_12
  have q2_13 : mj_rd g13 q2 = some (actC (nI (x m 0)) (.ref p) 0 0 0) := mo13.1 _ (by have := ls_ni yl12 q2_12 (by decide); simp [this]) _ q2_12
  have q3_13 : mj_rd g13 q3 = some (actC (nI (x e 0)) (.ref p) 0 0 0) := mo13.1 _ (by have := ls_ni yl12 q3_12 (by decide); simp [this]) _ q3_12
  have dM13 : E13 = E ∨ g.length ≤ E13 := by omega
  have dN13 : E13 = E5 ∨ g5.length ≤ E13 := by omega
  have dO13 : E13 = E10 ∨ g10.length ≤ E13 := by omega
  clear hE13 dM10 dN10 dO10
  clear M12 N12 O12 D_12 P_12 q1_12 q2_12 q3_12
  refine s_sp (p' := 186) (ls' := _) rfl rfl rfl ?_
  refine s_ald (p' := 188) rfl rfl rfl ?_
  refine s_aldn (p' := 189) rfl rfl rfl ?_
  refine s_gf (p' := 192) rfl D_13 rfl rfl ?_
  refine s_callV (p' := 197) (ls0 := [_]) rfl rfl rfl rfl rfl (by obtain ⟨_, _, _, z, _⟩ := yl13; exact mj_rcv_is z) rfl (by obtain ⟨_, _, _, z, _⟩ := yl13; exact y_siz z) (by first | decide | omega) rfl ?_
  refine s_con (p' := 198) rfl rfl ?_
  refine s_sp (p' := 199) (ls' := _) rfl rfl rfl ?_
  rw [mI_sub (by omega), Nat.add_sub_cancel]
  refine s_pf (p' := 202) (fs' := [_, _, _, _, _]) rfl (by omega) q1_13 (Nat.blt_eq.mp rfl) rfl rfl rfl ?_
  generalize hg14 : List.set g13 q1 _ = g14
  have l14 : g14.length = g13.length := by rw [← hg14, List.length_set]
  have M14 : mz_mo [La, E] (0 + 1 + (1) + (4 * (m - (a + 1)) + 1) + 1 + (1) + (4 * (e - (m + 1)) + 1) + 1 + (1)) (0 + 5 + (70) + (100 * (m - (a + 1)) + 4) + 5 + (70) + (100 * (e - (m + 1)) + 4) + 5 + (70)) g g14 := by rw [← hg14]; exact mz_mo.s M13 (by omega) q1_13 rfl (Or.inr (by omega))
  have N14 : mz_mo [La, E5, q1] (0 + 1 + (1) + (4 * (e - (m + 1)) + 1) + 1 + (1)) (0 + 5 + (70) + (100 * (e - (m + 1)) + 4) + 5 + (70)) g5 g14 := by rw [← hg14]; exact mz_mo.s N13 (by omega) q1_13 rfl (Or.inl (by simp))
  have O14 : mz_mo [La, E10, q1, q2] (0 + 1 + (1)) (0 + 5 + (70)) g10 g14 := by rw [← hg14]; exact mz_mo.s O13 (by omega) q1_13 rfl (Or.inl (by simp))
  have D_14 : mj_rd g14 D = some (.inr (26, [w0, w1, .ref La])) := by rw [← hg14]; exact (rd_setn (by intro z; have z1 := q1_13; rw [z, D_13] at z1; cases z1)).trans D_13
  have P_14 : mj_rd g14 p = some (ptC (nI (x a 0)) s1 s2 .null (.ref S1) (.ref S2) (.ref R1) (.ref R2)) := by rw [← hg14]; exact (rd_setn (by intro z; have z1 := q1_13; rw [z, P_13] at z1; cases z1)).trans P_13
  have q2_14 : mj_rd g14 q2 = some (actC (nI (x m 0)) (.ref p) 0 0 0) := by rw [← hg14]; exact (rd_setn (by omega)).trans q2_13
  have q3_14 : mj_rd g14 q3 = some (actC (nI (x e 0)) (.ref p) 0 0 0) := by rw [← hg14]; exact (rd_setn (by omega)).trans q3_13
  have q1_14 : mj_rd g14 q1 = some (actC (nI (x a 0)) (.ref p) (nI a) (nI m) (nI e)) := by rw [← hg14]; exact rd_set (by omega) q1_13
  have yl14 : yLs g14 La E13 (e + 1) (upN F10 e q3) := by rw [← hg14]; exact yl13.st (by omega) (by decide) q1_13
  clear hg14
  clear M13 N13 O13 D_13 P_13 q1_13 q2_13 q3_13
  obtain ⟨q4, eq4⟩ : ∃ q, q = g14.length := ⟨_, rfl⟩
  refine s_con (p' := 203) rfl rfl ?_
  refine s_anaz (p' := 206) (a := q4) (n := 2) rfl eq4.symm (Nat.ble_eq.mpr (by decide)) rfl ?_
  generalize hg15 : g14 ++ [_] = g15
  have l15 : g15.length = g14.length + 1 := by rw [← hg15, List.length_append]; rfl
  have M15 : mz_mo [La, E] (0 + 1 + (1) + (4 * (m - (a + 1)) + 1) + 1 + (1) + (4 * (e - (m + 1)) + 1) + 1 + (1) + 1) (0 + 5 + (70) + (100 * (m - (a + 1)) + 4) + 5 + (70) + (100 * (e - (m + 1)) + 4) + 5 + (70) + 2) g g15 := by rw [← hg15]; exact M14.tr (mz_mo.ap [La, E] _ _) (fun y hy => Or.inl hy) (by omega) (by show (0 + 5 + (70) + (100 * (m - (a + 1)) + 4) + 5 + (70) + (100 * (e - (m + 1)) + 4) + 5 + (70)) + 2 ≤ 0 + 5 + (70) + (100 * (m - (a + 1)) + 4) + 5 + (70) + (100 * (e - (m + 1)) + 4) + 5 + (70) + 2; omega)
  have N15 : mz_mo [La, E5, q1] (0 + 1 + (1) + (4 * (e - (m + 1)) + 1) + 1 + (1) + 1) (0 + 5 + (70) + (100 * (e - (m + 1)) + 4) + 5 + (70) + 2) g5 g15 := by rw [← hg15]; exact N14.tr (mz_mo.ap [La, E5, q1] _ _) (fun y hy => Or.inl hy) (by omega) (by show (0 + 5 + (70) + (100 * (e - (m + 1)) + 4) + 5 + (70)) + 2 ≤ 0 + 5 + (70) + (100 * (e - (m + 1)) + 4) + 5 + (70) + 2; omega)
  have O15 : mz_mo [La, E10, q1, q2] (0 + 1 + (1) + 1) (0 + 5 + (70) + 2) g10 g15 := by rw [← hg15]; exact O14.tr (mz_mo.ap [La, E10, q1, q2] _ _) (fun y hy => Or.inl hy) (by omega) (by show (0 + 5 + (70)) + 2 ≤ 0 + 5 + (70) + 2; omega)
  have D_15 : mj_rd g15 D = some (.inr (26, [w0, w1, .ref La])) := by rw [← hg15]; exact rd_app D_14
  have P_15 : mj_rd g15 p = some (ptC (nI (x a 0)) s1 s2 .null (.ref S1) (.ref S2) (.ref R1) (.ref R2)) := by rw [← hg15]; exact rd_app P_14
  have q1_15 : mj_rd g15 q1 = some (actC (nI (x a 0)) (.ref p) (nI a) (nI m) (nI e)) := by rw [← hg15]; exact rd_app q1_14
  have q2_15 : mj_rd g15 q2 = some (actC (nI (x m 0)) (.ref p) 0 0 0) := by rw [← hg15]; exact rd_app q2_14
  have q3_15 : mj_rd g15 q3 = some (actC (nI (x e 0)) (.ref p) 0 0 0) := by rw [← hg15]; exact rd_app q3_14
  have q4_15 : mj_rd g15 q4 = some (.inl (9, (2, objs fun _ => none))) := by rw [← hg15]; exact rd_nw (Nat.blt_eq.mpr (by omega)) eq4.symm
  have yl15 : yLs g15 La E13 (e + 1) (upN F10 e q3) := by rw [← hg15]; exact yl14.app
  clear hg15
  clear M14 N14 O14 D_14 P_14 q1_14 q2_14 q3_14
  refine s_sp (p' := 207) (ls' := _) rfl rfl rfl ?_
  refine s_con (p' := 208) rfl rfl ?_
  refine s_ald (p' := 210) rfl rfl rfl ?_
  refine s_aas (p' := 211) rfl (by omega) q4_15 (by decide) (inb_nI (by omega) (by omega)) q2_15 rfl rfl ?_
  rw [mI_cl (by omega)]
  generalize hg16 : List.set g15 q4 _ = g16
  have l16 : g16.length = g15.length := by rw [← hg16, List.length_set]
  have M16 : mz_mo [La, E] (0 + 1 + (1) + (4 * (m - (a + 1)) + 1) + 1 + (1) + (4 * (e - (m + 1)) + 1) + 1 + (1) + 1) (0 + 5 + (70) + (100 * (m - (a + 1)) + 4) + 5 + (70) + (100 * (e - (m + 1)) + 4) + 5 + (70) + 2) g g16 := by rw [← hg16]; exact mz_mo.s M15 (by omega) q4_15 rfl (Or.inr (by omega))
  have N16 : mz_mo [La, E5, q1] (0 + 1 + (1) + (4 * (e - (m + 1)) + 1) + 1 + (1) + 1) (0 + 5 + (70) + (100 * (e - (m + 1)) + 4) + 5 + (70) + 2) g5 g16 := by rw [← hg16]; exact mz_mo.s N15 (by omega) q4_15 rfl (Or.inr (by omega))
  have O16 : mz_mo [La, E10, q1, q2] (0 + 1 + (1) + 1) (0 + 5 + (70) + 2) g10 g16 := by rw [← hg16]; exact mz_mo.s O15 (by omega) q4_15 rfl (Or.inr (by omega))
  have D_16 : mj_rd g16 D = some (.inr (26, [w0, w1, .ref La])) := by rw [← hg16]; exact (rd_setn (by intro z; have z1 := q4_15; rw [z, D_15] at z1; cases z1)).trans D_15
  have P_16 : mj_rd g16 p = some (ptC (nI (x a 0)) s1 s2 .null (.ref S1) (.ref S2) (.ref R1) (.ref R2)) := by rw [← hg16]; exact (rd_setn (by intro z; have z1 := q4_15; rw [z, P_15] at z1; cases z1)).trans P_15
  have q1_16 : mj_rd g16 q1 = some (actC (nI (x a 0)) (.ref p) (nI a) (nI m) (nI e)) := by rw [← hg16]; exact (rd_setn (by omega)).trans q1_15
  have q2_16 : mj_rd g16 q2 = some (actC (nI (x m 0)) (.ref p) 0 0 0) := by rw [← hg16]; exact (rd_setn (by omega)).trans q2_15
  have q3_16 : mj_rd g16 q3 = some (actC (nI (x e 0)) (.ref p) 0 0 0) := by rw [← hg16]; exact (rd_setn (by omega)).trans q3_15
  have q4_16 : mj_rd g16 q4 = some (.inl (9, (2, objs (va_up (fun _ => none) 0 (some q2))))) := by rw [← hg16]; exact rd_set (by omega) q4_15
  have yl16 : yLs g16 La E13 (e + 1) (upN F10 e q3) := by rw [← hg16]; exact yl15.sta (by omega) (by decide) q4_15
  clear hg16
  clear M15 N15 O15 D_15 P_15 q1_15 q2_15 q3_15 q4_15
  refine s_sp (p' := 212) (ls' := _) rfl rfl rfl ?_
  refine s_con (p' := 213) rfl rfl ?_
  refine s_ald (p' := 215) rfl rfl rfl ?_
  refine s_aas (p' := 216) rfl (by omega) q4_16 (by decide) (inb_nI (by omega) (by omega)) q3_16 rfl rfl ?_
  rw [mI_cl (by omega)]
  generalize hg17 : List.set g16 q4 _ = g17
  have l17 : g17.length = g16.length := by rw [← hg17, List.length_set]
  have M17 : mz_mo [La, E] (0 + 1 + (1) + (4 * (m - (a + 1)) + 1) + 1 + (1) + (4 * (e - (m + 1)) + 1) + 1 + (1) + 1) (0 + 5 + (70) + (100 * (m - (a + 1)) + 4) + 5 + (70) + (100 * (e - (m + 1)) + 4) + 5 + (70) + 2) g g17 := by rw [← hg17]; exact mz_mo.s M16 (by omega) q4_16 rfl (Or.inr (by omega))
  have N17 : mz_mo [La, E5, q1] (0 + 1 + (1) + (4 * (e - (m + 1)) + 1) + 1 + (1) + 1) (0 + 5 + (70) + (100 * (e - (m + 1)) + 4) + 5 + (70) + 2) g5 g17 := by rw [← hg17]; exact mz_mo.s N16 (by omega) q4_16 rfl (Or.inr (by omega))
  have O17 : mz_mo [La, E10, q1, q2] (0 + 1 + (1) + 1) (0 + 5 + (70) + 2) g10 g17 := by rw [← hg17]; exact mz_mo.s O16 (by omega) q4_16 rfl (Or.inr (by omega))
  have D_17 : mj_rd g17 D = some (.inr (26, [w0, w1, .ref La])) := by rw [← hg17]; exact (rd_setn (by intro z; have z1 := q4_16; rw [z, D_16] at z1; cases z1)).trans D_16
  have P_17 : mj_rd g17 p = some (ptC (nI (x a 0)) s1 s2 .null (.ref S1) (.ref S2) (.ref R1) (.ref R2)) := by rw [← hg17]; exact (rd_setn (by intro z; have z1 := q4_16; rw [z, P_16] at z1; cases z1)).trans P_16
  have q1_17 : mj_rd g17 q1 = some (actC (nI (x a 0)) (.ref p) (nI a) (nI m) (nI e)) := by rw [← hg17]; exact (rd_setn (by omega)).trans q1_16
  have q2_17 : mj_rd g17 q2 = some (actC (nI (x m 0)) (.ref p) 0 0 0) := by rw [← hg17]; exact (rd_setn (by omega)).trans q2_16
  have q3_17 : mj_rd g17 q3 = some (actC (nI (x e 0)) (.ref p) 0 0 0) := by rw [← hg17]; exact (rd_setn (by omega)).trans q3_16
  have q4_17 : mj_rd g17 q4 = some (.inl (9, (2, objs (va_up (va_up (fun _ => none) 0 (some q2)) 1 (some q3))))) := by rw [← hg17]; exact rd_set (by omega) q4_16
  have yl17 : yLs g17 La E13 (e + 1) (upN F10 e q3) := by rw [← hg17]; exact yl16.sta (by omega) (by decide) q4_16
  clear hg17
  clear M16 N16 O16 D_16 P_16 q1_16 q2_16 q3_16 q4_16
  refine s_ast (p' := 218) (ls' := [_, _, _, _, _, _, _, _, _, _, _, _]) rfl rfl rfl rfl ?_
  refine s_ald (p' := 220) rfl rfl rfl ?_
  refine s_ast (p' := 222) (ls' := [_, _, _, _, _, _, _, _, _, _, _, _]) rfl rfl rfl rfl ?_
  refine s_ald (p' := 224) rfl rfl rfl ?_
  refine s_len (p' := 225) rfl (mj_rdA_is q4_17 (by decide)) (by decide) rfl ?_
  refine s_ist (p' := 227) (ls' := [_, _, _, _, _, _, _, _, _, _, _, _]) rfl rfl rfl rfl ?_
  refine s_con (p' := 228) rfl rfl ?_
  refine s_ist (p' := 230) (ls' := [_, _, _, _, _, _, _, _, _, _, _, _]) rfl rfl rfl rfl ?_
  refine s_ild (p' := 232) rfl rfl rfl ?_
  refine s_ild (p' := 234) rfl rfl rfl ?_
  refine s_icmp (p' := 237) false rfl ((ci_ge (by omega) (by omega)).trans (decide_eq_false (by omega))) rfl ?_
  refine s_ald (p' := 239) rfl rfl rfl ?_
  refine s_ild (p' := 241) rfl rfl rfl ?_
  refine s_aal (p' := 242) rfl (mj_rdA_is q4_17 (by decide)) (by decide) (inb_nI (by omega) (by omega)) rfl ?_
  rw [mI_cl (by omega)]
  show mj_Wp _ _ (242, _, [.ref q2], _) _
  refine s_ast (p' := 244) (ls' := [_, _, _, _, _, _, _, _, _, _, _, _]) rfl rfl rfl rfl ?_
  refine s_ald (p' := 246) rfl rfl rfl ?_
  refine s_ald (p' := 248) rfl rfl rfl ?_
  refine s_gf (p' := 251) rfl q1_17 rfl rfl ?_
  refine s_pf (p' := 254) (fs' := [_, _, _, _, _]) rfl (by omega) q2_17 (Nat.blt_eq.mp rfl) rfl rfl rfl ?_
  generalize hg18 : List.set g17 q2 _ = g18
  have l18 : g18.length = g17.length := by rw [← hg18, List.length_set]
  have M18 : mz_mo [La, E] (0 + 1 + (1) + (4 * (m - (a + 1)) + 1) + 1 + (1) + (4 * (e - (m + 1)) + 1) + 1 + (1) + 1) (0 + 5 + (70) + (100 * (m - (a + 1)) + 4) + 5 + (70) + (100 * (e - (m + 1)) + 4) + 5 + (70) + 2) g g18 := by rw [← hg18]; exact mz_mo.s M17 (by omega) q2_17 rfl (Or.inr (by omega))
  have N18 : mz_mo [La, E5, q1] (0 + 1 + (1) + (4 * (e - (m + 1)) + 1) + 1 + (1) + 1) (0 + 5 + (70) + (100 * (e - (m + 1)) + 4) + 5 + (70) + 2) g5 g18 := by rw [← hg18]; exact mz_mo.s N17 (by omega) q2_17 rfl (Or.inr (by omega))
  have O18 : mz_mo [La, E10, q1, q2] (0 + 1 + (1) + 1) (0 + 5 + (70) + 2) g10 g18 := by rw [← hg18]; exact mz_mo.s O17 (by omega) q2_17 rfl (Or.inl (by simp))
  have D_18 : mj_rd g18 D = some (.inr (26, [w0, w1, .ref La])) := by rw [← hg18]; exact (rd_setn (by intro z; have z1 := q2_17; rw [z, D_17] at z1; cases z1)).trans D_17
  have P_18 : mj_rd g18 p = some (ptC (nI (x a 0)) s1 s2 .null (.ref S1) (.ref S2) (.ref R1) (.ref R2)) := by rw [← hg18]; exact (rd_setn (by intro z; have z1 := q2_17; rw [z, P_17] at z1; cases z1)).trans P_17
  have q1_18 : mj_rd g18 q1 = some (actC (nI (x a 0)) (.ref p) (nI a) (nI m) (nI e)) := by rw [← hg18]; exact (rd_setn (by omega)).trans q1_17
  have q3_18 : mj_rd g18 q3 = some (actC (nI (x e 0)) (.ref p) 0 0 0) := by rw [← hg18]; exact (rd_setn (by omega)).trans q3_17
  have q4_18 : mj_rd g18 q4 = some (.inl (9, (2, objs (va_up (va_up (fun _ => none) 0 (some q2)) 1 (some q3))))) := by rw [← hg18]; exact (rd_setn (by omega)).trans q4_17
  have q2_18 : mj_rd g18 q2 = some (actC (nI (x m 0)) (.ref p) (nI a) 0 0) := by rw [← hg18]; exact rd_set (by omega) q2_17
  have yl18 : yLs g18 La E13 (e + 1) (upN F10 e q3) := by rw [← hg18]; exact yl17.st (by omega) (by decide) q2_17
  clear hg18
  clear M17 N17 O17 D_17 P_17 q1_17 q2_17 q3_17 q4_17
  refine s_ald (p' := 256) rfl rfl rfl ?_
  refine s_ald (p' := 258) rfl rfl rfl ?_
  refine s_gf (p' := 261) rfl q1_18 rfl rfl ?_
  refine s_pf (p' := 264) (fs' := [_, _, _, _, _]) rfl (by omega) q2_18 (Nat.blt_eq.mp rfl) rfl rfl rfl ?_
  generalize hg19 : List.set g18 q2 _ = g19
  have l19 : g19.length = g18.length := by rw [← hg19, List.length_set]
  have M19 : mz_mo [La, E] (0 + 1 + (1) + (4 * (m - (a + 1)) + 1) + 1 + (1) + (4 * (e - (m + 1)) + 1) + 1 + (1) + 1) (0 + 5 + (70) + (100 * (m - (a + 1)) + 4) + 5 + (70) + (100 * (e - (m + 1)) + 4) + 5 + (70) + 2) g g19 := by rw [← hg19]; exact mz_mo.s M18 (by omega) q2_18 rfl (Or.inr (by omega))
  have N19 : mz_mo [La, E5, q1] (0 + 1 + (1) + (4 * (e - (m + 1)) + 1) + 1 + (1) + 1) (0 + 5 + (70) + (100 * (e - (m + 1)) + 4) + 5 + (70) + 2) g5 g19 := by rw [← hg19]; exact mz_mo.s N18 (by omega) q2_18 rfl (Or.inr (by omega))
  have O19 : mz_mo [La, E10, q1, q2] (0 + 1 + (1) + 1) (0 + 5 + (70) + 2) g10 g19 := by rw [← hg19]; exact mz_mo.s O18 (by omega) q2_18 rfl (Or.inl (by simp))
  have D_19 : mj_rd g19 D = some (.inr (26, [w0, w1, .ref La])) := by rw [← hg19]; exact (rd_setn (by intro z; have z1 := q2_18; rw [z, D_18] at z1; cases z1)).trans D_18
  have P_19 : mj_rd g19 p = some (ptC (nI (x a 0)) s1 s2 .null (.ref S1) (.ref S2) (.ref R1) (.ref R2)) := by rw [← hg19]; exact (rd_setn (by intro z; have z1 := q2_18; rw [z, P_18] at z1; cases z1)).trans P_18
  have q1_19 : mj_rd g19 q1 = some (actC (nI (x a 0)) (.ref p) (nI a) (nI m) (nI e)) := by rw [← hg19]; exact (rd_setn (by omega)).trans q1_18
  have q3_19 : mj_rd g19 q3 = some (actC (nI (x e 0)) (.ref p) 0 0 0) := by rw [← hg19]; exact (rd_setn (by omega)).trans q3_18
  have q4_19 : mj_rd g19 q4 = some (.inl (9, (2, objs (va_up (va_up (fun _ => none) 0 (some q2)) 1 (some q3))))) := by rw [← hg19]; exact (rd_setn (by omega)).trans q4_18
  have q2_19 : mj_rd g19 q2 = some (actC (nI (x m 0)) (.ref p) (nI a) (nI m) 0) := by rw [← hg19]; exact rd_set (by omega) q2_18
  have yl19 : yLs g19 La E13 (e + 1) (upN F10 e q3) := by rw [← hg19]; exact yl18.st (by omega) (by decide) q2_18
  clear hg19
  clear M18 N18 O18 D_18 P_18 q1_18 q2_18 q3_18 q4_18
  refine s_ald (p' := 266) rfl rfl rfl ?_
  refine s_ald (p' := 268) rfl rfl rfl ?_
  refine s_gf (p' := 271) rfl q1_19 rfl rfl ?_
  refine s_pf (p' := 274) (fs' := [_, _, _, _, _]) rfl (by omega) q2_19 (Nat.blt_eq.mp rfl) rfl rfl rfl ?_
  generalize hg20 : List.set g19 q2 _ = g20
  have l20 : g20.length = g19.length := by rw [← hg20, List.length_set]
  have M20 : mz_mo [La, E] (0 + 1 + (1) + (4 * (m - (a + 1)) + 1) + 1 + (1) + (4 * (e - (m + 1)) + 1) + 1 + (1) + 1) (0 + 5 + (70) + (100 * (m - (a + 1)) + 4) + 5 + (70) + (100 * (e - (m + 1)) + 4) + 5 + (70) + 2) g g20 := by rw [← hg20]; exact mz_mo.s M19 (by omega) q2_19 rfl (Or.inr (by omega))
  have N20 : mz_mo [La, E5, q1] (0 + 1 + (1) + (4 * (e - (m + 1)) + 1) + 1 + (1) + 1) (0 + 5 + (70) + (100 * (e - (m + 1)) + 4) + 5 + (70) + 2) g5 g20 := by rw [← hg20]; exact mz_mo.s N19 (by omega) q2_19 rfl (Or.inr (by omega))
  have O20 : mz_mo [La, E10, q1, q2] (0 + 1 + (1) + 1) (0 + 5 + (70) + 2) g10 g20 := by rw [← hg20]; exact mz_mo.s O19 (by omega) q2_19 rfl (Or.inl (by simp))
  have D_20 : mj_rd g20 D = some (.inr (26, [w0, w1, .ref La])) := by rw [← hg20]; exact (rd_setn (by intro z; have z1 := q2_19; rw [z, D_19] at z1; cases z1)).trans D_19
  have P_20 : mj_rd g20 p = some (ptC (nI (x a 0)) s1 s2 .null (.ref S1) (.ref S2) (.ref R1) (.ref R2)) := by rw [← hg20]; exact (rd_setn (by intro z; have z1 := q2_19; rw [z, P_19] at z1; cases z1)).trans P_19
  have q1_20 : mj_rd g20 q1 = some (actC (nI (x a 0)) (.ref p) (nI a) (nI m) (nI e)) := by rw [← hg20]; exact (rd_setn (by omega)).trans q1_19
  have q3_20 : mj_rd g20 q3 = some (actC (nI (x e 0)) (.ref p) 0 0 0) := by rw [← hg20]; exact (rd_setn (by omega)).trans q3_19
  have q4_20 : mj_rd g20 q4 = some (.inl (9, (2, objs (va_up (va_up (fun _ => none) 0 (some q2)) 1 (some q3))))) := by rw [← hg20]; exact (rd_setn (by omega)).trans q4_19
  have q2_20 : mj_rd g20 q2 = some (actC (nI (x m 0)) (.ref p) (nI a) (nI m) (nI e)) := by rw [← hg20]; exact rd_set (by omega) q2_19
  have yl20 : yLs g20 La E13 (e + 1) (upN F10 e q3) := by rw [← hg20]; exact yl19.st (by omega) (by decide) q2_19
  clear hg20
  clear M19 N19 O19 D_19 P_19 q1_19 q2_19 q3_19 q4_19
  refine s_inc (p' := 277) (ls' := [_, _, _, _, _, _, _, _, _, _, _, _]) rfl rfl rfl rfl rfl ?_
  rw [mI_add]
  refine s_goto (p' := 230) rfl rfl ?_
  refine s_ild (p' := 232) rfl rfl rfl ?_
  refine s_ild (p' := 234) rfl rfl rfl ?_
  refine s_icmp (p' := 237) false rfl ((ci_ge (by omega) (by omega)).trans (decide_eq_false (by omega))) rfl ?_
  refine s_ald (p' := 239) rfl rfl rfl ?_
  refine s_ild (p' := 241) rfl rfl rfl ?_
  refine s_aal (p' := 242) rfl (mj_rdA_is q4_20 (by decide)) (by decide) (inb_nI (by omega) (by omega)) rfl ?_
  rw [mI_cl (by omega)]
  show mj_Wp _ _ (242, _, [.ref q3], _) _
  refine s_ast (p' := 244) (ls' := [_, _, _, _, _, _, _, _, _, _, _, _]) rfl rfl rfl rfl ?_
  refine s_ald (p' := 246) rfl rfl rfl ?_
  refine s_ald (p' := 248) rfl rfl rfl ?_
  refine s_gf (p' := 251) rfl q1_20 rfl rfl ?_
  refine s_pf (p' := 254) (fs' := [_, _, _, _, _]) rfl (by omega) q3_20 (Nat.blt_eq.mp rfl) rfl rfl rfl ?_
  generalize hg21 : List.set g20 q3 _ = g21
  have l21 : g21.length = g20.length := by rw [← hg21, List.length_set]
  have M21 : mz_mo [La, E] (0 + 1 + (1) + (4 * (m - (a + 1)) + 1) + 1 + (1) + (4 * (e - (m + 1)) + 1) + 1 + (1) + 1) (0 + 5 + (70) + (100 * (m - (a + 1)) + 4) + 5 + (70) + (100 * (e - (m + 1)) + 4) + 5 + (70) + 2) g g21 := by rw [← hg21]; exact mz_mo.s M20 (by omega) q3_20 rfl (Or.inr (by omega))
  have N21 : mz_mo [La, E5, q1] (0 + 1 + (1) + (4 * (e - (m + 1)) + 1) + 1 + (1) + 1) (0 + 5 + (70) + (100 * (e - (m + 1)) + 4) + 5 + (70) + 2) g5 g21 := by rw [← hg21]; exact mz_mo.s N20 (by omega) q3_20 rfl (Or.inr (by omega))
  have O21 : mz_mo [La, E10, q1, q2] (0 + 1 + (1) + 1) (0 + 5 + (70) + 2) g10 g21 := by rw [← hg21]; exact mz_mo.s O20 (by omega) q3_20 rfl (Or.inr (by omega))
  have D_21 : mj_rd g21 D = some (.inr (26, [w0, w1, .ref La])) := by rw [← hg21]; exact (rd_setn (by intro z; have z1 := q3_20; rw [z, D_20] at z1; cases z1)).trans D_20
  have P_21 : mj_rd g21 p = some (ptC (nI (x a 0)) s1 s2 .null (.ref S1) (.ref S2) (.ref R1) (.ref R2)) := by rw [← hg21]; exact (rd_setn (by intro z; have z1 := q3_20; rw [z, P_20] at z1; cases z1)).trans P_20
  have q1_21 : mj_rd g21 q1 = some (actC (nI (x a 0)) (.ref p) (nI a) (nI m) (nI e)) := by rw [← hg21]; exact (rd_setn (by omega)).trans q1_20
  have q2_21 : mj_rd g21 q2 = some (actC (nI (x m 0)) (.ref p) (nI a) (nI m) (nI e)) := by rw [← hg21]; exact (rd_setn (by omega)).trans q2_20
  have q4_21 : mj_rd g21 q4 = some (.inl (9, (2, objs (va_up (va_up (fun _ => none) 0 (some q2)) 1 (some q3))))) := by rw [← hg21]; exact (rd_setn (by omega)).trans q4_20
  have q3_21 : mj_rd g21 q3 = some (actC (nI (x e 0)) (.ref p) (nI a) 0 0) := by rw [← hg21]; exact rd_set (by omega) q3_20
  have yl21 : yLs g21 La E13 (e + 1) (upN F10 e q3) := by rw [← hg21]; exact yl20.st (by omega) (by decide) q3_20
  clear hg21
  clear M20 N20 O20 D_20 P_20 q1_20 q2_20 q3_20 q4_20
  refine s_ald (p' := 256) rfl rfl rfl ?_
  refine s_ald (p' := 258) rfl rfl rfl ?_
  refine s_gf (p' := 261) rfl q1_21 rfl rfl ?_
  refine s_pf (p' := 264) (fs' := [_, _, _, _, _]) rfl (by omega) q3_21 (Nat.blt_eq.mp rfl) rfl rfl rfl ?_
  generalize hg22 : List.set g21 q3 _ = g22
  have l22 : g22.length = g21.length := by rw [← hg22, List.length_set]
  have M22 : mz_mo [La, E] (0 + 1 + (1) + (4 * (m - (a + 1)) + 1) + 1 + (1) + (4 * (e - (m + 1)) + 1) + 1 + (1) + 1) (0 + 5 + (70) + (100 * (m - (a + 1)) + 4) + 5 + (70) + (100 * (e - (m + 1)) + 4) + 5 + (70) + 2) g g22 := by rw [← hg22]; exact mz_mo.s M21 (by omega) q3_21 rfl (Or.inr (by omega))
  have N22 : mz_mo [La, E5, q1] (0 + 1 + (1) + (4 * (e - (m + 1)) + 1) + 1 + (1) + 1) (0 + 5 + (70) + (100 * (e - (m + 1)) + 4) + 5 + (70) + 2) g5 g22 := by rw [← hg22]; exact mz_mo.s N21 (by omega) q3_21 rfl (Or.inr (by omega))
  have O22 : mz_mo [La, E10, q1, q2] (0 + 1 + (1) + 1) (0 + 5 + (70) + 2) g10 g22 := by rw [← hg22]; exact mz_mo.s O21 (by omega) q3_21 rfl (Or.inr (by omega))
  have D_22 : mj_rd g22 D = some (.inr (26, [w0, w1, .ref La])) := by rw [← hg22]; exact (rd_setn (by intro z; have z1 := q3_21; rw [z, D_21] at z1; cases z1)).trans D_21
  have P_22 : mj_rd g22 p = some (ptC (nI (x a 0)) s1 s2 .null (.ref S1) (.ref S2) (.ref R1) (.ref R2)) := by rw [← hg22]; exact (rd_setn (by intro z; have z1 := q3_21; rw [z, P_21] at z1; cases z1)).trans P_21
  have q1_22 : mj_rd g22 q1 = some (actC (nI (x a 0)) (.ref p) (nI a) (nI m) (nI e)) := by rw [← hg22]; exact (rd_setn (by omega)).trans q1_21
  have q2_22 : mj_rd g22 q2 = some (actC (nI (x m 0)) (.ref p) (nI a) (nI m) (nI e)) := by rw [← hg22]; exact (rd_setn (by omega)).trans q2_21
  have q4_22 : mj_rd g22 q4 = some (.inl (9, (2, objs (va_up (va_up (fun _ => none) 0 (some q2)) 1 (some q3))))) := by rw [← hg22]; exact (rd_setn (by omega)).trans q4_21
  have q3_22 : mj_rd g22 q3 = some (actC (nI (x e 0)) (.ref p) (nI a) (nI m) 0) := by rw [← hg22]; exact rd_set (by omega) q3_21
  have yl22 : yLs g22 La E13 (e + 1) (upN F10 e q3) := by rw [← hg22]; exact yl21.st (by omega) (by decide) q3_21
  clear hg22
  clear M21 N21 O21 D_21 P_21 q1_21 q2_21 q3_21 q4_21
  refine s_ald (p' := 266) rfl rfl rfl ?_
  refine s_ald (p' := 268) rfl rfl rfl ?_
  refine s_gf (p' := 271) rfl q1_22 rfl rfl ?_
  refine s_pf (p' := 274) (fs' := [_, _, _, _, _]) rfl (by omega) q3_22 (Nat.blt_eq.mp rfl) rfl rfl rfl ?_
  generalize hg23 : List.set g22 q3 _ = g23
  have l23 : g23.length = g22.length := by rw [← hg23, List.length_set]
  have M23 : mz_mo [La, E] (0 + 1 + (1) + (4 * (m - (a + 1)) + 1) + 1 + (1) + (4 * (e - (m + 1)) + 1) + 1 + (1) + 1) (0 + 5 + (70) + (100 * (m - (a + 1)) + 4) + 5 + (70) + (100 * (e - (m + 1)) + 4) + 5 + (70) + 2) g g23 := by rw [← hg23]; exact mz_mo.s M22 (by omega) q3_22 rfl (Or.inr (by omega))
  have N23 : mz_mo [La, E5, q1] (0 + 1 + (1) + (4 * (e - (m + 1)) + 1) + 1 + (1) + 1) (0 + 5 + (70) + (100 * (e - (m + 1)) + 4) + 5 + (70) + 2) g5 g23 := by rw [← hg23]; exact mz_mo.s N22 (by omega) q3_22 rfl (Or.inr (by omega))
  have O23 : mz_mo [La, E10, q1, q2] (0 + 1 + (1) + 1) (0 + 5 + (70) + 2) g10 g23 := by rw [← hg23]; exact mz_mo.s O22 (by omega) q3_22 rfl (Or.inr (by omega))
  have D_23 : mj_rd g23 D = some (.inr (26, [w0, w1, .ref La])) := by rw [← hg23]; exact (rd_setn (by intro z; have z1 := q3_22; rw [z, D_22] at z1; cases z1)).trans D_22
  have P_23 : mj_rd g23 p = some (ptC (nI (x a 0)) s1 s2 .null (.ref S1) (.ref S2) (.ref R1) (.ref R2)) := by rw [← hg23]; exact (rd_setn (by intro z; have z1 := q3_22; rw [z, P_22] at z1; cases z1)).trans P_22
  have q1_23 : mj_rd g23 q1 = some (actC (nI (x a 0)) (.ref p) (nI a) (nI m) (nI e)) := by rw [← hg23]; exact (rd_setn (by omega)).trans q1_22
  have q2_23 : mj_rd g23 q2 = some (actC (nI (x m 0)) (.ref p) (nI a) (nI m) (nI e)) := by rw [← hg23]; exact (rd_setn (by omega)).trans q2_22
  have q4_23 : mj_rd g23 q4 = some (.inl (9, (2, objs (va_up (va_up (fun _ => none) 0 (some q2)) 1 (some q3))))) := by rw [← hg23]; exact (rd_setn (by omega)).trans q4_22
  have q3_23 : mj_rd g23 q3 = some (actC (nI (x e 0)) (.ref p) (nI a) (nI m) (nI e)) := by rw [← hg23]; exact rd_set (by omega) q3_22
  have yl23 : yLs g23 La E13 (e + 1) (upN F10 e q3) := by rw [← hg23]; exact yl22.st (by omega) (by decide) q3_22
  clear hg23
  clear M22 N22 O22 D_22 P_22 q1_22 q2_22 q3_22 q4_22
  refine s_inc (p' := 277) (ls' := [_, _, _, _, _, _, _, _, _, _, _, _]) rfl rfl rfl rfl rfl ?_
  rw [mI_add]
  refine s_goto (p' := 230) rfl rfl ?_
  refine s_ild (p' := 232) rfl rfl rfl ?_
  refine s_ild (p' := 234) rfl rfl rfl ?_
  refine s_icmp (p' := 280) true rfl ((ci_ge (by omega) (by omega)).trans (decide_eq_true (by omega))) rfl ?_
  refine s_goto (p' := 7) rfl rfl ?_
  have mvJ : Mv I J [La, E] g g23 := ⟨M23.1, hIC, fun a ha _ => ⟨by have := hIB a ha; have := hIC a ha; have e1 : mj_CB = 1000000 := rfl; simp only [List.mem_cons, List.not_mem_nil, or_false]; omega, hIJ a ha⟩⟩
  have u1J := u1.mv mvJ
  have u2J := u2.mv mvJ
  have ipJ := mvJ.j ip pr
  have prJ := mvJ.rd ip pr
  have kn := ls_kd yl5
  have ko := ls_kd yl10
  have eqa : upN F10 e q3 a = q1 := by
    rw [show upN F10 e q3 a = F10 a from if_neg (by omega), fF10 a (by omega), show upN F5 m q2 a = F5 a from if_neg (by omega), fF5 a (by omega)]
    exact if_pos rfl
  have eqm : upN F10 e q3 m = q2 := by
    rw [show upN F10 e q3 m = F10 m from if_neg (by omega), fF10 m (by omega)]
    exact if_pos rfl
  have eqe : upN F10 e q3 e = q3 := if_pos rfl
  have eq5 : ∀ j, j < m → upN F10 e q3 j = F5 j := fun j hj => by
    rw [show upN F10 e q3 j = F10 j from if_neg (by omega), fF10 j (by omega)]
    exact if_neg (by omega)
  have eq6 : ∀ j, j < e → upN F10 e q3 j = F10 j := fun j hj => if_neg (by omega)
  refine hn g23 E13 (upN F10 e q3) _ _ _ _ _ _ _ _ _ ⟨yl23, fun j hj => ?_, fun j h1 h2 => ?_, M23.wk (fun y hy => Or.inl hy) (by omega) (by omega), by omega, by omega, fun j h1 h2 => ?_⟩
  · rw [eq5 j (by omega), fF5 j (by omega)]
    exact if_neg (by omega)
  · by_cases z1 : j = a
    · subst z1
      rw [eqa]
      refine ⟨hJ q1 (by omega) (by omega), p, ?_, Or.inr ⟨brS_t (by omega), S1, S2, R1, R2, s1, s2, ipJ, ?_, ?_, ?_⟩⟩
      · rw [lk1.1, lk1.2.1, lk1.2.2]
        exact q1_23
      · rw [lk1.1]
        exact prJ
      · rw [lk1.1]
        exact u1J
      · rw [lk1.2.2]
        exact u2J
    · by_cases z2 : j < m
      · rw [eq5 j z2]
        have f0 := qF5 j (by omega) z2
        refine (cF5 j (by omega) z2).fr N23.1 (fun b hb => ?_) (fun _ => trivial)
        obtain ⟨_, pp, rr, _⟩ := cF5 j (by omega) z2
        have n0 := ls_ni yl5 rr (by decide)
        simp only [List.mem_cons, List.not_mem_nil, or_false] at hb
        rcases hb with rfl | rfl | rfl
        · refine ⟨fun z => n0.1 z.symm, fun c hc => ?_⟩
          obtain ⟨fs, z⟩ := kn.1
          rw [z] at hc
          exact Or.inl ⟨fs, (Option.some.inj hc).symm⟩
        · refine ⟨fun z => n0.2 z.symm, fun c hc => ?_⟩
          obtain ⟨y, z⟩ := kn.2
          rw [z] at hc
          exact Or.inr (Or.inl ⟨y, (Option.some.inj hc).symm⟩)
        · refine ⟨by omega, fun c hc => ?_⟩
          rw [kN] at hc
          exact Or.inr (Or.inr (Or.inl ⟨_, (Option.some.inj hc).symm⟩))
      · by_cases z3 : j = m
        · subst z3
          rw [eqm]
          refine ⟨hJ q2 (by omega) (by omega), p, ?_, Or.inr ⟨brS_t (by omega), S1, S2, R1, R2, s1, s2, ipJ, ?_, ?_, ?_⟩⟩
          · rw [lk2.1, lk2.2.1, lk2.2.2]
            exact q2_23
          · rw [lk2.1]
            exact prJ
          · rw [lk2.1]
            exact u1J
          · rw [lk2.2.2]
            exact u2J
        · by_cases z4 : j < e
          · rw [eq6 j z4]
            have f0 := qF10 j (by omega) z4
            refine (cF10 j (by omega) z4).fr O23.1 (fun b hb => ?_) (fun _ => trivial)
            obtain ⟨_, pp, rr, _⟩ := cF10 j (by omega) z4
            have n0 := ls_ni yl10 rr (by decide)
            simp only [List.mem_cons, List.not_mem_nil, or_false] at hb
            rcases hb with rfl | rfl | rfl | rfl
            · refine ⟨fun z => n0.1 z.symm, fun c hc => ?_⟩
              obtain ⟨fs, z⟩ := ko.1
              rw [z] at hc
              exact Or.inl ⟨fs, (Option.some.inj hc).symm⟩
            · refine ⟨fun z => n0.2 z.symm, fun c hc => ?_⟩
              obtain ⟨y, z⟩ := ko.2
              rw [z] at hc
              exact Or.inr (Or.inl ⟨y, (Option.some.inj hc).symm⟩)
            · refine ⟨by omega, fun c hc => ?_⟩
              rw [kO] at hc
              exact Or.inr (Or.inr (Or.inl ⟨_, (Option.some.inj hc).symm⟩))
            · refine ⟨by omega, fun c hc => ?_⟩
              rw [kP] at hc
              exact Or.inr (Or.inr (Or.inl ⟨_, (Option.some.inj hc).symm⟩))
          · obtain rfl : j = e := by omega
            rw [eqe]
            refine ⟨hJ q3 (by omega) (by omega), p, ?_, Or.inr ⟨brS_t (by omega), S1, S2, R1, R2, s1, s2, ipJ, ?_, ?_, ?_⟩⟩
            · rw [lk3.1, lk3.2.1, lk3.2.2]
              exact q3_23
            · rw [lk3.1]
              exact prJ
            · rw [lk3.1]
              exact u1J
            · rw [lk3.2.2]
              exact u2J
  · by_cases z1 : j = a
    · rw [z1, eqa]; omega
    · by_cases z2 : j < m
      · rw [eq5 j z2]
        have := qF5 j (by omega) z2
        omega
      · by_cases z3 : j = m
        · rw [z3, eqm]; omega
        · by_cases z4 : j < e
          · rw [eq6 j z4]
            have := qF10 j (by omega) z4
            omega
          · rw [show j = e by omega, eqe]; omega
