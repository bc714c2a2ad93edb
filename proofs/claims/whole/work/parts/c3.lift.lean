/-! More rounds lifted: typing, circuits, what is told of a run, pebbles. -/
theorem pLi.pk {own : Nat → Nat} {h : mj_H} {np : Nat} {K : Nat → Nat} {X : Nat → Nat → Nat → Nat} (a : pLi own h np K X) : ∀ p, p < np → K p ≤ 30 := by
  obtain ⟨N, F, PF, Ep, c, _, l, _⟩ := a
  exact fun p hp => ((l.pOk c.1).2 p hp).1
theorem upd_r {f : Nat → Int32} {F : Nat → Nat} {g v : Nat} (e : ∀ j, j < g → f j = nI (F j)) : ∀ j, j < g + 1 → upd f g (nI v) j = nI (upN F g v j) := fun j hj => by
  unfold upN
  by_cases q : j = g
  · rw [q, upd_s, if_pos rfl]
  · rw [upd_n q, if_neg q]
    exact e j (by omega)
theorem gI_up (G : Nat → Nat) (g v : Nat) : upN (gI G) g (1000138 + v) = gI (upN G g v) := funext fun j => by
  unfold upN gI
  dsimp only
  split <;> rfl
theorem isG_up {G : Nat → Nat} {g v : Nat} (e : ∀ j, j < g → isG (G j)) (hv : isG v) : ∀ j, j < g + 1 → isG (upN G g v j) := fun j hj => by
  unfold upN
  split
  · exact hv
  · exact e j (by omega)
theorem cX.up {h g : mj_H} {L : List Nat} {n m : Nat} {f f2 : Nat → Nat} (e : mz_fr L h g) (hL : ∀ x, x ∈ L → x < 4 ∨ 38 ≤ x) (t : cTx g 1 m f2) : cX h 1 n f → cX g 1 m f2
  | ⟨a, k, fp, fs, tm, ins, c1, c2, c3, ⟨rw_, c4, c5⟩, c6⟩ => ⟨a, k, fp, fs, tm, ins, e _ (fun q => by have := hL _ q; omega) _ c1, t, e _ (fun q => by have := hL _ q; omega) _ c3, ⟨rw_, e _ (fun q => by have := hL _ q; omega) _ c4, c5⟩, fun j hj => e _ (fun q => by have := hL _ q; omega) _ (c6 j hj)⟩
theorem yStr_e {h : mj_H} {f : Nat → Nat} : yStr h 1000300 0 0 f := ⟨⟨by omega, fun j hj => absurd hj (Nat.not_lt_zero j)⟩, 1000301, _, rfl, fun j => 0, rfl, by omega, fun j hj => absurd hj (Nat.not_lt_zero j), fun j hj => absurd hj (by omega)⟩
theorem yStr_eB {h : mj_H} {own : Nat → Nat} {C : Nat} {rs : List Value} (r : mj_rd h 1000300 = some (.inr (21, .ref C :: rs))) : 414 ≤ C ∧ (C < mj_CB → own C = 8) := by
  have e : @Eq Nat 1000301 C := Value.ref.inj (List.cons.inj (Prod.mk.inj (Sum.inr.inj (Option.some.inj r))).2).1
  have e1 : mj_CB = 1000000 := rfl
  exact ⟨by omega, fun q => by omega⟩
theorem r_0 {L j : Nat} {xs : Nat → Int32} {h : mj_H} {l6 l7 l8 l9 : Option Value} {P : mj_H → Prop} {own : Nat → Nat} {th : Int32} {sd be : Int64} {gs pl ty wa nw nx : Value} {np : Nat} {K : Nat → Nat} {X : Nat → Nat → Nat → Nat} {rz : Nat} (w : wJ own th sd be gs pl ty wa nw nx np K X rz j h) (hL : L ≤ 2048) (hi : 4 * j + 4 ≤ L) (hk : xs (4 * j) &&& nI 63 = nI 0) (hn : ∀ (l6 l7 l8 l9 : Option Value) (g : mj_H), wI (j + 1) g → mj_lrun L xs (28, [some (.retAddr 1), some (.ref 0), some (.ref 400), some (.ref 412), some (.ref 413), some (.int (nI (4 * j + 4))), l6, l7, l8, l9], [], g) P) : mj_lrun L xs (28, [some (.retAddr 1), some (.ref 0), some (.ref 400), some (.ref 412), some (.ref 413), some (.int (nI (4 * j))), l6, l7, l8, l9], [], h) P := by
  obtain ⟨w1, H0, H400, pT, pL, pR, pV, pC, pI, pS, pO, pX, pP, pG, j5, b1, b2⟩ := id w
  have ln := w.len
  have np6 := pL.np
  obtain ⟨⟨ou, H412⟩, od, H413⟩ := id pO
  obtain ⟨k, vf, wf, sf, uf, dp, ca, hk20, H375, H376, H377, H402, H403, H404, hvw, hsu⟩ := pR.w
  obtain ⟨mp, Ep, H38, H401⟩ := pL.w
  obtain ⟨g, E, G, rf, mf, hg24, H393, H394, hls, hGG, hEo⟩ := id pC
  obtain ⟨cap, mc, ef, H410, hEA, hgc, hc31, hE3, hef⟩ := id hls
  obtain ⟨im, jm, IM, H397, H411, hIM, hJM⟩ := id pI
  have him : ∀ i, i < 8 → jm i = im i := fun i hi => by rw [(hIM i hi).1, (hJM i hi).1]
  have hG1 : ∀ i, i < g → rf i = nI (G i) ∧ G i < 24 := fun i hi => ⟨(hGG i hi).1, (hGG i hi).2.1⟩
  have hG2 : ∀ i, i < g → ef i = some (1000138 + G i) ∧ G i < 24 := fun i hi => ⟨(hef i hi).1, (hGG i hi).2.1⟩
  have hGi : ∀ i, i < g → isG (G i) := fun i hi => (hGG i hi).2
  have e1 : mj_CB = 1000000 := rfl
  have HE := rdA_lt hEA
  have hE9 : E = 1000000 ∨ 414 ≤ E ∧ E < h.length ∧ own E = 2 := hE3.elim (fun q => Or.inr (by have o := hEo q.1; have := w1 E (by omega); omega)) (fun q => Or.inl q.1)
  have hE0 : 414 ≤ E := by omega
  have hEN : E < h.length ∨ E = 1000000 := by omega
  have oE : own E = 0 ∨ own E = 2 := hE9.elim (fun q => Or.inl (by
    by_cases z : own E = 0
    · exact z
    · have := w1 E z
      omega)) (fun q => Or.inr q.2.2)
  obtain ⟨n, f, c, Y, rfl, hn60, hf, hPx, hY, hY0, hYo, hYB⟩ := id pT
  obtain ⟨H1, _, hX⟩ := id hPx
  obtain ⟨at_, k0, fp, fs, tm, ins, hR1, ⟨tf, H2, H3, htf⟩, hR3⟩ := id hX
  obtain ⟨⟨hc1, hcf⟩, Yb, ys, HY, hBy⟩ := id hY
  have hYB1 : ∀ (C : Nat) (rs : List Value), mj_rd h Y = some (.inr (21, .ref C :: rs)) → 414 ≤ C := fun C rs r => (hYB C rs r).1
  obtain ⟨ch, hch, hc⟩ := i2c_is (xs (4 * j + 1))
  rcases (by omega : c = 0 ∨ c = 1) with rfl | rfl
  · by_cases z : n < 60
    · by_cases y : ch < 256
      · refine w_0_00 (i := 4 * j) (N := h.length) (gs := gs) (pl := pl) (ty := (.ref Y)) (wa := wa) (nw := nw) (nx := nx) (dp := dp) (ca := ca) (mf := mf) (th := th) (sd := sd) (be := be) (ou := ou) (vf := vf) (wf := wf) (sf := sf) (uf := uf) (im := im) (jm := jm) (k := k) (g := g) (pe := (.ref Ep)) (pm := (.int mp)) (ge := (.ref E)) (gm := (.int mc)) (q := np) (tf := tf) (ys := ys) (Y := Y) (Yb := Yb) (n := n) (ch := ch) (f := f) hL hi ln.2 ln.1 rfl hk hk20 hvw hsu him np6 hg24 hY hYB1 hY0 hc z y H0 H1 H2 H3 H400 H412 HY ?_
        rintro l6' l7' l8' l9' h' ⟨Q2, Q3, Q412, X0, qf, ql, qz⟩
        obtain ⟨Y1, hY1, hY1b, Q400, y2, y3⟩ := X0
        have qo : pOu h' := pO.f2 qf (fun x hx => by simp only [List.mem_cons, List.not_mem_nil, or_false] at hx; omega) ⟨_, Q412⟩
        have hx0 : ∀ x, x ∈ [2, 3, 400, 412] → (own x = 0 ∧ (x = 2 ∨ x = 3 ∨ x = 400 ∨ x = 412)) ∨ (414 ≤ x ∧ (own x = 0)) := by
          intro x hx
          simp only [List.mem_cons, List.not_mem_nil, or_false] at hx
          rcases hx with q | q | q | q
          · rw [q]; exact Or.inl ⟨w1.z (by decide), by decide⟩
          · rw [q]; exact Or.inl ⟨w1.z (by decide), by decide⟩
          · rw [q]; exact Or.inl ⟨w1.z (by decide), by decide⟩
          · rw [q]; exact Or.inl ⟨w1.z (by decide), by decide⟩
        have lz : 413 < h'.length := by obtain ⟨_, _, q⟩ := qo; exact rd_len (by decide) q
        have le : h.length ≤ h'.length := fr_len qf (by omega) (fun x hx hlt => by simp only [List.mem_cons, List.not_mem_nil, or_false] at hx; omega)
        obtain ⟨B1, rs1, r1⟩ := y2.rd
        have hY1l := rd_len hY1b r1
        have hP : ∀ a, (a = Y1 ∨ a = B1) ∧ a < mj_CB → h.length ≤ a ∧ a < h'.length := fun a q => by
          rcases q.1 with q1 | q1
          · omega
          · have := y3 B1 rs1 r1
            obtain ⟨_, B2, rs2, r2, ⟨bf, r3, _⟩⟩ := y2
            have e : @Eq Nat B1 B2 := Value.ref.inj (List.cons.inj (Prod.mk.inj (Sum.inr.inj (Option.some.inj (r1.symm.trans r2)))).2).1
            have := rd_len (a := B2) (by omega) r3
            omega
        obtain ⟨own', w2, hk1, hnew⟩ := recolW w1 ln.1 le (fun a => (a = Y1 ∨ a = B1) ∧ a < mj_CB) 8 hP
        have nT : pTy own' h' (.ref Y1) := ⟨n + 1, upN f n ch, _, Y1, rfl, by omega, fun i hi => by
            unfold upN
            split
            · omega
            · exact hf i (by omega), ⟨qf _ (by decide) _ H1, by omega, hX.up qf (fun x hx => by simp only [List.mem_cons, List.not_mem_nil, or_false] at hx; omega) ⟨_, Q2, Q3, upd_r htf⟩⟩, y2, by omega, fun q => hnew _ ⟨Or.inl rfl, q⟩, fun C rs r => by
            have e : @Eq Nat B1 C := Value.ref.inj (List.cons.inj (Prod.mk.inj (Sum.inr.inj (Option.some.inj (r1.symm.trans r)))).2).1
            have := y3 C rs r
            exact ⟨by omega, fun q => hnew _ ⟨Or.inr e.symm, q⟩⟩⟩
        exact hn _ _ _ _ _ ⟨own', _, _, _, gs, pl, _, wa, nw, nx, np, K, X, rz, w2, qf 0 (fun q => by have := hx0 _ q; omega) _ H0, Q400, nT, pL.fr qf (fun x hx => by have := hx0 x hx; omega) (fun a q => (hk1 a (by omega)).trans q) (fun a q => by have := (w2 a (by omega)).2; omega) (fun a q => (hk1 a (by omega)).trans q), pR.fr qf (fun x hx => by have := hx0 x hx; omega), pV.fr qf (fun x hx => by have := hx0 x hx; omega), pC.fr qf (fun x hx => by have := hx0 x hx; omega) (fun a q => (hk1 a (by omega)).trans q), pI.fr qf (fun x hx => by have := hx0 x hx; omega), pS.fr qf (fun x hx => by have := hx0 x hx; omega), qo, pX.fr qf (fun x hx => by have := hx0 x hx; omega), pP.fr qf (fun x hx => by have := hx0 x hx; omega) (fun a q => (hk1 a (by omega)).trans q), pG.fr qf (fun x hx => by have := hx0 x hx; omega) (fun a q => (hk1 a (by omega)).trans q), by omega, by omega, by omega⟩
      · refine w_0_01 (i := 4 * j) (N := h.length) (gs := gs) (pl := pl) (ty := (.ref Y)) (wa := wa) (nw := nw) (nx := nx) (dp := dp) (ca := ca) (mf := mf) (th := th) (sd := sd) (be := be) (ou := ou) (vf := vf) (wf := wf) (sf := sf) (uf := uf) (im := im) (jm := jm) (k := k) (g := g) (pe := (.ref Ep)) (pm := (.int mp)) (ge := (.ref E)) (gm := (.int mc)) (q := np) (tf := tf) (ys := ys) (Y := Y) (Yb := Yb) (n := n) (ch := ch) (f := f) hL hi ln.2 ln.1 rfl hk hk20 hvw hsu him np6 hg24 hY hYB1 hY0 hc z (by omega) H0 H1 H2 H3 H400 H412 HY ?_
        rintro l6' l7' l8' l9' h' ⟨Q2, Q3, Q412, X0, qf, ql, qz⟩
        obtain ⟨Y1, hY1, hY1b, Q400, y2, y3⟩ := X0
        have qo : pOu h' := pO.f2 qf (fun x hx => by simp only [List.mem_cons, List.not_mem_nil, or_false] at hx; omega) ⟨_, Q412⟩
        have hx0 : ∀ x, x ∈ [2, 3, 400, 412] → (own x = 0 ∧ (x = 2 ∨ x = 3 ∨ x = 400 ∨ x = 412)) ∨ (414 ≤ x ∧ (own x = 0)) := by
          intro x hx
          simp only [List.mem_cons, List.not_mem_nil, or_false] at hx
          rcases hx with q | q | q | q
          · rw [q]; exact Or.inl ⟨w1.z (by decide), by decide⟩
          · rw [q]; exact Or.inl ⟨w1.z (by decide), by decide⟩
          · rw [q]; exact Or.inl ⟨w1.z (by decide), by decide⟩
          · rw [q]; exact Or.inl ⟨w1.z (by decide), by decide⟩
        have lz : 413 < h'.length := by obtain ⟨_, _, q⟩ := qo; exact rd_len (by decide) q
        have le : h.length ≤ h'.length := fr_len qf (by omega) (fun x hx hlt => by simp only [List.mem_cons, List.not_mem_nil, or_false] at hx; omega)
        obtain ⟨B1, rs1, r1⟩ := y2.rd
        have hY1l := rd_len hY1b r1
        have hP : ∀ a, (a = Y1 ∨ a = B1) ∧ a < mj_CB → h.length ≤ a ∧ a < h'.length := fun a q => by
          rcases q.1 with q1 | q1
          · omega
          · have := y3 B1 rs1 r1
            obtain ⟨_, B2, rs2, r2, ⟨bf, r3, _⟩⟩ := y2
            have e : @Eq Nat B1 B2 := Value.ref.inj (List.cons.inj (Prod.mk.inj (Sum.inr.inj (Option.some.inj (r1.symm.trans r2)))).2).1
            have := rd_len (a := B2) (by omega) r3
            omega
        obtain ⟨own', w2, hk1, hnew⟩ := recolW w1 ln.1 le (fun a => (a = Y1 ∨ a = B1) ∧ a < mj_CB) 8 hP
        have nT : pTy own' h' (.ref Y1) := ⟨n + 1, upN f n ch, _, Y1, rfl, by omega, fun i hi => by
            unfold upN
            split
            · omega
            · exact hf i (by omega), ⟨qf _ (by decide) _ H1, by omega, hX.up qf (fun x hx => by simp only [List.mem_cons, List.not_mem_nil, or_false] at hx; omega) ⟨_, Q2, Q3, upd_r htf⟩⟩, y2, by omega, fun q => hnew _ ⟨Or.inl rfl, q⟩, fun C rs r => by
            have e : @Eq Nat B1 C := Value.ref.inj (List.cons.inj (Prod.mk.inj (Sum.inr.inj (Option.some.inj (r1.symm.trans r)))).2).1
            have := y3 C rs r
            exact ⟨by omega, fun q => hnew _ ⟨Or.inr e.symm, q⟩⟩⟩
        exact hn _ _ _ _ _ ⟨own', _, _, _, gs, pl, _, wa, nw, nx, np, K, X, rz, w2, qf 0 (fun q => by have := hx0 _ q; omega) _ H0, Q400, nT, pL.fr qf (fun x hx => by have := hx0 x hx; omega) (fun a q => (hk1 a (by omega)).trans q) (fun a q => by have := (w2 a (by omega)).2; omega) (fun a q => (hk1 a (by omega)).trans q), pR.fr qf (fun x hx => by have := hx0 x hx; omega), pV.fr qf (fun x hx => by have := hx0 x hx; omega), pC.fr qf (fun x hx => by have := hx0 x hx; omega) (fun a q => (hk1 a (by omega)).trans q), pI.fr qf (fun x hx => by have := hx0 x hx; omega), pS.fr qf (fun x hx => by have := hx0 x hx; omega), qo, pX.fr qf (fun x hx => by have := hx0 x hx; omega), pP.fr qf (fun x hx => by have := hx0 x hx; omega) (fun a q => (hk1 a (by omega)).trans q), pG.fr qf (fun x hx => by have := hx0 x hx; omega) (fun a q => (hk1 a (by omega)).trans q), by omega, by omega, by omega⟩
    · refine w_0_f0 (i := 4 * j) (N := h.length) (gs := gs) (pl := pl) (ty := (.ref Y)) (wa := wa) (nw := nw) (nx := nx) (dp := dp) (ca := ca) (mf := mf) (th := th) (sd := sd) (be := be) (ou := ou) (vf := vf) (wf := wf) (sf := sf) (uf := uf) (im := im) (jm := jm) (k := k) (g := g) (pe := (.ref Ep)) (pm := (.int mp)) (ge := (.ref E)) (gm := (.int mc)) (q := np) (tf := tf) (ys := ys) (Y := Y) (Yb := Yb) (n := n) (ch := ch) (f := f) hL hi ln.2 ln.1 rfl hk hk20 hvw hsu him np6 hg24 hY hYB1 hY0 hc (by omega) H0 H1 H2 H400 HY ?_
      rintro l6' l7' l8' l9' h' ⟨Q400, qf, ql, qz⟩
      exact hn _ _ _ _ _ (w.q qf (fun x hx => by simp only [List.mem_cons, List.not_mem_nil, or_false] at hx; omega) Q400 (pO.fr qf (fun x hx => by simp only [List.mem_cons, List.not_mem_nil, or_false] at hx; omega)) (by omega) (by omega) (by omega))
  · by_cases z : n < 60
    · refine w_0_11 (i := 4 * j) (N := h.length) (gs := gs) (pl := pl) (ty := (.ref Y)) (wa := wa) (nw := nw) (nx := nx) (dp := dp) (ca := ca) (mf := mf) (th := th) (sd := sd) (be := be) (ou := ou) (vf := vf) (wf := wf) (sf := sf) (uf := uf) (im := im) (jm := jm) (k := k) (g := g) (pe := (.ref Ep)) (pm := (.int mp)) (ge := (.ref E)) (gm := (.int mc)) (q := np) (tf := tf) (ys := ys) (Y := Y) (Yb := Yb) (n := n) (ch := ch) (f := f) hL hi ln.2 ln.1 rfl hk hk20 hvw hsu him np6 hg24 hY hYB1 hY0 hc z hch H0 H1 H2 H3 H400 H412 HY ?_
      rintro l6' l7' l8' l9' h' ⟨Q2, Q3, Q412, X0, qf, ql, qz⟩
      obtain ⟨Y1, hY1, hY1b, Q400, y2, y3⟩ := X0
      have qo : pOu h' := pO.f2 qf (fun x hx => by simp only [List.mem_cons, List.not_mem_nil, or_false] at hx; omega) ⟨_, Q412⟩
      have hx0 : ∀ x, x ∈ [2, 3, 400, 412] → (own x = 0 ∧ (x = 2 ∨ x = 3 ∨ x = 400 ∨ x = 412)) ∨ (414 ≤ x ∧ (own x = 0)) := by
        intro x hx
        simp only [List.mem_cons, List.not_mem_nil, or_false] at hx
        rcases hx with q | q | q | q
        · rw [q]; exact Or.inl ⟨w1.z (by decide), by decide⟩
        · rw [q]; exact Or.inl ⟨w1.z (by decide), by decide⟩
        · rw [q]; exact Or.inl ⟨w1.z (by decide), by decide⟩
        · rw [q]; exact Or.inl ⟨w1.z (by decide), by decide⟩
      have lz : 413 < h'.length := by obtain ⟨_, _, q⟩ := qo; exact rd_len (by decide) q
      have le : h.length ≤ h'.length := fr_len qf (by omega) (fun x hx hlt => by simp only [List.mem_cons, List.not_mem_nil, or_false] at hx; omega)
      obtain ⟨B1, rs1, r1⟩ := y2.rd
      have hY1l := rd_len hY1b r1
      have hP : ∀ a, (a = Y1 ∨ a = B1) ∧ a < mj_CB → h.length ≤ a ∧ a < h'.length := fun a q => by
        rcases q.1 with q1 | q1
        · omega
        · have := y3 B1 rs1 r1
          obtain ⟨_, B2, rs2, r2, ⟨bf, r3, _⟩⟩ := y2
          have e : @Eq Nat B1 B2 := Value.ref.inj (List.cons.inj (Prod.mk.inj (Sum.inr.inj (Option.some.inj (r1.symm.trans r2)))).2).1
          have := rd_len (a := B2) (by omega) r3
          omega
      obtain ⟨own', w2, hk1, hnew⟩ := recolW w1 ln.1 le (fun a => (a = Y1 ∨ a = B1) ∧ a < mj_CB) 8 hP
      have nT : pTy own' h' (.ref Y1) := ⟨n + 1, upN f n ch, _, Y1, rfl, by omega, fun i hi => by
          unfold upN
          split
          · omega
          · exact hf i (by omega), ⟨qf _ (by decide) _ H1, by omega, hX.up qf (fun x hx => by simp only [List.mem_cons, List.not_mem_nil, or_false] at hx; omega) ⟨_, Q2, Q3, upd_r htf⟩⟩, y2, by omega, fun q => hnew _ ⟨Or.inl rfl, q⟩, fun C rs r => by
          have e : @Eq Nat B1 C := Value.ref.inj (List.cons.inj (Prod.mk.inj (Sum.inr.inj (Option.some.inj (r1.symm.trans r)))).2).1
          have := y3 C rs r
          exact ⟨by omega, fun q => hnew _ ⟨Or.inr e.symm, q⟩⟩⟩
      exact hn _ _ _ _ _ ⟨own', _, _, _, gs, pl, _, wa, nw, nx, np, K, X, rz, w2, qf 0 (fun q => by have := hx0 _ q; omega) _ H0, Q400, nT, pL.fr qf (fun x hx => by have := hx0 x hx; omega) (fun a q => (hk1 a (by omega)).trans q) (fun a q => by have := (w2 a (by omega)).2; omega) (fun a q => (hk1 a (by omega)).trans q), pR.fr qf (fun x hx => by have := hx0 x hx; omega), pV.fr qf (fun x hx => by have := hx0 x hx; omega), pC.fr qf (fun x hx => by have := hx0 x hx; omega) (fun a q => (hk1 a (by omega)).trans q), pI.fr qf (fun x hx => by have := hx0 x hx; omega), pS.fr qf (fun x hx => by have := hx0 x hx; omega), qo, pX.fr qf (fun x hx => by have := hx0 x hx; omega), pP.fr qf (fun x hx => by have := hx0 x hx; omega) (fun a q => (hk1 a (by omega)).trans q), pG.fr qf (fun x hx => by have := hx0 x hx; omega) (fun a q => (hk1 a (by omega)).trans q), by omega, by omega, by omega⟩
    · refine w_0_f1 (i := 4 * j) (N := h.length) (gs := gs) (pl := pl) (ty := (.ref Y)) (wa := wa) (nw := nw) (nx := nx) (dp := dp) (ca := ca) (mf := mf) (th := th) (sd := sd) (be := be) (ou := ou) (vf := vf) (wf := wf) (sf := sf) (uf := uf) (im := im) (jm := jm) (k := k) (g := g) (pe := (.ref Ep)) (pm := (.int mp)) (ge := (.ref E)) (gm := (.int mc)) (q := np) (tf := tf) (ys := ys) (Y := Y) (Yb := Yb) (n := n) (ch := ch) (f := f) hL hi ln.2 ln.1 rfl hk hk20 hvw hsu him np6 hg24 hY hYB1 hY0 hc (by omega) H0 H1 H2 H400 HY ?_
      rintro l6' l7' l8' l9' h' ⟨Q400, qf, ql, qz⟩
      exact hn _ _ _ _ _ (w.q qf (fun x hx => by simp only [List.mem_cons, List.not_mem_nil, or_false] at hx; omega) Q400 (pO.fr qf (fun x hx => by simp only [List.mem_cons, List.not_mem_nil, or_false] at hx; omega)) (by omega) (by omega) (by omega))
theorem r_1 {L j : Nat} {xs : Nat → Int32} {h : mj_H} {l6 l7 l8 l9 : Option Value} {P : mj_H → Prop} {own : Nat → Nat} {th : Int32} {sd be : Int64} {gs pl ty wa nw nx : Value} {np : Nat} {K : Nat → Nat} {X : Nat → Nat → Nat → Nat} {rz : Nat} (w : wJ own th sd be gs pl ty wa nw nx np K X rz j h) (hL : L ≤ 2048) (hi : 4 * j + 4 ≤ L) (hk : xs (4 * j) &&& nI 63 = nI 1) (hn : ∀ (l6 l7 l8 l9 : Option Value) (g : mj_H), wI (j + 1) g → mj_lrun L xs (28, [some (.retAddr 1), some (.ref 0), some (.ref 400), some (.ref 412), some (.ref 413), some (.int (nI (4 * j + 4))), l6, l7, l8, l9], [], g) P) : mj_lrun L xs (28, [some (.retAddr 1), some (.ref 0), some (.ref 400), some (.ref 412), some (.ref 413), some (.int (nI (4 * j))), l6, l7, l8, l9], [], h) P := by
  obtain ⟨w1, H0, H400, pT, pL, pR, pV, pC, pI, pS, pO, pX, pP, pG, j5, b1, b2⟩ := id w
  have ln := w.len
  have np6 := pL.np
  obtain ⟨⟨ou, H412⟩, od, H413⟩ := id pO
  obtain ⟨k, vf, wf, sf, uf, dp, ca, hk20, H375, H376, H377, H402, H403, H404, hvw, hsu⟩ := pR.w
  obtain ⟨mp, Ep, H38, H401⟩ := pL.w
  obtain ⟨g, E, G, rf, mf, hg24, H393, H394, hls, hGG, hEo⟩ := id pC
  obtain ⟨cap, mc, ef, H410, hEA, hgc, hc31, hE3, hef⟩ := id hls
  obtain ⟨im, jm, IM, H397, H411, hIM, hJM⟩ := id pI
  have him : ∀ i, i < 8 → jm i = im i := fun i hi => by rw [(hIM i hi).1, (hJM i hi).1]
  have hG1 : ∀ i, i < g → rf i = nI (G i) ∧ G i < 24 := fun i hi => ⟨(hGG i hi).1, (hGG i hi).2.1⟩
  have hG2 : ∀ i, i < g → ef i = some (1000138 + G i) ∧ G i < 24 := fun i hi => ⟨(hef i hi).1, (hGG i hi).2.1⟩
  have hGi : ∀ i, i < g → isG (G i) := fun i hi => (hGG i hi).2
  have e1 : mj_CB = 1000000 := rfl
  have HE := rdA_lt hEA
  have hE9 : E = 1000000 ∨ 414 ≤ E ∧ E < h.length ∧ own E = 2 := hE3.elim (fun q => Or.inr (by have o := hEo q.1; have := w1 E (by omega); omega)) (fun q => Or.inl q.1)
  have hE0 : 414 ≤ E := by omega
  have hEN : E < h.length ∨ E = 1000000 := by omega
  have oE : own E = 0 ∨ own E = 2 := hE9.elim (fun q => Or.inl (by
    by_cases z : own E = 0
    · exact z
    · have := w1 E z
      omega)) (fun q => Or.inr q.2.2)
  obtain ⟨n, f, c, Y, rfl, hn60, hf, hPx, hY, hY0, hYo, hYB⟩ := id pT
  obtain ⟨H1, _, hX⟩ := id hPx
  obtain ⟨at_, k0, fp, fs, tm, ins, hR1, ⟨tf, H2, H3, htf⟩, hR3⟩ := id hX
  obtain ⟨⟨hc1, hcf⟩, Yb, ys, HY, hBy⟩ := id hY
  have hYB1 : ∀ (C : Nat) (rs : List Value), mj_rd h Y = some (.inr (21, .ref C :: rs)) → 414 ≤ C := fun C rs r => (hYB C rs r).1
  obtain ⟨yb, hyb, _⟩ := id hBy
  rcases (by omega : c = 0 ∨ c = 1) with rfl | rfl
  · rw [Nat.zero_add, Nat.mul_one] at hyb
    refine w_1_l (i := 4 * j) (N := h.length) (gs := gs) (pl := pl) (ty := (.ref Y)) (wa := wa) (nw := nw) (nx := nx) (dp := dp) (ca := ca) (mf := mf) (th := th) (sd := sd) (be := be) (ou := ou) (vf := vf) (wf := wf) (sf := sf) (uf := uf) (im := im) (jm := jm) (k := k) (g := g) (pe := (.ref Ep)) (pm := (.int mp)) (ge := (.ref E)) (gm := (.int mc)) (q := np) (ys := ys) (Y := Y) (Yb := Yb) (n := n) (yb := yb) hL hi ln.2 ln.1 rfl hk hk20 hvw hsu him np6 hg24 hn60 hY0 (hYB Yb _ HY).1 H0 H1 H2 H400 HY hyb ?_
    rintro l6' l7' l8' l9' h' ⟨Q2, Q400, qf, ql, qz⟩
    have qo : pOu h' := pO.fr qf (fun x hx => by simp only [List.mem_cons, List.not_mem_nil, or_false] at hx; omega)
    have hx0 : ∀ x, x ∈ [2, 400] → (own x = 0 ∧ (x = 2 ∨ x = 400)) ∨ (414 ≤ x ∧ (own x = 0)) := by
      intro x hx
      simp only [List.mem_cons, List.not_mem_nil, or_false] at hx
      rcases hx with q | q
      · rw [q]; exact Or.inl ⟨w1.z (by decide), by decide⟩
      · rw [q]; exact Or.inl ⟨w1.z (by decide), by decide⟩
    have lz : 413 < h'.length := by obtain ⟨_, _, q⟩ := qo; exact rd_len (by decide) q
    have le : h.length ≤ h'.length := fr_len qf (by omega) (fun x hx hlt => by simp only [List.mem_cons, List.not_mem_nil, or_false] at hx; omega)
    have nT : pTy own h' (.ref 1000300) := ⟨0, f, 0, 1000300, rfl, by omega, fun i hi => absurd hi (Nat.not_lt_zero i), ⟨qf _ (by decide) _ H1, by omega, hX.up qf (fun x hx => by simp only [List.mem_cons, List.not_mem_nil, or_false] at hx; omega) ⟨tf, Q2, qf _ (by decide) _ H3, fun i hi => absurd hi (Nat.not_lt_zero i)⟩⟩, yStr_e, by omega, fun q => by omega, fun C rs r => yStr_eB r⟩
    exact hn _ _ _ _ _ ⟨own, _, _, _, gs, pl, _, wa, nw, nx, np, K, X, rz, w1.len le, qf 0 (fun q => by have := hx0 _ q; omega) _ H0, Q400, nT, pL.fr qf (fun x hx => by have := hx0 x hx; omega) (fun _ q => q) (fun a q => by have := (w1 a (by omega)).2; omega) (fun _ q => q), pR.fr qf (fun x hx => by have := hx0 x hx; omega), pV.fr qf (fun x hx => by have := hx0 x hx; omega), pC.fr qf (fun x hx => by have := hx0 x hx; omega) (fun _ q => q), pI.fr qf (fun x hx => by have := hx0 x hx; omega), pS.fr qf (fun x hx => by have := hx0 x hx; omega), qo, pX.fr qf (fun x hx => by have := hx0 x hx; omega), pP.fr qf (fun x hx => by have := hx0 x hx; omega) (fun _ q => q), pG.fr qf (fun x hx => by have := hx0 x hx; omega) (fun _ q => q), by omega, by omega, by omega⟩
  · rw [Nat.mul_comm] at hyb
    refine w_1_u (i := 4 * j) (N := h.length) (gs := gs) (pl := pl) (ty := (.ref Y)) (wa := wa) (nw := nw) (nx := nx) (dp := dp) (ca := ca) (mf := mf) (th := th) (sd := sd) (be := be) (ou := ou) (vf := vf) (wf := wf) (sf := sf) (uf := uf) (im := im) (jm := jm) (k := k) (g := g) (pe := (.ref Ep)) (pm := (.int mp)) (ge := (.ref E)) (gm := (.int mc)) (q := np) (ys := ys) (Y := Y) (Yb := Yb) (n := n) (yb := yb) hL hi ln.2 ln.1 rfl hk hk20 hvw hsu him np6 hg24 hn60 hY0 (hYB Yb _ HY).1 H0 H1 H2 H400 HY hyb ?_
    rintro l6' l7' l8' l9' h' ⟨Q2, Q400, qf, ql, qz⟩
    have qo : pOu h' := pO.fr qf (fun x hx => by simp only [List.mem_cons, List.not_mem_nil, or_false] at hx; omega)
    have hx0 : ∀ x, x ∈ [2, 400] → (own x = 0 ∧ (x = 2 ∨ x = 400)) ∨ (414 ≤ x ∧ (own x = 0)) := by
      intro x hx
      simp only [List.mem_cons, List.not_mem_nil, or_false] at hx
      rcases hx with q | q
      · rw [q]; exact Or.inl ⟨w1.z (by decide), by decide⟩
      · rw [q]; exact Or.inl ⟨w1.z (by decide), by decide⟩
    have lz : 413 < h'.length := by obtain ⟨_, _, q⟩ := qo; exact rd_len (by decide) q
    have le : h.length ≤ h'.length := fr_len qf (by omega) (fun x hx hlt => by simp only [List.mem_cons, List.not_mem_nil, or_false] at hx; omega)
    have nT : pTy own h' (.ref 1000300) := ⟨0, f, 0, 1000300, rfl, by omega, fun i hi => absurd hi (Nat.not_lt_zero i), ⟨qf _ (by decide) _ H1, by omega, hX.up qf (fun x hx => by simp only [List.mem_cons, List.not_mem_nil, or_false] at hx; omega) ⟨tf, Q2, qf _ (by decide) _ H3, fun i hi => absurd hi (Nat.not_lt_zero i)⟩⟩, yStr_e, by omega, fun q => by omega, fun C rs r => yStr_eB r⟩
    exact hn _ _ _ _ _ ⟨own, _, _, _, gs, pl, _, wa, nw, nx, np, K, X, rz, w1.len le, qf 0 (fun q => by have := hx0 _ q; omega) _ H0, Q400, nT, pL.fr qf (fun x hx => by have := hx0 x hx; omega) (fun _ q => q) (fun a q => by have := (w1 a (by omega)).2; omega) (fun _ q => q), pR.fr qf (fun x hx => by have := hx0 x hx; omega), pV.fr qf (fun x hx => by have := hx0 x hx; omega), pC.fr qf (fun x hx => by have := hx0 x hx; omega) (fun _ q => q), pI.fr qf (fun x hx => by have := hx0 x hx; omega), pS.fr qf (fun x hx => by have := hx0 x hx; omega), qo, pX.fr qf (fun x hx => by have := hx0 x hx; omega), pP.fr qf (fun x hx => by have := hx0 x hx; omega) (fun _ q => q), pG.fr qf (fun x hx => by have := hx0 x hx; omega) (fun _ q => q), by omega, by omega, by omega⟩
theorem r_29 {L j : Nat} {xs : Nat → Int32} {h : mj_H} {l6 l7 l8 l9 : Option Value} {P : mj_H → Prop} {own : Nat → Nat} {th : Int32} {sd be : Int64} {gs pl ty wa nw nx : Value} {np : Nat} {K : Nat → Nat} {X : Nat → Nat → Nat → Nat} {rz : Nat} (w : wJ own th sd be gs pl ty wa nw nx np K X rz j h) (hL : L ≤ 2048) (hi : 4 * j + 4 ≤ L) (hk : xs (4 * j) &&& nI 63 = nI 29) (hn : ∀ (l6 l7 l8 l9 : Option Value) (g : mj_H), wI (j + 1) g → mj_lrun L xs (28, [some (.retAddr 1), some (.ref 0), some (.ref 400), some (.ref 412), some (.ref 413), some (.int (nI (4 * j + 4))), l6, l7, l8, l9], [], g) P) : mj_lrun L xs (28, [some (.retAddr 1), some (.ref 0), some (.ref 400), some (.ref 412), some (.ref 413), some (.int (nI (4 * j))), l6, l7, l8, l9], [], h) P := by
  obtain ⟨w1, H0, H400, pT, pL, pR, pV, pC, pI, pS, pO, pX, pP, pG, j5, b1, b2⟩ := id w
  have ln := w.len
  have np6 := pL.np
  obtain ⟨⟨ou, H412⟩, od, H413⟩ := id pO
  obtain ⟨k, vf, wf, sf, uf, dp, ca, hk20, H375, H376, H377, H402, H403, H404, hvw, hsu⟩ := pR.w
  obtain ⟨mp, Ep, H38, H401⟩ := pL.w
  obtain ⟨g, E, G, rf, mf, hg24, H393, H394, hls, hGG, hEo⟩ := id pC
  obtain ⟨cap, mc, ef, H410, hEA, hgc, hc31, hE3, hef⟩ := id hls
  obtain ⟨im, jm, IM, H397, H411, hIM, hJM⟩ := id pI
  have him : ∀ i, i < 8 → jm i = im i := fun i hi => by rw [(hIM i hi).1, (hJM i hi).1]
  have hG1 : ∀ i, i < g → rf i = nI (G i) ∧ G i < 24 := fun i hi => ⟨(hGG i hi).1, (hGG i hi).2.1⟩
  have hG2 : ∀ i, i < g → ef i = some (1000138 + G i) ∧ G i < 24 := fun i hi => ⟨(hef i hi).1, (hGG i hi).2.1⟩
  have hGi : ∀ i, i < g → isG (G i) := fun i hi => (hGG i hi).2
  have e1 : mj_CB = 1000000 := rfl
  have HE := rdA_lt hEA
  have hE9 : E = 1000000 ∨ 414 ≤ E ∧ E < h.length ∧ own E = 2 := hE3.elim (fun q => Or.inr (by have o := hEo q.1; have := w1 E (by omega); omega)) (fun q => Or.inl q.1)
  have hE0 : 414 ≤ E := by omega
  have hEN : E < h.length ∨ E = 1000000 := by omega
  have oE : own E = 0 ∨ own E = 2 := hE9.elim (fun q => Or.inl (by
    by_cases z : own E = 0
    · exact z
    · have := w1 E z
      omega)) (fun q => Or.inr q.2.2)
  rcases (by omega : (xs (4 * j + 1)).toInt < 0 ∨ 0 ≤ (xs (4 * j + 1)).toInt) with q | q
  · refine w_29_n (i := 4 * j) (N := h.length) (gs := gs) (pl := pl) (ty := ty) (wa := wa) (nw := nw) (nx := nx) (dp := dp) (ca := ca) (mf := mf) (th := th) (sd := sd) (be := be) (ou := ou) (vf := vf) (wf := wf) (sf := sf) (uf := uf) (im := im) (jm := jm) (k := k) (g := g) (pe := (.ref Ep)) (pm := (.int mp)) (ge := (.ref E)) (gm := (.int mc)) (q := np) (rf := rf) (E := E) (cap := cap) (mc := mc) (ef := ef) (G := G) (p := _) hL hi ln.2 ln.1 rfl hk hk20 hvw hsu him np6 hg24 hG1 hE0 hEA hG2 hgc hc31 q rfl H0 H400 ?_
    rintro l6' l7' l8' l9' h' ⟨Q400, qf, ql, qz⟩
    exact hn _ _ _ _ _ (w.q qf (fun x hx => by simp only [List.mem_cons, List.not_mem_nil, or_false] at hx; omega) Q400 (pO.fr qf (fun x hx => by simp only [List.mem_cons, List.not_mem_nil, or_false] at hx; omega)) (by omega) (by omega) (by omega))
  · obtain ⟨l, hlb, hx1⟩ := toI_ex q
    by_cases hl : l < 3
    · rcases (by omega : (xs (4 * j + 2)).toInt < 0 ∨ 0 ≤ (xs (4 * j + 2)).toInt) with q2 | q2
      · refine w_29_ln (i := 4 * j) (N := h.length) (gs := gs) (pl := pl) (ty := ty) (wa := wa) (nw := nw) (nx := nx) (dp := dp) (ca := ca) (mf := mf) (th := th) (sd := sd) (be := be) (ou := ou) (vf := vf) (wf := wf) (sf := sf) (uf := uf) (im := im) (jm := jm) (k := k) (g := g) (pe := (.ref Ep)) (pm := (.int mp)) (ge := (.ref E)) (gm := (.int mc)) (q := np) (rf := rf) (E := E) (cap := cap) (mc := mc) (ef := ef) (G := G) (l := l) (p := _) hL hi ln.2 ln.1 rfl hk hk20 hvw hsu him np6 hg24 hG1 hE0 hEA hG2 hgc hc31 hl q2 hx1 rfl H0 H400 ?_
        rintro l6' l7' l8' l9' h' ⟨Q400, qf, ql, qz⟩
        exact hn _ _ _ _ _ (w.q qf (fun x hx => by simp only [List.mem_cons, List.not_mem_nil, or_false] at hx; omega) Q400 (pO.fr qf (fun x hx => by simp only [List.mem_cons, List.not_mem_nil, or_false] at hx; omega)) (by omega) (by omega) (by omega))
      · obtain ⟨c, hcb, hx2⟩ := toI_ex q2
        by_cases hc : c < 8
        · rcases gate_ok hl hc with hgk | ⟨hgk, hgk2⟩
          · by_cases z : g < 24
            · refine w_29Y (i := 4 * j) (N := h.length) (gs := gs) (pl := pl) (ty := ty) (wa := wa) (nw := nw) (nx := nx) (dp := dp) (ca := ca) (mf := mf) (th := th) (sd := sd) (be := be) (ou := ou) (vf := vf) (wf := wf) (sf := sf) (uf := uf) (im := im) (jm := jm) (k := k) (g := g) (pe := (.ref Ep)) (pm := (.int mp)) (ge := (.ref E)) (gm := (.int mc)) (q := np) (rf := rf) (E := E) (cap := cap) (mc := mc) (ef := ef) (G := G) (l := l) (c := c) hL hi ln.2 ln.1 rfl hk hk20 hvw hsu him np6 hg24 hG1 hE0 hEN hEA hG2 hgc hc31 hE3 hl hc hgk.1 hgk.2.1 z hx1 hx2 H0 H393 H394 H400 H410 H412 ?_
              rintro l6' l7' l8' l9' h' ⟨Q393, Q394, Q400, Q412, X0, qf, ql, qz⟩
              have qo : pOu h' := pO.f2 qf (fun x hx => by simp only [List.mem_cons, List.not_mem_nil, or_false] at hx; omega) ⟨_, Q412⟩
              have hx0 : ∀ x, x ∈ [393, 394, 400, 410, 412, E] → (own x = 0 ∧ (x = 393 ∨ x = 394 ∨ x = 400 ∨ x = 410 ∨ x = 412)) ∨ (414 ≤ x ∧ (own x = 0 ∨ own x = 2)) := by
                intro x hx
                simp only [List.mem_cons, List.not_mem_nil, or_false] at hx
                rcases hx with q | q | q | q | q | q
                · rw [q]; exact Or.inl ⟨w1.z (by decide), by decide⟩
                · rw [q]; exact Or.inl ⟨w1.z (by decide), by decide⟩
                · rw [q]; exact Or.inl ⟨w1.z (by decide), by decide⟩
                · rw [q]; exact Or.inl ⟨w1.z (by decide), by decide⟩
                · rw [q]; exact Or.inl ⟨w1.z (by decide), by decide⟩
                · rw [q]; exact Or.inr ⟨hE0, oE⟩
              have lz : 413 < h'.length := by obtain ⟨_, _, q⟩ := qo; exact rd_len (by decide) q
              obtain ⟨E', y1, y2, y3⟩ := X0
              have lE : E < mj_CB → E < h'.length := fun q => by
                rcases y2 with y2 | y2
                · rcases (ls_len y1).2 with z | z
                  · omega
                  · omega
                · rcases (ls_len y1).2 with z | z <;> omega
              have le : h.length ≤ h'.length := fr_len qf (by omega) (fun x hx hlt => by simp only [List.mem_cons, List.not_mem_nil, or_false] at hx; omega)
              have hP : ∀ a, a = E' ∧ h.length ≤ a → h.length ≤ a ∧ a < h'.length := fun a q => by
                rcases (ls_len y1).2 with z | z <;> omega
              obtain ⟨own', w2, hk1, hnew⟩ := recolW w1 ln.1 le (fun a => a = E' ∧ h.length ≤ a) 2 hP
              have nC : pCi own' h' := ⟨g + 1, E', upN G g (8 * l + c), _, mf, by omega, Q393, Q394, by rw [← gI_up]; exact y1, fun i hi => ⟨upd_r (fun i hi => (hGG i hi).1) i hi, isG_up hGi hgk.2.2 i hi⟩, fun q => by
                rcases y2 with y2 | y2
                · rw [y2] at q ⊢
                  have := hEo q
                  rw [hk1 E (by omega)]
                  exact this
                · exact hnew _ ⟨rfl, by omega⟩⟩
              exact hn _ _ _ _ _ ⟨own', _, _, _, gs, pl, _, wa, nw, nx, np, K, X, rz, w2, qf 0 (fun q => by have := hx0 _ q; omega) _ H0, Q400, pT.fr qf (fun x hx => by have := hx0 x hx; omega) (fun a q => (hk1 a (by omega)).trans q), pL.fr qf (fun x hx => by have := hx0 x hx; omega) (fun a q => (hk1 a (by omega)).trans q) (fun a q => by have := (w2 a (by omega)).2; omega) (fun a q => (hk1 a (by omega)).trans q), pR.fr qf (fun x hx => by have := hx0 x hx; omega), pV.fr qf (fun x hx => by have := hx0 x hx; omega), nC, pI.fr qf (fun x hx => by have := hx0 x hx; omega), pS.fr qf (fun x hx => by have := hx0 x hx; omega), qo, pX.fr qf (fun x hx => by have := hx0 x hx; omega), pP.fr qf (fun x hx => by have := hx0 x hx; omega) (fun a q => (hk1 a (by omega)).trans q), pG.fr qf (fun x hx => by have := hx0 x hx; omega) (fun a q => (hk1 a (by omega)).trans q), by omega, by omega, by omega⟩
            · obtain rfl : g = 24 := by omega
              refine w_29_f (i := 4 * j) (N := h.length) (gs := gs) (pl := pl) (ty := ty) (wa := wa) (nw := nw) (nx := nx) (dp := dp) (ca := ca) (mf := mf) (th := th) (sd := sd) (be := be) (ou := ou) (vf := vf) (wf := wf) (sf := sf) (uf := uf) (im := im) (jm := jm) (k := k) (g := 24) (pe := (.ref Ep)) (pm := (.int mp)) (ge := (.ref E)) (gm := (.int mc)) (q := np) (rf := rf) (E := E) (cap := cap) (mc := mc) (ef := ef) (G := G) (l := l) (c := c) hL hi ln.2 ln.1 rfl hk hk20 hvw hsu him np6 hg24 hG1 hE0 hEA hG2 hgc hc31 hl hc hgk.1 hgk.2.1 hx1 hx2 H0 H393 H400 H410 ?_
              rintro l6' l7' l8' l9' h' ⟨Q400, qf, ql, qz⟩
              exact hn _ _ _ _ _ (w.q qf (fun x hx => by simp only [List.mem_cons, List.not_mem_nil, or_false] at hx; omega) Q400 (pO.fr qf (fun x hx => by simp only [List.mem_cons, List.not_mem_nil, or_false] at hx; omega)) (by omega) (by omega) (by omega))
          · refine w_29_lc (i := 4 * j) (N := h.length) (gs := gs) (pl := pl) (ty := ty) (wa := wa) (nw := nw) (nx := nx) (dp := dp) (ca := ca) (mf := mf) (th := th) (sd := sd) (be := be) (ou := ou) (vf := vf) (wf := wf) (sf := sf) (uf := uf) (im := im) (jm := jm) (k := k) (g := g) (pe := (.ref Ep)) (pm := (.int mp)) (ge := (.ref E)) (gm := (.int mc)) (q := np) (rf := rf) (E := E) (cap := cap) (mc := mc) (ef := ef) (G := G) (l := l) (c := c) (w1 := _) hL hi ln.2 ln.1 rfl hk hk20 hvw hsu him np6 hg24 hG1 hE0 hEA hG2 hgc hc31 hl hc hgk rfl hgk2 hx1 hx2 H0 H400 ?_
            rintro l6' l7' l8' l9' h' ⟨Q400, qf, ql, qz⟩
            exact hn _ _ _ _ _ (w.q qf (fun x hx => by simp only [List.mem_cons, List.not_mem_nil, or_false] at hx; omega) Q400 (pO.fr qf (fun x hx => by simp only [List.mem_cons, List.not_mem_nil, or_false] at hx; omega)) (by omega) (by omega) (by omega))
        · refine w_29_lm (i := 4 * j) (N := h.length) (gs := gs) (pl := pl) (ty := ty) (wa := wa) (nw := nw) (nx := nx) (dp := dp) (ca := ca) (mf := mf) (th := th) (sd := sd) (be := be) (ou := ou) (vf := vf) (wf := wf) (sf := sf) (uf := uf) (im := im) (jm := jm) (k := k) (g := g) (pe := (.ref Ep)) (pm := (.int mp)) (ge := (.ref E)) (gm := (.int mc)) (q := np) (rf := rf) (E := E) (cap := cap) (mc := mc) (ef := ef) (G := G) (l := l) (p := _) hL hi ln.2 ln.1 rfl hk hk20 hvw hsu him np6 hg24 hG1 hE0 hEA hG2 hgc hc31 hl (by rw [hx2, mI_ti hcb]; omega) hx1 rfl H0 H400 ?_
          rintro l6' l7' l8' l9' h' ⟨Q400, qf, ql, qz⟩
          exact hn _ _ _ _ _ (w.q qf (fun x hx => by simp only [List.mem_cons, List.not_mem_nil, or_false] at hx; omega) Q400 (pO.fr qf (fun x hx => by simp only [List.mem_cons, List.not_mem_nil, or_false] at hx; omega)) (by omega) (by omega) (by omega))
    · refine w_29_m (i := 4 * j) (N := h.length) (gs := gs) (pl := pl) (ty := ty) (wa := wa) (nw := nw) (nx := nx) (dp := dp) (ca := ca) (mf := mf) (th := th) (sd := sd) (be := be) (ou := ou) (vf := vf) (wf := wf) (sf := sf) (uf := uf) (im := im) (jm := jm) (k := k) (g := g) (pe := (.ref Ep)) (pm := (.int mp)) (ge := (.ref E)) (gm := (.int mc)) (q := np) (rf := rf) (E := E) (cap := cap) (mc := mc) (ef := ef) (G := G) (p := _) hL hi ln.2 ln.1 rfl hk hk20 hvw hsu him np6 hg24 hG1 hE0 hEA hG2 hgc hc31 (by rw [hx1, mI_ti hlb]; omega) rfl H0 H400 ?_
      rintro l6' l7' l8' l9' h' ⟨Q400, qf, ql, qz⟩
      exact hn _ _ _ _ _ (w.q qf (fun x hx => by simp only [List.mem_cons, List.not_mem_nil, or_false] at hx; omega) Q400 (pO.fr qf (fun x hx => by simp only [List.mem_cons, List.not_mem_nil, or_false] at hx; omega)) (by omega) (by omega) (by omega))
theorem r_30 {L j : Nat} {xs : Nat → Int32} {h : mj_H} {l6 l7 l8 l9 : Option Value} {P : mj_H → Prop} {own : Nat → Nat} {th : Int32} {sd be : Int64} {gs pl ty wa nw nx : Value} {np : Nat} {K : Nat → Nat} {X : Nat → Nat → Nat → Nat} {rz : Nat} (w : wJ own th sd be gs pl ty wa nw nx np K X rz j h) (hL : L ≤ 2048) (hi : 4 * j + 4 ≤ L) (hk : xs (4 * j) &&& nI 63 = nI 30) (hn : ∀ (l6 l7 l8 l9 : Option Value) (g : mj_H), wI (j + 1) g → mj_lrun L xs (28, [some (.retAddr 1), some (.ref 0), some (.ref 400), some (.ref 412), some (.ref 413), some (.int (nI (4 * j + 4))), l6, l7, l8, l9], [], g) P) : mj_lrun L xs (28, [some (.retAddr 1), some (.ref 0), some (.ref 400), some (.ref 412), some (.ref 413), some (.int (nI (4 * j))), l6, l7, l8, l9], [], h) P := by
  obtain ⟨w1, H0, H400, pT, pL, pR, pV, pC, pI, pS, pO, pX, pP, pG, j5, b1, b2⟩ := id w
  have ln := w.len
  have np6 := pL.np
  obtain ⟨⟨ou, H412⟩, od, H413⟩ := id pO
  obtain ⟨k, vf, wf, sf, uf, dp, ca, hk20, H375, H376, H377, H402, H403, H404, hvw, hsu⟩ := pR.w
  obtain ⟨mp, Ep, H38, H401⟩ := pL.w
  obtain ⟨g, E, G, rf, mf, hg24, H393, H394, hls, hGG, hEo⟩ := id pC
  obtain ⟨cap, mc, ef, H410, hEA, hgc, hc31, hE3, hef⟩ := id hls
  obtain ⟨im, jm, IM, H397, H411, hIM, hJM⟩ := id pI
  have him : ∀ i, i < 8 → jm i = im i := fun i hi => by rw [(hIM i hi).1, (hJM i hi).1]
  have hG1 : ∀ i, i < g → rf i = nI (G i) ∧ G i < 24 := fun i hi => ⟨(hGG i hi).1, (hGG i hi).2.1⟩
  have hG2 : ∀ i, i < g → ef i = some (1000138 + G i) ∧ G i < 24 := fun i hi => ⟨(hef i hi).1, (hGG i hi).2.1⟩
  have hGi : ∀ i, i < g → isG (G i) := fun i hi => (hGG i hi).2
  have e1 : mj_CB = 1000000 := rfl
  have HE := rdA_lt hEA
  have hE9 : E = 1000000 ∨ 414 ≤ E ∧ E < h.length ∧ own E = 2 := hE3.elim (fun q => Or.inr (by have o := hEo q.1; have := w1 E (by omega); omega)) (fun q => Or.inl q.1)
  have hE0 : 414 ≤ E := by omega
  have hEN : E < h.length ∨ E = 1000000 := by omega
  have oE : own E = 0 ∨ own E = 2 := hE9.elim (fun q => Or.inl (by
    by_cases z : own E = 0
    · exact z
    · have := w1 E z
      omega)) (fun q => Or.inr q.2.2)
  by_cases z : g = 0
  · subst z
    refine w_30_z (i := 4 * j) (N := h.length) (gs := gs) (pl := pl) (ty := ty) (wa := wa) (nw := nw) (nx := nx) (dp := dp) (ca := ca) (mf := mf) (th := th) (sd := sd) (be := be) (ou := ou) (vf := vf) (wf := wf) (sf := sf) (uf := uf) (im := im) (jm := jm) (k := k) (g := 0) (pe := (.ref Ep)) (pm := (.int mp)) (ge := (.ref E)) (gm := (.int mc)) (q := np) (rf := rf) (E := E) (cap := cap) (mc := mc) (ef := ef) (G := G) hL hi ln.2 ln.1 rfl hk hk20 hvw hsu him np6 hg24 hG1 hE0 hEA hG2 hgc hc31 H0 H393 H400 H410 ?_
    rintro l6' l7' l8' l9' h' ⟨Q400, qf, ql, qz⟩
    exact hn _ _ _ _ _ (w.q qf (fun x hx => by simp only [List.mem_cons, List.not_mem_nil, or_false] at hx; omega) Q400 (pO.fr qf (fun x hx => by simp only [List.mem_cons, List.not_mem_nil, or_false] at hx; omega)) (by omega) (by omega) (by omega))
  · refine w_30 (i := 4 * j) (N := h.length) (gs := gs) (pl := pl) (ty := ty) (wa := wa) (nw := nw) (nx := nx) (dp := dp) (ca := ca) (mf := mf) (th := th) (sd := sd) (be := be) (ou := ou) (vf := vf) (wf := wf) (sf := sf) (uf := uf) (im := im) (jm := jm) (k := k) (g := g) (pe := (.ref Ep)) (pm := (.int mp)) (ge := (.ref E)) (gm := (.int mc)) (q := np) (rf := rf) (E := E) (cap := cap) (mc := mc) (ef := ef) (G := G) hL hi ln.2 ln.1 rfl hk hk20 hvw hsu him np6 hg24 hG1 ⟨hE0, by omega⟩ hG2 hgc hc31 (by omega) H0 H393 H394 H400 H410 H412 HE ?_
    rintro l6' l7' l8' l9' h' ⟨Q393, Q400, Q410, Q412, QE, qf, ql, qz⟩
    have qo : pOu h' := pO.f2 qf (fun x hx => by simp only [List.mem_cons, List.not_mem_nil, or_false] at hx; omega) ⟨_, Q412⟩
    have hx0 : ∀ x, x ∈ [393, 400, 410, 412, E] → (own x = 0 ∧ (x = 393 ∨ x = 400 ∨ x = 410 ∨ x = 412)) ∨ (414 ≤ x ∧ (own x = 0 ∨ own x = 2)) := by
      intro x hx
      simp only [List.mem_cons, List.not_mem_nil, or_false] at hx
      rcases hx with q | q | q | q | q
      · rw [q]; exact Or.inl ⟨w1.z (by decide), by decide⟩
      · rw [q]; exact Or.inl ⟨w1.z (by decide), by decide⟩
      · rw [q]; exact Or.inl ⟨w1.z (by decide), by decide⟩
      · rw [q]; exact Or.inl ⟨w1.z (by decide), by decide⟩
      · rw [q]; exact Or.inr ⟨hE0, oE⟩
    have lz : 413 < h'.length := by obtain ⟨_, _, q⟩ := qo; exact rd_len (by decide) q
    have lE : E < mj_CB → E < h'.length := fun q => rd_len q QE
    have le : h.length ≤ h'.length := fr_len qf (by omega) (fun x hx hlt => by simp only [List.mem_cons, List.not_mem_nil, or_false] at hx; omega)
    have nC : pCi own h' := ⟨g - 1, E, G, rf, mf, by omega, Q393, qf 394 (by simp; omega) _ H394, ⟨cap, _, _, Q410, mj_rdA_is QE (by decide), by omega, hc31, hE3, fun i hi => ⟨by
        unfold va_up
        rw [if_neg (by omega)]
        exact (hG2 i (by omega)).1, gE_k _ (hG2 i (by omega)).2⟩⟩, fun i hi => hGG i (by omega), hEo⟩
    exact hn _ _ _ _ _ ⟨own, _, _, _, gs, pl, _, wa, nw, nx, np, K, X, rz, w1.len le, qf 0 (fun q => by have := hx0 _ q; omega) _ H0, Q400, pT.fr qf (fun x hx => by have := hx0 x hx; omega) (fun _ q => q), pL.fr qf (fun x hx => by have := hx0 x hx; omega) (fun _ q => q) (fun a q => by have := (w1 a (by omega)).2; omega) (fun _ q => q), pR.fr qf (fun x hx => by have := hx0 x hx; omega), pV.fr qf (fun x hx => by have := hx0 x hx; omega), nC, pI.fr qf (fun x hx => by have := hx0 x hx; omega), pS.fr qf (fun x hx => by have := hx0 x hx; omega), qo, pX.fr qf (fun x hx => by have := hx0 x hx; omega), pP.fr qf (fun x hx => by have := hx0 x hx; omega) (fun _ q => q), pG.fr qf (fun x hx => by have := hx0 x hx; omega) (fun _ q => q), by omega, by omega, by omega⟩
theorem r_34 {L j : Nat} {xs : Nat → Int32} {h : mj_H} {l6 l7 l8 l9 : Option Value} {P : mj_H → Prop} {own : Nat → Nat} {th : Int32} {sd be : Int64} {gs pl ty wa nw nx : Value} {np : Nat} {K : Nat → Nat} {X : Nat → Nat → Nat → Nat} {rz : Nat} (w : wJ own th sd be gs pl ty wa nw nx np K X rz j h) (hL : L ≤ 2048) (hi : 4 * j + 4 ≤ L) (hk : xs (4 * j) &&& nI 63 = nI 34) (hn : ∀ (l6 l7 l8 l9 : Option Value) (g : mj_H), wI (j + 1) g → mj_lrun L xs (28, [some (.retAddr 1), some (.ref 0), some (.ref 400), some (.ref 412), some (.ref 413), some (.int (nI (4 * j + 4))), l6, l7, l8, l9], [], g) P) : mj_lrun L xs (28, [some (.retAddr 1), some (.ref 0), some (.ref 400), some (.ref 412), some (.ref 413), some (.int (nI (4 * j))), l6, l7, l8, l9], [], h) P := by
  obtain ⟨w1, H0, H400, pT, pL, pR, pV, pC, pI, pS, pO, pX, pP, pG, j5, b1, b2⟩ := id w
  have ln := w.len
  have np6 := pL.np
  obtain ⟨⟨ou, H412⟩, od, H413⟩ := id pO
  obtain ⟨k, vf, wf, sf, uf, dp, ca, hk20, H375, H376, H377, H402, H403, H404, hvw, hsu⟩ := pR.w
  obtain ⟨mp, Ep, H38, H401⟩ := pL.w
  obtain ⟨g, E, G, rf, mf, hg24, H393, H394, hls, hGG, hEo⟩ := id pC
  obtain ⟨cap, mc, ef, H410, hEA, hgc, hc31, hE3, hef⟩ := id hls
  obtain ⟨im, jm, IM, H397, H411, hIM, hJM⟩ := id pI
  have him : ∀ i, i < 8 → jm i = im i := fun i hi => by rw [(hIM i hi).1, (hJM i hi).1]
  have hG1 : ∀ i, i < g → rf i = nI (G i) ∧ G i < 24 := fun i hi => ⟨(hGG i hi).1, (hGG i hi).2.1⟩
  have hG2 : ∀ i, i < g → ef i = some (1000138 + G i) ∧ G i < 24 := fun i hi => ⟨(hef i hi).1, (hGG i hi).2.1⟩
  have hGi : ∀ i, i < g → isG (G i) := fun i hi => (hGG i hi).2
  have e1 : mj_CB = 1000000 := rfl
  have HE := rdA_lt hEA
  have hE9 : E = 1000000 ∨ 414 ≤ E ∧ E < h.length ∧ own E = 2 := hE3.elim (fun q => Or.inr (by have o := hEo q.1; have := w1 E (by omega); omega)) (fun q => Or.inl q.1)
  have hE0 : 414 ≤ E := by omega
  have hEN : E < h.length ∨ E = 1000000 := by omega
  have oE : own E = 0 ∨ own E = 2 := hE9.elim (fun q => Or.inl (by
    by_cases z : own E = 0
    · exact z
    · have := w1 E z
      omega)) (fun q => Or.inr q.2.2)
  refine w_34 (i := 4 * j) (N := h.length) (gs := gs) (pl := pl) (ty := ty) (wa := wa) (nw := nw) (nx := nx) (dp := dp) (ca := ca) (mf := mf) (th := th) (sd := sd) (be := be) (ou := ou) (vf := vf) (wf := wf) (sf := sf) (uf := uf) (im := im) (jm := jm) (k := k) (g := g) (pe := (.ref Ep)) (pm := (.int mp)) (ge := (.ref E)) (gm := (.int mc)) (q := np) (rf := rf) (E := E) (cap := cap) (mc := mc) (ef := ef) (G := G) hL hi ln.2 ln.1 rfl hk hk20 hvw hsu him np6 hg24 hG1 hE0 hEN hEA hG2 hgc hc31 hE3 H0 H393 H394 H400 H410 ?_
  rintro l6' l7' l8' l9' h' ⟨Q394, Q400, X0, qf, ql, qz⟩
  obtain ⟨mc2, ef2, q410, qEA, hef2⟩ := X0
  have qo : pOu h' := pO.fr qf (fun x hx => by simp only [List.mem_cons, List.not_mem_nil, or_false] at hx; omega)
  have hx0 : ∀ x, x ∈ [394, 400, 410, E] → (own x = 0 ∧ (x = 394 ∨ x = 400 ∨ x = 410)) ∨ (414 ≤ x ∧ (own x = 0 ∨ own x = 2)) := by
    intro x hx
    simp only [List.mem_cons, List.not_mem_nil, or_false] at hx
    rcases hx with q | q | q | q
    · rw [q]; exact Or.inl ⟨w1.z (by decide), by decide⟩
    · rw [q]; exact Or.inl ⟨w1.z (by decide), by decide⟩
    · rw [q]; exact Or.inl ⟨w1.z (by decide), by decide⟩
    · rw [q]; exact Or.inr ⟨hE0, oE⟩
  have lz : 413 < h'.length := by obtain ⟨_, _, q⟩ := qo; exact rd_len (by decide) q
  have lE : E < mj_CB → E < h'.length := fun q => rd_len q (rdA_lt qEA)
  have le : h.length ≤ h'.length := fr_len qf (by omega) (fun x hx hlt => by simp only [List.mem_cons, List.not_mem_nil, or_false] at hx; omega)
  have nC : pCi own h' := ⟨g, E, fun i => G (g - 1 - i), _, mf, hg24, qf 393 (by simp; omega) _ H393, Q394, ⟨cap, mc2, ef2, q410, qEA, hgc, hc31, hE3, fun i hi => ⟨hef2 i hi, gE_k _ (hG1 (g - 1 - i) (by omega)).2⟩⟩, fun i hi => ⟨by
      unfold rvF
      rw [if_pos hi]
      exact (hG1 (g - 1 - i) (by omega)).1, hGi (g - 1 - i) (by omega)⟩, hEo⟩
  exact hn _ _ _ _ _ ⟨own, _, _, _, gs, pl, _, wa, nw, nx, np, K, X, rz, w1.len le, qf 0 (fun q => by have := hx0 _ q; omega) _ H0, Q400, pT.fr qf (fun x hx => by have := hx0 x hx; omega) (fun _ q => q), pL.fr qf (fun x hx => by have := hx0 x hx; omega) (fun _ q => q) (fun a q => by have := (w1 a (by omega)).2; omega) (fun _ q => q), pR.fr qf (fun x hx => by have := hx0 x hx; omega), pV.fr qf (fun x hx => by have := hx0 x hx; omega), nC, pI.fr qf (fun x hx => by have := hx0 x hx; omega), pS.fr qf (fun x hx => by have := hx0 x hx; omega), qo, pX.fr qf (fun x hx => by have := hx0 x hx; omega), pP.fr qf (fun x hx => by have := hx0 x hx; omega) (fun _ q => q), pG.fr qf (fun x hx => by have := hx0 x hx; omega) (fun _ q => q), by omega, by omega, by omega⟩
theorem r_35 {L j : Nat} {xs : Nat → Int32} {h : mj_H} {l6 l7 l8 l9 : Option Value} {P : mj_H → Prop} {own : Nat → Nat} {th : Int32} {sd be : Int64} {gs pl ty wa nw nx : Value} {np : Nat} {K : Nat → Nat} {X : Nat → Nat → Nat → Nat} {rz : Nat} (w : wJ own th sd be gs pl ty wa nw nx np K X rz j h) (hL : L ≤ 2048) (hi : 4 * j + 4 ≤ L) (hk : xs (4 * j) &&& nI 63 = nI 35) (hn : ∀ (l6 l7 l8 l9 : Option Value) (g : mj_H), wI (j + 1) g → mj_lrun L xs (28, [some (.retAddr 1), some (.ref 0), some (.ref 400), some (.ref 412), some (.ref 413), some (.int (nI (4 * j + 4))), l6, l7, l8, l9], [], g) P) : mj_lrun L xs (28, [some (.retAddr 1), some (.ref 0), some (.ref 400), some (.ref 412), some (.ref 413), some (.int (nI (4 * j))), l6, l7, l8, l9], [], h) P := by
  obtain ⟨w1, H0, H400, pT, pL, pR, pV, pC, pI, pS, pO, pX, pP, pG, j5, b1, b2⟩ := id w
  have ln := w.len
  have np6 := pL.np
  obtain ⟨⟨ou, H412⟩, od, H413⟩ := id pO
  obtain ⟨k, vf, wf, sf, uf, dp, ca, hk20, H375, H376, H377, H402, H403, H404, hvw, hsu⟩ := pR.w
  obtain ⟨mp, Ep, H38, H401⟩ := pL.w
  obtain ⟨g, E, G, rf, mf, hg24, H393, H394, hls, hGG, hEo⟩ := id pC
  obtain ⟨cap, mc, ef, H410, hEA, hgc, hc31, hE3, hef⟩ := id hls
  obtain ⟨im, jm, IM, H397, H411, hIM, hJM⟩ := id pI
  have him : ∀ i, i < 8 → jm i = im i := fun i hi => by rw [(hIM i hi).1, (hJM i hi).1]
  have hG1 : ∀ i, i < g → rf i = nI (G i) ∧ G i < 24 := fun i hi => ⟨(hGG i hi).1, (hGG i hi).2.1⟩
  have hG2 : ∀ i, i < g → ef i = some (1000138 + G i) ∧ G i < 24 := fun i hi => ⟨(hef i hi).1, (hGG i hi).2.1⟩
  have hGi : ∀ i, i < g → isG (G i) := fun i hi => (hGG i hi).2
  have e1 : mj_CB = 1000000 := rfl
  have HE := rdA_lt hEA
  have hE9 : E = 1000000 ∨ 414 ≤ E ∧ E < h.length ∧ own E = 2 := hE3.elim (fun q => Or.inr (by have o := hEo q.1; have := w1 E (by omega); omega)) (fun q => Or.inl q.1)
  have hE0 : 414 ≤ E := by omega
  have hEN : E < h.length ∨ E = 1000000 := by omega
  have oE : own E = 0 ∨ own E = 2 := hE9.elim (fun q => Or.inl (by
    by_cases z : own E = 0
    · exact z
    · have := w1 E z
      omega)) (fun q => Or.inr q.2.2)
  refine w_35 (i := 4 * j) (N := h.length) (gs := gs) (pl := pl) (ty := ty) (wa := wa) (nw := nw) (nx := nx) (dp := dp) (ca := ca) (mf := mf) (th := th) (sd := sd) (be := be) (ou := ou) (vf := vf) (wf := wf) (sf := sf) (uf := uf) (im := im) (jm := jm) (k := k) (g := g) (pe := (.ref Ep)) (pm := (.int mp)) (ge := (.ref E)) (gm := (.int mc)) (q := np) (rf := rf) (E := E) (cap := cap) (mc := mc) (ef := ef) (G := G) hL hi ln.2 ln.1 rfl hk hk20 hvw hsu him np6 hg24 hG1 hE0 hEN hEA hG2 hgc hc31 hE3 H0 H393 H394 H400 H410 ?_
  rintro l6' l7' l8' l9' h' ⟨Q393, Q400, X0, X1, qf, ql, qz⟩
  obtain ⟨rf2, q394, hrf2⟩ := X0
  have hsm := smp_in (T := isG) 12 G g hGi
  obtain ⟨cap2, mc2, ef2, q410, qEA, _⟩ := id X1
  have qo : pOu h' := pO.fr qf (fun x hx => by simp only [List.mem_cons, List.not_mem_nil, or_false] at hx; omega)
  have hx0 : ∀ x, x ∈ [393, 394, 400, 410, E] → (own x = 0 ∧ (x = 393 ∨ x = 394 ∨ x = 400 ∨ x = 410)) ∨ (414 ≤ x ∧ (own x = 0 ∨ own x = 2)) := by
    intro x hx
    simp only [List.mem_cons, List.not_mem_nil, or_false] at hx
    rcases hx with q | q | q | q | q
    · rw [q]; exact Or.inl ⟨w1.z (by decide), by decide⟩
    · rw [q]; exact Or.inl ⟨w1.z (by decide), by decide⟩
    · rw [q]; exact Or.inl ⟨w1.z (by decide), by decide⟩
    · rw [q]; exact Or.inl ⟨w1.z (by decide), by decide⟩
    · rw [q]; exact Or.inr ⟨hE0, oE⟩
  have lz : 413 < h'.length := by obtain ⟨_, _, q⟩ := qo; exact rd_len (by decide) q
  have lE : E < mj_CB → E < h'.length := fun q => rd_len q (rdA_lt qEA)
  have le : h.length ≤ h'.length := fr_len qf (by omega) (fun x hx hlt => by simp only [List.mem_cons, List.not_mem_nil, or_false] at hx; omega)
  have nC : pCi own h' := ⟨(smp 12 G g).2, E, (smp 12 G g).1, rf2, mf, by omega, Q393, q394, X1, fun i hi => ⟨(hrf2 i hi).1, hsm.2 i hi⟩, hEo⟩
  exact hn _ _ _ _ _ ⟨own, _, _, _, gs, pl, _, wa, nw, nx, np, K, X, rz, w1.len le, qf 0 (fun q => by have := hx0 _ q; omega) _ H0, Q400, pT.fr qf (fun x hx => by have := hx0 x hx; omega) (fun _ q => q), pL.fr qf (fun x hx => by have := hx0 x hx; omega) (fun _ q => q) (fun a q => by have := (w1 a (by omega)).2; omega) (fun _ q => q), pR.fr qf (fun x hx => by have := hx0 x hx; omega), pV.fr qf (fun x hx => by have := hx0 x hx; omega), nC, pI.fr qf (fun x hx => by have := hx0 x hx; omega), pS.fr qf (fun x hx => by have := hx0 x hx; omega), qo, pX.fr qf (fun x hx => by have := hx0 x hx; omega), pP.fr qf (fun x hx => by have := hx0 x hx; omega) (fun _ q => q), pG.fr qf (fun x hx => by have := hx0 x hx; omega) (fun _ q => q), by omega, by omega, by omega⟩
theorem r_36 {L j : Nat} {xs : Nat → Int32} {h : mj_H} {l6 l7 l8 l9 : Option Value} {P : mj_H → Prop} {own : Nat → Nat} {th : Int32} {sd be : Int64} {gs pl ty wa nw nx : Value} {np : Nat} {K : Nat → Nat} {X : Nat → Nat → Nat → Nat} {rz : Nat} (w : wJ own th sd be gs pl ty wa nw nx np K X rz j h) (hL : L ≤ 2048) (hi : 4 * j + 4 ≤ L) (hk : xs (4 * j) &&& nI 63 = nI 36) (hn : ∀ (l6 l7 l8 l9 : Option Value) (g : mj_H), wI (j + 1) g → mj_lrun L xs (28, [some (.retAddr 1), some (.ref 0), some (.ref 400), some (.ref 412), some (.ref 413), some (.int (nI (4 * j + 4))), l6, l7, l8, l9], [], g) P) : mj_lrun L xs (28, [some (.retAddr 1), some (.ref 0), some (.ref 400), some (.ref 412), some (.ref 413), some (.int (nI (4 * j))), l6, l7, l8, l9], [], h) P := by
  obtain ⟨w1, H0, H400, pT, pL, pR, pV, pC, pI, pS, pO, pX, pP, pG, j5, b1, b2⟩ := id w
  have ln := w.len
  have np6 := pL.np
  obtain ⟨⟨ou, H412⟩, od, H413⟩ := id pO
  obtain ⟨k, vf, wf, sf, uf, dp, ca, hk20, H375, H376, H377, H402, H403, H404, hvw, hsu⟩ := pR.w
  obtain ⟨mp, Ep, H38, H401⟩ := pL.w
  obtain ⟨g, E, G, rf, mf, hg24, H393, H394, hls, hGG, hEo⟩ := id pC
  obtain ⟨cap, mc, ef, H410, hEA, hgc, hc31, hE3, hef⟩ := id hls
  obtain ⟨im, jm, IM, H397, H411, hIM, hJM⟩ := id pI
  have him : ∀ i, i < 8 → jm i = im i := fun i hi => by rw [(hIM i hi).1, (hJM i hi).1]
  have hG1 : ∀ i, i < g → rf i = nI (G i) ∧ G i < 24 := fun i hi => ⟨(hGG i hi).1, (hGG i hi).2.1⟩
  have hG2 : ∀ i, i < g → ef i = some (1000138 + G i) ∧ G i < 24 := fun i hi => ⟨(hef i hi).1, (hGG i hi).2.1⟩
  have hGi : ∀ i, i < g → isG (G i) := fun i hi => (hGG i hi).2
  have e1 : mj_CB = 1000000 := rfl
  have HE := rdA_lt hEA
  have hE9 : E = 1000000 ∨ 414 ≤ E ∧ E < h.length ∧ own E = 2 := hE3.elim (fun q => Or.inr (by have o := hEo q.1; have := w1 E (by omega); omega)) (fun q => Or.inl q.1)
  have hE0 : 414 ≤ E := by omega
  have hEN : E < h.length ∨ E = 1000000 := by omega
  have oE : own E = 0 ∨ own E = 2 := hE9.elim (fun q => Or.inl (by
    by_cases z : own E = 0
    · exact z
    · have := w1 E z
      omega)) (fun q => Or.inr q.2.2)
  obtain ⟨⟨s1, S1⟩, ⟨s2, S2⟩, ⟨s3, S3⟩, s4, S4⟩ := id pS
  refine w_36 (i := 4 * j) (N := h.length) (gs := gs) (pl := pl) (ty := ty) (wa := wa) (nw := nw) (nx := nx) (dp := dp) (ca := ca) (mf := mf) (th := th) (sd := sd) (be := be) (ou := ou) (vf := vf) (wf := wf) (sf := sf) (uf := uf) (im := im) (jm := jm) (k := k) (g := g) (pe := (.ref Ep)) (pm := (.int mp)) (ge := (.ref E)) (gm := (.int mc)) (q := np) (rf := rf) (E := E) (cap := cap) (mc := mc) (ef := ef) (G := G) (oof := s1) (dmf := s2) hL hi ln.2 ln.1 rfl hk hk20 hvw hsu him np6 hg24 hG1 hE0 hEN hEA hG2 hgc hc31 hE3 H0 H393 H394 S1 S2 H400 H410 ?_
  rintro l6' l7' l8' l9' h' ⟨Q400, X0, qf, ql, qz⟩
  obtain ⟨of1, df1, q393, q395, q396⟩ := X0
  have qo : pOu h' := pO.fr qf (fun x hx => by simp only [List.mem_cons, List.not_mem_nil, or_false] at hx; omega)
  have hx0 : ∀ x, x ∈ [393, 395, 396, 400] → (own x = 0 ∧ (x = 393 ∨ x = 395 ∨ x = 396 ∨ x = 400)) ∨ (414 ≤ x ∧ (own x = 0)) := by
    intro x hx
    simp only [List.mem_cons, List.not_mem_nil, or_false] at hx
    rcases hx with q | q | q | q
    · rw [q]; exact Or.inl ⟨w1.z (by decide), by decide⟩
    · rw [q]; exact Or.inl ⟨w1.z (by decide), by decide⟩
    · rw [q]; exact Or.inl ⟨w1.z (by decide), by decide⟩
    · rw [q]; exact Or.inl ⟨w1.z (by decide), by decide⟩
  have lz : 413 < h'.length := by obtain ⟨_, _, q⟩ := qo; exact rd_len (by decide) q
  have le : h.length ≤ h'.length := fr_len qf (by omega) (fun x hx hlt => by simp only [List.mem_cons, List.not_mem_nil, or_false] at hx; omega)
  have nC : pCi own h' := ⟨g, E, G, rf, _, hg24, q393, qf 394 (by decide) _ H394, hls.fr qf (by decide) (by simp; omega) (fun i _ => by show 1000138 + G i ∉ _; simp only [List.mem_cons, List.not_mem_nil, or_false]; omega), hGG, hEo⟩
  have nS : pSc h' := ⟨⟨_, q395⟩, ⟨_, q396⟩, ⟨s3, qf 398 (by decide) _ S3⟩, s4, qf 399 (by decide) _ S4⟩
  exact hn _ _ _ _ _ ⟨own, _, _, _, gs, pl, _, wa, nw, nx, np, K, X, rz, w1.len le, qf 0 (fun q => by have := hx0 _ q; omega) _ H0, Q400, pT.fr qf (fun x hx => by have := hx0 x hx; omega) (fun _ q => q), pL.fr qf (fun x hx => by have := hx0 x hx; omega) (fun _ q => q) (fun a q => by have := (w1 a (by omega)).2; omega) (fun _ q => q), pR.fr qf (fun x hx => by have := hx0 x hx; omega), pV.fr qf (fun x hx => by have := hx0 x hx; omega), nC, pI.fr qf (fun x hx => by have := hx0 x hx; omega), nS, qo, pX.fr qf (fun x hx => by have := hx0 x hx; omega), pP.fr qf (fun x hx => by have := hx0 x hx; omega) (fun _ q => q), pG.fr qf (fun x hx => by have := hx0 x hx; omega) (fun _ q => q), by omega, by omega, by omega⟩
theorem r_37 {L j : Nat} {xs : Nat → Int32} {h : mj_H} {l6 l7 l8 l9 : Option Value} {P : mj_H → Prop} {own : Nat → Nat} {th : Int32} {sd be : Int64} {gs pl ty wa nw nx : Value} {np : Nat} {K : Nat → Nat} {X : Nat → Nat → Nat → Nat} {rz : Nat} (w : wJ own th sd be gs pl ty wa nw nx np K X rz j h) (hL : L ≤ 2048) (hi : 4 * j + 4 ≤ L) (hk : xs (4 * j) &&& nI 63 = nI 37) (hn : ∀ (l6 l7 l8 l9 : Option Value) (g : mj_H), wI (j + 1) g → mj_lrun L xs (28, [some (.retAddr 1), some (.ref 0), some (.ref 400), some (.ref 412), some (.ref 413), some (.int (nI (4 * j + 4))), l6, l7, l8, l9], [], g) P) : mj_lrun L xs (28, [some (.retAddr 1), some (.ref 0), some (.ref 400), some (.ref 412), some (.ref 413), some (.int (nI (4 * j))), l6, l7, l8, l9], [], h) P := by
  obtain ⟨w1, H0, H400, pT, pL, pR, pV, pC, pI, pS, pO, pX, pP, pG, j5, b1, b2⟩ := id w
  have ln := w.len
  have np6 := pL.np
  obtain ⟨⟨ou, H412⟩, od, H413⟩ := id pO
  obtain ⟨k, vf, wf, sf, uf, dp, ca, hk20, H375, H376, H377, H402, H403, H404, hvw, hsu⟩ := pR.w
  obtain ⟨mp, Ep, H38, H401⟩ := pL.w
  obtain ⟨g, E, G, rf, mf, hg24, H393, H394, hls, hGG, hEo⟩ := id pC
  obtain ⟨cap, mc, ef, H410, hEA, hgc, hc31, hE3, hef⟩ := id hls
  obtain ⟨im, jm, IM, H397, H411, hIM, hJM⟩ := id pI
  have him : ∀ i, i < 8 → jm i = im i := fun i hi => by rw [(hIM i hi).1, (hJM i hi).1]
  have hG1 : ∀ i, i < g → rf i = nI (G i) ∧ G i < 24 := fun i hi => ⟨(hGG i hi).1, (hGG i hi).2.1⟩
  have hG2 : ∀ i, i < g → ef i = some (1000138 + G i) ∧ G i < 24 := fun i hi => ⟨(hef i hi).1, (hGG i hi).2.1⟩
  have hGi : ∀ i, i < g → isG (G i) := fun i hi => (hGG i hi).2
  have e1 : mj_CB = 1000000 := rfl
  have HE := rdA_lt hEA
  have hE9 : E = 1000000 ∨ 414 ≤ E ∧ E < h.length ∧ own E = 2 := hE3.elim (fun q => Or.inr (by have o := hEo q.1; have := w1 E (by omega); omega)) (fun q => Or.inl q.1)
  have hE0 : 414 ≤ E := by omega
  have hEN : E < h.length ∨ E = 1000000 := by omega
  have oE : own E = 0 ∨ own E = 2 := hE9.elim (fun q => Or.inl (by
    by_cases z : own E = 0
    · exact z
    · have := w1 E z
      omega)) (fun q => Or.inr q.2.2)
  obtain ⟨⟨s1, S1⟩, ⟨s2, S2⟩, ⟨s3, S3⟩, s4, S4⟩ := id pS
  rcases (by omega : (xs (4 * j + 1)).toInt < 0 ∨ 0 ≤ (xs (4 * j + 1)).toInt) with q | q
  · by_cases z : (mkG G g).2.2 = 0
    · refine w_37_nz (i := 4 * j) (N := h.length) (gs := gs) (pl := pl) (ty := ty) (wa := wa) (nw := nw) (nx := nx) (dp := dp) (ca := ca) (mf := mf) (th := th) (sd := sd) (be := be) (ou := ou) (vf := vf) (wf := wf) (sf := sf) (uf := uf) (im := im) (jm := jm) (k := k) (g := g) (pe := (.ref Ep)) (pm := (.int mp)) (ge := (.ref E)) (gm := (.int mc)) (q := np) (rf := rf) (E := E) (cap := cap) (mc := mc) (ef := ef) (G := G) (oof := s1) (dmf := s2) (p := _) hL hi ln.2 ln.1 rfl hk hk20 hvw hsu him np6 hg24 hG1 hE0 hEN hEA hG2 hgc hc31 hE3 q z rfl H0 H393 H394 S1 S2 H400 H410 ?_
      rintro l6' l7' l8' l9' h' ⟨Q400, X0, qf, ql, qz⟩
      obtain ⟨of1, df1, q393, q395, q396⟩ := X0
      have qo : pOu h' := pO.fr qf (fun x hx => by simp only [List.mem_cons, List.not_mem_nil, or_false] at hx; omega)
      have hx0 : ∀ x, x ∈ [393, 395, 396, 400] → (own x = 0 ∧ (x = 393 ∨ x = 395 ∨ x = 396 ∨ x = 400)) ∨ (414 ≤ x ∧ (own x = 0)) := by
        intro x hx
        simp only [List.mem_cons, List.not_mem_nil, or_false] at hx
        rcases hx with q | q | q | q
        · rw [q]; exact Or.inl ⟨w1.z (by decide), by decide⟩
        · rw [q]; exact Or.inl ⟨w1.z (by decide), by decide⟩
        · rw [q]; exact Or.inl ⟨w1.z (by decide), by decide⟩
        · rw [q]; exact Or.inl ⟨w1.z (by decide), by decide⟩
      have lz : 413 < h'.length := by obtain ⟨_, _, q⟩ := qo; exact rd_len (by decide) q
      have le : h.length ≤ h'.length := fr_len qf (by omega) (fun x hx hlt => by simp only [List.mem_cons, List.not_mem_nil, or_false] at hx; omega)
      have nC : pCi own h' := ⟨g, E, G, rf, _, hg24, q393, qf 394 (by decide) _ H394, hls.fr qf (by decide) (by simp; omega) (fun i _ => by show 1000138 + G i ∉ _; simp only [List.mem_cons, List.not_mem_nil, or_false]; omega), hGG, hEo⟩
      have nS : pSc h' := ⟨⟨_, q395⟩, ⟨_, q396⟩, ⟨s3, qf 398 (by decide) _ S3⟩, s4, qf 399 (by decide) _ S4⟩
      exact hn _ _ _ _ _ ⟨own, _, _, _, gs, pl, _, wa, nw, nx, np, K, X, rz, w1.len le, qf 0 (fun q => by have := hx0 _ q; omega) _ H0, Q400, pT.fr qf (fun x hx => by have := hx0 x hx; omega) (fun _ q => q), pL.fr qf (fun x hx => by have := hx0 x hx; omega) (fun _ q => q) (fun a q => by have := (w1 a (by omega)).2; omega) (fun _ q => q), pR.fr qf (fun x hx => by have := hx0 x hx; omega), pV.fr qf (fun x hx => by have := hx0 x hx; omega), nC, pI.fr qf (fun x hx => by have := hx0 x hx; omega), nS, qo, pX.fr qf (fun x hx => by have := hx0 x hx; omega), pP.fr qf (fun x hx => by have := hx0 x hx; omega) (fun _ q => q), pG.fr qf (fun x hx => by have := hx0 x hx; omega) (fun _ q => q), by omega, by omega, by omega⟩
    · refine w_37_n (i := 4 * j) (N := h.length) (gs := gs) (pl := pl) (ty := ty) (wa := wa) (nw := nw) (nx := nx) (dp := dp) (ca := ca) (mf := mf) (th := th) (sd := sd) (be := be) (ou := ou) (vf := vf) (wf := wf) (sf := sf) (uf := uf) (im := im) (jm := jm) (k := k) (g := g) (pe := (.ref Ep)) (pm := (.int mp)) (ge := (.ref E)) (gm := (.int mc)) (q := np) (rf := rf) (E := E) (cap := cap) (mc := mc) (ef := ef) (G := G) (oof := s1) (dmf := s2) (p := _) hL hi ln.2 ln.1 rfl hk hk20 hvw hsu him np6 hg24 hG1 hE0 hEN hEA hG2 hgc hc31 hE3 q (by omega) rfl H0 H393 H394 S1 S2 H400 H410 ?_
      rintro l6' l7' l8' l9' h' ⟨Q400, X0, qf, ql, qz⟩
      obtain ⟨of1, df1, q393, q395, q396⟩ := X0
      have qo : pOu h' := pO.fr qf (fun x hx => by simp only [List.mem_cons, List.not_mem_nil, or_false] at hx; omega)
      have hx0 : ∀ x, x ∈ [393, 395, 396, 400] → (own x = 0 ∧ (x = 393 ∨ x = 395 ∨ x = 396 ∨ x = 400)) ∨ (414 ≤ x ∧ (own x = 0)) := by
        intro x hx
        simp only [List.mem_cons, List.not_mem_nil, or_false] at hx
        rcases hx with q | q | q | q
        · rw [q]; exact Or.inl ⟨w1.z (by decide), by decide⟩
        · rw [q]; exact Or.inl ⟨w1.z (by decide), by decide⟩
        · rw [q]; exact Or.inl ⟨w1.z (by decide), by decide⟩
        · rw [q]; exact Or.inl ⟨w1.z (by decide), by decide⟩
      have lz : 413 < h'.length := by obtain ⟨_, _, q⟩ := qo; exact rd_len (by decide) q
      have le : h.length ≤ h'.length := fr_len qf (by omega) (fun x hx hlt => by simp only [List.mem_cons, List.not_mem_nil, or_false] at hx; omega)
      have nC : pCi own h' := ⟨g, E, G, rf, _, hg24, q393, qf 394 (by decide) _ H394, hls.fr qf (by decide) (by simp; omega) (fun i _ => by show 1000138 + G i ∉ _; simp only [List.mem_cons, List.not_mem_nil, or_false]; omega), hGG, hEo⟩
      have nS : pSc h' := ⟨⟨_, q395⟩, ⟨_, q396⟩, ⟨s3, qf 398 (by decide) _ S3⟩, s4, qf 399 (by decide) _ S4⟩
      exact hn _ _ _ _ _ ⟨own, _, _, _, gs, pl, _, wa, nw, nx, np, K, X, rz, w1.len le, qf 0 (fun q => by have := hx0 _ q; omega) _ H0, Q400, pT.fr qf (fun x hx => by have := hx0 x hx; omega) (fun _ q => q), pL.fr qf (fun x hx => by have := hx0 x hx; omega) (fun _ q => q) (fun a q => by have := (w1 a (by omega)).2; omega) (fun _ q => q), pR.fr qf (fun x hx => by have := hx0 x hx; omega), pV.fr qf (fun x hx => by have := hx0 x hx; omega), nC, pI.fr qf (fun x hx => by have := hx0 x hx; omega), nS, qo, pX.fr qf (fun x hx => by have := hx0 x hx; omega), pP.fr qf (fun x hx => by have := hx0 x hx; omega) (fun _ q => q), pG.fr qf (fun x hx => by have := hx0 x hx; omega) (fun _ q => q), by omega, by omega, by omega⟩
  · obtain ⟨v, hvb, hx1⟩ := toI_ex q
    by_cases z : (mkG G g).2.2 = 0
    · refine w_37_z (i := 4 * j) (N := h.length) (gs := gs) (pl := pl) (ty := ty) (wa := wa) (nw := nw) (nx := nx) (dp := dp) (ca := ca) (mf := mf) (th := th) (sd := sd) (be := be) (ou := ou) (vf := vf) (wf := wf) (sf := sf) (uf := uf) (im := im) (jm := jm) (k := k) (g := g) (pe := (.ref Ep)) (pm := (.int mp)) (ge := (.ref E)) (gm := (.int mc)) (q := np) (rf := rf) (E := E) (cap := cap) (mc := mc) (ef := ef) (G := G) (oof := s1) (dmf := s2) (v := v) hL hi ln.2 ln.1 rfl hk hk20 hvw hsu him np6 hg24 hG1 hE0 hEN hEA hG2 hgc hc31 hE3 hvb z hx1 H0 H393 H394 S1 S2 H400 H410 ?_
      rintro l6' l7' l8' l9' h' ⟨Q400, X0, qf, ql, qz⟩
      obtain ⟨of1, df1, q393, q395, q396⟩ := X0
      have qo : pOu h' := pO.fr qf (fun x hx => by simp only [List.mem_cons, List.not_mem_nil, or_false] at hx; omega)
      have hx0 : ∀ x, x ∈ [393, 395, 396, 400] → (own x = 0 ∧ (x = 393 ∨ x = 395 ∨ x = 396 ∨ x = 400)) ∨ (414 ≤ x ∧ (own x = 0)) := by
        intro x hx
        simp only [List.mem_cons, List.not_mem_nil, or_false] at hx
        rcases hx with q | q | q | q
        · rw [q]; exact Or.inl ⟨w1.z (by decide), by decide⟩
        · rw [q]; exact Or.inl ⟨w1.z (by decide), by decide⟩
        · rw [q]; exact Or.inl ⟨w1.z (by decide), by decide⟩
        · rw [q]; exact Or.inl ⟨w1.z (by decide), by decide⟩
      have lz : 413 < h'.length := by obtain ⟨_, _, q⟩ := qo; exact rd_len (by decide) q
      have le : h.length ≤ h'.length := fr_len qf (by omega) (fun x hx hlt => by simp only [List.mem_cons, List.not_mem_nil, or_false] at hx; omega)
      have nC : pCi own h' := ⟨g, E, G, rf, _, hg24, q393, qf 394 (by decide) _ H394, hls.fr qf (by decide) (by simp; omega) (fun i _ => by show 1000138 + G i ∉ _; simp only [List.mem_cons, List.not_mem_nil, or_false]; omega), hGG, hEo⟩
      have nS : pSc h' := ⟨⟨_, q395⟩, ⟨_, q396⟩, ⟨s3, qf 398 (by decide) _ S3⟩, s4, qf 399 (by decide) _ S4⟩
      exact hn _ _ _ _ _ ⟨own, _, _, _, gs, pl, _, wa, nw, nx, np, K, X, rz, w1.len le, qf 0 (fun q => by have := hx0 _ q; omega) _ H0, Q400, pT.fr qf (fun x hx => by have := hx0 x hx; omega) (fun _ q => q), pL.fr qf (fun x hx => by have := hx0 x hx; omega) (fun _ q => q) (fun a q => by have := (w1 a (by omega)).2; omega) (fun _ q => q), pR.fr qf (fun x hx => by have := hx0 x hx; omega), pV.fr qf (fun x hx => by have := hx0 x hx; omega), nC, pI.fr qf (fun x hx => by have := hx0 x hx; omega), nS, qo, pX.fr qf (fun x hx => by have := hx0 x hx; omega), pP.fr qf (fun x hx => by have := hx0 x hx; omega) (fun _ q => q), pG.fr qf (fun x hx => by have := hx0 x hx; omega) (fun _ q => q), by omega, by omega, by omega⟩
    · by_cases y : v < (mkG G g).2.2
      · refine w_37 (i := 4 * j) (N := h.length) (gs := gs) (pl := pl) (ty := ty) (wa := wa) (nw := nw) (nx := nx) (dp := dp) (ca := ca) (mf := mf) (th := th) (sd := sd) (be := be) (ou := ou) (vf := vf) (wf := wf) (sf := sf) (uf := uf) (im := im) (jm := jm) (k := k) (g := g) (pe := (.ref Ep)) (pm := (.int mp)) (ge := (.ref E)) (gm := (.int mc)) (q := np) (rf := rf) (E := E) (cap := cap) (mc := mc) (ef := ef) (G := G) (oof := s1) (dmf := s2) (v := v) hL hi ln.2 ln.1 rfl hk hk20 hvw hsu him np6 hg24 hG1 hE0 hEN hEA hG2 hgc hc31 hE3 y hx1 H0 H393 H394 S1 S2 H400 H410 H412 ?_
        rintro l6' l7' l8' l9' h' ⟨Q400, Q412, X0, qf, ql, qz⟩
        obtain ⟨of1, df1, q393, q395, q396⟩ := X0
        have qo : pOu h' := pO.f2 qf (fun x hx => by simp only [List.mem_cons, List.not_mem_nil, or_false] at hx; omega) ⟨_, Q412⟩
        have hx0 : ∀ x, x ∈ [393, 395, 396, 400, 412] → (own x = 0 ∧ (x = 393 ∨ x = 395 ∨ x = 396 ∨ x = 400 ∨ x = 412)) ∨ (414 ≤ x ∧ (own x = 0)) := by
          intro x hx
          simp only [List.mem_cons, List.not_mem_nil, or_false] at hx
          rcases hx with q | q | q | q | q
          · rw [q]; exact Or.inl ⟨w1.z (by decide), by decide⟩
          · rw [q]; exact Or.inl ⟨w1.z (by decide), by decide⟩
          · rw [q]; exact Or.inl ⟨w1.z (by decide), by decide⟩
          · rw [q]; exact Or.inl ⟨w1.z (by decide), by decide⟩
          · rw [q]; exact Or.inl ⟨w1.z (by decide), by decide⟩
        have lz : 413 < h'.length := by obtain ⟨_, _, q⟩ := qo; exact rd_len (by decide) q
        have le : h.length ≤ h'.length := fr_len qf (by omega) (fun x hx hlt => by simp only [List.mem_cons, List.not_mem_nil, or_false] at hx; omega)
        have nC : pCi own h' := ⟨g, E, G, rf, _, hg24, q393, qf 394 (by decide) _ H394, hls.fr qf (by decide) (by simp; omega) (fun i _ => by show 1000138 + G i ∉ _; simp only [List.mem_cons, List.not_mem_nil, or_false]; omega), hGG, hEo⟩
        have nS : pSc h' := ⟨⟨_, q395⟩, ⟨_, q396⟩, ⟨s3, qf 398 (by decide) _ S3⟩, s4, qf 399 (by decide) _ S4⟩
        exact hn _ _ _ _ _ ⟨own, _, _, _, gs, pl, _, wa, nw, nx, np, K, X, rz, w1.len le, qf 0 (fun q => by have := hx0 _ q; omega) _ H0, Q400, pT.fr qf (fun x hx => by have := hx0 x hx; omega) (fun _ q => q), pL.fr qf (fun x hx => by have := hx0 x hx; omega) (fun _ q => q) (fun a q => by have := (w1 a (by omega)).2; omega) (fun _ q => q), pR.fr qf (fun x hx => by have := hx0 x hx; omega), pV.fr qf (fun x hx => by have := hx0 x hx; omega), nC, pI.fr qf (fun x hx => by have := hx0 x hx; omega), nS, qo, pX.fr qf (fun x hx => by have := hx0 x hx; omega), pP.fr qf (fun x hx => by have := hx0 x hx; omega) (fun _ q => q), pG.fr qf (fun x hx => by have := hx0 x hx; omega) (fun _ q => q), by omega, by omega, by omega⟩
      · refine w_37_m (i := 4 * j) (N := h.length) (gs := gs) (pl := pl) (ty := ty) (wa := wa) (nw := nw) (nx := nx) (dp := dp) (ca := ca) (mf := mf) (th := th) (sd := sd) (be := be) (ou := ou) (vf := vf) (wf := wf) (sf := sf) (uf := uf) (im := im) (jm := jm) (k := k) (g := g) (pe := (.ref Ep)) (pm := (.int mp)) (ge := (.ref E)) (gm := (.int mc)) (q := np) (rf := rf) (E := E) (cap := cap) (mc := mc) (ef := ef) (G := G) (oof := s1) (dmf := s2) (v := v) hL hi ln.2 ln.1 rfl hk hk20 hvw hsu him np6 hg24 hG1 hE0 hEN hEA hG2 hgc hc31 hE3 hvb (by omega) (by omega) hx1 H0 H393 H394 S1 S2 H400 H410 ?_
        rintro l6' l7' l8' l9' h' ⟨Q400, X0, qf, ql, qz⟩
        obtain ⟨of1, df1, q393, q395, q396⟩ := X0
        have qo : pOu h' := pO.fr qf (fun x hx => by simp only [List.mem_cons, List.not_mem_nil, or_false] at hx; omega)
        have hx0 : ∀ x, x ∈ [393, 395, 396, 400] → (own x = 0 ∧ (x = 393 ∨ x = 395 ∨ x = 396 ∨ x = 400)) ∨ (414 ≤ x ∧ (own x = 0)) := by
          intro x hx
          simp only [List.mem_cons, List.not_mem_nil, or_false] at hx
          rcases hx with q | q | q | q
          · rw [q]; exact Or.inl ⟨w1.z (by decide), by decide⟩
          · rw [q]; exact Or.inl ⟨w1.z (by decide), by decide⟩
          · rw [q]; exact Or.inl ⟨w1.z (by decide), by decide⟩
          · rw [q]; exact Or.inl ⟨w1.z (by decide), by decide⟩
        have lz : 413 < h'.length := by obtain ⟨_, _, q⟩ := qo; exact rd_len (by decide) q
        have le : h.length ≤ h'.length := fr_len qf (by omega) (fun x hx hlt => by simp only [List.mem_cons, List.not_mem_nil, or_false] at hx; omega)
        have nC : pCi own h' := ⟨g, E, G, rf, _, hg24, q393, qf 394 (by decide) _ H394, hls.fr qf (by decide) (by simp; omega) (fun i _ => by show 1000138 + G i ∉ _; simp only [List.mem_cons, List.not_mem_nil, or_false]; omega), hGG, hEo⟩
        have nS : pSc h' := ⟨⟨_, q395⟩, ⟨_, q396⟩, ⟨s3, qf 398 (by decide) _ S3⟩, s4, qf 399 (by decide) _ S4⟩
        exact hn _ _ _ _ _ ⟨own, _, _, _, gs, pl, _, wa, nw, nx, np, K, X, rz, w1.len le, qf 0 (fun q => by have := hx0 _ q; omega) _ H0, Q400, pT.fr qf (fun x hx => by have := hx0 x hx; omega) (fun _ q => q), pL.fr qf (fun x hx => by have := hx0 x hx; omega) (fun _ q => q) (fun a q => by have := (w1 a (by omega)).2; omega) (fun _ q => q), pR.fr qf (fun x hx => by have := hx0 x hx; omega), pV.fr qf (fun x hx => by have := hx0 x hx; omega), nC, pI.fr qf (fun x hx => by have := hx0 x hx; omega), nS, qo, pX.fr qf (fun x hx => by have := hx0 x hx; omega), pP.fr qf (fun x hx => by have := hx0 x hx; omega) (fun _ q => q), pG.fr qf (fun x hx => by have := hx0 x hx; omega) (fun _ q => q), by omega, by omega, by omega⟩
theorem r_17 {L j : Nat} {xs : Nat → Int32} {h : mj_H} {l6 l7 l8 l9 : Option Value} {P : mj_H → Prop} {own : Nat → Nat} {th : Int32} {sd be : Int64} {gs pl ty wa nw nx : Value} {np : Nat} {K : Nat → Nat} {X : Nat → Nat → Nat → Nat} {rz : Nat} (w : wJ own th sd be gs pl ty wa nw nx np K X rz j h) (hL : L ≤ 2048) (hi : 4 * j + 4 ≤ L) (hk : xs (4 * j) &&& nI 63 = nI 17) (hn : ∀ (l6 l7 l8 l9 : Option Value) (g : mj_H), wI (j + 1) g → mj_lrun L xs (28, [some (.retAddr 1), some (.ref 0), some (.ref 400), some (.ref 412), some (.ref 413), some (.int (nI (4 * j + 4))), l6, l7, l8, l9], [], g) P) : mj_lrun L xs (28, [some (.retAddr 1), some (.ref 0), some (.ref 400), some (.ref 412), some (.ref 413), some (.int (nI (4 * j))), l6, l7, l8, l9], [], h) P := by
  obtain ⟨w1, H0, H400, pT, pL, pR, pV, pC, pI, pS, pO, pX, pP, pG, j5, b1, b2⟩ := id w
  have ln := w.len
  have np6 := pL.np
  obtain ⟨⟨ou, H412⟩, od, H413⟩ := id pO
  obtain ⟨k, vf, wf, sf, uf, dp, ca, hk20, H375, H376, H377, H402, H403, H404, hvw, hsu⟩ := pR.w
  obtain ⟨mp, Ep, H38, H401⟩ := pL.w
  obtain ⟨g, E, G, rf, mf, hg24, H393, H394, hls, hGG, hEo⟩ := id pC
  obtain ⟨cap, mc, ef, H410, hEA, hgc, hc31, hE3, hef⟩ := id hls
  obtain ⟨im, jm, IM, H397, H411, hIM, hJM⟩ := id pI
  have him : ∀ i, i < 8 → jm i = im i := fun i hi => by rw [(hIM i hi).1, (hJM i hi).1]
  have hG1 : ∀ i, i < g → rf i = nI (G i) ∧ G i < 24 := fun i hi => ⟨(hGG i hi).1, (hGG i hi).2.1⟩
  have hG2 : ∀ i, i < g → ef i = some (1000138 + G i) ∧ G i < 24 := fun i hi => ⟨(hef i hi).1, (hGG i hi).2.1⟩
  have hGi : ∀ i, i < g → isG (G i) := fun i hi => (hGG i hi).2
  have e1 : mj_CB = 1000000 := rfl
  have HE := rdA_lt hEA
  have hE9 : E = 1000000 ∨ 414 ≤ E ∧ E < h.length ∧ own E = 2 := hE3.elim (fun q => Or.inr (by have o := hEo q.1; have := w1 E (by omega); omega)) (fun q => Or.inl q.1)
  have hE0 : 414 ≤ E := by omega
  have hEN : E < h.length ∨ E = 1000000 := by omega
  have oE : own E = 0 ∨ own E = 2 := hE9.elim (fun q => Or.inl (by
    by_cases z : own E = 0
    · exact z
    · have := w1 E z
      omega)) (fun q => Or.inr q.2.2)
  have pK := pL.pk
  obtain ⟨⟨vv, st, sk⟩, hS, ⟨hb, ⟨r, hr⟩, cn, h402⟩ | ⟨⟨p, l, c, wy, cp, cl, cw⟩, ⟨z1, za, zb, zc, zd⟩, hr, hy, hwf, hnr, hz, hza, hzc⟩⟩ := id pR
  · refine w_17_z (i := 4 * j) (N := h.length) (gs := gs) (pl := pl) (ty := ty) (wa := wa) (nw := nw) (nx := nx) (dp := (.int (nI 4294967295))) (ca := (.int (nI cn))) (mf := mf) (th := th) (sd := sd) (be := be) (ou := ou) (vf := vf) (wf := wf) (sf := sf) (uf := sf) (im := im) (jm := jm) (k := sk) (g := g) (pe := (.ref Ep)) (pm := (.int mp)) (ge := (.ref E)) (gm := (.int mc)) (q := np) hL hi ln.2 ln.1 rfl hk hS.2.2.2 hvw (fun _ _ => rfl) him np6 hg24 H0 hr.1 H400 h402 ?_
    rintro l6' l7' l8' l9' h' ⟨Q400, qf, ql, qz⟩
    exact hn _ _ _ _ _ (w.q qf (fun x hx => by simp only [List.mem_cons, List.not_mem_nil, or_false] at hx; omega) Q400 (pO.fr qf (fun x hx => by simp only [List.mem_cons, List.not_mem_nil, or_false] at hx; omega)) (by omega) (by omega) (by omega))
  · obtain ⟨f4, a4, _, b4⟩ := hy.2.2.1.2.1
    refine w_17 (i := 4 * j) (N := h.length) (gs := gs) (pl := pl) (ty := ty) (wa := wa) (nw := nw) (nx := nx) (dp := (.int (nI c))) (ca := (.int (nI z1))) (mf := mf) (th := th) (sd := sd) (be := be) (ou := ou) (vf := vf) (wf := wf) (sf := sf) (uf := sf) (im := im) (jm := jm) (k := sk) (g := g) (pe := (.ref Ep)) (pm := (.int mp)) (ge := (.ref E)) (gm := (.int mc)) (q := np) (ins := (fun _ => nI p)) (pls := f4) (wys := (fun _ => nI (bN wy))) (le := (fun _ => nI 0)) (nu := (fun _ => nI 0)) (lf := (fun _ => nI 0)) (nv := (fun _ => nI 0)) (wl := (fun _ => 0)) (pr := p) (pp := l) (d := c) hL hi ln.2 ln.1 rfl hk hS.2.2.2 hvw (fun _ _ => rfl) him np6 hg24 hwf.2.2.1 (by have := hwf.1; omega) (by have := hwf.2.1; have := pK p hwf.1; omega) rfl b4 (fun _ _ => ⟨rfl, by decide⟩) (fun _ _ => rfl) (fun _ _ => rfl) H0 hr.1 H400 hy.1 a4 H412 ?_
    rintro l6' l7' l8' l9' h' ⟨Q400, Q412, qf, ql, qz⟩
    exact hn _ _ _ _ _ (w.q qf (fun x hx => by simp only [List.mem_cons, List.not_mem_nil, or_false] at hx; omega) Q400 (pO.f2 qf (fun x hx => by simp only [List.mem_cons, List.not_mem_nil, or_false] at hx; omega) ⟨_, Q412⟩) (by omega) (by omega) (by omega))
theorem r_18 {L j : Nat} {xs : Nat → Int32} {h : mj_H} {l6 l7 l8 l9 : Option Value} {P : mj_H → Prop} {own : Nat → Nat} {th : Int32} {sd be : Int64} {gs pl ty wa nw nx : Value} {np : Nat} {K : Nat → Nat} {X : Nat → Nat → Nat → Nat} {rz : Nat} (w : wJ own th sd be gs pl ty wa nw nx np K X rz j h) (hL : L ≤ 2048) (hi : 4 * j + 4 ≤ L) (hk : xs (4 * j) &&& nI 63 = nI 18) (hn : ∀ (l6 l7 l8 l9 : Option Value) (g : mj_H), wI (j + 1) g → mj_lrun L xs (28, [some (.retAddr 1), some (.ref 0), some (.ref 400), some (.ref 412), some (.ref 413), some (.int (nI (4 * j + 4))), l6, l7, l8, l9], [], g) P) : mj_lrun L xs (28, [some (.retAddr 1), some (.ref 0), some (.ref 400), some (.ref 412), some (.ref 413), some (.int (nI (4 * j))), l6, l7, l8, l9], [], h) P := by
  obtain ⟨w1, H0, H400, pT, pL, pR, pV, pC, pI, pS, pO, pX, pP, pG, j5, b1, b2⟩ := id w
  have ln := w.len
  have np6 := pL.np
  obtain ⟨⟨ou, H412⟩, od, H413⟩ := id pO
  obtain ⟨k, vf, wf, sf, uf, dp, ca, hk20, H375, H376, H377, H402, H403, H404, hvw, hsu⟩ := pR.w
  obtain ⟨mp, Ep, H38, H401⟩ := pL.w
  obtain ⟨g, E, G, rf, mf, hg24, H393, H394, hls, hGG, hEo⟩ := id pC
  obtain ⟨cap, mc, ef, H410, hEA, hgc, hc31, hE3, hef⟩ := id hls
  obtain ⟨im, jm, IM, H397, H411, hIM, hJM⟩ := id pI
  have him : ∀ i, i < 8 → jm i = im i := fun i hi => by rw [(hIM i hi).1, (hJM i hi).1]
  have hG1 : ∀ i, i < g → rf i = nI (G i) ∧ G i < 24 := fun i hi => ⟨(hGG i hi).1, (hGG i hi).2.1⟩
  have hG2 : ∀ i, i < g → ef i = some (1000138 + G i) ∧ G i < 24 := fun i hi => ⟨(hef i hi).1, (hGG i hi).2.1⟩
  have hGi : ∀ i, i < g → isG (G i) := fun i hi => (hGG i hi).2
  have e1 : mj_CB = 1000000 := rfl
  have HE := rdA_lt hEA
  have hE9 : E = 1000000 ∨ 414 ≤ E ∧ E < h.length ∧ own E = 2 := hE3.elim (fun q => Or.inr (by have o := hEo q.1; have := w1 E (by omega); omega)) (fun q => Or.inl q.1)
  have hE0 : 414 ≤ E := by omega
  have hEN : E < h.length ∨ E = 1000000 := by omega
  have oE : own E = 0 ∨ own E = 2 := hE9.elim (fun q => Or.inl (by
    by_cases z : own E = 0
    · exact z
    · have := w1 E z
      omega)) (fun q => Or.inr q.2.2)
  have pK := pL.pk
  obtain ⟨⟨vv, st, sk⟩, hS, ⟨hb, ⟨r, hr⟩, cn, h402⟩ | ⟨⟨p, l, c, wy, cp, cl, cw⟩, ⟨z1, za, zb, zc, zd⟩, hr, hy, hwf, hnr, hz, hza, hzc⟩⟩ := id pR
  · refine w_18_z (i := 4 * j) (N := h.length) (gs := gs) (pl := pl) (ty := ty) (wa := wa) (nw := nw) (nx := nx) (dp := (.int (nI 4294967295))) (ca := (.int (nI cn))) (mf := mf) (th := th) (sd := sd) (be := be) (ou := ou) (vf := vf) (wf := wf) (sf := sf) (uf := sf) (im := im) (jm := jm) (k := sk) (g := g) (pe := (.ref Ep)) (pm := (.int mp)) (ge := (.ref E)) (gm := (.int mc)) (q := np) hL hi ln.2 ln.1 rfl hk hS.2.2.2 hvw (fun _ _ => rfl) him np6 hg24 H0 hr.1 H400 h402 ?_
    rintro l6' l7' l8' l9' h' ⟨Q400, qf, ql, qz⟩
    exact hn _ _ _ _ _ (w.q qf (fun x hx => by simp only [List.mem_cons, List.not_mem_nil, or_false] at hx; omega) Q400 (pO.fr qf (fun x hx => by simp only [List.mem_cons, List.not_mem_nil, or_false] at hx; omega)) (by omega) (by omega) (by omega))
  · obtain ⟨f3, a3, _, b3⟩ := hy.2.2.1.1
    refine w_18 (i := 4 * j) (N := h.length) (gs := gs) (pl := pl) (ty := ty) (wa := wa) (nw := nw) (nx := nx) (dp := (.int (nI c))) (ca := (.int (nI z1))) (mf := mf) (th := th) (sd := sd) (be := be) (ou := ou) (vf := vf) (wf := wf) (sf := sf) (uf := sf) (im := im) (jm := jm) (k := sk) (g := g) (pe := (.ref Ep)) (pm := (.int mp)) (ge := (.ref E)) (gm := (.int mc)) (q := np) (ins := f3) (pls := (fun _ => nI l)) (wys := (fun _ => nI (bN wy))) (le := (fun _ => nI 0)) (nu := (fun _ => nI 0)) (lf := (fun _ => nI 0)) (nv := (fun _ => nI 0)) (wl := (fun _ => 0)) (pr := p) (pp := l) (d := c) hL hi ln.2 ln.1 rfl hk hS.2.2.2 hvw (fun _ _ => rfl) him np6 hg24 hwf.2.2.1 (by have := hwf.1; omega) (by have := hwf.2.1; have := pK p hwf.1; omega) b3 rfl (fun _ _ => ⟨rfl, by decide⟩) (fun _ _ => rfl) (fun _ _ => rfl) H0 hr.1 H400 hy.1 a3 H412 ?_
    rintro l6' l7' l8' l9' h' ⟨Q400, Q412, qf, ql, qz⟩
    exact hn _ _ _ _ _ (w.q qf (fun x hx => by simp only [List.mem_cons, List.not_mem_nil, or_false] at hx; omega) Q400 (pO.f2 qf (fun x hx => by simp only [List.mem_cons, List.not_mem_nil, or_false] at hx; omega) ⟨_, Q412⟩) (by omega) (by omega) (by omega))
theorem r_19 {L j : Nat} {xs : Nat → Int32} {h : mj_H} {l6 l7 l8 l9 : Option Value} {P : mj_H → Prop} {own : Nat → Nat} {th : Int32} {sd be : Int64} {gs pl ty wa nw nx : Value} {np : Nat} {K : Nat → Nat} {X : Nat → Nat → Nat → Nat} {rz : Nat} (w : wJ own th sd be gs pl ty wa nw nx np K X rz j h) (hL : L ≤ 2048) (hi : 4 * j + 4 ≤ L) (hk : xs (4 * j) &&& nI 63 = nI 19) (hn : ∀ (l6 l7 l8 l9 : Option Value) (g : mj_H), wI (j + 1) g → mj_lrun L xs (28, [some (.retAddr 1), some (.ref 0), some (.ref 400), some (.ref 412), some (.ref 413), some (.int (nI (4 * j + 4))), l6, l7, l8, l9], [], g) P) : mj_lrun L xs (28, [some (.retAddr 1), some (.ref 0), some (.ref 400), some (.ref 412), some (.ref 413), some (.int (nI (4 * j))), l6, l7, l8, l9], [], h) P := by
  obtain ⟨w1, H0, H400, pT, pL, pR, pV, pC, pI, pS, pO, pX, pP, pG, j5, b1, b2⟩ := id w
  have ln := w.len
  have np6 := pL.np
  obtain ⟨⟨ou, H412⟩, od, H413⟩ := id pO
  obtain ⟨k, vf, wf, sf, uf, dp, ca, hk20, H375, H376, H377, H402, H403, H404, hvw, hsu⟩ := pR.w
  obtain ⟨mp, Ep, H38, H401⟩ := pL.w
  obtain ⟨g, E, G, rf, mf, hg24, H393, H394, hls, hGG, hEo⟩ := id pC
  obtain ⟨cap, mc, ef, H410, hEA, hgc, hc31, hE3, hef⟩ := id hls
  obtain ⟨im, jm, IM, H397, H411, hIM, hJM⟩ := id pI
  have him : ∀ i, i < 8 → jm i = im i := fun i hi => by rw [(hIM i hi).1, (hJM i hi).1]
  have hG1 : ∀ i, i < g → rf i = nI (G i) ∧ G i < 24 := fun i hi => ⟨(hGG i hi).1, (hGG i hi).2.1⟩
  have hG2 : ∀ i, i < g → ef i = some (1000138 + G i) ∧ G i < 24 := fun i hi => ⟨(hef i hi).1, (hGG i hi).2.1⟩
  have hGi : ∀ i, i < g → isG (G i) := fun i hi => (hGG i hi).2
  have e1 : mj_CB = 1000000 := rfl
  have HE := rdA_lt hEA
  have hE9 : E = 1000000 ∨ 414 ≤ E ∧ E < h.length ∧ own E = 2 := hE3.elim (fun q => Or.inr (by have o := hEo q.1; have := w1 E (by omega); omega)) (fun q => Or.inl q.1)
  have hE0 : 414 ≤ E := by omega
  have hEN : E < h.length ∨ E = 1000000 := by omega
  have oE : own E = 0 ∨ own E = 2 := hE9.elim (fun q => Or.inl (by
    by_cases z : own E = 0
    · exact z
    · have := w1 E z
      omega)) (fun q => Or.inr q.2.2)
  have pK := pL.pk
  obtain ⟨⟨vv, st, sk⟩, hS, ⟨hb, ⟨r, hr⟩, cn, h402⟩ | ⟨⟨p, l, c, wy, cp, cl, cw⟩, ⟨z1, za, zb, zc, zd⟩, hr, hy, hwf, hnr, hz, hza, hzc⟩⟩ := id pR
  · refine w_19_z (i := 4 * j) (N := h.length) (gs := gs) (pl := pl) (ty := ty) (wa := wa) (nw := nw) (nx := nx) (dp := (.int (nI 4294967295))) (ca := (.int (nI cn))) (mf := mf) (th := th) (sd := sd) (be := be) (ou := ou) (vf := vf) (wf := wf) (sf := sf) (uf := sf) (im := im) (jm := jm) (k := sk) (g := g) (pe := (.ref Ep)) (pm := (.int mp)) (ge := (.ref E)) (gm := (.int mc)) (q := np) hL hi ln.2 ln.1 rfl hk hS.2.2.2 hvw (fun _ _ => rfl) him np6 hg24 H0 hr.1 H400 h402 ?_
    rintro l6' l7' l8' l9' h' ⟨Q400, qf, ql, qz⟩
    exact hn _ _ _ _ _ (w.q qf (fun x hx => by simp only [List.mem_cons, List.not_mem_nil, or_false] at hx; omega) Q400 (pO.fr qf (fun x hx => by simp only [List.mem_cons, List.not_mem_nil, or_false] at hx; omega)) (by omega) (by omega) (by omega))
  · refine w_19 (i := 4 * j) (N := h.length) (gs := gs) (pl := pl) (ty := ty) (wa := wa) (nw := nw) (nx := nx) (dp := (.int (nI c))) (ca := (.int (nI z1))) (mf := mf) (th := th) (sd := sd) (be := be) (ou := ou) (vf := vf) (wf := wf) (sf := sf) (uf := sf) (im := im) (jm := jm) (k := sk) (g := g) (pe := (.ref Ep)) (pm := (.int mp)) (ge := (.ref E)) (gm := (.int mc)) (q := np) (ins := (fun _ => nI p)) (pls := (fun _ => nI l)) (wys := (fun _ => nI (bN wy))) (le := (fun _ => nI 0)) (nu := (fun _ => nI 0)) (lf := (fun _ => nI 0)) (nv := (fun _ => nI 0)) (wl := (fun _ => 0)) (pr := p) (pp := l) (d := c) hL hi ln.2 ln.1 rfl hk hS.2.2.2 hvw (fun _ _ => rfl) him np6 hg24 hwf.2.2.1 (by have := hwf.1; omega) (by have := hwf.2.1; have := pK p hwf.1; omega) rfl rfl (fun _ _ => ⟨rfl, by decide⟩) (fun _ _ => rfl) (fun _ _ => rfl) H0 hr.1 H400 hy.1 H412 ?_
    rintro l6' l7' l8' l9' h' ⟨Q400, Q412, qf, ql, qz⟩
    exact hn _ _ _ _ _ (w.q qf (fun x hx => by simp only [List.mem_cons, List.not_mem_nil, or_false] at hx; omega) Q400 (pO.f2 qf (fun x hx => by simp only [List.mem_cons, List.not_mem_nil, or_false] at hx; omega) ⟨_, Q412⟩) (by omega) (by omega) (by omega))
theorem r_20 {L j : Nat} {xs : Nat → Int32} {h : mj_H} {l6 l7 l8 l9 : Option Value} {P : mj_H → Prop} {own : Nat → Nat} {th : Int32} {sd be : Int64} {gs pl ty wa nw nx : Value} {np : Nat} {K : Nat → Nat} {X : Nat → Nat → Nat → Nat} {rz : Nat} (w : wJ own th sd be gs pl ty wa nw nx np K X rz j h) (hL : L ≤ 2048) (hi : 4 * j + 4 ≤ L) (hk : xs (4 * j) &&& nI 63 = nI 20) (hn : ∀ (l6 l7 l8 l9 : Option Value) (g : mj_H), wI (j + 1) g → mj_lrun L xs (28, [some (.retAddr 1), some (.ref 0), some (.ref 400), some (.ref 412), some (.ref 413), some (.int (nI (4 * j + 4))), l6, l7, l8, l9], [], g) P) : mj_lrun L xs (28, [some (.retAddr 1), some (.ref 0), some (.ref 400), some (.ref 412), some (.ref 413), some (.int (nI (4 * j))), l6, l7, l8, l9], [], h) P := by
  obtain ⟨w1, H0, H400, pT, pL, pR, pV, pC, pI, pS, pO, pX, pP, pG, j5, b1, b2⟩ := id w
  have ln := w.len
  have np6 := pL.np
  obtain ⟨⟨ou, H412⟩, od, H413⟩ := id pO
  obtain ⟨k, vf, wf, sf, uf, dp, ca, hk20, H375, H376, H377, H402, H403, H404, hvw, hsu⟩ := pR.w
  obtain ⟨mp, Ep, H38, H401⟩ := pL.w
  obtain ⟨g, E, G, rf, mf, hg24, H393, H394, hls, hGG, hEo⟩ := id pC
  obtain ⟨cap, mc, ef, H410, hEA, hgc, hc31, hE3, hef⟩ := id hls
  obtain ⟨im, jm, IM, H397, H411, hIM, hJM⟩ := id pI
  have him : ∀ i, i < 8 → jm i = im i := fun i hi => by rw [(hIM i hi).1, (hJM i hi).1]
  have hG1 : ∀ i, i < g → rf i = nI (G i) ∧ G i < 24 := fun i hi => ⟨(hGG i hi).1, (hGG i hi).2.1⟩
  have hG2 : ∀ i, i < g → ef i = some (1000138 + G i) ∧ G i < 24 := fun i hi => ⟨(hef i hi).1, (hGG i hi).2.1⟩
  have hGi : ∀ i, i < g → isG (G i) := fun i hi => (hGG i hi).2
  have e1 : mj_CB = 1000000 := rfl
  have HE := rdA_lt hEA
  have hE9 : E = 1000000 ∨ 414 ≤ E ∧ E < h.length ∧ own E = 2 := hE3.elim (fun q => Or.inr (by have o := hEo q.1; have := w1 E (by omega); omega)) (fun q => Or.inl q.1)
  have hE0 : 414 ≤ E := by omega
  have hEN : E < h.length ∨ E = 1000000 := by omega
  have oE : own E = 0 ∨ own E = 2 := hE9.elim (fun q => Or.inl (by
    by_cases z : own E = 0
    · exact z
    · have := w1 E z
      omega)) (fun q => Or.inr q.2.2)
  have pK := pL.pk
  obtain ⟨⟨vv, st, sk⟩, hS, ⟨hb, ⟨r, hr⟩, cn, h402⟩ | ⟨⟨p, l, c, wy, cp, cl, cw⟩, ⟨z1, za, zb, zc, zd⟩, hr, hy, hwf, hnr, hz, hza, hzc⟩⟩ := id pR
  · refine w_20_z (i := 4 * j) (N := h.length) (gs := gs) (pl := pl) (ty := ty) (wa := wa) (nw := nw) (nx := nx) (dp := (.int (nI 4294967295))) (ca := (.int (nI cn))) (mf := mf) (th := th) (sd := sd) (be := be) (ou := ou) (vf := vf) (wf := wf) (sf := sf) (uf := sf) (im := im) (jm := jm) (k := sk) (g := g) (pe := (.ref Ep)) (pm := (.int mp)) (ge := (.ref E)) (gm := (.int mc)) (q := np) hL hi ln.2 ln.1 rfl hk hS.2.2.2 hvw (fun _ _ => rfl) him np6 hg24 H0 hr.1 H400 h402 ?_
    rintro l6' l7' l8' l9' h' ⟨Q400, qf, ql, qz⟩
    exact hn _ _ _ _ _ (w.q qf (fun x hx => by simp only [List.mem_cons, List.not_mem_nil, or_false] at hx; omega) Q400 (pO.fr qf (fun x hx => by simp only [List.mem_cons, List.not_mem_nil, or_false] at hx; omega)) (by omega) (by omega) (by omega))
  · obtain ⟨f5, a5, _, _, b5⟩ := hy.2.2.1.2.2
    cases wy
    · refine w_20_0 (i := 4 * j) (N := h.length) (gs := gs) (pl := pl) (ty := ty) (wa := wa) (nw := nw) (nx := nx) (dp := (.int (nI c))) (ca := (.int (nI z1))) (mf := mf) (th := th) (sd := sd) (be := be) (ou := ou) (vf := vf) (wf := wf) (sf := sf) (uf := sf) (im := im) (jm := jm) (k := sk) (g := g) (pe := (.ref Ep)) (pm := (.int mp)) (ge := (.ref E)) (gm := (.int mc)) (q := np) (ins := (fun _ => nI p)) (pls := (fun _ => nI l)) (wys := f5) (le := (fun _ => nI 0)) (nu := (fun _ => nI 0)) (lf := (fun _ => nI 0)) (nv := (fun _ => nI 0)) (wl := (fun _ => 0)) (pr := p) (pp := l) (d := c) hL hi ln.2 ln.1 rfl hk hS.2.2.2 hvw (fun _ _ => rfl) him np6 hg24 hwf.2.2.1 (by have := hwf.1; omega) (by have := hwf.2.1; have := pK p hwf.1; omega) rfl rfl b5 (fun _ _ => ⟨rfl, by decide⟩) (fun _ _ => rfl) (fun _ _ => rfl) H0 hr.1 H400 hy.1 a5 H412 ?_
      rintro l6' l7' l8' l9' h' ⟨Q400, Q412, qf, ql, qz⟩
      exact hn _ _ _ _ _ (w.q qf (fun x hx => by simp only [List.mem_cons, List.not_mem_nil, or_false] at hx; omega) Q400 (pO.f2 qf (fun x hx => by simp only [List.mem_cons, List.not_mem_nil, or_false] at hx; omega) ⟨_, Q412⟩) (by omega) (by omega) (by omega))
    · refine w_20_1 (i := 4 * j) (N := h.length) (gs := gs) (pl := pl) (ty := ty) (wa := wa) (nw := nw) (nx := nx) (dp := (.int (nI c))) (ca := (.int (nI z1))) (mf := mf) (th := th) (sd := sd) (be := be) (ou := ou) (vf := vf) (wf := wf) (sf := sf) (uf := sf) (im := im) (jm := jm) (k := sk) (g := g) (pe := (.ref Ep)) (pm := (.int mp)) (ge := (.ref E)) (gm := (.int mc)) (q := np) (ins := (fun _ => nI p)) (pls := (fun _ => nI l)) (wys := f5) (le := (fun _ => nI 0)) (nu := (fun _ => nI 0)) (lf := (fun _ => nI 0)) (nv := (fun _ => nI 0)) (wl := (fun _ => 0)) (pr := p) (pp := l) (d := c) hL hi ln.2 ln.1 rfl hk hS.2.2.2 hvw (fun _ _ => rfl) him np6 hg24 hwf.2.2.1 (by have := hwf.1; omega) (by have := hwf.2.1; have := pK p hwf.1; omega) rfl rfl b5 (fun _ _ => ⟨rfl, by decide⟩) (fun _ _ => rfl) (fun _ _ => rfl) H0 hr.1 H400 hy.1 a5 H412 ?_
      rintro l6' l7' l8' l9' h' ⟨Q400, Q412, qf, ql, qz⟩
      exact hn _ _ _ _ _ (w.q qf (fun x hx => by simp only [List.mem_cons, List.not_mem_nil, or_false] at hx; omega) Q400 (pO.f2 qf (fun x hx => by simp only [List.mem_cons, List.not_mem_nil, or_false] at hx; omega) ⟨_, Q412⟩) (by omega) (by omega) (by omega))
theorem r_21 {L j : Nat} {xs : Nat → Int32} {h : mj_H} {l6 l7 l8 l9 : Option Value} {P : mj_H → Prop} {own : Nat → Nat} {th : Int32} {sd be : Int64} {gs pl ty wa nw nx : Value} {np : Nat} {K : Nat → Nat} {X : Nat → Nat → Nat → Nat} {rz : Nat} (w : wJ own th sd be gs pl ty wa nw nx np K X rz j h) (hL : L ≤ 2048) (hi : 4 * j + 4 ≤ L) (hk : xs (4 * j) &&& nI 63 = nI 21) (hn : ∀ (l6 l7 l8 l9 : Option Value) (g : mj_H), wI (j + 1) g → mj_lrun L xs (28, [some (.retAddr 1), some (.ref 0), some (.ref 400), some (.ref 412), some (.ref 413), some (.int (nI (4 * j + 4))), l6, l7, l8, l9], [], g) P) : mj_lrun L xs (28, [some (.retAddr 1), some (.ref 0), some (.ref 400), some (.ref 412), some (.ref 413), some (.int (nI (4 * j))), l6, l7, l8, l9], [], h) P := by
  obtain ⟨w1, H0, H400, pT, pL, pR, pV, pC, pI, pS, pO, pX, pP, pG, j5, b1, b2⟩ := id w
  have ln := w.len
  have np6 := pL.np
  obtain ⟨⟨ou, H412⟩, od, H413⟩ := id pO
  obtain ⟨k, vf, wf, sf, uf, dp, ca, hk20, H375, H376, H377, H402, H403, H404, hvw, hsu⟩ := pR.w
  obtain ⟨mp, Ep, H38, H401⟩ := pL.w
  obtain ⟨g, E, G, rf, mf, hg24, H393, H394, hls, hGG, hEo⟩ := id pC
  obtain ⟨cap, mc, ef, H410, hEA, hgc, hc31, hE3, hef⟩ := id hls
  obtain ⟨im, jm, IM, H397, H411, hIM, hJM⟩ := id pI
  have him : ∀ i, i < 8 → jm i = im i := fun i hi => by rw [(hIM i hi).1, (hJM i hi).1]
  have hG1 : ∀ i, i < g → rf i = nI (G i) ∧ G i < 24 := fun i hi => ⟨(hGG i hi).1, (hGG i hi).2.1⟩
  have hG2 : ∀ i, i < g → ef i = some (1000138 + G i) ∧ G i < 24 := fun i hi => ⟨(hef i hi).1, (hGG i hi).2.1⟩
  have hGi : ∀ i, i < g → isG (G i) := fun i hi => (hGG i hi).2
  have e1 : mj_CB = 1000000 := rfl
  have HE := rdA_lt hEA
  have hE9 : E = 1000000 ∨ 414 ≤ E ∧ E < h.length ∧ own E = 2 := hE3.elim (fun q => Or.inr (by have o := hEo q.1; have := w1 E (by omega); omega)) (fun q => Or.inl q.1)
  have hE0 : 414 ≤ E := by omega
  have hEN : E < h.length ∨ E = 1000000 := by omega
  have oE : own E = 0 ∨ own E = 2 := hE9.elim (fun q => Or.inl (by
    by_cases z : own E = 0
    · exact z
    · have := w1 E z
      omega)) (fun q => Or.inr q.2.2)
  have pK := pL.pk
  obtain ⟨⟨vv, st, sk⟩, hS, ⟨hb, ⟨r, hr⟩, cn, h402⟩ | ⟨⟨p, l, c, wy, cp, cl, cw⟩, ⟨z1, za, zb, zc, zd⟩, hr, hy, hwf, hnr, hz, hza, hzc⟩⟩ := id pR
  · rcases (by omega : (xs (4 * j + 1)).toInt < 0 ∨ 0 ≤ (xs (4 * j + 1)).toInt) with q | q
    · refine w_21_zn (i := 4 * j) (N := h.length) (gs := gs) (pl := pl) (ty := ty) (wa := wa) (nw := nw) (nx := nx) (dp := (.int (nI 4294967295))) (ca := (.int (nI cn))) (mf := mf) (th := th) (sd := sd) (be := be) (ou := ou) (vf := vf) (wf := wf) (sf := sf) (uf := sf) (im := im) (jm := jm) (k := sk) (g := g) (pe := (.ref Ep)) (pm := (.int mp)) (ge := (.ref E)) (gm := (.int mc)) (q := np) (p := _) hL hi ln.2 ln.1 rfl hk hS.2.2.2 hvw (fun _ _ => rfl) him np6 hg24 q rfl H0 hr.1 H400 h402 ?_
      rintro l6' l7' l8' l9' h' ⟨Q400, qf, ql, qz⟩
      exact hn _ _ _ _ _ (w.q qf (fun x hx => by simp only [List.mem_cons, List.not_mem_nil, or_false] at hx; omega) Q400 (pO.fr qf (fun x hx => by simp only [List.mem_cons, List.not_mem_nil, or_false] at hx; omega)) (by omega) (by omega) (by omega))
    · refine w_21_zp (i := 4 * j) (N := h.length) (gs := gs) (pl := pl) (ty := ty) (wa := wa) (nw := nw) (nx := nx) (dp := (.int (nI 4294967295))) (ca := (.int (nI cn))) (mf := mf) (th := th) (sd := sd) (be := be) (ou := ou) (vf := vf) (wf := wf) (sf := sf) (uf := sf) (im := im) (jm := jm) (k := sk) (g := g) (pe := (.ref Ep)) (pm := (.int mp)) (ge := (.ref E)) (gm := (.int mc)) (q := np) (p := _) hL hi ln.2 ln.1 rfl hk hS.2.2.2 hvw (fun _ _ => rfl) him np6 hg24 q rfl H0 hr.1 H400 h402 ?_
      rintro l6' l7' l8' l9' h' ⟨Q400, qf, ql, qz⟩
      exact hn _ _ _ _ _ (w.q qf (fun x hx => by simp only [List.mem_cons, List.not_mem_nil, or_false] at hx; omega) Q400 (pO.fr qf (fun x hx => by simp only [List.mem_cons, List.not_mem_nil, or_false] at hx; omega)) (by omega) (by omega) (by omega))
  · obtain ⟨le, nu, H385, H386, hz2, ha1, ha2⟩ := hr.2.2
    obtain ⟨lf, nv, H408, H409, _, hb1, hb2⟩ := hy.2.2.2
    have hz3 : z1 ≤ 2 := hz2
    rcases (by omega : z1 = 0 ∨ z1 = 1 ∨ z1 = 2) with q0 | q0 | q0
    · obtain rfl := q0
      rcases (by omega : (xs (4 * j + 1)).toInt < 0 ∨ 0 ≤ (xs (4 * j + 1)).toInt) with q | q
      · refine w_21_n0 (i := 4 * j) (N := h.length) (gs := gs) (pl := pl) (ty := ty) (wa := wa) (nw := nw) (nx := nx) (dp := (.int (nI c))) (ca := (.int (nI 0))) (mf := mf) (th := th) (sd := sd) (be := be) (ou := ou) (vf := vf) (wf := wf) (sf := sf) (uf := sf) (im := im) (jm := jm) (k := sk) (g := g) (pe := (.ref Ep)) (pm := (.int mp)) (ge := (.ref E)) (gm := (.int mc)) (q := np) (ins := (fun _ => nI p)) (pls := (fun _ => nI l)) (wys := (fun _ => nI (bN wy))) (le := (fun _ => nI 0)) (nu := (fun _ => nI 0)) (lf := (fun _ => nI 0)) (nv := (fun _ => nI 0)) (wl := (fun _ => 0)) (pr := p) (pp := l) (d := c) (p := _) hL hi ln.2 ln.1 rfl hk hS.2.2.2 hvw (fun _ _ => rfl) him np6 hg24 hwf.2.2.1 (by have := hwf.1; omega) (by have := hwf.2.1; have := pK p hwf.1; omega) rfl rfl (fun _ _ => ⟨rfl, by decide⟩) (fun _ _ => rfl) (fun _ _ => rfl) q rfl H0 hr.1 H400 hy.1 ?_
        rintro l6' l7' l8' l9' h' ⟨Q400, qf, ql, qz⟩
        exact hn _ _ _ _ _ (w.q qf (fun x hx => by simp only [List.mem_cons, List.not_mem_nil, or_false] at hx; omega) Q400 (pO.fr qf (fun x hx => by simp only [List.mem_cons, List.not_mem_nil, or_false] at hx; omega)) (by omega) (by omega) (by omega))
      · obtain ⟨v, hvb, hx1⟩ := toI_ex q
        refine w_21_p0 (i := 4 * j) (N := h.length) (gs := gs) (pl := pl) (ty := ty) (wa := wa) (nw := nw) (nx := nx) (dp := (.int (nI c))) (ca := (.int (nI 0))) (mf := mf) (th := th) (sd := sd) (be := be) (ou := ou) (vf := vf) (wf := wf) (sf := sf) (uf := sf) (im := im) (jm := jm) (k := sk) (g := g) (pe := (.ref Ep)) (pm := (.int mp)) (ge := (.ref E)) (gm := (.int mc)) (q := np) (ins := (fun _ => nI p)) (pls := (fun _ => nI l)) (wys := (fun _ => nI (bN wy))) (le := (fun _ => nI 0)) (nu := (fun _ => nI 0)) (lf := (fun _ => nI 0)) (nv := (fun _ => nI 0)) (wl := (fun _ => 0)) (pr := p) (pp := l) (d := c) (p := _) hL hi ln.2 ln.1 rfl hk hS.2.2.2 hvw (fun _ _ => rfl) him np6 hg24 hwf.2.2.1 (by have := hwf.1; omega) (by have := hwf.2.1; have := pK p hwf.1; omega) rfl rfl (fun _ _ => ⟨rfl, by decide⟩) (fun _ _ => rfl) (fun _ _ => rfl) (by rw [hx1, mI_ti hvb]; omega) rfl H0 hr.1 H400 hy.1 ?_
        rintro l6' l7' l8' l9' h' ⟨Q400, qf, ql, qz⟩
        exact hn _ _ _ _ _ (w.q qf (fun x hx => by simp only [List.mem_cons, List.not_mem_nil, or_false] at hx; omega) Q400 (pO.fr qf (fun x hx => by simp only [List.mem_cons, List.not_mem_nil, or_false] at hx; omega)) (by omega) (by omega) (by omega))
    · obtain rfl := q0
      rcases (by omega : (xs (4 * j + 1)).toInt < 0 ∨ 0 ≤ (xs (4 * j + 1)).toInt) with q | q
      · refine w_21_n1 (i := 4 * j) (N := h.length) (gs := gs) (pl := pl) (ty := ty) (wa := wa) (nw := nw) (nx := nx) (dp := (.int (nI c))) (ca := (.int (nI 1))) (mf := mf) (th := th) (sd := sd) (be := be) (ou := ou) (vf := vf) (wf := wf) (sf := sf) (uf := sf) (im := im) (jm := jm) (k := sk) (g := g) (pe := (.ref Ep)) (pm := (.int mp)) (ge := (.ref E)) (gm := (.int mc)) (q := np) (ins := (fun _ => nI p)) (pls := (fun _ => nI l)) (wys := (fun _ => nI (bN wy))) (le := (fun _ => nI 0)) (nu := (fun _ => nI 0)) (lf := (fun _ => nI 0)) (nv := (fun _ => nI 0)) (wl := (fun _ => 0)) (pr := p) (pp := l) (d := c) (p := _) hL hi ln.2 ln.1 rfl hk hS.2.2.2 hvw (fun _ _ => rfl) him np6 hg24 hwf.2.2.1 (by have := hwf.1; omega) (by have := hwf.2.1; have := pK p hwf.1; omega) rfl rfl (fun _ _ => ⟨rfl, by decide⟩) (fun _ _ => rfl) (fun _ _ => rfl) q rfl H0 hr.1 H400 hy.1 ?_
        rintro l6' l7' l8' l9' h' ⟨Q400, qf, ql, qz⟩
        exact hn _ _ _ _ _ (w.q qf (fun x hx => by simp only [List.mem_cons, List.not_mem_nil, or_false] at hx; omega) Q400 (pO.fr qf (fun x hx => by simp only [List.mem_cons, List.not_mem_nil, or_false] at hx; omega)) (by omega) (by omega) (by omega))
      · obtain ⟨v, hvb, hx1⟩ := toI_ex q
        rcases (by omega : v = 0 ∨ 1 ≤ v) with z | z
        · subst z
          refine w_21_1b (i := 4 * j) (N := h.length) (gs := gs) (pl := pl) (ty := ty) (wa := wa) (nw := nw) (nx := nx) (dp := (.int (nI c))) (ca := (.int (nI 1))) (mf := mf) (th := th) (sd := sd) (be := be) (ou := ou) (vf := vf) (wf := wf) (sf := sf) (uf := sf) (im := im) (jm := jm) (k := sk) (g := g) (pe := (.ref Ep)) (pm := (.int mp)) (ge := (.ref E)) (gm := (.int mc)) (q := np) (le := le) (nu := nu) (lf := lf) (nv := nv) (wl := (fun i => if i = 0 then za else zc)) (d := c) hL hi ln.2 ln.1 rfl hk hS.2.2.2 hvw (fun _ _ => rfl) him np6 hg24 hwf.2.2.1 (fun i hi => by rw [show i = 0 by omega]; exact ⟨(ha1 (show 0 < 1 by decide)).1, hza⟩) (fun i hi => by rw [show i = 0 by omega]; exact (hb1 (show 0 < 1 by decide)).1) (fun i hi => by rw [show i = 0 by omega]; exact (hb1 (show 0 < 1 by decide)).2.trans (ha1 (show 0 < 1 by decide)).2.symm) hx1 H0 hr.1 H385 H400 hy.1 H408 H412 ?_
          rintro l6' l7' l8' l9' h' ⟨Q400, Q412, qf, ql, qz⟩
          exact hn _ _ _ _ _ (w.q qf (fun x hx => by simp only [List.mem_cons, List.not_mem_nil, or_false] at hx; omega) Q400 (pO.f2 qf (fun x hx => by simp only [List.mem_cons, List.not_mem_nil, or_false] at hx; omega) ⟨_, Q412⟩) (by omega) (by omega) (by omega))
        · refine w_21_p1 (i := 4 * j) (N := h.length) (gs := gs) (pl := pl) (ty := ty) (wa := wa) (nw := nw) (nx := nx) (dp := (.int (nI c))) (ca := (.int (nI 1))) (mf := mf) (th := th) (sd := sd) (be := be) (ou := ou) (vf := vf) (wf := wf) (sf := sf) (uf := sf) (im := im) (jm := jm) (k := sk) (g := g) (pe := (.ref Ep)) (pm := (.int mp)) (ge := (.ref E)) (gm := (.int mc)) (q := np) (ins := (fun _ => nI p)) (pls := (fun _ => nI l)) (wys := (fun _ => nI (bN wy))) (le := (fun _ => nI 0)) (nu := (fun _ => nI 0)) (lf := (fun _ => nI 0)) (nv := (fun _ => nI 0)) (wl := (fun _ => 0)) (pr := p) (pp := l) (d := c) (p := _) hL hi ln.2 ln.1 rfl hk hS.2.2.2 hvw (fun _ _ => rfl) him np6 hg24 hwf.2.2.1 (by have := hwf.1; omega) (by have := hwf.2.1; have := pK p hwf.1; omega) rfl rfl (fun _ _ => ⟨rfl, by decide⟩) (fun _ _ => rfl) (fun _ _ => rfl) (by rw [hx1, mI_ti hvb]; omega) rfl H0 hr.1 H400 hy.1 ?_
          rintro l6' l7' l8' l9' h' ⟨Q400, qf, ql, qz⟩
          exact hn _ _ _ _ _ (w.q qf (fun x hx => by simp only [List.mem_cons, List.not_mem_nil, or_false] at hx; omega) Q400 (pO.fr qf (fun x hx => by simp only [List.mem_cons, List.not_mem_nil, or_false] at hx; omega)) (by omega) (by omega) (by omega))
    · obtain rfl := q0
      rcases (by omega : (xs (4 * j + 1)).toInt < 0 ∨ 0 ≤ (xs (4 * j + 1)).toInt) with q | q
      · refine w_21_n2 (i := 4 * j) (N := h.length) (gs := gs) (pl := pl) (ty := ty) (wa := wa) (nw := nw) (nx := nx) (dp := (.int (nI c))) (ca := (.int (nI 2))) (mf := mf) (th := th) (sd := sd) (be := be) (ou := ou) (vf := vf) (wf := wf) (sf := sf) (uf := sf) (im := im) (jm := jm) (k := sk) (g := g) (pe := (.ref Ep)) (pm := (.int mp)) (ge := (.ref E)) (gm := (.int mc)) (q := np) (ins := (fun _ => nI p)) (pls := (fun _ => nI l)) (wys := (fun _ => nI (bN wy))) (le := (fun _ => nI 0)) (nu := (fun _ => nI 0)) (lf := (fun _ => nI 0)) (nv := (fun _ => nI 0)) (wl := (fun _ => 0)) (pr := p) (pp := l) (d := c) (p := _) hL hi ln.2 ln.1 rfl hk hS.2.2.2 hvw (fun _ _ => rfl) him np6 hg24 hwf.2.2.1 (by have := hwf.1; omega) (by have := hwf.2.1; have := pK p hwf.1; omega) rfl rfl (fun _ _ => ⟨rfl, by decide⟩) (fun _ _ => rfl) (fun _ _ => rfl) q rfl H0 hr.1 H400 hy.1 ?_
        rintro l6' l7' l8' l9' h' ⟨Q400, qf, ql, qz⟩
        exact hn _ _ _ _ _ (w.q qf (fun x hx => by simp only [List.mem_cons, List.not_mem_nil, or_false] at hx; omega) Q400 (pO.fr qf (fun x hx => by simp only [List.mem_cons, List.not_mem_nil, or_false] at hx; omega)) (by omega) (by omega) (by omega))
      · obtain ⟨v, hvb, hx1⟩ := toI_ex q
        rcases (by omega : v = 0 ∨ v = 1 ∨ 2 ≤ v) with z | z | z
        · subst z
          refine w_21_20 (i := 4 * j) (N := h.length) (gs := gs) (pl := pl) (ty := ty) (wa := wa) (nw := nw) (nx := nx) (dp := (.int (nI c))) (ca := (.int (nI 2))) (mf := mf) (th := th) (sd := sd) (be := be) (ou := ou) (vf := vf) (wf := wf) (sf := sf) (uf := sf) (im := im) (jm := jm) (k := sk) (g := g) (pe := (.ref Ep)) (pm := (.int mp)) (ge := (.ref E)) (gm := (.int mc)) (q := np) (ins := (fun _ => nI p)) (pls := (fun _ => nI l)) (wys := (fun _ => nI (bN wy))) (le := le) (nu := nu) (lf := lf) (nv := nv) (wl := (fun i => if i = 0 then za else zc)) (pr := p) (pp := l) (d := c) hL hi ln.2 ln.1 rfl hk hS.2.2.2 hvw (fun _ _ => rfl) him np6 hg24 hwf.2.2.1 (by have := hwf.1; omega) (by have := hwf.2.1; have := pK p hwf.1; omega) rfl rfl (fun i hi => by rcases (by omega : i = 0 ∨ i = 1) with z | z <;> rw [z]; exact ⟨(ha1 (show 0 < 2 by decide)).1, hza⟩; exact ⟨(ha2 (show 1 < 2 by decide)).1, hzc⟩) (fun i hi => by rcases (by omega : i = 0 ∨ i = 1) with z | z <;> rw [z]; exact (hb1 (show 0 < 2 by decide)).1; exact (hb2 (show 1 < 2 by decide)).1) (fun i hi => by rcases (by omega : i = 0 ∨ i = 1) with z | z <;> rw [z]; exact (hb1 (show 0 < 2 by decide)).2.trans (ha1 (show 0 < 2 by decide)).2.symm; exact (hb2 (show 1 < 2 by decide)).2.trans (ha2 (show 1 < 2 by decide)).2.symm) hx1 H0 hr.1 H385 H400 hy.1 H408 H412 ?_
          rintro l6' l7' l8' l9' h' ⟨Q400, Q412, qf, ql, qz⟩
          exact hn _ _ _ _ _ (w.q qf (fun x hx => by simp only [List.mem_cons, List.not_mem_nil, or_false] at hx; omega) Q400 (pO.f2 qf (fun x hx => by simp only [List.mem_cons, List.not_mem_nil, or_false] at hx; omega) ⟨_, Q412⟩) (by omega) (by omega) (by omega))
        · subst z
          refine w_21_21 (i := 4 * j) (N := h.length) (gs := gs) (pl := pl) (ty := ty) (wa := wa) (nw := nw) (nx := nx) (dp := (.int (nI c))) (ca := (.int (nI 2))) (mf := mf) (th := th) (sd := sd) (be := be) (ou := ou) (vf := vf) (wf := wf) (sf := sf) (uf := sf) (im := im) (jm := jm) (k := sk) (g := g) (pe := (.ref Ep)) (pm := (.int mp)) (ge := (.ref E)) (gm := (.int mc)) (q := np) (ins := (fun _ => nI p)) (pls := (fun _ => nI l)) (wys := (fun _ => nI (bN wy))) (le := le) (nu := nu) (lf := lf) (nv := nv) (wl := (fun i => if i = 0 then za else zc)) (pr := p) (pp := l) (d := c) hL hi ln.2 ln.1 rfl hk hS.2.2.2 hvw (fun _ _ => rfl) him np6 hg24 hwf.2.2.1 (by have := hwf.1; omega) (by have := hwf.2.1; have := pK p hwf.1; omega) rfl rfl (fun i hi => by rcases (by omega : i = 0 ∨ i = 1) with z | z <;> rw [z]; exact ⟨(ha1 (show 0 < 2 by decide)).1, hza⟩; exact ⟨(ha2 (show 1 < 2 by decide)).1, hzc⟩) (fun i hi => by rcases (by omega : i = 0 ∨ i = 1) with z | z <;> rw [z]; exact (hb1 (show 0 < 2 by decide)).1; exact (hb2 (show 1 < 2 by decide)).1) (fun i hi => by rcases (by omega : i = 0 ∨ i = 1) with z | z <;> rw [z]; exact (hb1 (show 0 < 2 by decide)).2.trans (ha1 (show 0 < 2 by decide)).2.symm; exact (hb2 (show 1 < 2 by decide)).2.trans (ha2 (show 1 < 2 by decide)).2.symm) hx1 H0 hr.1 H385 H400 hy.1 H408 H412 ?_
          rintro l6' l7' l8' l9' h' ⟨Q400, Q412, qf, ql, qz⟩
          exact hn _ _ _ _ _ (w.q qf (fun x hx => by simp only [List.mem_cons, List.not_mem_nil, or_false] at hx; omega) Q400 (pO.f2 qf (fun x hx => by simp only [List.mem_cons, List.not_mem_nil, or_false] at hx; omega) ⟨_, Q412⟩) (by omega) (by omega) (by omega))
        · refine w_21_p2 (i := 4 * j) (N := h.length) (gs := gs) (pl := pl) (ty := ty) (wa := wa) (nw := nw) (nx := nx) (dp := (.int (nI c))) (ca := (.int (nI 2))) (mf := mf) (th := th) (sd := sd) (be := be) (ou := ou) (vf := vf) (wf := wf) (sf := sf) (uf := sf) (im := im) (jm := jm) (k := sk) (g := g) (pe := (.ref Ep)) (pm := (.int mp)) (ge := (.ref E)) (gm := (.int mc)) (q := np) (ins := (fun _ => nI p)) (pls := (fun _ => nI l)) (wys := (fun _ => nI (bN wy))) (le := (fun _ => nI 0)) (nu := (fun _ => nI 0)) (lf := (fun _ => nI 0)) (nv := (fun _ => nI 0)) (wl := (fun _ => 0)) (pr := p) (pp := l) (d := c) (p := _) hL hi ln.2 ln.1 rfl hk hS.2.2.2 hvw (fun _ _ => rfl) him np6 hg24 hwf.2.2.1 (by have := hwf.1; omega) (by have := hwf.2.1; have := pK p hwf.1; omega) rfl rfl (fun _ _ => ⟨rfl, by decide⟩) (fun _ _ => rfl) (fun _ _ => rfl) (by rw [hx1, mI_ti hvb]; omega) rfl H0 hr.1 H400 hy.1 ?_
          rintro l6' l7' l8' l9' h' ⟨Q400, qf, ql, qz⟩
          exact hn _ _ _ _ _ (w.q qf (fun x hx => by simp only [List.mem_cons, List.not_mem_nil, or_false] at hx; omega) Q400 (pO.fr qf (fun x hx => by simp only [List.mem_cons, List.not_mem_nil, or_false] at hx; omega)) (by omega) (by omega) (by omega))
theorem r_22 {L j : Nat} {xs : Nat → Int32} {h : mj_H} {l6 l7 l8 l9 : Option Value} {P : mj_H → Prop} {own : Nat → Nat} {th : Int32} {sd be : Int64} {gs pl ty wa nw nx : Value} {np : Nat} {K : Nat → Nat} {X : Nat → Nat → Nat → Nat} {rz : Nat} (w : wJ own th sd be gs pl ty wa nw nx np K X rz j h) (hL : L ≤ 2048) (hi : 4 * j + 4 ≤ L) (hk : xs (4 * j) &&& nI 63 = nI 22) (hn : ∀ (l6 l7 l8 l9 : Option Value) (g : mj_H), wI (j + 1) g → mj_lrun L xs (28, [some (.retAddr 1), some (.ref 0), some (.ref 400), some (.ref 412), some (.ref 413), some (.int (nI (4 * j + 4))), l6, l7, l8, l9], [], g) P) : mj_lrun L xs (28, [some (.retAddr 1), some (.ref 0), some (.ref 400), some (.ref 412), some (.ref 413), some (.int (nI (4 * j))), l6, l7, l8, l9], [], h) P := by
  obtain ⟨w1, H0, H400, pT, pL, pR, pV, pC, pI, pS, pO, pX, pP, pG, j5, b1, b2⟩ := id w
  have ln := w.len
  have np6 := pL.np
  obtain ⟨⟨ou, H412⟩, od, H413⟩ := id pO
  obtain ⟨k, vf, wf, sf, uf, dp, ca, hk20, H375, H376, H377, H402, H403, H404, hvw, hsu⟩ := pR.w
  obtain ⟨mp, Ep, H38, H401⟩ := pL.w
  obtain ⟨g, E, G, rf, mf, hg24, H393, H394, hls, hGG, hEo⟩ := id pC
  obtain ⟨cap, mc, ef, H410, hEA, hgc, hc31, hE3, hef⟩ := id hls
  obtain ⟨im, jm, IM, H397, H411, hIM, hJM⟩ := id pI
  have him : ∀ i, i < 8 → jm i = im i := fun i hi => by rw [(hIM i hi).1, (hJM i hi).1]
  have hG1 : ∀ i, i < g → rf i = nI (G i) ∧ G i < 24 := fun i hi => ⟨(hGG i hi).1, (hGG i hi).2.1⟩
  have hG2 : ∀ i, i < g → ef i = some (1000138 + G i) ∧ G i < 24 := fun i hi => ⟨(hef i hi).1, (hGG i hi).2.1⟩
  have hGi : ∀ i, i < g → isG (G i) := fun i hi => (hGG i hi).2
  have e1 : mj_CB = 1000000 := rfl
  have HE := rdA_lt hEA
  have hE9 : E = 1000000 ∨ 414 ≤ E ∧ E < h.length ∧ own E = 2 := hE3.elim (fun q => Or.inr (by have o := hEo q.1; have := w1 E (by omega); omega)) (fun q => Or.inl q.1)
  have hE0 : 414 ≤ E := by omega
  have hEN : E < h.length ∨ E = 1000000 := by omega
  have oE : own E = 0 ∨ own E = 2 := hE9.elim (fun q => Or.inl (by
    by_cases z : own E = 0
    · exact z
    · have := w1 E z
      omega)) (fun q => Or.inr q.2.2)
  have pK := pL.pk
  obtain ⟨⟨vv, st, sk⟩, hS, ⟨hb, ⟨r, hr⟩, cn, h402⟩ | ⟨⟨p, l, c, wy, cp, cl, cw⟩, ⟨z1, za, zb, zc, zd⟩, hr, hy, hwf, hnr, hz, hza, hzc⟩⟩ := id pR
  · rcases (by omega : (xs (4 * j + 1)).toInt < 0 ∨ 0 ≤ (xs (4 * j + 1)).toInt) with q | q
    · refine w_22_zn (i := 4 * j) (N := h.length) (gs := gs) (pl := pl) (ty := ty) (wa := wa) (nw := nw) (nx := nx) (dp := (.int (nI 4294967295))) (ca := (.int (nI cn))) (mf := mf) (th := th) (sd := sd) (be := be) (ou := ou) (vf := vf) (wf := wf) (sf := sf) (uf := sf) (im := im) (jm := jm) (k := sk) (g := g) (pe := (.ref Ep)) (pm := (.int mp)) (ge := (.ref E)) (gm := (.int mc)) (q := np) (p := _) hL hi ln.2 ln.1 rfl hk hS.2.2.2 hvw (fun _ _ => rfl) him np6 hg24 q rfl H0 hr.1 H400 h402 ?_
      rintro l6' l7' l8' l9' h' ⟨Q400, qf, ql, qz⟩
      exact hn _ _ _ _ _ (w.q qf (fun x hx => by simp only [List.mem_cons, List.not_mem_nil, or_false] at hx; omega) Q400 (pO.fr qf (fun x hx => by simp only [List.mem_cons, List.not_mem_nil, or_false] at hx; omega)) (by omega) (by omega) (by omega))
    · refine w_22_zp (i := 4 * j) (N := h.length) (gs := gs) (pl := pl) (ty := ty) (wa := wa) (nw := nw) (nx := nx) (dp := (.int (nI 4294967295))) (ca := (.int (nI cn))) (mf := mf) (th := th) (sd := sd) (be := be) (ou := ou) (vf := vf) (wf := wf) (sf := sf) (uf := sf) (im := im) (jm := jm) (k := sk) (g := g) (pe := (.ref Ep)) (pm := (.int mp)) (ge := (.ref E)) (gm := (.int mc)) (q := np) (p := _) hL hi ln.2 ln.1 rfl hk hS.2.2.2 hvw (fun _ _ => rfl) him np6 hg24 q rfl H0 hr.1 H400 h402 ?_
      rintro l6' l7' l8' l9' h' ⟨Q400, qf, ql, qz⟩
      exact hn _ _ _ _ _ (w.q qf (fun x hx => by simp only [List.mem_cons, List.not_mem_nil, or_false] at hx; omega) Q400 (pO.fr qf (fun x hx => by simp only [List.mem_cons, List.not_mem_nil, or_false] at hx; omega)) (by omega) (by omega) (by omega))
  · obtain ⟨le, nu, H385, H386, hz2, ha1, ha2⟩ := hr.2.2
    obtain ⟨lf, nv, H408, H409, _, hb1, hb2⟩ := hy.2.2.2
    have hz3 : z1 ≤ 2 := hz2
    rcases (by omega : z1 = 0 ∨ z1 = 1 ∨ z1 = 2) with q0 | q0 | q0
    · obtain rfl := q0
      rcases (by omega : (xs (4 * j + 1)).toInt < 0 ∨ 0 ≤ (xs (4 * j + 1)).toInt) with q | q
      · refine w_22_n0 (i := 4 * j) (N := h.length) (gs := gs) (pl := pl) (ty := ty) (wa := wa) (nw := nw) (nx := nx) (dp := (.int (nI c))) (ca := (.int (nI 0))) (mf := mf) (th := th) (sd := sd) (be := be) (ou := ou) (vf := vf) (wf := wf) (sf := sf) (uf := sf) (im := im) (jm := jm) (k := sk) (g := g) (pe := (.ref Ep)) (pm := (.int mp)) (ge := (.ref E)) (gm := (.int mc)) (q := np) (ins := (fun _ => nI p)) (pls := (fun _ => nI l)) (wys := (fun _ => nI (bN wy))) (le := (fun _ => nI 0)) (nu := (fun _ => nI 0)) (lf := (fun _ => nI 0)) (nv := (fun _ => nI 0)) (wl := (fun _ => 0)) (pr := p) (pp := l) (d := c) (p := _) hL hi ln.2 ln.1 rfl hk hS.2.2.2 hvw (fun _ _ => rfl) him np6 hg24 hwf.2.2.1 (by have := hwf.1; omega) (by have := hwf.2.1; have := pK p hwf.1; omega) rfl rfl (fun _ _ => ⟨rfl, by decide⟩) (fun _ _ => rfl) (fun _ _ => rfl) q rfl H0 hr.1 H400 hy.1 ?_
        rintro l6' l7' l8' l9' h' ⟨Q400, qf, ql, qz⟩
        exact hn _ _ _ _ _ (w.q qf (fun x hx => by simp only [List.mem_cons, List.not_mem_nil, or_false] at hx; omega) Q400 (pO.fr qf (fun x hx => by simp only [List.mem_cons, List.not_mem_nil, or_false] at hx; omega)) (by omega) (by omega) (by omega))
      · obtain ⟨v, hvb, hx1⟩ := toI_ex q
        refine w_22_p0 (i := 4 * j) (N := h.length) (gs := gs) (pl := pl) (ty := ty) (wa := wa) (nw := nw) (nx := nx) (dp := (.int (nI c))) (ca := (.int (nI 0))) (mf := mf) (th := th) (sd := sd) (be := be) (ou := ou) (vf := vf) (wf := wf) (sf := sf) (uf := sf) (im := im) (jm := jm) (k := sk) (g := g) (pe := (.ref Ep)) (pm := (.int mp)) (ge := (.ref E)) (gm := (.int mc)) (q := np) (ins := (fun _ => nI p)) (pls := (fun _ => nI l)) (wys := (fun _ => nI (bN wy))) (le := (fun _ => nI 0)) (nu := (fun _ => nI 0)) (lf := (fun _ => nI 0)) (nv := (fun _ => nI 0)) (wl := (fun _ => 0)) (pr := p) (pp := l) (d := c) (p := _) hL hi ln.2 ln.1 rfl hk hS.2.2.2 hvw (fun _ _ => rfl) him np6 hg24 hwf.2.2.1 (by have := hwf.1; omega) (by have := hwf.2.1; have := pK p hwf.1; omega) rfl rfl (fun _ _ => ⟨rfl, by decide⟩) (fun _ _ => rfl) (fun _ _ => rfl) (by rw [hx1, mI_ti hvb]; omega) rfl H0 hr.1 H400 hy.1 ?_
        rintro l6' l7' l8' l9' h' ⟨Q400, qf, ql, qz⟩
        exact hn _ _ _ _ _ (w.q qf (fun x hx => by simp only [List.mem_cons, List.not_mem_nil, or_false] at hx; omega) Q400 (pO.fr qf (fun x hx => by simp only [List.mem_cons, List.not_mem_nil, or_false] at hx; omega)) (by omega) (by omega) (by omega))
    · obtain rfl := q0
      rcases (by omega : (xs (4 * j + 1)).toInt < 0 ∨ 0 ≤ (xs (4 * j + 1)).toInt) with q | q
      · refine w_22_n1 (i := 4 * j) (N := h.length) (gs := gs) (pl := pl) (ty := ty) (wa := wa) (nw := nw) (nx := nx) (dp := (.int (nI c))) (ca := (.int (nI 1))) (mf := mf) (th := th) (sd := sd) (be := be) (ou := ou) (vf := vf) (wf := wf) (sf := sf) (uf := sf) (im := im) (jm := jm) (k := sk) (g := g) (pe := (.ref Ep)) (pm := (.int mp)) (ge := (.ref E)) (gm := (.int mc)) (q := np) (ins := (fun _ => nI p)) (pls := (fun _ => nI l)) (wys := (fun _ => nI (bN wy))) (le := (fun _ => nI 0)) (nu := (fun _ => nI 0)) (lf := (fun _ => nI 0)) (nv := (fun _ => nI 0)) (wl := (fun _ => 0)) (pr := p) (pp := l) (d := c) (p := _) hL hi ln.2 ln.1 rfl hk hS.2.2.2 hvw (fun _ _ => rfl) him np6 hg24 hwf.2.2.1 (by have := hwf.1; omega) (by have := hwf.2.1; have := pK p hwf.1; omega) rfl rfl (fun _ _ => ⟨rfl, by decide⟩) (fun _ _ => rfl) (fun _ _ => rfl) q rfl H0 hr.1 H400 hy.1 ?_
        rintro l6' l7' l8' l9' h' ⟨Q400, qf, ql, qz⟩
        exact hn _ _ _ _ _ (w.q qf (fun x hx => by simp only [List.mem_cons, List.not_mem_nil, or_false] at hx; omega) Q400 (pO.fr qf (fun x hx => by simp only [List.mem_cons, List.not_mem_nil, or_false] at hx; omega)) (by omega) (by omega) (by omega))
      · obtain ⟨v, hvb, hx1⟩ := toI_ex q
        rcases (by omega : v = 0 ∨ 1 ≤ v) with z | z
        · subst z
          refine w_22_1b (i := 4 * j) (N := h.length) (gs := gs) (pl := pl) (ty := ty) (wa := wa) (nw := nw) (nx := nx) (dp := (.int (nI c))) (ca := (.int (nI 1))) (mf := mf) (th := th) (sd := sd) (be := be) (ou := ou) (vf := vf) (wf := wf) (sf := sf) (uf := sf) (im := im) (jm := jm) (k := sk) (g := g) (pe := (.ref Ep)) (pm := (.int mp)) (ge := (.ref E)) (gm := (.int mc)) (q := np) (le := le) (nu := nu) (lf := lf) (nv := nv) (wl := (fun i => if i = 0 then za else zc)) (d := c) hL hi ln.2 ln.1 rfl hk hS.2.2.2 hvw (fun _ _ => rfl) him np6 hg24 hwf.2.2.1 (fun i hi => by rw [show i = 0 by omega]; exact ⟨(ha1 (show 0 < 1 by decide)).1, hza⟩) (fun i hi => by rw [show i = 0 by omega]; exact (hb1 (show 0 < 1 by decide)).1) (fun i hi => by rw [show i = 0 by omega]; exact (hb1 (show 0 < 1 by decide)).2.trans (ha1 (show 0 < 1 by decide)).2.symm) hx1 H0 hr.1 H386 H400 hy.1 H409 H412 ?_
          rintro l6' l7' l8' l9' h' ⟨Q400, Q412, qf, ql, qz⟩
          exact hn _ _ _ _ _ (w.q qf (fun x hx => by simp only [List.mem_cons, List.not_mem_nil, or_false] at hx; omega) Q400 (pO.f2 qf (fun x hx => by simp only [List.mem_cons, List.not_mem_nil, or_false] at hx; omega) ⟨_, Q412⟩) (by omega) (by omega) (by omega))
        · refine w_22_p1 (i := 4 * j) (N := h.length) (gs := gs) (pl := pl) (ty := ty) (wa := wa) (nw := nw) (nx := nx) (dp := (.int (nI c))) (ca := (.int (nI 1))) (mf := mf) (th := th) (sd := sd) (be := be) (ou := ou) (vf := vf) (wf := wf) (sf := sf) (uf := sf) (im := im) (jm := jm) (k := sk) (g := g) (pe := (.ref Ep)) (pm := (.int mp)) (ge := (.ref E)) (gm := (.int mc)) (q := np) (ins := (fun _ => nI p)) (pls := (fun _ => nI l)) (wys := (fun _ => nI (bN wy))) (le := (fun _ => nI 0)) (nu := (fun _ => nI 0)) (lf := (fun _ => nI 0)) (nv := (fun _ => nI 0)) (wl := (fun _ => 0)) (pr := p) (pp := l) (d := c) (p := _) hL hi ln.2 ln.1 rfl hk hS.2.2.2 hvw (fun _ _ => rfl) him np6 hg24 hwf.2.2.1 (by have := hwf.1; omega) (by have := hwf.2.1; have := pK p hwf.1; omega) rfl rfl (fun _ _ => ⟨rfl, by decide⟩) (fun _ _ => rfl) (fun _ _ => rfl) (by rw [hx1, mI_ti hvb]; omega) rfl H0 hr.1 H400 hy.1 ?_
          rintro l6' l7' l8' l9' h' ⟨Q400, qf, ql, qz⟩
          exact hn _ _ _ _ _ (w.q qf (fun x hx => by simp only [List.mem_cons, List.not_mem_nil, or_false] at hx; omega) Q400 (pO.fr qf (fun x hx => by simp only [List.mem_cons, List.not_mem_nil, or_false] at hx; omega)) (by omega) (by omega) (by omega))
    · obtain rfl := q0
      rcases (by omega : (xs (4 * j + 1)).toInt < 0 ∨ 0 ≤ (xs (4 * j + 1)).toInt) with q | q
      · refine w_22_n2 (i := 4 * j) (N := h.length) (gs := gs) (pl := pl) (ty := ty) (wa := wa) (nw := nw) (nx := nx) (dp := (.int (nI c))) (ca := (.int (nI 2))) (mf := mf) (th := th) (sd := sd) (be := be) (ou := ou) (vf := vf) (wf := wf) (sf := sf) (uf := sf) (im := im) (jm := jm) (k := sk) (g := g) (pe := (.ref Ep)) (pm := (.int mp)) (ge := (.ref E)) (gm := (.int mc)) (q := np) (ins := (fun _ => nI p)) (pls := (fun _ => nI l)) (wys := (fun _ => nI (bN wy))) (le := (fun _ => nI 0)) (nu := (fun _ => nI 0)) (lf := (fun _ => nI 0)) (nv := (fun _ => nI 0)) (wl := (fun _ => 0)) (pr := p) (pp := l) (d := c) (p := _) hL hi ln.2 ln.1 rfl hk hS.2.2.2 hvw (fun _ _ => rfl) him np6 hg24 hwf.2.2.1 (by have := hwf.1; omega) (by have := hwf.2.1; have := pK p hwf.1; omega) rfl rfl (fun _ _ => ⟨rfl, by decide⟩) (fun _ _ => rfl) (fun _ _ => rfl) q rfl H0 hr.1 H400 hy.1 ?_
        rintro l6' l7' l8' l9' h' ⟨Q400, qf, ql, qz⟩
        exact hn _ _ _ _ _ (w.q qf (fun x hx => by simp only [List.mem_cons, List.not_mem_nil, or_false] at hx; omega) Q400 (pO.fr qf (fun x hx => by simp only [List.mem_cons, List.not_mem_nil, or_false] at hx; omega)) (by omega) (by omega) (by omega))
      · obtain ⟨v, hvb, hx1⟩ := toI_ex q
        rcases (by omega : v = 0 ∨ v = 1 ∨ 2 ≤ v) with z | z | z
        · subst z
          refine w_22_20 (i := 4 * j) (N := h.length) (gs := gs) (pl := pl) (ty := ty) (wa := wa) (nw := nw) (nx := nx) (dp := (.int (nI c))) (ca := (.int (nI 2))) (mf := mf) (th := th) (sd := sd) (be := be) (ou := ou) (vf := vf) (wf := wf) (sf := sf) (uf := sf) (im := im) (jm := jm) (k := sk) (g := g) (pe := (.ref Ep)) (pm := (.int mp)) (ge := (.ref E)) (gm := (.int mc)) (q := np) (ins := (fun _ => nI p)) (pls := (fun _ => nI l)) (wys := (fun _ => nI (bN wy))) (le := le) (nu := nu) (lf := lf) (nv := nv) (wl := (fun i => if i = 0 then za else zc)) (pr := p) (pp := l) (d := c) hL hi ln.2 ln.1 rfl hk hS.2.2.2 hvw (fun _ _ => rfl) him np6 hg24 hwf.2.2.1 (by have := hwf.1; omega) (by have := hwf.2.1; have := pK p hwf.1; omega) rfl rfl (fun i hi => by rcases (by omega : i = 0 ∨ i = 1) with z | z <;> rw [z]; exact ⟨(ha1 (show 0 < 2 by decide)).1, hza⟩; exact ⟨(ha2 (show 1 < 2 by decide)).1, hzc⟩) (fun i hi => by rcases (by omega : i = 0 ∨ i = 1) with z | z <;> rw [z]; exact (hb1 (show 0 < 2 by decide)).1; exact (hb2 (show 1 < 2 by decide)).1) (fun i hi => by rcases (by omega : i = 0 ∨ i = 1) with z | z <;> rw [z]; exact (hb1 (show 0 < 2 by decide)).2.trans (ha1 (show 0 < 2 by decide)).2.symm; exact (hb2 (show 1 < 2 by decide)).2.trans (ha2 (show 1 < 2 by decide)).2.symm) hx1 H0 hr.1 H386 H400 hy.1 H409 H412 ?_
          rintro l6' l7' l8' l9' h' ⟨Q400, Q412, qf, ql, qz⟩
          exact hn _ _ _ _ _ (w.q qf (fun x hx => by simp only [List.mem_cons, List.not_mem_nil, or_false] at hx; omega) Q400 (pO.f2 qf (fun x hx => by simp only [List.mem_cons, List.not_mem_nil, or_false] at hx; omega) ⟨_, Q412⟩) (by omega) (by omega) (by omega))
        · subst z
          refine w_22_21 (i := 4 * j) (N := h.length) (gs := gs) (pl := pl) (ty := ty) (wa := wa) (nw := nw) (nx := nx) (dp := (.int (nI c))) (ca := (.int (nI 2))) (mf := mf) (th := th) (sd := sd) (be := be) (ou := ou) (vf := vf) (wf := wf) (sf := sf) (uf := sf) (im := im) (jm := jm) (k := sk) (g := g) (pe := (.ref Ep)) (pm := (.int mp)) (ge := (.ref E)) (gm := (.int mc)) (q := np) (ins := (fun _ => nI p)) (pls := (fun _ => nI l)) (wys := (fun _ => nI (bN wy))) (le := le) (nu := nu) (lf := lf) (nv := nv) (wl := (fun i => if i = 0 then za else zc)) (pr := p) (pp := l) (d := c) hL hi ln.2 ln.1 rfl hk hS.2.2.2 hvw (fun _ _ => rfl) him np6 hg24 hwf.2.2.1 (by have := hwf.1; omega) (by have := hwf.2.1; have := pK p hwf.1; omega) rfl rfl (fun i hi => by rcases (by omega : i = 0 ∨ i = 1) with z | z <;> rw [z]; exact ⟨(ha1 (show 0 < 2 by decide)).1, hza⟩; exact ⟨(ha2 (show 1 < 2 by decide)).1, hzc⟩) (fun i hi => by rcases (by omega : i = 0 ∨ i = 1) with z | z <;> rw [z]; exact (hb1 (show 0 < 2 by decide)).1; exact (hb2 (show 1 < 2 by decide)).1) (fun i hi => by rcases (by omega : i = 0 ∨ i = 1) with z | z <;> rw [z]; exact (hb1 (show 0 < 2 by decide)).2.trans (ha1 (show 0 < 2 by decide)).2.symm; exact (hb2 (show 1 < 2 by decide)).2.trans (ha2 (show 1 < 2 by decide)).2.symm) hx1 H0 hr.1 H386 H400 hy.1 H409 H412 ?_
          rintro l6' l7' l8' l9' h' ⟨Q400, Q412, qf, ql, qz⟩
          exact hn _ _ _ _ _ (w.q qf (fun x hx => by simp only [List.mem_cons, List.not_mem_nil, or_false] at hx; omega) Q400 (pO.f2 qf (fun x hx => by simp only [List.mem_cons, List.not_mem_nil, or_false] at hx; omega) ⟨_, Q412⟩) (by omega) (by omega) (by omega))
        · refine w_22_p2 (i := 4 * j) (N := h.length) (gs := gs) (pl := pl) (ty := ty) (wa := wa) (nw := nw) (nx := nx) (dp := (.int (nI c))) (ca := (.int (nI 2))) (mf := mf) (th := th) (sd := sd) (be := be) (ou := ou) (vf := vf) (wf := wf) (sf := sf) (uf := sf) (im := im) (jm := jm) (k := sk) (g := g) (pe := (.ref Ep)) (pm := (.int mp)) (ge := (.ref E)) (gm := (.int mc)) (q := np) (ins := (fun _ => nI p)) (pls := (fun _ => nI l)) (wys := (fun _ => nI (bN wy))) (le := (fun _ => nI 0)) (nu := (fun _ => nI 0)) (lf := (fun _ => nI 0)) (nv := (fun _ => nI 0)) (wl := (fun _ => 0)) (pr := p) (pp := l) (d := c) (p := _) hL hi ln.2 ln.1 rfl hk hS.2.2.2 hvw (fun _ _ => rfl) him np6 hg24 hwf.2.2.1 (by have := hwf.1; omega) (by have := hwf.2.1; have := pK p hwf.1; omega) rfl rfl (fun _ _ => ⟨rfl, by decide⟩) (fun _ _ => rfl) (fun _ _ => rfl) (by rw [hx1, mI_ti hvb]; omega) rfl H0 hr.1 H400 hy.1 ?_
          rintro l6' l7' l8' l9' h' ⟨Q400, qf, ql, qz⟩
          exact hn _ _ _ _ _ (w.q qf (fun x hx => by simp only [List.mem_cons, List.not_mem_nil, or_false] at hx; omega) Q400 (pO.fr qf (fun x hx => by simp only [List.mem_cons, List.not_mem_nil, or_false] at hx; omega)) (by omega) (by omega) (by omega))
theorem r_44 {L j : Nat} {xs : Nat → Int32} {h : mj_H} {l6 l7 l8 l9 : Option Value} {P : mj_H → Prop} {own : Nat → Nat} {th : Int32} {sd be : Int64} {gs pl ty wa nw nx : Value} {np : Nat} {K : Nat → Nat} {X : Nat → Nat → Nat → Nat} {rz : Nat} (w : wJ own th sd be gs pl ty wa nw nx np K X rz j h) (hL : L ≤ 2048) (hi : 4 * j + 4 ≤ L) (hk : xs (4 * j) &&& nI 63 = nI 44) (hn : ∀ (l6 l7 l8 l9 : Option Value) (g : mj_H), wI (j + 1) g → mj_lrun L xs (28, [some (.retAddr 1), some (.ref 0), some (.ref 400), some (.ref 412), some (.ref 413), some (.int (nI (4 * j + 4))), l6, l7, l8, l9], [], g) P) : mj_lrun L xs (28, [some (.retAddr 1), some (.ref 0), some (.ref 400), some (.ref 412), some (.ref 413), some (.int (nI (4 * j))), l6, l7, l8, l9], [], h) P := by
  obtain ⟨w1, H0, H400, pT, pL, pR, pV, pC, pI, pS, pO, pX, pP, pG, j5, b1, b2⟩ := id w
  have ln := w.len
  have np6 := pL.np
  obtain ⟨⟨ou, H412⟩, od, H413⟩ := id pO
  obtain ⟨k, vf, wf, sf, uf, dp, ca, hk20, H375, H376, H377, H402, H403, H404, hvw, hsu⟩ := pR.w
  obtain ⟨mp, Ep, H38, H401⟩ := pL.w
  obtain ⟨g, E, G, rf, mf, hg24, H393, H394, hls, hGG, hEo⟩ := id pC
  obtain ⟨cap, mc, ef, H410, hEA, hgc, hc31, hE3, hef⟩ := id hls
  obtain ⟨im, jm, IM, H397, H411, hIM, hJM⟩ := id pI
  have him : ∀ i, i < 8 → jm i = im i := fun i hi => by rw [(hIM i hi).1, (hJM i hi).1]
  have hG1 : ∀ i, i < g → rf i = nI (G i) ∧ G i < 24 := fun i hi => ⟨(hGG i hi).1, (hGG i hi).2.1⟩
  have hG2 : ∀ i, i < g → ef i = some (1000138 + G i) ∧ G i < 24 := fun i hi => ⟨(hef i hi).1, (hGG i hi).2.1⟩
  have hGi : ∀ i, i < g → isG (G i) := fun i hi => (hGG i hi).2
  have e1 : mj_CB = 1000000 := rfl
  have HE := rdA_lt hEA
  have hE9 : E = 1000000 ∨ 414 ≤ E ∧ E < h.length ∧ own E = 2 := hE3.elim (fun q => Or.inr (by have o := hEo q.1; have := w1 E (by omega); omega)) (fun q => Or.inl q.1)
  have hE0 : 414 ≤ E := by omega
  have hEN : E < h.length ∨ E = 1000000 := by omega
  have oE : own E = 0 ∨ own E = 2 := hE9.elim (fun q => Or.inl (by
    by_cases z : own E = 0
    · exact z
    · have := w1 E z
      omega)) (fun q => Or.inr q.2.2)
  rcases (by omega : (xs (4 * j + 1)).toInt < 1 ∨ 10 < (xs (4 * j + 1)).toInt ∨ 1 ≤ (xs (4 * j + 1)).toInt ∧ (xs (4 * j + 1)).toInt ≤ 10) with q | q | q
  · refine w_44_n (i := 4 * j) (N := h.length) (gs := gs) (pl := pl) (ty := ty) (wa := wa) (nw := nw) (nx := nx) (dp := dp) (ca := ca) (mf := mf) (th := th) (sd := sd) (be := be) (ou := ou) (vf := vf) (wf := wf) (sf := sf) (uf := uf) (im := im) (jm := jm) (k := k) (g := g) (pe := (.ref Ep)) (pm := (.int mp)) (ge := (.ref E)) (gm := (.int mc)) (q := np) (p := _) hL hi ln.2 ln.1 rfl hk hk20 hvw hsu him np6 hg24 q rfl H0 H400 ?_
    rintro l6' l7' l8' l9' h' ⟨Q400, qf, ql, qz⟩
    exact hn _ _ _ _ _ (w.q qf (fun x hx => by simp only [List.mem_cons, List.not_mem_nil, or_false] at hx; omega) Q400 (pO.fr qf (fun x hx => by simp only [List.mem_cons, List.not_mem_nil, or_false] at hx; omega)) (by omega) (by omega) (by omega))
  · refine w_44_m (i := 4 * j) (N := h.length) (gs := gs) (pl := pl) (ty := ty) (wa := wa) (nw := nw) (nx := nx) (dp := dp) (ca := ca) (mf := mf) (th := th) (sd := sd) (be := be) (ou := ou) (vf := vf) (wf := wf) (sf := sf) (uf := uf) (im := im) (jm := jm) (k := k) (g := g) (pe := (.ref Ep)) (pm := (.int mp)) (ge := (.ref E)) (gm := (.int mc)) (q := np) (p := _) hL hi ln.2 ln.1 rfl hk hk20 hvw hsu him np6 hg24 q rfl H0 H400 ?_
    rintro l6' l7' l8' l9' h' ⟨Q400, qf, ql, qz⟩
    exact hn _ _ _ _ _ (w.q qf (fun x hx => by simp only [List.mem_cons, List.not_mem_nil, or_false] at hx; omega) Q400 (pO.fr qf (fun x hx => by simp only [List.mem_cons, List.not_mem_nil, or_false] at hx; omega)) (by omega) (by omega) (by omega))
  · obtain ⟨p, pb, hx1⟩ := toI_ex (x := xs (4 * j + 1)) (by omega)
    rw [hx1, mI_ti pb] at q
    rcases (by omega : (xs (4 * j + 2)).toInt < 1 ∨ 10 < (xs (4 * j + 2)).toInt ∨ 1 ≤ (xs (4 * j + 2)).toInt ∧ (xs (4 * j + 2)).toInt ≤ 10) with r | r | r
    · refine w_44_pn (i := 4 * j) (N := h.length) (gs := gs) (pl := pl) (ty := ty) (wa := wa) (nw := nw) (nx := nx) (dp := dp) (ca := ca) (mf := mf) (th := th) (sd := sd) (be := be) (ou := ou) (vf := vf) (wf := wf) (sf := sf) (uf := uf) (im := im) (jm := jm) (k := k) (g := g) (pe := (.ref Ep)) (pm := (.int mp)) (ge := (.ref E)) (gm := (.int mc)) (q := np) (p0 := p) (p := _) hL hi ln.2 ln.1 rfl hk hk20 hvw hsu him np6 hg24 (by omega) (by omega) r hx1 rfl H0 H400 ?_
      rintro l6' l7' l8' l9' h' ⟨Q400, qf, ql, qz⟩
      exact hn _ _ _ _ _ (w.q qf (fun x hx => by simp only [List.mem_cons, List.not_mem_nil, or_false] at hx; omega) Q400 (pO.fr qf (fun x hx => by simp only [List.mem_cons, List.not_mem_nil, or_false] at hx; omega)) (by omega) (by omega) (by omega))
    · refine w_44_pm (i := 4 * j) (N := h.length) (gs := gs) (pl := pl) (ty := ty) (wa := wa) (nw := nw) (nx := nx) (dp := dp) (ca := ca) (mf := mf) (th := th) (sd := sd) (be := be) (ou := ou) (vf := vf) (wf := wf) (sf := sf) (uf := uf) (im := im) (jm := jm) (k := k) (g := g) (pe := (.ref Ep)) (pm := (.int mp)) (ge := (.ref E)) (gm := (.int mc)) (q := np) (p0 := p) (p := _) hL hi ln.2 ln.1 rfl hk hk20 hvw hsu him np6 hg24 (by omega) (by omega) r hx1 rfl H0 H400 ?_
      rintro l6' l7' l8' l9' h' ⟨Q400, qf, ql, qz⟩
      exact hn _ _ _ _ _ (w.q qf (fun x hx => by simp only [List.mem_cons, List.not_mem_nil, or_false] at hx; omega) Q400 (pO.fr qf (fun x hx => by simp only [List.mem_cons, List.not_mem_nil, or_false] at hx; omega)) (by omega) (by omega) (by omega))
    · obtain ⟨q0, q0b, hx2⟩ := toI_ex (x := xs (4 * j + 2)) (by omega)
      rw [hx2, mI_ti q0b] at r
      rcases id pP with rfl | ⟨pp, pm_, pw, rfl, ⟨pmf, pwf, pfl, HpP, HpM, HpW⟩, o1, o2, o3, dd⟩
      · cases hR : pbR p q0 with
        | none =>
          refine w_44_z0 (i := 4 * j) (N := h.length) (gs := gs) (pl := .null) (ty := ty) (wa := wa) (nw := nw) (nx := nx) (dp := dp) (ca := ca) (mf := mf) (th := th) (sd := sd) (be := be) (ou := ou) (vf := vf) (wf := wf) (sf := sf) (uf := uf) (im := im) (jm := jm) (k := k) (g := g) (pe := (.ref Ep)) (pm := (.int mp)) (ge := (.ref E)) (gm := (.int mc)) (q := np) (p := p) (q0 := q0) hL hi ln.2 ln.1 rfl hk hk20 hvw hsu him np6 hg24 (by omega) (by omega) (by omega) (by omega) hR hx1 hx2 H0 H400 ?_
          rintro l6' l7' l8' l9' h' ⟨Q0, Q400, X0, qf, ql, qz⟩
          have qo : pOu h' := pO.fr qf (fun x hx => by simp only [List.mem_cons, List.not_mem_nil, or_false] at hx; omega)
          have hx0 : ∀ x, x ∈ [0, 400] → (own x = 0 ∧ (x = 0 ∨ x = 400)) ∨ (414 ≤ x ∧ (own x = 0)) := by
            intro x hx
            simp only [List.mem_cons, List.not_mem_nil, or_false] at hx
            rcases hx with q | q
            · rw [q]; exact Or.inl ⟨w1.z (by decide), by decide⟩
            · rw [q]; exact Or.inl ⟨w1.z (by decide), by decide⟩
          have lz : 413 < h'.length := by obtain ⟨_, _, q⟩ := qo; exact rd_len (by decide) q
          have le : h.length ≤ h'.length := fr_len qf (by omega) (fun x hx hlt => by simp only [List.mem_cons, List.not_mem_nil, or_false] at hx; omega)
          have hP : ∀ a, h.length ≤ a ∧ a < h.length + 3 → h.length ≤ a ∧ a < h'.length := fun a q => by
            obtain ⟨_, _, _, _, _, z⟩ := id X0
            have := rd_len (by omega) z
            omega
          obtain ⟨own', w2, hk1, hnew⟩ := recolW w1 ln.1 le (fun a => h.length ≤ a ∧ a < h.length + 3) 3 hP
          have nP : pPb own' h' (.ref h.length) := Or.inr ⟨h.length, h.length + 1, h.length + 2, rfl, X0, hnew _ (by omega), hnew _ (by omega), hnew _ (by omega), by omega, by omega, by omega⟩
          exact hn _ _ _ _ _ ⟨own', _, _, _, gs, (.ref h.length), _, wa, nw, nx, np, K, X, rz, w2, Q0, Q400, pT.fr qf (fun x hx => by have := hx0 x hx; omega) (fun a q => (hk1 a (by omega)).trans q), pL.fr qf (fun x hx => by have := hx0 x hx; omega) (fun a q => (hk1 a (by omega)).trans q) (fun a q => by have := (w2 a (by omega)).2; omega) (fun a q => (hk1 a (by omega)).trans q), pR.fr qf (fun x hx => by have := hx0 x hx; omega), pV.fr qf (fun x hx => by have := hx0 x hx; omega), pC.fr qf (fun x hx => by have := hx0 x hx; omega) (fun a q => (hk1 a (by omega)).trans q), pI.fr qf (fun x hx => by have := hx0 x hx; omega), pS.fr qf (fun x hx => by have := hx0 x hx; omega), qo, pX.fr qf (fun x hx => by have := hx0 x hx; omega), nP, pG.fr qf (fun x hx => by have := hx0 x hx; omega) (fun a q => (hk1 a (by omega)).trans q), by omega, by omega, by omega⟩
        | some d =>
          have hd : d < 1024 := Nat.lt_of_lt_of_le (pbR_lt hR) (Nat.pow_le_pow_right (by decide) (by omega : p ≤ 10))
          refine w_44_s0 (i := 4 * j) (N := h.length) (gs := gs) (pl := .null) (ty := ty) (wa := wa) (nw := nw) (nx := nx) (dp := dp) (ca := ca) (mf := mf) (th := th) (sd := sd) (be := be) (ou := ou) (vf := vf) (wf := wf) (sf := sf) (uf := uf) (im := im) (jm := jm) (k := k) (g := g) (pe := (.ref Ep)) (pm := (.int mp)) (ge := (.ref E)) (gm := (.int mc)) (q := np) (p := p) (q0 := q0) (d := d) hL hi ln.2 ln.1 rfl hk hk20 hvw hsu him np6 hg24 (by omega) (by omega) (by omega) (by omega) hd hR hx1 hx2 H0 H400 H412 ?_
          rintro l6' l7' l8' l9' h' ⟨Q0, Q400, Q412, X0, qf, ql, qz⟩
          have qo : pOu h' := pO.f2 qf (fun x hx => by simp only [List.mem_cons, List.not_mem_nil, or_false] at hx; omega) ⟨_, Q412⟩
          have hx0 : ∀ x, x ∈ [0, 400, 412] → (own x = 0 ∧ (x = 0 ∨ x = 400 ∨ x = 412)) ∨ (414 ≤ x ∧ (own x = 0)) := by
            intro x hx
            simp only [List.mem_cons, List.not_mem_nil, or_false] at hx
            rcases hx with q | q | q
            · rw [q]; exact Or.inl ⟨w1.z (by decide), by decide⟩
            · rw [q]; exact Or.inl ⟨w1.z (by decide), by decide⟩
            · rw [q]; exact Or.inl ⟨w1.z (by decide), by decide⟩
          have lz : 413 < h'.length := by obtain ⟨_, _, q⟩ := qo; exact rd_len (by decide) q
          have le : h.length ≤ h'.length := fr_len qf (by omega) (fun x hx hlt => by simp only [List.mem_cons, List.not_mem_nil, or_false] at hx; omega)
          have hP : ∀ a, h.length ≤ a ∧ a < h.length + 3 → h.length ≤ a ∧ a < h'.length := fun a q => by
            obtain ⟨_, _, _, _, _, z⟩ := id X0
            have := rd_len (by omega) z
            omega
          obtain ⟨own', w2, hk1, hnew⟩ := recolW w1 ln.1 le (fun a => h.length ≤ a ∧ a < h.length + 3) 3 hP
          have nP : pPb own' h' (.ref h.length) := Or.inr ⟨h.length, h.length + 1, h.length + 2, rfl, X0, hnew _ (by omega), hnew _ (by omega), hnew _ (by omega), by omega, by omega, by omega⟩
          exact hn _ _ _ _ _ ⟨own', _, _, _, gs, (.ref h.length), _, wa, nw, nx, np, K, X, rz, w2, Q0, Q400, pT.fr qf (fun x hx => by have := hx0 x hx; omega) (fun a q => (hk1 a (by omega)).trans q), pL.fr qf (fun x hx => by have := hx0 x hx; omega) (fun a q => (hk1 a (by omega)).trans q) (fun a q => by have := (w2 a (by omega)).2; omega) (fun a q => (hk1 a (by omega)).trans q), pR.fr qf (fun x hx => by have := hx0 x hx; omega), pV.fr qf (fun x hx => by have := hx0 x hx; omega), pC.fr qf (fun x hx => by have := hx0 x hx; omega) (fun a q => (hk1 a (by omega)).trans q), pI.fr qf (fun x hx => by have := hx0 x hx; omega), pS.fr qf (fun x hx => by have := hx0 x hx; omega), qo, pX.fr qf (fun x hx => by have := hx0 x hx; omega), nP, pG.fr qf (fun x hx => by have := hx0 x hx; omega) (fun a q => (hk1 a (by omega)).trans q), by omega, by omega, by omega⟩
      · have oP : 414 ≤ pp ∧ pp < h.length ∧ own pp = 3 := ⟨(w1 pp (by omega)).1, (w1 pp (by omega)).2, o1⟩
        have oM : 414 ≤ pm_ ∧ pm_ < h.length ∧ own pm_ = 3 := ⟨(w1 pm_ (by omega)).1, (w1 pm_ (by omega)).2, o2⟩
        have oW : 414 ≤ pw ∧ pw < h.length ∧ own pw = 3 := ⟨(w1 pw (by omega)).1, (w1 pw (by omega)).2, o3⟩
        cases hR : pbR p q0 with
        | none =>
          refine w_44_z1 (i := 4 * j) (N := h.length) (gs := gs) (pl := (.ref pp)) (ty := ty) (wa := wa) (nw := nw) (nx := nx) (dp := dp) (ca := ca) (mf := mf) (th := th) (sd := sd) (be := be) (ou := ou) (vf := vf) (wf := wf) (sf := sf) (uf := uf) (im := im) (jm := jm) (k := k) (g := g) (pe := (.ref Ep)) (pm := (.int mp)) (ge := (.ref E)) (gm := (.int mc)) (q := np) (p := p) (q0 := q0) (pP := pp) (pM := pm_) (pW := pw) (pm0 := pmf) (pw0 := pwf) (pfl := pfl) hL hi ln.2 ln.1 rfl hk hk20 hvw hsu him np6 hg24 (by omega) (by omega) (by omega) (by omega) ⟨oP.1, oP.2.1⟩ ⟨oM.1, oM.2.1⟩ ⟨oW.1, oW.2.1⟩ dd.1 dd.2.1 dd.2.2 hR hx1 hx2 H0 H400 HpP HpM HpW ?_
          rintro l6' l7' l8' l9' h' ⟨Q400, X0, qf, ql, qz⟩
          have qo : pOu h' := pO.fr qf (fun x hx => by simp only [List.mem_cons, List.not_mem_nil, or_false] at hx; omega)
          have hx0 : ∀ x, x ∈ [400, pp, pm_, pw] → (own x = 0 ∧ (x = 400)) ∨ (414 ≤ x ∧ (own x = 0 ∨ own x = 3)) := by
            intro x hx
            simp only [List.mem_cons, List.not_mem_nil, or_false] at hx
            rcases hx with q | q | q | q
            · rw [q]; exact Or.inl ⟨w1.z (by decide), by decide⟩
            · rw [q]; exact Or.inr ⟨oP.1, (Or.inr oP.2.2)⟩
            · rw [q]; exact Or.inr ⟨oM.1, (Or.inr oM.2.2)⟩
            · rw [q]; exact Or.inr ⟨oW.1, (Or.inr oW.2.2)⟩
          have lz : 413 < h'.length := by obtain ⟨_, _, q⟩ := qo; exact rd_len (by decide) q
          obtain ⟨_, _, _, z1, z2, z3⟩ := id X0
          have l1 := rd_len (by omega) z1
          have l2 := rd_len (by omega) z2
          have l3 := rd_len (by omega) z3
          have le : h.length ≤ h'.length := fr_len qf (by omega) (fun x hx hlt => by simp only [List.mem_cons, List.not_mem_nil, or_false] at hx; omega)
          have nP : pPb own h' (.ref pp) := Or.inr ⟨pp, pm_, pw, rfl, X0, oP.2.2, oM.2.2, oW.2.2, dd⟩
          exact hn _ _ _ _ _ ⟨own, _, _, _, gs, (.ref pp), _, wa, nw, nx, np, K, X, rz, w1.len le, qf 0 (fun q => by have := hx0 _ q; omega) _ H0, Q400, pT.fr qf (fun x hx => by have := hx0 x hx; omega) (fun _ q => q), pL.fr qf (fun x hx => by have := hx0 x hx; omega) (fun _ q => q) (fun a q => by have := (w1 a (by omega)).2; omega) (fun _ q => q), pR.fr qf (fun x hx => by have := hx0 x hx; omega), pV.fr qf (fun x hx => by have := hx0 x hx; omega), pC.fr qf (fun x hx => by have := hx0 x hx; omega) (fun _ q => q), pI.fr qf (fun x hx => by have := hx0 x hx; omega), pS.fr qf (fun x hx => by have := hx0 x hx; omega), qo, pX.fr qf (fun x hx => by have := hx0 x hx; omega), nP, pG.fr qf (fun x hx => by have := hx0 x hx; omega) (fun _ q => q), by omega, by omega, by omega⟩
        | some d =>
          have hd : d < 1024 := Nat.lt_of_lt_of_le (pbR_lt hR) (Nat.pow_le_pow_right (by decide) (by omega : p ≤ 10))
          refine w_44_s1 (i := 4 * j) (N := h.length) (gs := gs) (pl := (.ref pp)) (ty := ty) (wa := wa) (nw := nw) (nx := nx) (dp := dp) (ca := ca) (mf := mf) (th := th) (sd := sd) (be := be) (ou := ou) (vf := vf) (wf := wf) (sf := sf) (uf := uf) (im := im) (jm := jm) (k := k) (g := g) (pe := (.ref Ep)) (pm := (.int mp)) (ge := (.ref E)) (gm := (.int mc)) (q := np) (p := p) (q0 := q0) (pP := pp) (pM := pm_) (pW := pw) (pm0 := pmf) (pw0 := pwf) (pfl := pfl) (d := d) hL hi ln.2 ln.1 rfl hk hk20 hvw hsu him np6 hg24 (by omega) (by omega) (by omega) (by omega) ⟨oP.1, oP.2.1⟩ ⟨oM.1, oM.2.1⟩ ⟨oW.1, oW.2.1⟩ dd.1 dd.2.1 dd.2.2 hd hR hx1 hx2 H0 H400 H412 HpP HpM HpW ?_
          rintro l6' l7' l8' l9' h' ⟨Q400, Q412, X0, qf, ql, qz⟩
          have qo : pOu h' := pO.f2 qf (fun x hx => by simp only [List.mem_cons, List.not_mem_nil, or_false] at hx; omega) ⟨_, Q412⟩
          have hx0 : ∀ x, x ∈ [400, 412, pp, pm_, pw] → (own x = 0 ∧ (x = 400 ∨ x = 412)) ∨ (414 ≤ x ∧ (own x = 0 ∨ own x = 3)) := by
            intro x hx
            simp only [List.mem_cons, List.not_mem_nil, or_false] at hx
            rcases hx with q | q | q | q | q
            · rw [q]; exact Or.inl ⟨w1.z (by decide), by decide⟩
            · rw [q]; exact Or.inl ⟨w1.z (by decide), by decide⟩
            · rw [q]; exact Or.inr ⟨oP.1, (Or.inr oP.2.2)⟩
            · rw [q]; exact Or.inr ⟨oM.1, (Or.inr oM.2.2)⟩
            · rw [q]; exact Or.inr ⟨oW.1, (Or.inr oW.2.2)⟩
          have lz : 413 < h'.length := by obtain ⟨_, _, q⟩ := qo; exact rd_len (by decide) q
          obtain ⟨_, _, _, z1, z2, z3⟩ := id X0
          have l1 := rd_len (by omega) z1
          have l2 := rd_len (by omega) z2
          have l3 := rd_len (by omega) z3
          have le : h.length ≤ h'.length := fr_len qf (by omega) (fun x hx hlt => by simp only [List.mem_cons, List.not_mem_nil, or_false] at hx; omega)
          have nP : pPb own h' (.ref pp) := Or.inr ⟨pp, pm_, pw, rfl, X0, oP.2.2, oM.2.2, oW.2.2, dd⟩
          exact hn _ _ _ _ _ ⟨own, _, _, _, gs, (.ref pp), _, wa, nw, nx, np, K, X, rz, w1.len le, qf 0 (fun q => by have := hx0 _ q; omega) _ H0, Q400, pT.fr qf (fun x hx => by have := hx0 x hx; omega) (fun _ q => q), pL.fr qf (fun x hx => by have := hx0 x hx; omega) (fun _ q => q) (fun a q => by have := (w1 a (by omega)).2; omega) (fun _ q => q), pR.fr qf (fun x hx => by have := hx0 x hx; omega), pV.fr qf (fun x hx => by have := hx0 x hx; omega), pC.fr qf (fun x hx => by have := hx0 x hx; omega) (fun _ q => q), pI.fr qf (fun x hx => by have := hx0 x hx; omega), pS.fr qf (fun x hx => by have := hx0 x hx; omega), qo, pX.fr qf (fun x hx => by have := hx0 x hx; omega), nP, pG.fr qf (fun x hx => by have := hx0 x hx; omega) (fun _ q => q), by omega, by omega, by omega⟩
theorem r_45 {L j : Nat} {xs : Nat → Int32} {h : mj_H} {l6 l7 l8 l9 : Option Value} {P : mj_H → Prop} {own : Nat → Nat} {th : Int32} {sd be : Int64} {gs pl ty wa nw nx : Value} {np : Nat} {K : Nat → Nat} {X : Nat → Nat → Nat → Nat} {rz : Nat} (w : wJ own th sd be gs pl ty wa nw nx np K X rz j h) (hL : L ≤ 2048) (hi : 4 * j + 4 ≤ L) (hk : xs (4 * j) &&& nI 63 = nI 45) (hn : ∀ (l6 l7 l8 l9 : Option Value) (g : mj_H), wI (j + 1) g → mj_lrun L xs (28, [some (.retAddr 1), some (.ref 0), some (.ref 400), some (.ref 412), some (.ref 413), some (.int (nI (4 * j + 4))), l6, l7, l8, l9], [], g) P) : mj_lrun L xs (28, [some (.retAddr 1), some (.ref 0), some (.ref 400), some (.ref 412), some (.ref 413), some (.int (nI (4 * j))), l6, l7, l8, l9], [], h) P := by
  obtain ⟨w1, H0, H400, pT, pL, pR, pV, pC, pI, pS, pO, pX, pP, pG, j5, b1, b2⟩ := id w
  have ln := w.len
  have np6 := pL.np
  obtain ⟨⟨ou, H412⟩, od, H413⟩ := id pO
  obtain ⟨k, vf, wf, sf, uf, dp, ca, hk20, H375, H376, H377, H402, H403, H404, hvw, hsu⟩ := pR.w
  obtain ⟨mp, Ep, H38, H401⟩ := pL.w
  obtain ⟨g, E, G, rf, mf, hg24, H393, H394, hls, hGG, hEo⟩ := id pC
  obtain ⟨cap, mc, ef, H410, hEA, hgc, hc31, hE3, hef⟩ := id hls
  obtain ⟨im, jm, IM, H397, H411, hIM, hJM⟩ := id pI
  have him : ∀ i, i < 8 → jm i = im i := fun i hi => by rw [(hIM i hi).1, (hJM i hi).1]
  have hG1 : ∀ i, i < g → rf i = nI (G i) ∧ G i < 24 := fun i hi => ⟨(hGG i hi).1, (hGG i hi).2.1⟩
  have hG2 : ∀ i, i < g → ef i = some (1000138 + G i) ∧ G i < 24 := fun i hi => ⟨(hef i hi).1, (hGG i hi).2.1⟩
  have hGi : ∀ i, i < g → isG (G i) := fun i hi => (hGG i hi).2
  have e1 : mj_CB = 1000000 := rfl
  have HE := rdA_lt hEA
  have hE9 : E = 1000000 ∨ 414 ≤ E ∧ E < h.length ∧ own E = 2 := hE3.elim (fun q => Or.inr (by have o := hEo q.1; have := w1 E (by omega); omega)) (fun q => Or.inl q.1)
  have hE0 : 414 ≤ E := by omega
  have hEN : E < h.length ∨ E = 1000000 := by omega
  have oE : own E = 0 ∨ own E = 2 := hE9.elim (fun q => Or.inl (by
    by_cases z : own E = 0
    · exact z
    · have := w1 E z
      omega)) (fun q => Or.inr q.2.2)
  rcases (by omega : (xs (4 * j + 1)).toInt < 1 ∨ 10 < (xs (4 * j + 1)).toInt ∨ 1 ≤ (xs (4 * j + 1)).toInt ∧ (xs (4 * j + 1)).toInt ≤ 10) with q | q | q
  · refine w_45_n (i := 4 * j) (N := h.length) (gs := gs) (pl := pl) (ty := ty) (wa := wa) (nw := nw) (nx := nx) (dp := dp) (ca := ca) (mf := mf) (th := th) (sd := sd) (be := be) (ou := ou) (vf := vf) (wf := wf) (sf := sf) (uf := uf) (im := im) (jm := jm) (k := k) (g := g) (pe := (.ref Ep)) (pm := (.int mp)) (ge := (.ref E)) (gm := (.int mc)) (q := np) (p := _) hL hi ln.2 ln.1 rfl hk hk20 hvw hsu him np6 hg24 q rfl H0 H400 ?_
    rintro l6' l7' l8' l9' h' ⟨Q400, qf, ql, qz⟩
    exact hn _ _ _ _ _ (w.q qf (fun x hx => by simp only [List.mem_cons, List.not_mem_nil, or_false] at hx; omega) Q400 (pO.fr qf (fun x hx => by simp only [List.mem_cons, List.not_mem_nil, or_false] at hx; omega)) (by omega) (by omega) (by omega))
  · refine w_45_m (i := 4 * j) (N := h.length) (gs := gs) (pl := pl) (ty := ty) (wa := wa) (nw := nw) (nx := nx) (dp := dp) (ca := ca) (mf := mf) (th := th) (sd := sd) (be := be) (ou := ou) (vf := vf) (wf := wf) (sf := sf) (uf := uf) (im := im) (jm := jm) (k := k) (g := g) (pe := (.ref Ep)) (pm := (.int mp)) (ge := (.ref E)) (gm := (.int mc)) (q := np) (p := _) hL hi ln.2 ln.1 rfl hk hk20 hvw hsu him np6 hg24 q rfl H0 H400 ?_
    rintro l6' l7' l8' l9' h' ⟨Q400, qf, ql, qz⟩
    exact hn _ _ _ _ _ (w.q qf (fun x hx => by simp only [List.mem_cons, List.not_mem_nil, or_false] at hx; omega) Q400 (pO.fr qf (fun x hx => by simp only [List.mem_cons, List.not_mem_nil, or_false] at hx; omega)) (by omega) (by omega) (by omega))
  · obtain ⟨p, pb, hx1⟩ := toI_ex (x := xs (4 * j + 1)) (by omega)
    rw [hx1, mI_ti pb] at q
    by_cases z : p = 1
    · have hn1 := pbR_pp (p := 1) (by decide) (by decide)
      cases hR : pbR 1 1 with
      | none => exact absurd hR hn1
      | some d =>
        have hd : d < 1024 := Nat.lt_of_lt_of_le (pbR_lt hR) (by decide)
        refine w_45_1 (i := 4 * j) (N := h.length) (gs := gs) (pl := pl) (ty := ty) (wa := wa) (nw := nw) (nx := nx) (dp := dp) (ca := ca) (mf := mf) (th := th) (sd := sd) (be := be) (ou := ou) (vf := vf) (wf := wf) (sf := sf) (uf := uf) (im := im) (jm := jm) (k := k) (g := g) (pe := (.ref Ep)) (pm := (.int mp)) (ge := (.ref E)) (gm := (.int mc)) (q := np) (d := d) hL hi ln.2 ln.1 rfl hk hk20 hvw hsu him np6 hg24 hd hR (by rw [hx1, z]) H0 H400 H412 ?_
        rintro l6' l7' l8' l9' h' ⟨Q400, Q412, qf, ql, qz⟩
        exact hn _ _ _ _ _ (w.q qf (fun x hx => by simp only [List.mem_cons, List.not_mem_nil, or_false] at hx; omega) Q400 (pO.f2 qf (fun x hx => by simp only [List.mem_cons, List.not_mem_nil, or_false] at hx; omega) ⟨_, Q412⟩) (by omega) (by omega) (by omega))
    · rcases id pP with rfl | ⟨pp, pm_, pw, rfl, ⟨pmf, pwf, pfl, HpP, HpM, HpW⟩, o1, o2, o3, dd⟩
      · cases hR : pbR p 1 with
        | none =>
          refine w_45_z0 (i := 4 * j) (N := h.length) (gs := gs) (pl := .null) (ty := ty) (wa := wa) (nw := nw) (nx := nx) (dp := dp) (ca := ca) (mf := mf) (th := th) (sd := sd) (be := be) (ou := ou) (vf := vf) (wf := wf) (sf := sf) (uf := uf) (im := im) (jm := jm) (k := k) (g := g) (pe := (.ref Ep)) (pm := (.int mp)) (ge := (.ref E)) (gm := (.int mc)) (q := np) (p := p) hL hi ln.2 ln.1 rfl hk hk20 hvw hsu him np6 hg24 (by omega) (by omega) (by omega) hR hx1 H0 H400 H412 ?_
          rintro l6' l7' l8' l9' h' ⟨Q0, Q400, Q412, X0, qf, ql, qz⟩
          have qo : pOu h' := pO.f2 qf (fun x hx => by simp only [List.mem_cons, List.not_mem_nil, or_false] at hx; omega) ⟨_, Q412⟩
          have hx0 : ∀ x, x ∈ [0, 400, 412] → (own x = 0 ∧ (x = 0 ∨ x = 400 ∨ x = 412)) ∨ (414 ≤ x ∧ (own x = 0)) := by
            intro x hx
            simp only [List.mem_cons, List.not_mem_nil, or_false] at hx
            rcases hx with q | q | q
            · rw [q]; exact Or.inl ⟨w1.z (by decide), by decide⟩
            · rw [q]; exact Or.inl ⟨w1.z (by decide), by decide⟩
            · rw [q]; exact Or.inl ⟨w1.z (by decide), by decide⟩
          have lz : 413 < h'.length := by obtain ⟨_, _, q⟩ := qo; exact rd_len (by decide) q
          have le : h.length ≤ h'.length := fr_len qf (by omega) (fun x hx hlt => by simp only [List.mem_cons, List.not_mem_nil, or_false] at hx; omega)
          have hP : ∀ a, h.length ≤ a ∧ a < h.length + 3 → h.length ≤ a ∧ a < h'.length := fun a q => by
            obtain ⟨_, _, _, _, _, z⟩ := id X0
            have := rd_len (by omega) z
            omega
          obtain ⟨own', w2, hk1, hnew⟩ := recolW w1 ln.1 le (fun a => h.length ≤ a ∧ a < h.length + 3) 3 hP
          have nP : pPb own' h' (.ref h.length) := Or.inr ⟨h.length, h.length + 1, h.length + 2, rfl, X0, hnew _ (by omega), hnew _ (by omega), hnew _ (by omega), by omega, by omega, by omega⟩
          exact hn _ _ _ _ _ ⟨own', _, _, _, gs, (.ref h.length), _, wa, nw, nx, np, K, X, rz, w2, Q0, Q400, pT.fr qf (fun x hx => by have := hx0 x hx; omega) (fun a q => (hk1 a (by omega)).trans q), pL.fr qf (fun x hx => by have := hx0 x hx; omega) (fun a q => (hk1 a (by omega)).trans q) (fun a q => by have := (w2 a (by omega)).2; omega) (fun a q => (hk1 a (by omega)).trans q), pR.fr qf (fun x hx => by have := hx0 x hx; omega), pV.fr qf (fun x hx => by have := hx0 x hx; omega), pC.fr qf (fun x hx => by have := hx0 x hx; omega) (fun a q => (hk1 a (by omega)).trans q), pI.fr qf (fun x hx => by have := hx0 x hx; omega), pS.fr qf (fun x hx => by have := hx0 x hx; omega), qo, pX.fr qf (fun x hx => by have := hx0 x hx; omega), nP, pG.fr qf (fun x hx => by have := hx0 x hx; omega) (fun a q => (hk1 a (by omega)).trans q), by omega, by omega, by omega⟩
        | some d =>
          have hd : d < 1024 := Nat.lt_of_lt_of_le (pbR_lt hR) (Nat.pow_le_pow_right (by decide) (by omega : p ≤ 10))
          refine w_45_s0 (i := 4 * j) (N := h.length) (gs := gs) (pl := .null) (ty := ty) (wa := wa) (nw := nw) (nx := nx) (dp := dp) (ca := ca) (mf := mf) (th := th) (sd := sd) (be := be) (ou := ou) (vf := vf) (wf := wf) (sf := sf) (uf := uf) (im := im) (jm := jm) (k := k) (g := g) (pe := (.ref Ep)) (pm := (.int mp)) (ge := (.ref E)) (gm := (.int mc)) (q := np) (p := p) (d := d) hL hi ln.2 ln.1 rfl hk hk20 hvw hsu him np6 hg24 (by omega) (by omega) (by omega) hd hR hx1 H0 H400 H412 ?_
          rintro l6' l7' l8' l9' h' ⟨Q0, Q400, Q412, X0, qf, ql, qz⟩
          have qo : pOu h' := pO.f2 qf (fun x hx => by simp only [List.mem_cons, List.not_mem_nil, or_false] at hx; omega) ⟨_, Q412⟩
          have hx0 : ∀ x, x ∈ [0, 400, 412] → (own x = 0 ∧ (x = 0 ∨ x = 400 ∨ x = 412)) ∨ (414 ≤ x ∧ (own x = 0)) := by
            intro x hx
            simp only [List.mem_cons, List.not_mem_nil, or_false] at hx
            rcases hx with q | q | q
            · rw [q]; exact Or.inl ⟨w1.z (by decide), by decide⟩
            · rw [q]; exact Or.inl ⟨w1.z (by decide), by decide⟩
            · rw [q]; exact Or.inl ⟨w1.z (by decide), by decide⟩
          have lz : 413 < h'.length := by obtain ⟨_, _, q⟩ := qo; exact rd_len (by decide) q
          have le : h.length ≤ h'.length := fr_len qf (by omega) (fun x hx hlt => by simp only [List.mem_cons, List.not_mem_nil, or_false] at hx; omega)
          have hP : ∀ a, h.length ≤ a ∧ a < h.length + 3 → h.length ≤ a ∧ a < h'.length := fun a q => by
            obtain ⟨_, _, _, _, _, z⟩ := id X0
            have := rd_len (by omega) z
            omega
          obtain ⟨own', w2, hk1, hnew⟩ := recolW w1 ln.1 le (fun a => h.length ≤ a ∧ a < h.length + 3) 3 hP
          have nP : pPb own' h' (.ref h.length) := Or.inr ⟨h.length, h.length + 1, h.length + 2, rfl, X0, hnew _ (by omega), hnew _ (by omega), hnew _ (by omega), by omega, by omega, by omega⟩
          exact hn _ _ _ _ _ ⟨own', _, _, _, gs, (.ref h.length), _, wa, nw, nx, np, K, X, rz, w2, Q0, Q400, pT.fr qf (fun x hx => by have := hx0 x hx; omega) (fun a q => (hk1 a (by omega)).trans q), pL.fr qf (fun x hx => by have := hx0 x hx; omega) (fun a q => (hk1 a (by omega)).trans q) (fun a q => by have := (w2 a (by omega)).2; omega) (fun a q => (hk1 a (by omega)).trans q), pR.fr qf (fun x hx => by have := hx0 x hx; omega), pV.fr qf (fun x hx => by have := hx0 x hx; omega), pC.fr qf (fun x hx => by have := hx0 x hx; omega) (fun a q => (hk1 a (by omega)).trans q), pI.fr qf (fun x hx => by have := hx0 x hx; omega), pS.fr qf (fun x hx => by have := hx0 x hx; omega), qo, pX.fr qf (fun x hx => by have := hx0 x hx; omega), nP, pG.fr qf (fun x hx => by have := hx0 x hx; omega) (fun a q => (hk1 a (by omega)).trans q), by omega, by omega, by omega⟩
      · have oP : 414 ≤ pp ∧ pp < h.length ∧ own pp = 3 := ⟨(w1 pp (by omega)).1, (w1 pp (by omega)).2, o1⟩
        have oM : 414 ≤ pm_ ∧ pm_ < h.length ∧ own pm_ = 3 := ⟨(w1 pm_ (by omega)).1, (w1 pm_ (by omega)).2, o2⟩
        have oW : 414 ≤ pw ∧ pw < h.length ∧ own pw = 3 := ⟨(w1 pw (by omega)).1, (w1 pw (by omega)).2, o3⟩
        cases hR : pbR p 1 with
        | none =>
          refine w_45_z1 (i := 4 * j) (N := h.length) (gs := gs) (pl := (.ref pp)) (ty := ty) (wa := wa) (nw := nw) (nx := nx) (dp := dp) (ca := ca) (mf := mf) (th := th) (sd := sd) (be := be) (ou := ou) (vf := vf) (wf := wf) (sf := sf) (uf := uf) (im := im) (jm := jm) (k := k) (g := g) (pe := (.ref Ep)) (pm := (.int mp)) (ge := (.ref E)) (gm := (.int mc)) (q := np) (p := p) (pP := pp) (pM := pm_) (pW := pw) (pm0 := pmf) (pw0 := pwf) (pfl := pfl) hL hi ln.2 ln.1 rfl hk hk20 hvw hsu him np6 hg24 (by omega) (by omega) (by omega) ⟨oP.1, oP.2.1⟩ ⟨oM.1, oM.2.1⟩ ⟨oW.1, oW.2.1⟩ dd.1 dd.2.1 dd.2.2 hR hx1 H0 H400 H412 HpP HpM HpW ?_
          rintro l6' l7' l8' l9' h' ⟨Q400, Q412, X0, qf, ql, qz⟩
          have qo : pOu h' := pO.f2 qf (fun x hx => by simp only [List.mem_cons, List.not_mem_nil, or_false] at hx; omega) ⟨_, Q412⟩
          have hx0 : ∀ x, x ∈ [400, 412, pp, pm_, pw] → (own x = 0 ∧ (x = 400 ∨ x = 412)) ∨ (414 ≤ x ∧ (own x = 0 ∨ own x = 3)) := by
            intro x hx
            simp only [List.mem_cons, List.not_mem_nil, or_false] at hx
            rcases hx with q | q | q | q | q
            · rw [q]; exact Or.inl ⟨w1.z (by decide), by decide⟩
            · rw [q]; exact Or.inl ⟨w1.z (by decide), by decide⟩
            · rw [q]; exact Or.inr ⟨oP.1, (Or.inr oP.2.2)⟩
            · rw [q]; exact Or.inr ⟨oM.1, (Or.inr oM.2.2)⟩
            · rw [q]; exact Or.inr ⟨oW.1, (Or.inr oW.2.2)⟩
          have lz : 413 < h'.length := by obtain ⟨_, _, q⟩ := qo; exact rd_len (by decide) q
          obtain ⟨_, _, _, z1, z2, z3⟩ := id X0
          have l1 := rd_len (by omega) z1
          have l2 := rd_len (by omega) z2
          have l3 := rd_len (by omega) z3
          have le : h.length ≤ h'.length := fr_len qf (by omega) (fun x hx hlt => by simp only [List.mem_cons, List.not_mem_nil, or_false] at hx; omega)
          have nP : pPb own h' (.ref pp) := Or.inr ⟨pp, pm_, pw, rfl, X0, oP.2.2, oM.2.2, oW.2.2, dd⟩
          exact hn _ _ _ _ _ ⟨own, _, _, _, gs, (.ref pp), _, wa, nw, nx, np, K, X, rz, w1.len le, qf 0 (fun q => by have := hx0 _ q; omega) _ H0, Q400, pT.fr qf (fun x hx => by have := hx0 x hx; omega) (fun _ q => q), pL.fr qf (fun x hx => by have := hx0 x hx; omega) (fun _ q => q) (fun a q => by have := (w1 a (by omega)).2; omega) (fun _ q => q), pR.fr qf (fun x hx => by have := hx0 x hx; omega), pV.fr qf (fun x hx => by have := hx0 x hx; omega), pC.fr qf (fun x hx => by have := hx0 x hx; omega) (fun _ q => q), pI.fr qf (fun x hx => by have := hx0 x hx; omega), pS.fr qf (fun x hx => by have := hx0 x hx; omega), qo, pX.fr qf (fun x hx => by have := hx0 x hx; omega), nP, pG.fr qf (fun x hx => by have := hx0 x hx; omega) (fun _ q => q), by omega, by omega, by omega⟩
        | some d =>
          have hd : d < 1024 := Nat.lt_of_lt_of_le (pbR_lt hR) (Nat.pow_le_pow_right (by decide) (by omega : p ≤ 10))
          refine w_45_s1 (i := 4 * j) (N := h.length) (gs := gs) (pl := (.ref pp)) (ty := ty) (wa := wa) (nw := nw) (nx := nx) (dp := dp) (ca := ca) (mf := mf) (th := th) (sd := sd) (be := be) (ou := ou) (vf := vf) (wf := wf) (sf := sf) (uf := uf) (im := im) (jm := jm) (k := k) (g := g) (pe := (.ref Ep)) (pm := (.int mp)) (ge := (.ref E)) (gm := (.int mc)) (q := np) (p := p) (pP := pp) (pM := pm_) (pW := pw) (pm0 := pmf) (pw0 := pwf) (pfl := pfl) (d := d) hL hi ln.2 ln.1 rfl hk hk20 hvw hsu him np6 hg24 (by omega) (by omega) (by omega) ⟨oP.1, oP.2.1⟩ ⟨oM.1, oM.2.1⟩ ⟨oW.1, oW.2.1⟩ dd.1 dd.2.1 dd.2.2 hd hR hx1 H0 H400 H412 HpP HpM HpW ?_
          rintro l6' l7' l8' l9' h' ⟨Q400, Q412, X0, qf, ql, qz⟩
          have qo : pOu h' := pO.f2 qf (fun x hx => by simp only [List.mem_cons, List.not_mem_nil, or_false] at hx; omega) ⟨_, Q412⟩
          have hx0 : ∀ x, x ∈ [400, 412, pp, pm_, pw] → (own x = 0 ∧ (x = 400 ∨ x = 412)) ∨ (414 ≤ x ∧ (own x = 0 ∨ own x = 3)) := by
            intro x hx
            simp only [List.mem_cons, List.not_mem_nil, or_false] at hx
            rcases hx with q | q | q | q | q
            · rw [q]; exact Or.inl ⟨w1.z (by decide), by decide⟩
            · rw [q]; exact Or.inl ⟨w1.z (by decide), by decide⟩
            · rw [q]; exact Or.inr ⟨oP.1, (Or.inr oP.2.2)⟩
            · rw [q]; exact Or.inr ⟨oM.1, (Or.inr oM.2.2)⟩
            · rw [q]; exact Or.inr ⟨oW.1, (Or.inr oW.2.2)⟩
          have lz : 413 < h'.length := by obtain ⟨_, _, q⟩ := qo; exact rd_len (by decide) q
          obtain ⟨_, _, _, z1, z2, z3⟩ := id X0
          have l1 := rd_len (by omega) z1
          have l2 := rd_len (by omega) z2
          have l3 := rd_len (by omega) z3
          have le : h.length ≤ h'.length := fr_len qf (by omega) (fun x hx hlt => by simp only [List.mem_cons, List.not_mem_nil, or_false] at hx; omega)
          have nP : pPb own h' (.ref pp) := Or.inr ⟨pp, pm_, pw, rfl, X0, oP.2.2, oM.2.2, oW.2.2, dd⟩
          exact hn _ _ _ _ _ ⟨own, _, _, _, gs, (.ref pp), _, wa, nw, nx, np, K, X, rz, w1.len le, qf 0 (fun q => by have := hx0 _ q; omega) _ H0, Q400, pT.fr qf (fun x hx => by have := hx0 x hx; omega) (fun _ q => q), pL.fr qf (fun x hx => by have := hx0 x hx; omega) (fun _ q => q) (fun a q => by have := (w1 a (by omega)).2; omega) (fun _ q => q), pR.fr qf (fun x hx => by have := hx0 x hx; omega), pV.fr qf (fun x hx => by have := hx0 x hx; omega), pC.fr qf (fun x hx => by have := hx0 x hx; omega) (fun _ q => q), pI.fr qf (fun x hx => by have := hx0 x hx; omega), pS.fr qf (fun x hx => by have := hx0 x hx; omega), qo, pX.fr qf (fun x hx => by have := hx0 x hx; omega), nP, pG.fr qf (fun x hx => by have := hx0 x hx; omega) (fun _ q => q), by omega, by omega, by omega⟩
