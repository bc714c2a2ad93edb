/-! Rounds lifted to the state between calls. -/
theorem wSt.cells {h : mj_H} {s : SV} : wSt h 402 s → ∃ (vf tf : Nat → Int32), mj_rd h 403 = some (.inl (0, (8, .inl vf))) ∧ mj_rd h 404 = some (.inl (0, (20, .inl tf))) ∧ (∀ j, j < 8 → vf j = s.1 j) ∧ ∀ j, j < s.2.2 → tf j = s.2.1 j
  | ⟨⟨vf, a, b⟩, ⟨tf, c, d⟩, _⟩ => ⟨vf, tf, a, c, b, d⟩
theorem pRu.w {h : mj_H} {np : Nat} {K : Nat → Nat} : pRu h np K → ∃ (k : Nat) (vf wf sf uf : Nat → Int32) (dp ca : Value), k ≤ 20 ∧ mj_rd h 375 = some (.inr (7, [.ref 376, .ref 377, .int (nI k)])) ∧ mj_rd h 376 = some (.inl (0, (8, .inl vf))) ∧ mj_rd h 377 = some (.inl (0, (20, .inl sf))) ∧ mj_rd h 402 = some (.inr (19, [.ref 403, .ref 404, .ref 405, .ref 406, .ref 407, .ref 408, .ref 409, .int (nI k), dp, ca, .ref 400])) ∧ mj_rd h 403 = some (.inl (0, (8, .inl wf))) ∧ mj_rd h 404 = some (.inl (0, (20, .inl uf))) ∧ (∀ j, j < 8 → wf j = vf j) ∧ ∀ j, j < k → uf j = sf j
  | ⟨s, ⟨a1, ⟨vf, a2, a3⟩, ⟨sf, a4, a5⟩, a6⟩, b⟩ => by
    have hw : wSt h 402 s ∧ ∃ dp ca : Value, mj_rd h 402 = some (.inr (19, [.ref 403, .ref 404, .ref 405, .ref 406, .ref 407, .ref 408, .ref 409, .int (nI s.2.2), dp, ca, .ref 400])) := by
      rcases b with ⟨b1, _, cn, b3⟩ | ⟨r, z, _, b2, _⟩
      · exact ⟨b1.2.1, _, _, b3⟩
      · exact ⟨b2.2.1, _, _, b2.1⟩
    obtain ⟨hs, dp, ca, h4⟩ := hw
    obtain ⟨wf, uf, c1, c2, c3, c4⟩ := hs.cells
    exact ⟨s.2.2, vf, wf, sf, uf, dp, ca, a6, a1, a2, a4, h4, c1, c2, fun j hj => (c3 j hj).trans (a3 j hj).symm, fun j hj => (c4 j hj).trans (a5 j hj).symm⟩
theorem pLi.w {own : Nat → Nat} {h : mj_H} {np : Nat} {K : Nat → Nat} {X : Nat → Nat → Nat → Nat} : pLi own h np K X → ∃ (mp : Int32) (Ep : Nat), mj_rd h 38 = some (.inr (6, [.ref 39, .ref 40, .int (nI np)])) ∧ mj_rd h 401 = some (.inr (18, [.ref Ep, .int (nI np), .int mp]))
  | ⟨_, _, _, Ep, a, b, _⟩ => by
    obtain ⟨mc, c⟩ := b.1.c
    exact ⟨mc, Ep, a.2.1, c⟩
theorem cell_f {h : mj_H} {a t n : Nat} {f g : Nat → Int32} (h1 : mj_rd h a = some (.inl (t, (n, .inl f)))) (h2 : mj_rd h a = some (.inl (t, (n, .inl g)))) : f = g := by
  rw [h1] at h2
  exact Sum.inl.inj (Prod.mk.inj (Prod.mk.inj (Sum.inl.inj (Option.some.inj h2))).2).2
theorem upd_c {f g : Nat → Int32} {v : Nat} {y : Int32} (e : ∀ j, j < 8 → f j = g j) : ∀ j, j < 8 → upd f v y j = upd g v y j := fun j hj => by
  by_cases q : j = v
  · rw [q, upd_s, upd_s]
  · rw [upd_n q, upd_n q]
    exact e j hj
/-- a variable set on both sides -/
theorem pRu.set {h g : mj_H} {L : List Nat} {np v : Nat} {K : Nat → Nat} {y : Int32} {vf wf : Nat → Int32} (a : pRu h np K) (e : mz_fr L h g) (hL : ∀ x, x ∈ L → x < 375 ∨ x = 376 ∨ 378 ≤ x ∧ x < 381 ∨ 387 ≤ x ∧ x < 402 ∨ x = 403 ∨ 410 ≤ x) (h1 : mj_rd h 376 = some (.inl (0, (8, .inl vf)))) (g1 : mj_rd g 376 = some (.inl (0, (8, .inl (upd vf v y))))) (h2 : mj_rd h 403 = some (.inl (0, (8, .inl wf)))) (g2 : mj_rd g 403 = some (.inl (0, (8, .inl (upd wf v y))))) : pRu g np K := by
  have no : ∀ i, (i = 375 ∨ i = 377 ∨ i = 402 ∨ 404 ≤ i ∧ i < 410) → i ∉ L := fun i hi hx => by have := hL _ hx; omega
  obtain ⟨⟨vv, st, k⟩, ⟨a1, ⟨vf', a2, a3⟩, ⟨sf, a4, a5⟩, a6⟩, b⟩ := a
  obtain rfl := cell_f h1 a2
  have hs : ∀ {s : SV}, wSt h 402 s → wSt g 402 (upd s.1 v y, s.2.1, s.2.2) := by
    rintro ⟨q1, q2, q3⟩ ⟨⟨wf', c1, c2⟩, ⟨tf, c3, c4⟩, c5⟩
    obtain rfl := cell_f h2 c1
    exact ⟨⟨_, g2, upd_c c2⟩, ⟨tf, e _ (no 404 (by decide)) _ c3, c4⟩, c5⟩
  refine ⟨(upd vv v y, st, k), ⟨e _ (no 375 (by decide)) _ a1, ⟨_, g1, upd_c a3⟩, ⟨sf, e _ (no 377 (by decide)) _ a4, a5⟩, a6⟩, ?_⟩
  rcases b with ⟨⟨⟨cn, d, b1⟩, bs, ⟨f3, b3⟩, ⟨f4, b4⟩, ⟨f5, b5, b6⟩, lf, nf, b7, b8⟩, ⟨r, b2⟩, cn', b9⟩ | ⟨r, z, b1, ⟨c1, c2, c3, c4⟩, b3⟩
  · exact Or.inl ⟨⟨⟨cn, d, e _ (no 402 (by decide)) _ b1⟩, hs bs, ⟨f3, e _ (no 405 (by decide)) _ b3⟩, ⟨f4, e _ (no 406 (by decide)) _ b4⟩, ⟨f5, e _ (no 407 (by decide)) _ b5, b6⟩, lf, nf, e _ (no 408 (by decide)) _ b7, e _ (no 409 (by decide)) _ b8⟩, ⟨r, b2.fr e (fun x hx => by have := hL x hx; omega)⟩, cn', e _ (no 402 (by decide)) _ b9⟩
  · exact Or.inr ⟨r, z, b1.fr e (fun x hx => by have := hL x hx; omega), ⟨e _ (no 402 (by decide)) _ c1, hs c2, c3.fr e (no 405 (by decide)) (no 406 (by decide)) (no 407 (by decide)), c4.fr e (no 408 (by decide)) (no 409 (by decide))⟩, b3⟩
theorem recolW {own : Nat → Nat} {h g : mj_H} (w1 : wO own h) (hl : 414 ≤ h.length) (le : h.length ≤ g.length) (Q : Nat → Prop) (c : Nat) (hP : ∀ a, Q a → h.length ≤ a ∧ a < g.length) : ∃ own' : Nat → Nat, wO own' g ∧ (∀ a, own a ≠ 0 → own' a = own a) ∧ ∀ a, Q a → own' a = c := by
  obtain ⟨own', ho⟩ := recol Q c own
  refine ⟨own', fun a ha => ?_, fun a ha => (ho a).2 (fun q => ?_), fun a q => (ho a).1 q⟩
  · by_cases q : Q a
    · have := hP a q
      omega
    · rw [(ho a).2 q] at ha
      have := w1 a ha
      omega
  · have := hP a q
    have := w1 a ha
    omega
theorem gate_ok {l c : Nat} (hl : l < 3) (hc : c < 8) : (nI c &&& (nI 1 <<< (nI l &&& 31)) = nI 0 ∧ (nI c >>> (nI l &&& 31)) &&& nI 1 = nI 0 ∧ isG (8 * l + c)) ∨ (¬ (nI c &&& (nI 1 <<< (nI l &&& 31))).toInt = 0 ∧ (nI c >>> (nI l &&& 31)) &&& nI 1 = nI 1) := by
  have k : (List.range 3).all (fun l => (List.range 8).all fun c => (decide (nI c &&& (nI 1 <<< (nI l &&& 31)) = nI 0) && decide ((nI c >>> (nI l &&& 31)) &&& nI 1 = nI 0) && (decide (8 * l + c < 24) && decide ((8 * l + c) % 8 / 2 ^ ((8 * l + c) / 8) % 2 = 0))) || (!decide ((nI c &&& (nI 1 <<< (nI l &&& 31))).toInt = 0) && decide ((nI c >>> (nI l &&& 31)) &&& nI 1 = nI 1))) = true := by decide +kernel
  have k1 := List.all_eq_true.mp (List.all_eq_true.mp k l (List.mem_range.mpr hl)) c (List.mem_range.mpr hc)
  simp only [Bool.or_eq_true, Bool.and_eq_true, Bool.not_eq_true', decide_eq_true_eq, decide_eq_false_iff_not] at k1
  rcases k1 with ⟨⟨a, b⟩, c1, c2⟩ | ⟨a, b⟩
  · exact Or.inl ⟨a, b, c1, c2⟩
  · exact Or.inr ⟨a, b⟩
theorem mis_le8 (c : Nat → Nat) : ∀ n, mis c n ≤ n
  | 0 => Nat.le_refl _
  | n + 1 => by
    have := mis_le8 c n
    unfold mis
    split <;> omega
theorem r_12 {L j : Nat} {xs : Nat → Int32} {h : mj_H} {l6 l7 l8 l9 : Option Value} {P : mj_H → Prop} {own : Nat → Nat} {th : Int32} {sd be : Int64} {gs pl ty wa nw nx : Value} {np : Nat} {K : Nat → Nat} {X : Nat → Nat → Nat → Nat} {rz : Nat} (w : wJ own th sd be gs pl ty wa nw nx np K X rz j h) (hL : L ≤ 2048) (hi : 4 * j + 4 ≤ L) (hk : xs (4 * j) &&& nI 63 = nI 12) (hn : ∀ (l6 l7 l8 l9 : Option Value) (g : mj_H), wI (j + 1) g → mj_lrun L xs (28, [some (.retAddr 1), some (.ref 0), some (.ref 400), some (.ref 412), some (.ref 413), some (.int (nI (4 * j + 4))), l6, l7, l8, l9], [], g) P) : mj_lrun L xs (28, [some (.retAddr 1), some (.ref 0), some (.ref 400), some (.ref 412), some (.ref 413), some (.int (nI (4 * j))), l6, l7, l8, l9], [], h) P := by
  obtain ⟨w1, H0, H400, pT, pL, pR, pV, pC, pI, pS, pO, pX, pP, pG, j5, b1, b2⟩ := id w
  have ln := w.len
  have np6 := pL.np
  obtain ⟨⟨ou, H412⟩, od, H413⟩ := id pO
  obtain ⟨k, vf, wf, sf, uf, dp, ca, hk20, H375, H376, H377, H402, H403, H404, hvw, hsu⟩ := pR.w
  obtain ⟨mp, Ep, H38, H401⟩ := pL.w
  obtain ⟨g, E, G, rf, mf, hg24, H393, H394, hls, hGG, hEo⟩ := id pC
  obtain ⟨cap, mc, ef, H410, hEA, hgc, hc31, hE3, hef⟩ := id hls
  obtain ⟨im, jm, IM, H397, H411, hIM, hJM⟩ := id pI
  have him : ∀ i, i < 8 → jm i = im i := fun i hi => by rw [(hIM i hi).1, (hJM i hi).1]
  have hG1 : ∀ i, i < g → rf i = nI (G i) ∧ G i < 24 := fun i hi => ⟨(hGG i hi).1, (hGG i hi).2.1⟩
  have hG2 : ∀ i, i < g → ef i = some (1000138 + G i) ∧ G i < 24 := fun i hi => ⟨(hef i hi).1, (hGG i hi).2.1⟩
  have hGi : ∀ i, i < g → isG (G i) := fun i hi => (hGG i hi).2
  have e1 : mj_CB = 1000000 := rfl
  have HE := rdA_lt hEA
  have hE9 : E = 1000000 ∨ 414 ≤ E ∧ E < h.length ∧ own E = 2 := hE3.elim (fun q => Or.inr (by have o := hEo q.1; have := w1 E (by omega); omega)) (fun q => Or.inl q.1)
  have hE0 : 414 ≤ E := by omega
  have hEN : E < h.length ∨ E = 1000000 := by omega
  have oE : own E = 0 ∨ own E = 2 := hE9.elim (fun q => Or.inl (by
    by_cases z : own E = 0
    · exact z
    · have := w1 E z
      omega)) (fun q => Or.inr q.2.2)
  refine w_12 (i := 4 * j) (N := h.length) (gs := gs) (pl := pl) (ty := ty) (wa := wa) (nw := nw) (nx := nx) (dp := dp) (ca := ca) (mf := mf) (th := th) (sd := sd) (be := be) (ou := ou) (vf := vf) (wf := wf) (sf := sf) (uf := uf) (im := im) (jm := jm) (k := k) (g := g) (pe := (.ref Ep)) (pm := (.int mp)) (ge := (.ref E)) (gm := (.int mc)) (q := np) hL hi ln.2 ln.1 rfl hk hk20 hvw hsu him np6 hg24 H0 H375 H400 H402 ?_
  rintro l6' l7' l8' l9' h' ⟨Q400, qf, ql, qz⟩
  exact hn _ _ _ _ _ (w.q qf (fun x hx => by simp only [List.mem_cons, List.not_mem_nil, or_false] at hx; omega) Q400 (pO.fr qf (fun x hx => by simp only [List.mem_cons, List.not_mem_nil, or_false] at hx; omega)) (by omega) (by omega) (by omega))
theorem r_25 {L j : Nat} {xs : Nat → Int32} {h : mj_H} {l6 l7 l8 l9 : Option Value} {P : mj_H → Prop} {own : Nat → Nat} {th : Int32} {sd be : Int64} {gs pl ty wa nw nx : Value} {np : Nat} {K : Nat → Nat} {X : Nat → Nat → Nat → Nat} {rz : Nat} (w : wJ own th sd be gs pl ty wa nw nx np K X rz j h) (hL : L ≤ 2048) (hi : 4 * j + 4 ≤ L) (hk : xs (4 * j) &&& nI 63 = nI 25) (hn : ∀ (l6 l7 l8 l9 : Option Value) (g : mj_H), wI (j + 1) g → mj_lrun L xs (28, [some (.retAddr 1), some (.ref 0), some (.ref 400), some (.ref 412), some (.ref 413), some (.int (nI (4 * j + 4))), l6, l7, l8, l9], [], g) P) : mj_lrun L xs (28, [some (.retAddr 1), some (.ref 0), some (.ref 400), some (.ref 412), some (.ref 413), some (.int (nI (4 * j))), l6, l7, l8, l9], [], h) P := by
  obtain ⟨w1, H0, H400, pT, pL, pR, pV, pC, pI, pS, pO, pX, pP, pG, j5, b1, b2⟩ := id w
  have ln := w.len
  have np6 := pL.np
  obtain ⟨⟨ou, H412⟩, od, H413⟩ := id pO
  obtain ⟨k, vf, wf, sf, uf, dp, ca, hk20, H375, H376, H377, H402, H403, H404, hvw, hsu⟩ := pR.w
  obtain ⟨mp, Ep, H38, H401⟩ := pL.w
  obtain ⟨g, E, G, rf, mf, hg24, H393, H394, hls, hGG, hEo⟩ := id pC
  obtain ⟨cap, mc, ef, H410, hEA, hgc, hc31, hE3, hef⟩ := id hls
  obtain ⟨im, jm, IM, H397, H411, hIM, hJM⟩ := id pI
  have him : ∀ i, i < 8 → jm i = im i := fun i hi => by rw [(hIM i hi).1, (hJM i hi).1]
  have hG1 : ∀ i, i < g → rf i = nI (G i) ∧ G i < 24 := fun i hi => ⟨(hGG i hi).1, (hGG i hi).2.1⟩
  have hG2 : ∀ i, i < g → ef i = some (1000138 + G i) ∧ G i < 24 := fun i hi => ⟨(hef i hi).1, (hGG i hi).2.1⟩
  have hGi : ∀ i, i < g → isG (G i) := fun i hi => (hGG i hi).2
  have e1 : mj_CB = 1000000 := rfl
  have HE := rdA_lt hEA
  have hE9 : E = 1000000 ∨ 414 ≤ E ∧ E < h.length ∧ own E = 2 := hE3.elim (fun q => Or.inr (by have o := hEo q.1; have := w1 E (by omega); omega)) (fun q => Or.inl q.1)
  have hE0 : 414 ≤ E := by omega
  have hEN : E < h.length ∨ E = 1000000 := by omega
  have oE : own E = 0 ∨ own E = 2 := hE9.elim (fun q => Or.inl (by
    by_cases z : own E = 0
    · exact z
    · have := w1 E z
      omega)) (fun q => Or.inr q.2.2)
  refine w_25 (i := 4 * j) (N := h.length) (gs := gs) (pl := pl) (ty := ty) (wa := wa) (nw := nw) (nx := nx) (dp := dp) (ca := ca) (mf := mf) (th := th) (sd := sd) (be := be) (ou := ou) (vf := vf) (wf := wf) (sf := sf) (uf := uf) (im := im) (jm := jm) (k := k) (g := g) (pe := (.ref Ep)) (pm := (.int mp)) (ge := (.ref E)) (gm := (.int mc)) (q := np) hL hi ln.2 ln.1 rfl hk hk20 hvw hsu him np6 hg24 H0 H400 ?_
  rintro l6' l7' l8' l9' h' ⟨Q400, qf, ql, qz⟩
  exact hn _ _ _ _ _ (w.q qf (fun x hx => by simp only [List.mem_cons, List.not_mem_nil, or_false] at hx; omega) Q400 (pO.fr qf (fun x hx => by simp only [List.mem_cons, List.not_mem_nil, or_false] at hx; omega)) (by omega) (by omega) (by omega))
theorem r_31 {L j : Nat} {xs : Nat → Int32} {h : mj_H} {l6 l7 l8 l9 : Option Value} {P : mj_H → Prop} {own : Nat → Nat} {th : Int32} {sd be : Int64} {gs pl ty wa nw nx : Value} {np : Nat} {K : Nat → Nat} {X : Nat → Nat → Nat → Nat} {rz : Nat} (w : wJ own th sd be gs pl ty wa nw nx np K X rz j h) (hL : L ≤ 2048) (hi : 4 * j + 4 ≤ L) (hk : xs (4 * j) &&& nI 63 = nI 31) (hn : ∀ (l6 l7 l8 l9 : Option Value) (g : mj_H), wI (j + 1) g → mj_lrun L xs (28, [some (.retAddr 1), some (.ref 0), some (.ref 400), some (.ref 412), some (.ref 413), some (.int (nI (4 * j + 4))), l6, l7, l8, l9], [], g) P) : mj_lrun L xs (28, [some (.retAddr 1), some (.ref 0), some (.ref 400), some (.ref 412), some (.ref 413), some (.int (nI (4 * j))), l6, l7, l8, l9], [], h) P := by
  obtain ⟨w1, H0, H400, pT, pL, pR, pV, pC, pI, pS, pO, pX, pP, pG, j5, b1, b2⟩ := id w
  have ln := w.len
  have np6 := pL.np
  obtain ⟨⟨ou, H412⟩, od, H413⟩ := id pO
  obtain ⟨k, vf, wf, sf, uf, dp, ca, hk20, H375, H376, H377, H402, H403, H404, hvw, hsu⟩ := pR.w
  obtain ⟨mp, Ep, H38, H401⟩ := pL.w
  obtain ⟨g, E, G, rf, mf, hg24, H393, H394, hls, hGG, hEo⟩ := id pC
  obtain ⟨cap, mc, ef, H410, hEA, hgc, hc31, hE3, hef⟩ := id hls
  obtain ⟨im, jm, IM, H397, H411, hIM, hJM⟩ := id pI
  have him : ∀ i, i < 8 → jm i = im i := fun i hi => by rw [(hIM i hi).1, (hJM i hi).1]
  have hG1 : ∀ i, i < g → rf i = nI (G i) ∧ G i < 24 := fun i hi => ⟨(hGG i hi).1, (hGG i hi).2.1⟩
  have hG2 : ∀ i, i < g → ef i = some (1000138 + G i) ∧ G i < 24 := fun i hi => ⟨(hef i hi).1, (hGG i hi).2.1⟩
  have hGi : ∀ i, i < g → isG (G i) := fun i hi => (hGG i hi).2
  have e1 : mj_CB = 1000000 := rfl
  have HE := rdA_lt hEA
  have hE9 : E = 1000000 ∨ 414 ≤ E ∧ E < h.length ∧ own E = 2 := hE3.elim (fun q => Or.inr (by have o := hEo q.1; have := w1 E (by omega); omega)) (fun q => Or.inl q.1)
  have hE0 : 414 ≤ E := by omega
  have hEN : E < h.length ∨ E = 1000000 := by omega
  have oE : own E = 0 ∨ own E = 2 := hE9.elim (fun q => Or.inl (by
    by_cases z : own E = 0
    · exact z
    · have := w1 E z
      omega)) (fun q => Or.inr q.2.2)
  refine w_31 (i := 4 * j) (N := h.length) (gs := gs) (pl := pl) (ty := ty) (wa := wa) (nw := nw) (nx := nx) (dp := dp) (ca := ca) (mf := mf) (th := th) (sd := sd) (be := be) (ou := ou) (vf := vf) (wf := wf) (sf := sf) (uf := uf) (im := im) (jm := jm) (k := k) (g := g) (pe := (.ref Ep)) (pm := (.int mp)) (ge := (.ref E)) (gm := (.int mc)) (q := np) hL hi ln.2 ln.1 rfl hk hk20 hvw hsu him np6 hg24 H0 H393 H400 H410 ?_
  rintro l6' l7' l8' l9' h' ⟨Q400, qf, ql, qz⟩
  exact hn _ _ _ _ _ (w.q qf (fun x hx => by simp only [List.mem_cons, List.not_mem_nil, or_false] at hx; omega) Q400 (pO.fr qf (fun x hx => by simp only [List.mem_cons, List.not_mem_nil, or_false] at hx; omega)) (by omega) (by omega) (by omega))
theorem r_46 {L j : Nat} {xs : Nat → Int32} {h : mj_H} {l6 l7 l8 l9 : Option Value} {P : mj_H → Prop} {own : Nat → Nat} {th : Int32} {sd be : Int64} {gs pl ty wa nw nx : Value} {np : Nat} {K : Nat → Nat} {X : Nat → Nat → Nat → Nat} {rz : Nat} (w : wJ own th sd be gs pl ty wa nw nx np K X rz j h) (hL : L ≤ 2048) (hi : 4 * j + 4 ≤ L) (hk : xs (4 * j) &&& nI 63 = nI 46) (hn : ∀ (l6 l7 l8 l9 : Option Value) (g : mj_H), wI (j + 1) g → mj_lrun L xs (28, [some (.retAddr 1), some (.ref 0), some (.ref 400), some (.ref 412), some (.ref 413), some (.int (nI (4 * j + 4))), l6, l7, l8, l9], [], g) P) : mj_lrun L xs (28, [some (.retAddr 1), some (.ref 0), some (.ref 400), some (.ref 412), some (.ref 413), some (.int (nI (4 * j))), l6, l7, l8, l9], [], h) P := by
  obtain ⟨w1, H0, H400, pT, pL, pR, pV, pC, pI, pS, pO, pX, pP, pG, j5, b1, b2⟩ := id w
  have ln := w.len
  have np6 := pL.np
  obtain ⟨⟨ou, H412⟩, od, H413⟩ := id pO
  obtain ⟨k, vf, wf, sf, uf, dp, ca, hk20, H375, H376, H377, H402, H403, H404, hvw, hsu⟩ := pR.w
  obtain ⟨mp, Ep, H38, H401⟩ := pL.w
  obtain ⟨g, E, G, rf, mf, hg24, H393, H394, hls, hGG, hEo⟩ := id pC
  obtain ⟨cap, mc, ef, H410, hEA, hgc, hc31, hE3, hef⟩ := id hls
  obtain ⟨im, jm, IM, H397, H411, hIM, hJM⟩ := id pI
  have him : ∀ i, i < 8 → jm i = im i := fun i hi => by rw [(hIM i hi).1, (hJM i hi).1]
  have hG1 : ∀ i, i < g → rf i = nI (G i) ∧ G i < 24 := fun i hi => ⟨(hGG i hi).1, (hGG i hi).2.1⟩
  have hG2 : ∀ i, i < g → ef i = some (1000138 + G i) ∧ G i < 24 := fun i hi => ⟨(hef i hi).1, (hGG i hi).2.1⟩
  have hGi : ∀ i, i < g → isG (G i) := fun i hi => (hGG i hi).2
  have e1 : mj_CB = 1000000 := rfl
  have HE := rdA_lt hEA
  have hE9 : E = 1000000 ∨ 414 ≤ E ∧ E < h.length ∧ own E = 2 := hE3.elim (fun q => Or.inr (by have o := hEo q.1; have := w1 E (by omega); omega)) (fun q => Or.inl q.1)
  have hE0 : 414 ≤ E := by omega
  have hEN : E < h.length ∨ E = 1000000 := by omega
  have oE : own E = 0 ∨ own E = 2 := hE9.elim (fun q => Or.inl (by
    by_cases z : own E = 0
    · exact z
    · have := w1 E z
      omega)) (fun q => Or.inr q.2.2)
  refine w_46 (i := 4 * j) (N := h.length) (gs := gs) (pl := pl) (ty := ty) (wa := wa) (nw := nw) (nx := nx) (dp := dp) (ca := ca) (mf := mf) (th := th) (sd := sd) (be := be) (ou := ou) (vf := vf) (wf := wf) (sf := sf) (uf := uf) (im := im) (jm := jm) (k := k) (g := g) (pe := (.ref Ep)) (pm := (.int mp)) (ge := (.ref E)) (gm := (.int mc)) (q := np) hL hi ln.2 ln.1 rfl hk hk20 hvw hsu him np6 hg24 H0 H38 H400 H401 ?_
  rintro l6' l7' l8' l9' h' ⟨Q400, qf, ql, qz⟩
  exact hn _ _ _ _ _ (w.q qf (fun x hx => by simp only [List.mem_cons, List.not_mem_nil, or_false] at hx; omega) Q400 (pO.fr qf (fun x hx => by simp only [List.mem_cons, List.not_mem_nil, or_false] at hx; omega)) (by omega) (by omega) (by omega))
theorem r_47 {L j : Nat} {xs : Nat → Int32} {h : mj_H} {l6 l7 l8 l9 : Option Value} {P : mj_H → Prop} {own : Nat → Nat} {th : Int32} {sd be : Int64} {gs pl ty wa nw nx : Value} {np : Nat} {K : Nat → Nat} {X : Nat → Nat → Nat → Nat} {rz : Nat} (w : wJ own th sd be gs pl ty wa nw nx np K X rz j h) (hL : L ≤ 2048) (hi : 4 * j + 4 ≤ L) (hk : xs (4 * j) &&& nI 63 = nI 47) (hn : ∀ (l6 l7 l8 l9 : Option Value) (g : mj_H), wI (j + 1) g → mj_lrun L xs (28, [some (.retAddr 1), some (.ref 0), some (.ref 400), some (.ref 412), some (.ref 413), some (.int (nI (4 * j + 4))), l6, l7, l8, l9], [], g) P) : mj_lrun L xs (28, [some (.retAddr 1), some (.ref 0), some (.ref 400), some (.ref 412), some (.ref 413), some (.int (nI (4 * j))), l6, l7, l8, l9], [], h) P := by
  obtain ⟨w1, H0, H400, pT, pL, pR, pV, pC, pI, pS, pO, pX, pP, pG, j5, b1, b2⟩ := id w
  have ln := w.len
  have np6 := pL.np
  obtain ⟨⟨ou, H412⟩, od, H413⟩ := id pO
  obtain ⟨k, vf, wf, sf, uf, dp, ca, hk20, H375, H376, H377, H402, H403, H404, hvw, hsu⟩ := pR.w
  obtain ⟨mp, Ep, H38, H401⟩ := pL.w
  obtain ⟨g, E, G, rf, mf, hg24, H393, H394, hls, hGG, hEo⟩ := id pC
  obtain ⟨cap, mc, ef, H410, hEA, hgc, hc31, hE3, hef⟩ := id hls
  obtain ⟨im, jm, IM, H397, H411, hIM, hJM⟩ := id pI
  have him : ∀ i, i < 8 → jm i = im i := fun i hi => by rw [(hIM i hi).1, (hJM i hi).1]
  have hG1 : ∀ i, i < g → rf i = nI (G i) ∧ G i < 24 := fun i hi => ⟨(hGG i hi).1, (hGG i hi).2.1⟩
  have hG2 : ∀ i, i < g → ef i = some (1000138 + G i) ∧ G i < 24 := fun i hi => ⟨(hef i hi).1, (hGG i hi).2.1⟩
  have hGi : ∀ i, i < g → isG (G i) := fun i hi => (hGG i hi).2
  have e1 : mj_CB = 1000000 := rfl
  have HE := rdA_lt hEA
  have hE9 : E = 1000000 ∨ 414 ≤ E ∧ E < h.length ∧ own E = 2 := hE3.elim (fun q => Or.inr (by have o := hEo q.1; have := w1 E (by omega); omega)) (fun q => Or.inl q.1)
  have hE0 : 414 ≤ E := by omega
  have hEN : E < h.length ∨ E = 1000000 := by omega
  have oE : own E = 0 ∨ own E = 2 := hE9.elim (fun q => Or.inl (by
    by_cases z : own E = 0
    · exact z
    · have := w1 E z
      omega)) (fun q => Or.inr q.2.2)
  refine w_47 (i := 4 * j) (N := h.length) (gs := gs) (pl := pl) (ty := ty) (wa := wa) (nw := nw) (nx := nx) (dp := dp) (ca := ca) (mf := mf) (th := th) (sd := sd) (be := be) (ou := ou) (vf := vf) (wf := wf) (sf := sf) (uf := uf) (im := im) (jm := jm) (k := k) (g := g) (pe := (.ref Ep)) (pm := (.int mp)) (ge := (.ref E)) (gm := (.int mc)) (q := np) hL hi ln.2 ln.1 rfl hk hk20 hvw hsu him np6 hg24 H0 H375 H376 H377 H400 H402 H403 H404 ?_
  rintro l6' l7' l8' l9' h' ⟨Q400, qf, ql, qz⟩
  exact hn _ _ _ _ _ (w.q qf (fun x hx => by simp only [List.mem_cons, List.not_mem_nil, or_false] at hx; omega) Q400 (pO.fr qf (fun x hx => by simp only [List.mem_cons, List.not_mem_nil, or_false] at hx; omega)) (by omega) (by omega) (by omega))
theorem r_39 {L j : Nat} {xs : Nat → Int32} {h : mj_H} {l6 l7 l8 l9 : Option Value} {P : mj_H → Prop} {own : Nat → Nat} {th : Int32} {sd be : Int64} {gs pl ty wa nw nx : Value} {np : Nat} {K : Nat → Nat} {X : Nat → Nat → Nat → Nat} {rz : Nat} (w : wJ own th sd be gs pl ty wa nw nx np K X rz j h) (hL : L ≤ 2048) (hi : 4 * j + 4 ≤ L) (hk : xs (4 * j) &&& nI 63 = nI 39) (hn : ∀ (l6 l7 l8 l9 : Option Value) (g : mj_H), wI (j + 1) g → mj_lrun L xs (28, [some (.retAddr 1), some (.ref 0), some (.ref 400), some (.ref 412), some (.ref 413), some (.int (nI (4 * j + 4))), l6, l7, l8, l9], [], g) P) : mj_lrun L xs (28, [some (.retAddr 1), some (.ref 0), some (.ref 400), some (.ref 412), some (.ref 413), some (.int (nI (4 * j))), l6, l7, l8, l9], [], h) P := by
  obtain ⟨w1, H0, H400, pT, pL, pR, pV, pC, pI, pS, pO, pX, pP, pG, j5, b1, b2⟩ := id w
  have ln := w.len
  have np6 := pL.np
  obtain ⟨⟨ou, H412⟩, od, H413⟩ := id pO
  obtain ⟨k, vf, wf, sf, uf, dp, ca, hk20, H375, H376, H377, H402, H403, H404, hvw, hsu⟩ := pR.w
  obtain ⟨mp, Ep, H38, H401⟩ := pL.w
  obtain ⟨g, E, G, rf, mf, hg24, H393, H394, hls, hGG, hEo⟩ := id pC
  obtain ⟨cap, mc, ef, H410, hEA, hgc, hc31, hE3, hef⟩ := id hls
  obtain ⟨im, jm, IM, H397, H411, hIM, hJM⟩ := id pI
  have him : ∀ i, i < 8 → jm i = im i := fun i hi => by rw [(hIM i hi).1, (hJM i hi).1]
  have hG1 : ∀ i, i < g → rf i = nI (G i) ∧ G i < 24 := fun i hi => ⟨(hGG i hi).1, (hGG i hi).2.1⟩
  have hG2 : ∀ i, i < g → ef i = some (1000138 + G i) ∧ G i < 24 := fun i hi => ⟨(hef i hi).1, (hGG i hi).2.1⟩
  have hGi : ∀ i, i < g → isG (G i) := fun i hi => (hGG i hi).2
  have e1 : mj_CB = 1000000 := rfl
  have HE := rdA_lt hEA
  have hE9 : E = 1000000 ∨ 414 ≤ E ∧ E < h.length ∧ own E = 2 := hE3.elim (fun q => Or.inr (by have o := hEo q.1; have := w1 E (by omega); omega)) (fun q => Or.inl q.1)
  have hE0 : 414 ≤ E := by omega
  have hEN : E < h.length ∨ E = 1000000 := by omega
  have oE : own E = 0 ∨ own E = 2 := hE9.elim (fun q => Or.inl (by
    by_cases z : own E = 0
    · exact z
    · have := w1 E z
      omega)) (fun q => Or.inr q.2.2)
  refine w_39 (i := 4 * j) (N := h.length) (gs := gs) (pl := pl) (ty := ty) (wa := wa) (nw := nw) (nx := nx) (dp := dp) (ca := ca) (mf := mf) (th := th) (sd := sd) (be := be) (ou := ou) (vf := vf) (wf := wf) (sf := sf) (uf := uf) (im := im) (jm := jm) (k := k) (g := g) (pe := (.ref Ep)) (pm := (.int mp)) (ge := (.ref E)) (gm := (.int mc)) (q := np) (rf := rf) (E := E) (cap := cap) (mc := mc) (ef := ef) (G := G) hL hi ln.2 ln.1 rfl hk hk20 hvw hsu him np6 hg24 (fun i hi => (hG1 i hi).1) hGi hE0 hEA (fun i hi => (hG2 i hi).1) hgc hc31 H0 H393 H394 H400 H410 ?_
  rintro l6' l7' l8' l9' h' ⟨Q400, qf, ql, qz⟩
  exact hn _ _ _ _ _ (w.q qf (fun x hx => by simp only [List.mem_cons, List.not_mem_nil, or_false] at hx; omega) Q400 (pO.fr qf (fun x hx => by simp only [List.mem_cons, List.not_mem_nil, or_false] at hx; omega)) (by omega) (by omega) (by omega))
theorem r_40 {L j : Nat} {xs : Nat → Int32} {h : mj_H} {l6 l7 l8 l9 : Option Value} {P : mj_H → Prop} {own : Nat → Nat} {th : Int32} {sd be : Int64} {gs pl ty wa nw nx : Value} {np : Nat} {K : Nat → Nat} {X : Nat → Nat → Nat → Nat} {rz : Nat} (w : wJ own th sd be gs pl ty wa nw nx np K X rz j h) (hL : L ≤ 2048) (hi : 4 * j + 4 ≤ L) (hk : xs (4 * j) &&& nI 63 = nI 40) (hn : ∀ (l6 l7 l8 l9 : Option Value) (g : mj_H), wI (j + 1) g → mj_lrun L xs (28, [some (.retAddr 1), some (.ref 0), some (.ref 400), some (.ref 412), some (.ref 413), some (.int (nI (4 * j + 4))), l6, l7, l8, l9], [], g) P) : mj_lrun L xs (28, [some (.retAddr 1), some (.ref 0), some (.ref 400), some (.ref 412), some (.ref 413), some (.int (nI (4 * j))), l6, l7, l8, l9], [], h) P := by
  obtain ⟨w1, H0, H400, pT, pL, pR, pV, pC, pI, pS, pO, pX, pP, pG, j5, b1, b2⟩ := id w
  have ln := w.len
  have np6 := pL.np
  obtain ⟨⟨ou, H412⟩, od, H413⟩ := id pO
  obtain ⟨k, vf, wf, sf, uf, dp, ca, hk20, H375, H376, H377, H402, H403, H404, hvw, hsu⟩ := pR.w
  obtain ⟨mp, Ep, H38, H401⟩ := pL.w
  obtain ⟨g, E, G, rf, mf, hg24, H393, H394, hls, hGG, hEo⟩ := id pC
  obtain ⟨cap, mc, ef, H410, hEA, hgc, hc31, hE3, hef⟩ := id hls
  obtain ⟨im, jm, IM, H397, H411, hIM, hJM⟩ := id pI
  have him : ∀ i, i < 8 → jm i = im i := fun i hi => by rw [(hIM i hi).1, (hJM i hi).1]
  have hG1 : ∀ i, i < g → rf i = nI (G i) ∧ G i < 24 := fun i hi => ⟨(hGG i hi).1, (hGG i hi).2.1⟩
  have hG2 : ∀ i, i < g → ef i = some (1000138 + G i) ∧ G i < 24 := fun i hi => ⟨(hef i hi).1, (hGG i hi).2.1⟩
  have hGi : ∀ i, i < g → isG (G i) := fun i hi => (hGG i hi).2
  have e1 : mj_CB = 1000000 := rfl
  have HE := rdA_lt hEA
  have hE9 : E = 1000000 ∨ 414 ≤ E ∧ E < h.length ∧ own E = 2 := hE3.elim (fun q => Or.inr (by have o := hEo q.1; have := w1 E (by omega); omega)) (fun q => Or.inl q.1)
  have hE0 : 414 ≤ E := by omega
  have hEN : E < h.length ∨ E = 1000000 := by omega
  have oE : own E = 0 ∨ own E = 2 := hE9.elim (fun q => Or.inl (by
    by_cases z : own E = 0
    · exact z
    · have := w1 E z
      omega)) (fun q => Or.inr q.2.2)
  refine w_40 (i := 4 * j) (N := h.length) (gs := gs) (pl := pl) (ty := ty) (wa := wa) (nw := nw) (nx := nx) (dp := dp) (ca := ca) (mf := mf) (th := th) (sd := sd) (be := be) (ou := ou) (vf := vf) (wf := wf) (sf := sf) (uf := uf) (im := im) (jm := jm) (k := k) (g := g) (pe := (.ref Ep)) (pm := (.int mp)) (ge := (.ref E)) (gm := (.int mc)) (q := np) (rf := rf) (E := E) (cap := cap) (mc := mc) (ef := ef) (G := G) hL hi ln.2 ln.1 rfl hk hk20 hvw hsu him np6 hg24 (fun i hi => (hG1 i hi).1) hGi hE0 hEA (fun i hi => (hG2 i hi).1) hgc hc31 H0 H393 H394 H400 H410 ?_
  rintro l6' l7' l8' l9' h' ⟨Q400, qf, ql, qz⟩
  exact hn _ _ _ _ _ (w.q qf (fun x hx => by simp only [List.mem_cons, List.not_mem_nil, or_false] at hx; omega) Q400 (pO.fr qf (fun x hx => by simp only [List.mem_cons, List.not_mem_nil, or_false] at hx; omega)) (by omega) (by omega) (by omega))
theorem r_11 {L j : Nat} {xs : Nat → Int32} {h : mj_H} {l6 l7 l8 l9 : Option Value} {P : mj_H → Prop} {own : Nat → Nat} {th : Int32} {sd be : Int64} {gs pl ty wa nw nx : Value} {np : Nat} {K : Nat → Nat} {X : Nat → Nat → Nat → Nat} {rz : Nat} (w : wJ own th sd be gs pl ty wa nw nx np K X rz j h) (hL : L ≤ 2048) (hi : 4 * j + 4 ≤ L) (hk : xs (4 * j) &&& nI 63 = nI 11) (hn : ∀ (l6 l7 l8 l9 : Option Value) (g : mj_H), wI (j + 1) g → mj_lrun L xs (28, [some (.retAddr 1), some (.ref 0), some (.ref 400), some (.ref 412), some (.ref 413), some (.int (nI (4 * j + 4))), l6, l7, l8, l9], [], g) P) : mj_lrun L xs (28, [some (.retAddr 1), some (.ref 0), some (.ref 400), some (.ref 412), some (.ref 413), some (.int (nI (4 * j))), l6, l7, l8, l9], [], h) P := by
  obtain ⟨w1, H0, H400, pT, pL, pR, pV, pC, pI, pS, pO, pX, pP, pG, j5, b1, b2⟩ := id w
  have ln := w.len
  have np6 := pL.np
  obtain ⟨⟨ou, H412⟩, od, H413⟩ := id pO
  obtain ⟨k, vf, wf, sf, uf, dp, ca, hk20, H375, H376, H377, H402, H403, H404, hvw, hsu⟩ := pR.w
  obtain ⟨mp, Ep, H38, H401⟩ := pL.w
  obtain ⟨g, E, G, rf, mf, hg24, H393, H394, hls, hGG, hEo⟩ := id pC
  obtain ⟨cap, mc, ef, H410, hEA, hgc, hc31, hE3, hef⟩ := id hls
  obtain ⟨im, jm, IM, H397, H411, hIM, hJM⟩ := id pI
  have him : ∀ i, i < 8 → jm i = im i := fun i hi => by rw [(hIM i hi).1, (hJM i hi).1]
  have hG1 : ∀ i, i < g → rf i = nI (G i) ∧ G i < 24 := fun i hi => ⟨(hGG i hi).1, (hGG i hi).2.1⟩
  have hG2 : ∀ i, i < g → ef i = some (1000138 + G i) ∧ G i < 24 := fun i hi => ⟨(hef i hi).1, (hGG i hi).2.1⟩
  have hGi : ∀ i, i < g → isG (G i) := fun i hi => (hGG i hi).2
  have e1 : mj_CB = 1000000 := rfl
  have HE := rdA_lt hEA
  have hE9 : E = 1000000 ∨ 414 ≤ E ∧ E < h.length ∧ own E = 2 := hE3.elim (fun q => Or.inr (by have o := hEo q.1; have := w1 E (by omega); omega)) (fun q => Or.inl q.1)
  have hE0 : 414 ≤ E := by omega
  have hEN : E < h.length ∨ E = 1000000 := by omega
  have oE : own E = 0 ∨ own E = 2 := hE9.elim (fun q => Or.inl (by
    by_cases z : own E = 0
    · exact z
    · have := w1 E z
      omega)) (fun q => Or.inr q.2.2)
  obtain ⟨ch, hch, hc⟩ := i2c_is (xs (4 * j + 1))
  rcases (by omega : ch < 97 ∨ 104 < ch ∨ 97 ≤ ch ∧ ch ≤ 104) with q | q | q
  · refine w_11_n (i := 4 * j) (N := h.length) (gs := gs) (pl := pl) (ty := ty) (wa := wa) (nw := nw) (nx := nx) (dp := dp) (ca := ca) (mf := mf) (th := th) (sd := sd) (be := be) (ou := ou) (vf := vf) (wf := wf) (sf := sf) (uf := uf) (im := im) (jm := jm) (k := k) (g := g) (pe := (.ref Ep)) (pm := (.int mp)) (ge := (.ref E)) (gm := (.int mc)) (q := np) (c := ch) hL hi ln.2 ln.1 rfl hk hk20 hvw hsu him np6 hg24 hc q H0 H400 ?_
    rintro l6' l7' l8' l9' h' ⟨Q400, qf, ql, qz⟩
    exact hn _ _ _ _ _ (w.q qf (fun x hx => by simp only [List.mem_cons, List.not_mem_nil, or_false] at hx; omega) Q400 (pO.fr qf (fun x hx => by simp only [List.mem_cons, List.not_mem_nil, or_false] at hx; omega)) (by omega) (by omega) (by omega))
  · refine w_11_m (i := 4 * j) (N := h.length) (gs := gs) (pl := pl) (ty := ty) (wa := wa) (nw := nw) (nx := nx) (dp := dp) (ca := ca) (mf := mf) (th := th) (sd := sd) (be := be) (ou := ou) (vf := vf) (wf := wf) (sf := sf) (uf := uf) (im := im) (jm := jm) (k := k) (g := g) (pe := (.ref Ep)) (pm := (.int mp)) (ge := (.ref E)) (gm := (.int mc)) (q := np) (c := ch) hL hi ln.2 ln.1 rfl hk hk20 hvw hsu him np6 hg24 hc q hch H0 H400 ?_
    rintro l6' l7' l8' l9' h' ⟨Q400, qf, ql, qz⟩
    exact hn _ _ _ _ _ (w.q qf (fun x hx => by simp only [List.mem_cons, List.not_mem_nil, or_false] at hx; omega) Q400 (pO.fr qf (fun x hx => by simp only [List.mem_cons, List.not_mem_nil, or_false] at hx; omega)) (by omega) (by omega) (by omega))
  · obtain ⟨v, hv⟩ : ∃ v, ch = 97 + v := ⟨ch - 97, by omega⟩
    rw [hv] at hc
    refine w_11 (i := 4 * j) (N := h.length) (gs := gs) (pl := pl) (ty := ty) (wa := wa) (nw := nw) (nx := nx) (dp := dp) (ca := ca) (mf := mf) (th := th) (sd := sd) (be := be) (ou := ou) (vf := vf) (wf := wf) (sf := sf) (uf := uf) (im := im) (jm := jm) (k := k) (g := g) (pe := (.ref Ep)) (pm := (.int mp)) (ge := (.ref E)) (gm := (.int mc)) (q := np) (v := v) hL hi ln.2 ln.1 rfl hk hk20 hvw hsu him np6 hg24 (by omega) hc H0 H375 H376 H400 H402 H403 H412 ?_
    rintro l6' l7' l8' l9' h' ⟨Q400, Q412, qf, ql, qz⟩
    exact hn _ _ _ _ _ (w.q qf (fun x hx => by simp only [List.mem_cons, List.not_mem_nil, or_false] at hx; omega) Q400 (pO.f2 qf (fun x hx => by simp only [List.mem_cons, List.not_mem_nil, or_false] at hx; omega) ⟨_, Q412⟩) (by omega) (by omega) (by omega))
theorem r_10 {L j : Nat} {xs : Nat → Int32} {h : mj_H} {l6 l7 l8 l9 : Option Value} {P : mj_H → Prop} {own : Nat → Nat} {th : Int32} {sd be : Int64} {gs pl ty wa nw nx : Value} {np : Nat} {K : Nat → Nat} {X : Nat → Nat → Nat → Nat} {rz : Nat} (w : wJ own th sd be gs pl ty wa nw nx np K X rz j h) (hL : L ≤ 2048) (hi : 4 * j + 4 ≤ L) (hk : xs (4 * j) &&& nI 63 = nI 10) (hn : ∀ (l6 l7 l8 l9 : Option Value) (g : mj_H), wI (j + 1) g → mj_lrun L xs (28, [some (.retAddr 1), some (.ref 0), some (.ref 400), some (.ref 412), some (.ref 413), some (.int (nI (4 * j + 4))), l6, l7, l8, l9], [], g) P) : mj_lrun L xs (28, [some (.retAddr 1), some (.ref 0), some (.ref 400), some (.ref 412), some (.ref 413), some (.int (nI (4 * j))), l6, l7, l8, l9], [], h) P := by
  obtain ⟨w1, H0, H400, pT, pL, pR, pV, pC, pI, pS, pO, pX, pP, pG, j5, b1, b2⟩ := id w
  have ln := w.len
  have np6 := pL.np
  obtain ⟨⟨ou, H412⟩, od, H413⟩ := id pO
  obtain ⟨k, vf, wf, sf, uf, dp, ca, hk20, H375, H376, H377, H402, H403, H404, hvw, hsu⟩ := pR.w
  obtain ⟨mp, Ep, H38, H401⟩ := pL.w
  obtain ⟨g, E, G, rf, mf, hg24, H393, H394, hls, hGG, hEo⟩ := id pC
  obtain ⟨cap, mc, ef, H410, hEA, hgc, hc31, hE3, hef⟩ := id hls
  obtain ⟨im, jm, IM, H397, H411, hIM, hJM⟩ := id pI
  have him : ∀ i, i < 8 → jm i = im i := fun i hi => by rw [(hIM i hi).1, (hJM i hi).1]
  have hG1 : ∀ i, i < g → rf i = nI (G i) ∧ G i < 24 := fun i hi => ⟨(hGG i hi).1, (hGG i hi).2.1⟩
  have hG2 : ∀ i, i < g → ef i = some (1000138 + G i) ∧ G i < 24 := fun i hi => ⟨(hef i hi).1, (hGG i hi).2.1⟩
  have hGi : ∀ i, i < g → isG (G i) := fun i hi => (hGG i hi).2
  have e1 : mj_CB = 1000000 := rfl
  have HE := rdA_lt hEA
  have hE9 : E = 1000000 ∨ 414 ≤ E ∧ E < h.length ∧ own E = 2 := hE3.elim (fun q => Or.inr (by have o := hEo q.1; have := w1 E (by omega); omega)) (fun q => Or.inl q.1)
  have hE0 : 414 ≤ E := by omega
  have hEN : E < h.length ∨ E = 1000000 := by omega
  have oE : own E = 0 ∨ own E = 2 := hE9.elim (fun q => Or.inl (by
    by_cases z : own E = 0
    · exact z
    · have := w1 E z
      omega)) (fun q => Or.inr q.2.2)
  obtain ⟨ch, hch, hc⟩ := i2c_is (xs (4 * j + 1))
  rcases (by omega : ch < 97 ∨ 104 < ch ∨ 97 ≤ ch ∧ ch ≤ 104) with q | q | q
  · refine w_10_n (i := 4 * j) (N := h.length) (gs := gs) (pl := pl) (ty := ty) (wa := wa) (nw := nw) (nx := nx) (dp := dp) (ca := ca) (mf := mf) (th := th) (sd := sd) (be := be) (ou := ou) (vf := vf) (wf := wf) (sf := sf) (uf := uf) (im := im) (jm := jm) (k := k) (g := g) (pe := (.ref Ep)) (pm := (.int mp)) (ge := (.ref E)) (gm := (.int mc)) (q := np) (c := ch) hL hi ln.2 ln.1 rfl hk hk20 hvw hsu him np6 hg24 hc q H0 H400 ?_
    rintro l6' l7' l8' l9' h' ⟨Q400, qf, ql, qz⟩
    exact hn _ _ _ _ _ (w.q qf (fun x hx => by simp only [List.mem_cons, List.not_mem_nil, or_false] at hx; omega) Q400 (pO.fr qf (fun x hx => by simp only [List.mem_cons, List.not_mem_nil, or_false] at hx; omega)) (by omega) (by omega) (by omega))
  · refine w_10_m (i := 4 * j) (N := h.length) (gs := gs) (pl := pl) (ty := ty) (wa := wa) (nw := nw) (nx := nx) (dp := dp) (ca := ca) (mf := mf) (th := th) (sd := sd) (be := be) (ou := ou) (vf := vf) (wf := wf) (sf := sf) (uf := uf) (im := im) (jm := jm) (k := k) (g := g) (pe := (.ref Ep)) (pm := (.int mp)) (ge := (.ref E)) (gm := (.int mc)) (q := np) (c := ch) hL hi ln.2 ln.1 rfl hk hk20 hvw hsu him np6 hg24 hc q hch H0 H400 ?_
    rintro l6' l7' l8' l9' h' ⟨Q400, qf, ql, qz⟩
    exact hn _ _ _ _ _ (w.q qf (fun x hx => by simp only [List.mem_cons, List.not_mem_nil, or_false] at hx; omega) Q400 (pO.fr qf (fun x hx => by simp only [List.mem_cons, List.not_mem_nil, or_false] at hx; omega)) (by omega) (by omega) (by omega))
  · obtain ⟨v, hv⟩ : ∃ v, ch = 97 + v := ⟨ch - 97, by omega⟩
    rw [hv] at hc
    refine w_10 (i := 4 * j) (N := h.length) (gs := gs) (pl := pl) (ty := ty) (wa := wa) (nw := nw) (nx := nx) (dp := dp) (ca := ca) (mf := mf) (th := th) (sd := sd) (be := be) (ou := ou) (vf := vf) (wf := wf) (sf := sf) (uf := uf) (im := im) (jm := jm) (k := k) (g := g) (pe := (.ref Ep)) (pm := (.int mp)) (ge := (.ref E)) (gm := (.int mc)) (q := np) (v := v) hL hi ln.2 ln.1 rfl hk hk20 hvw hsu him np6 hg24 (by omega) hc H0 H375 H376 H400 H402 H403 H412 ?_
    rintro l6' l7' l8' l9' h' ⟨Q376, Q400, Q403, Q412, qf, ql, qz⟩
    have qo : pOu h' := pO.f2 qf (fun x hx => by simp only [List.mem_cons, List.not_mem_nil, or_false] at hx; omega) ⟨_, Q412⟩
    have hx0 : ∀ x, x ∈ [376, 400, 403, 412] → (own x = 0 ∧ (x = 376 ∨ x = 400 ∨ x = 403 ∨ x = 412)) ∨ (414 ≤ x ∧ (own x = 0)) := by
      intro x hx
      simp only [List.mem_cons, List.not_mem_nil, or_false] at hx
      rcases hx with q | q | q | q
      · rw [q]; exact Or.inl ⟨w1.z (by decide), by decide⟩
      · rw [q]; exact Or.inl ⟨w1.z (by decide), by decide⟩
      · rw [q]; exact Or.inl ⟨w1.z (by decide), by decide⟩
      · rw [q]; exact Or.inl ⟨w1.z (by decide), by decide⟩
    have lz : 413 < h'.length := by obtain ⟨_, _, q⟩ := qo; exact rd_len (by decide) q
    have le : h.length ≤ h'.length := fr_len qf (by omega) (fun x hx hlt => by simp only [List.mem_cons, List.not_mem_nil, or_false] at hx; omega)
    exact hn _ _ _ _ _ ⟨own, _, _, _, gs, pl, _, wa, nw, nx, np, K, X, rz, w1.len le, qf 0 (fun q => by have := hx0 _ q; omega) _ H0, Q400, pT.fr qf (fun x hx => by have := hx0 x hx; omega) (fun _ q => q), pL.fr qf (fun x hx => by have := hx0 x hx; omega) (fun _ q => q) (fun a q => by have := (w1 a (by omega)).2; omega) (fun _ q => q), pR.set qf (fun x hx => by have := hx0 x hx; omega) H376 Q376 H403 Q403, pV.fr qf (fun x hx => by have := hx0 x hx; omega), pC.fr qf (fun x hx => by have := hx0 x hx; omega) (fun _ q => q), pI.fr qf (fun x hx => by have := hx0 x hx; omega), pS.fr qf (fun x hx => by have := hx0 x hx; omega), qo, pX.fr qf (fun x hx => by have := hx0 x hx; omega), pP.fr qf (fun x hx => by have := hx0 x hx; omega) (fun _ q => q), pG.fr qf (fun x hx => by have := hx0 x hx; omega) (fun _ q => q), by omega, by omega, by omega⟩
theorem r_24 {L j : Nat} {xs : Nat → Int32} {h : mj_H} {l6 l7 l8 l9 : Option Value} {P : mj_H → Prop} {own : Nat → Nat} {th : Int32} {sd be : Int64} {gs pl ty wa nw nx : Value} {np : Nat} {K : Nat → Nat} {X : Nat → Nat → Nat → Nat} {rz : Nat} (w : wJ own th sd be gs pl ty wa nw nx np K X rz j h) (hL : L ≤ 2048) (hi : 4 * j + 4 ≤ L) (hk : xs (4 * j) &&& nI 63 = nI 24) (hn : ∀ (l6 l7 l8 l9 : Option Value) (g : mj_H), wI (j + 1) g → mj_lrun L xs (28, [some (.retAddr 1), some (.ref 0), some (.ref 400), some (.ref 412), some (.ref 413), some (.int (nI (4 * j + 4))), l6, l7, l8, l9], [], g) P) : mj_lrun L xs (28, [some (.retAddr 1), some (.ref 0), some (.ref 400), some (.ref 412), some (.ref 413), some (.int (nI (4 * j))), l6, l7, l8, l9], [], h) P := by
  obtain ⟨w1, H0, H400, pT, pL, pR, pV, pC, pI, pS, pO, pX, pP, pG, j5, b1, b2⟩ := id w
  have ln := w.len
  have np6 := pL.np
  obtain ⟨⟨ou, H412⟩, od, H413⟩ := id pO
  obtain ⟨k, vf, wf, sf, uf, dp, ca, hk20, H375, H376, H377, H402, H403, H404, hvw, hsu⟩ := pR.w
  obtain ⟨mp, Ep, H38, H401⟩ := pL.w
  obtain ⟨g, E, G, rf, mf, hg24, H393, H394, hls, hGG, hEo⟩ := id pC
  obtain ⟨cap, mc, ef, H410, hEA, hgc, hc31, hE3, hef⟩ := id hls
  obtain ⟨im, jm, IM, H397, H411, hIM, hJM⟩ := id pI
  have him : ∀ i, i < 8 → jm i = im i := fun i hi => by rw [(hIM i hi).1, (hJM i hi).1]
  have hG1 : ∀ i, i < g → rf i = nI (G i) ∧ G i < 24 := fun i hi => ⟨(hGG i hi).1, (hGG i hi).2.1⟩
  have hG2 : ∀ i, i < g → ef i = some (1000138 + G i) ∧ G i < 24 := fun i hi => ⟨(hef i hi).1, (hGG i hi).2.1⟩
  have hGi : ∀ i, i < g → isG (G i) := fun i hi => (hGG i hi).2
  have e1 : mj_CB = 1000000 := rfl
  have HE := rdA_lt hEA
  have hE9 : E = 1000000 ∨ 414 ≤ E ∧ E < h.length ∧ own E = 2 := hE3.elim (fun q => Or.inr (by have o := hEo q.1; have := w1 E (by omega); omega)) (fun q => Or.inl q.1)
  have hE0 : 414 ≤ E := by omega
  have hEN : E < h.length ∨ E = 1000000 := by omega
  have oE : own E = 0 ∨ own E = 2 := hE9.elim (fun q => Or.inl (by
    by_cases z : own E = 0
    · exact z
    · have := w1 E z
      omega)) (fun q => Or.inr q.2.2)
  obtain ⟨ch, hch, hc⟩ := i2c_is (xs (4 * j + 1))
  rcases (by omega : ch < 97 ∨ 104 < ch ∨ 97 ≤ ch ∧ ch ≤ 104) with q | q | q
  · refine w_24_n (i := 4 * j) (N := h.length) (gs := gs) (pl := pl) (ty := ty) (wa := wa) (nw := nw) (nx := nx) (dp := dp) (ca := ca) (mf := mf) (th := th) (sd := sd) (be := be) (ou := ou) (vf := vf) (wf := wf) (sf := sf) (uf := uf) (im := im) (jm := jm) (k := k) (g := g) (pe := (.ref Ep)) (pm := (.int mp)) (ge := (.ref E)) (gm := (.int mc)) (q := np) (c := ch) hL hi ln.2 ln.1 rfl hk hk20 hvw hsu him np6 hg24 hc q H0 H400 ?_
    rintro l6' l7' l8' l9' h' ⟨Q400, qf, ql, qz⟩
    exact hn _ _ _ _ _ (w.q qf (fun x hx => by simp only [List.mem_cons, List.not_mem_nil, or_false] at hx; omega) Q400 (pO.fr qf (fun x hx => by simp only [List.mem_cons, List.not_mem_nil, or_false] at hx; omega)) (by omega) (by omega) (by omega))
  · refine w_24_m (i := 4 * j) (N := h.length) (gs := gs) (pl := pl) (ty := ty) (wa := wa) (nw := nw) (nx := nx) (dp := dp) (ca := ca) (mf := mf) (th := th) (sd := sd) (be := be) (ou := ou) (vf := vf) (wf := wf) (sf := sf) (uf := uf) (im := im) (jm := jm) (k := k) (g := g) (pe := (.ref Ep)) (pm := (.int mp)) (ge := (.ref E)) (gm := (.int mc)) (q := np) (c := ch) hL hi ln.2 ln.1 rfl hk hk20 hvw hsu him np6 hg24 hc q hch H0 H400 ?_
    rintro l6' l7' l8' l9' h' ⟨Q400, qf, ql, qz⟩
    exact hn _ _ _ _ _ (w.q qf (fun x hx => by simp only [List.mem_cons, List.not_mem_nil, or_false] at hx; omega) Q400 (pO.fr qf (fun x hx => by simp only [List.mem_cons, List.not_mem_nil, or_false] at hx; omega)) (by omega) (by omega) (by omega))
  · obtain ⟨v, hv⟩ : ∃ v, ch = 97 + v := ⟨ch - 97, by omega⟩
    rw [hv] at hc
    refine w_24 (i := 4 * j) (N := h.length) (gs := gs) (pl := pl) (ty := ty) (wa := wa) (nw := nw) (nx := nx) (dp := dp) (ca := ca) (mf := mf) (th := th) (sd := sd) (be := be) (ou := ou) (vf := vf) (wf := wf) (sf := sf) (uf := uf) (im := im) (jm := jm) (k := k) (g := g) (pe := (.ref Ep)) (pm := (.int mp)) (ge := (.ref E)) (gm := (.int mc)) (q := np) (v := v) hL hi ln.2 ln.1 rfl hk hk20 hvw hsu him np6 hg24 (by omega) hc H0 H375 H376 H400 H402 H403 H412 ?_
    rintro l6' l7' l8' l9' h' ⟨Q0, Q376, Q400, Q403, Q412, qf, ql, qz⟩
    have qo : pOu h' := pO.f2 qf (fun x hx => by simp only [List.mem_cons, List.not_mem_nil, or_false] at hx; omega) ⟨_, Q412⟩
    have hx0 : ∀ x, x ∈ [0, 376, 400, 403, 412] → (own x = 0 ∧ (x = 0 ∨ x = 376 ∨ x = 400 ∨ x = 403 ∨ x = 412)) ∨ (414 ≤ x ∧ (own x = 0)) := by
      intro x hx
      simp only [List.mem_cons, List.not_mem_nil, or_false] at hx
      rcases hx with q | q | q | q | q
      · rw [q]; exact Or.inl ⟨w1.z (by decide), by decide⟩
      · rw [q]; exact Or.inl ⟨w1.z (by decide), by decide⟩
      · rw [q]; exact Or.inl ⟨w1.z (by decide), by decide⟩
      · rw [q]; exact Or.inl ⟨w1.z (by decide), by decide⟩
      · rw [q]; exact Or.inl ⟨w1.z (by decide), by decide⟩
    have lz : 413 < h'.length := by obtain ⟨_, _, q⟩ := qo; exact rd_len (by decide) q
    have le : h.length ≤ h'.length := fr_len qf (by omega) (fun x hx hlt => by simp only [List.mem_cons, List.not_mem_nil, or_false] at hx; omega)
    exact hn _ _ _ _ _ ⟨own, _, _, _, gs, pl, _, wa, nw, nx, np, K, X, rz, w1.len le, Q0, Q400, pT.fr qf (fun x hx => by have := hx0 x hx; omega) (fun _ q => q), pL.fr qf (fun x hx => by have := hx0 x hx; omega) (fun _ q => q) (fun a q => by have := (w1 a (by omega)).2; omega) (fun _ q => q), pR.set qf (fun x hx => by have := hx0 x hx; omega) H376 Q376 H403 Q403, pV.fr qf (fun x hx => by have := hx0 x hx; omega), pC.fr qf (fun x hx => by have := hx0 x hx; omega) (fun _ q => q), pI.fr qf (fun x hx => by have := hx0 x hx; omega), pS.fr qf (fun x hx => by have := hx0 x hx; omega), qo, pX.fr qf (fun x hx => by have := hx0 x hx; omega), pP.fr qf (fun x hx => by have := hx0 x hx; omega) (fun _ q => q), pG.fr qf (fun x hx => by have := hx0 x hx; omega) (fun _ q => q), by omega, by omega, by omega⟩
theorem r_13 {L j : Nat} {xs : Nat → Int32} {h : mj_H} {l6 l7 l8 l9 : Option Value} {P : mj_H → Prop} {own : Nat → Nat} {th : Int32} {sd be : Int64} {gs pl ty wa nw nx : Value} {np : Nat} {K : Nat → Nat} {X : Nat → Nat → Nat → Nat} {rz : Nat} (w : wJ own th sd be gs pl ty wa nw nx np K X rz j h) (hL : L ≤ 2048) (hi : 4 * j + 4 ≤ L) (hk : xs (4 * j) &&& nI 63 = nI 13) (hn : ∀ (l6 l7 l8 l9 : Option Value) (g : mj_H), wI (j + 1) g → mj_lrun L xs (28, [some (.retAddr 1), some (.ref 0), some (.ref 400), some (.ref 412), some (.ref 413), some (.int (nI (4 * j + 4))), l6, l7, l8, l9], [], g) P) : mj_lrun L xs (28, [some (.retAddr 1), some (.ref 0), some (.ref 400), some (.ref 412), some (.ref 413), some (.int (nI (4 * j))), l6, l7, l8, l9], [], h) P := by
  obtain ⟨w1, H0, H400, pT, pL, pR, pV, pC, pI, pS, pO, pX, pP, pG, j5, b1, b2⟩ := id w
  have ln := w.len
  have np6 := pL.np
  obtain ⟨⟨ou, H412⟩, od, H413⟩ := id pO
  obtain ⟨k, vf, wf, sf, uf, dp, ca, hk20, H375, H376, H377, H402, H403, H404, hvw, hsu⟩ := pR.w
  obtain ⟨mp, Ep, H38, H401⟩ := pL.w
  obtain ⟨g, E, G, rf, mf, hg24, H393, H394, hls, hGG, hEo⟩ := id pC
  obtain ⟨cap, mc, ef, H410, hEA, hgc, hc31, hE3, hef⟩ := id hls
  obtain ⟨im, jm, IM, H397, H411, hIM, hJM⟩ := id pI
  have him : ∀ i, i < 8 → jm i = im i := fun i hi => by rw [(hIM i hi).1, (hJM i hi).1]
  have hG1 : ∀ i, i < g → rf i = nI (G i) ∧ G i < 24 := fun i hi => ⟨(hGG i hi).1, (hGG i hi).2.1⟩
  have hG2 : ∀ i, i < g → ef i = some (1000138 + G i) ∧ G i < 24 := fun i hi => ⟨(hef i hi).1, (hGG i hi).2.1⟩
  have hGi : ∀ i, i < g → isG (G i) := fun i hi => (hGG i hi).2
  have e1 : mj_CB = 1000000 := rfl
  have HE := rdA_lt hEA
  have hE9 : E = 1000000 ∨ 414 ≤ E ∧ E < h.length ∧ own E = 2 := hE3.elim (fun q => Or.inr (by have o := hEo q.1; have := w1 E (by omega); omega)) (fun q => Or.inl q.1)
  have hE0 : 414 ≤ E := by omega
  have hEN : E < h.length ∨ E = 1000000 := by omega
  have oE : own E = 0 ∨ own E = 2 := hE9.elim (fun q => Or.inl (by
    by_cases z : own E = 0
    · exact z
    · have := w1 E z
      omega)) (fun q => Or.inr q.2.2)
  rcases (by omega : (xs (4 * j + 1)).toInt < 0 ∨ 0 ≤ (xs (4 * j + 1)).toInt) with q | q
  · by_cases z : k = 0
    · subst z
      refine w_13_zn (i := 4 * j) (N := h.length) (gs := gs) (pl := pl) (ty := ty) (wa := wa) (nw := nw) (nx := nx) (dp := dp) (ca := ca) (mf := mf) (th := th) (sd := sd) (be := be) (ou := ou) (vf := vf) (wf := wf) (sf := sf) (uf := uf) (im := im) (jm := jm) (k := 0) (g := g) (pe := (.ref Ep)) (pm := (.int mp)) (ge := (.ref E)) (gm := (.int mc)) (q := np) (p := _) hL hi ln.2 ln.1 rfl hk hk20 hvw hsu him np6 hg24 q rfl H0 H400 H402 ?_
      rintro l6' l7' l8' l9' h' ⟨Q400, qf, ql, qz⟩
      exact hn _ _ _ _ _ (w.q qf (fun x hx => by simp only [List.mem_cons, List.not_mem_nil, or_false] at hx; omega) Q400 (pO.fr qf (fun x hx => by simp only [List.mem_cons, List.not_mem_nil, or_false] at hx; omega)) (by omega) (by omega) (by omega))
    · refine w_13_n (i := 4 * j) (N := h.length) (gs := gs) (pl := pl) (ty := ty) (wa := wa) (nw := nw) (nx := nx) (dp := dp) (ca := ca) (mf := mf) (th := th) (sd := sd) (be := be) (ou := ou) (vf := vf) (wf := wf) (sf := sf) (uf := uf) (im := im) (jm := jm) (k := k) (g := g) (pe := (.ref Ep)) (pm := (.int mp)) (ge := (.ref E)) (gm := (.int mc)) (q := np) (p := _) hL hi ln.2 ln.1 rfl hk hk20 hvw hsu him np6 hg24 q (by omega) rfl H0 H400 H402 ?_
      rintro l6' l7' l8' l9' h' ⟨Q400, qf, ql, qz⟩
      exact hn _ _ _ _ _ (w.q qf (fun x hx => by simp only [List.mem_cons, List.not_mem_nil, or_false] at hx; omega) Q400 (pO.fr qf (fun x hx => by simp only [List.mem_cons, List.not_mem_nil, or_false] at hx; omega)) (by omega) (by omega) (by omega))
  · obtain ⟨p, hpb, hx1⟩ := toI_ex q
    by_cases z : k = 0
    · subst z
      refine w_13_zp (i := 4 * j) (N := h.length) (gs := gs) (pl := pl) (ty := ty) (wa := wa) (nw := nw) (nx := nx) (dp := dp) (ca := ca) (mf := mf) (th := th) (sd := sd) (be := be) (ou := ou) (vf := vf) (wf := wf) (sf := sf) (uf := uf) (im := im) (jm := jm) (k := 0) (g := g) (pe := (.ref Ep)) (pm := (.int mp)) (ge := (.ref E)) (gm := (.int mc)) (q := np) (p := _) hL hi ln.2 ln.1 rfl hk hk20 hvw hsu him np6 hg24 q rfl H0 H375 H400 H402 ?_
      rintro l6' l7' l8' l9' h' ⟨Q400, qf, ql, qz⟩
      exact hn _ _ _ _ _ (w.q qf (fun x hx => by simp only [List.mem_cons, List.not_mem_nil, or_false] at hx; omega) Q400 (pO.fr qf (fun x hx => by simp only [List.mem_cons, List.not_mem_nil, or_false] at hx; omega)) (by omega) (by omega) (by omega))
    · by_cases y : p < k
      · refine w_13 (i := 4 * j) (N := h.length) (gs := gs) (pl := pl) (ty := ty) (wa := wa) (nw := nw) (nx := nx) (dp := dp) (ca := ca) (mf := mf) (th := th) (sd := sd) (be := be) (ou := ou) (vf := vf) (wf := wf) (sf := sf) (uf := uf) (im := im) (jm := jm) (k := k) (g := g) (pe := (.ref Ep)) (pm := (.int mp)) (ge := (.ref E)) (gm := (.int mc)) (q := np) (d := p) hL hi ln.2 ln.1 rfl hk hk20 hvw hsu him np6 hg24 y hx1 H0 H375 H377 H400 H402 H404 H412 ?_
        rintro l6' l7' l8' l9' h' ⟨Q400, Q412, qf, ql, qz⟩
        exact hn _ _ _ _ _ (w.q qf (fun x hx => by simp only [List.mem_cons, List.not_mem_nil, or_false] at hx; omega) Q400 (pO.f2 qf (fun x hx => by simp only [List.mem_cons, List.not_mem_nil, or_false] at hx; omega) ⟨_, Q412⟩) (by omega) (by omega) (by omega))
      · refine w_13_m (i := 4 * j) (N := h.length) (gs := gs) (pl := pl) (ty := ty) (wa := wa) (nw := nw) (nx := nx) (dp := dp) (ca := ca) (mf := mf) (th := th) (sd := sd) (be := be) (ou := ou) (vf := vf) (wf := wf) (sf := sf) (uf := uf) (im := im) (jm := jm) (k := k) (g := g) (pe := (.ref Ep)) (pm := (.int mp)) (ge := (.ref E)) (gm := (.int mc)) (q := np) (p := p) hL hi ln.2 ln.1 rfl hk hk20 hvw hsu him np6 hg24 hpb (by omega) (by omega) hx1 H0 H375 H400 H402 ?_
        rintro l6' l7' l8' l9' h' ⟨Q400, qf, ql, qz⟩
        exact hn _ _ _ _ _ (w.q qf (fun x hx => by simp only [List.mem_cons, List.not_mem_nil, or_false] at hx; omega) Q400 (pO.fr qf (fun x hx => by simp only [List.mem_cons, List.not_mem_nil, or_false] at hx; omega)) (by omega) (by omega) (by omega))
theorem r_32 {L j : Nat} {xs : Nat → Int32} {h : mj_H} {l6 l7 l8 l9 : Option Value} {P : mj_H → Prop} {own : Nat → Nat} {th : Int32} {sd be : Int64} {gs pl ty wa nw nx : Value} {np : Nat} {K : Nat → Nat} {X : Nat → Nat → Nat → Nat} {rz : Nat} (w : wJ own th sd be gs pl ty wa nw nx np K X rz j h) (hL : L ≤ 2048) (hi : 4 * j + 4 ≤ L) (hk : xs (4 * j) &&& nI 63 = nI 32) (hn : ∀ (l6 l7 l8 l9 : Option Value) (g : mj_H), wI (j + 1) g → mj_lrun L xs (28, [some (.retAddr 1), some (.ref 0), some (.ref 400), some (.ref 412), some (.ref 413), some (.int (nI (4 * j + 4))), l6, l7, l8, l9], [], g) P) : mj_lrun L xs (28, [some (.retAddr 1), some (.ref 0), some (.ref 400), some (.ref 412), some (.ref 413), some (.int (nI (4 * j))), l6, l7, l8, l9], [], h) P := by
  obtain ⟨w1, H0, H400, pT, pL, pR, pV, pC, pI, pS, pO, pX, pP, pG, j5, b1, b2⟩ := id w
  have ln := w.len
  have np6 := pL.np
  obtain ⟨⟨ou, H412⟩, od, H413⟩ := id pO
  obtain ⟨k, vf, wf, sf, uf, dp, ca, hk20, H375, H376, H377, H402, H403, H404, hvw, hsu⟩ := pR.w
  obtain ⟨mp, Ep, H38, H401⟩ := pL.w
  obtain ⟨g, E, G, rf, mf, hg24, H393, H394, hls, hGG, hEo⟩ := id pC
  obtain ⟨cap, mc, ef, H410, hEA, hgc, hc31, hE3, hef⟩ := id hls
  obtain ⟨im, jm, IM, H397, H411, hIM, hJM⟩ := id pI
  have him : ∀ i, i < 8 → jm i = im i := fun i hi => by rw [(hIM i hi).1, (hJM i hi).1]
  have hG1 : ∀ i, i < g → rf i = nI (G i) ∧ G i < 24 := fun i hi => ⟨(hGG i hi).1, (hGG i hi).2.1⟩
  have hG2 : ∀ i, i < g → ef i = some (1000138 + G i) ∧ G i < 24 := fun i hi => ⟨(hef i hi).1, (hGG i hi).2.1⟩
  have hGi : ∀ i, i < g → isG (G i) := fun i hi => (hGG i hi).2
  have e1 : mj_CB = 1000000 := rfl
  have HE := rdA_lt hEA
  have hE9 : E = 1000000 ∨ 414 ≤ E ∧ E < h.length ∧ own E = 2 := hE3.elim (fun q => Or.inr (by have o := hEo q.1; have := w1 E (by omega); omega)) (fun q => Or.inl q.1)
  have hE0 : 414 ≤ E := by omega
  have hEN : E < h.length ∨ E = 1000000 := by omega
  have oE : own E = 0 ∨ own E = 2 := hE9.elim (fun q => Or.inl (by
    by_cases z : own E = 0
    · exact z
    · have := w1 E z
      omega)) (fun q => Or.inr q.2.2)
  rcases (by omega : (xs (4 * j + 1)).toInt < 0 ∨ 0 ≤ (xs (4 * j + 1)).toInt) with q | q
  · refine w_32_n (i := 4 * j) (N := h.length) (gs := gs) (pl := pl) (ty := ty) (wa := wa) (nw := nw) (nx := nx) (dp := dp) (ca := ca) (mf := mf) (th := th) (sd := sd) (be := be) (ou := ou) (vf := vf) (wf := wf) (sf := sf) (uf := uf) (im := im) (jm := jm) (k := k) (g := g) (pe := (.ref Ep)) (pm := (.int mp)) (ge := (.ref E)) (gm := (.int mc)) (q := np) (rf := rf) (E := E) (cap := cap) (mc := mc) (ef := ef) (G := G) (p := _) hL hi ln.2 ln.1 rfl hk hk20 hvw hsu him np6 hg24 hG1 hE0 hEA hG2 hgc hc31 q rfl H0 H400 ?_
    rintro l6' l7' l8' l9' h' ⟨Q400, qf, ql, qz⟩
    exact hn _ _ _ _ _ (w.q qf (fun x hx => by simp only [List.mem_cons, List.not_mem_nil, or_false] at hx; omega) Q400 (pO.fr qf (fun x hx => by simp only [List.mem_cons, List.not_mem_nil, or_false] at hx; omega)) (by omega) (by omega) (by omega))
  · obtain ⟨v, hvb, hx1⟩ := toI_ex q
    by_cases y : v < 8
    · refine w_32 (i := 4 * j) (N := h.length) (gs := gs) (pl := pl) (ty := ty) (wa := wa) (nw := nw) (nx := nx) (dp := dp) (ca := ca) (mf := mf) (th := th) (sd := sd) (be := be) (ou := ou) (vf := vf) (wf := wf) (sf := sf) (uf := uf) (im := im) (jm := jm) (k := k) (g := g) (pe := (.ref Ep)) (pm := (.int mp)) (ge := (.ref E)) (gm := (.int mc)) (q := np) (rf := rf) (E := E) (cap := cap) (mc := mc) (ef := ef) (G := G) (v := v) hL hi ln.2 ln.1 rfl hk hk20 hvw hsu him np6 hg24 hG1 hE0 hEA hG2 hgc hc31 y hx1 H0 H393 H394 H400 H410 H412 ?_
      rintro l6' l7' l8' l9' h' ⟨Q400, Q412, qf, ql, qz⟩
      exact hn _ _ _ _ _ (w.q qf (fun x hx => by simp only [List.mem_cons, List.not_mem_nil, or_false] at hx; omega) Q400 (pO.f2 qf (fun x hx => by simp only [List.mem_cons, List.not_mem_nil, or_false] at hx; omega) ⟨_, Q412⟩) (by omega) (by omega) (by omega))
    · refine w_32_m (i := 4 * j) (N := h.length) (gs := gs) (pl := pl) (ty := ty) (wa := wa) (nw := nw) (nx := nx) (dp := dp) (ca := ca) (mf := mf) (th := th) (sd := sd) (be := be) (ou := ou) (vf := vf) (wf := wf) (sf := sf) (uf := uf) (im := im) (jm := jm) (k := k) (g := g) (pe := (.ref Ep)) (pm := (.int mp)) (ge := (.ref E)) (gm := (.int mc)) (q := np) (rf := rf) (E := E) (cap := cap) (mc := mc) (ef := ef) (G := G) (p := _) hL hi ln.2 ln.1 rfl hk hk20 hvw hsu him np6 hg24 hG1 hE0 hEA hG2 hgc hc31 (by rw [hx1, mI_ti hvb]; omega) rfl H0 H400 ?_
      rintro l6' l7' l8' l9' h' ⟨Q400, qf, ql, qz⟩
      exact hn _ _ _ _ _ (w.q qf (fun x hx => by simp only [List.mem_cons, List.not_mem_nil, or_false] at hx; omega) Q400 (pO.fr qf (fun x hx => by simp only [List.mem_cons, List.not_mem_nil, or_false] at hx; omega)) (by omega) (by omega) (by omega))
theorem r_33 {L j : Nat} {xs : Nat → Int32} {h : mj_H} {l6 l7 l8 l9 : Option Value} {P : mj_H → Prop} {own : Nat → Nat} {th : Int32} {sd be : Int64} {gs pl ty wa nw nx : Value} {np : Nat} {K : Nat → Nat} {X : Nat → Nat → Nat → Nat} {rz : Nat} (w : wJ own th sd be gs pl ty wa nw nx np K X rz j h) (hL : L ≤ 2048) (hi : 4 * j + 4 ≤ L) (hk : xs (4 * j) &&& nI 63 = nI 33) (hn : ∀ (l6 l7 l8 l9 : Option Value) (g : mj_H), wI (j + 1) g → mj_lrun L xs (28, [some (.retAddr 1), some (.ref 0), some (.ref 400), some (.ref 412), some (.ref 413), some (.int (nI (4 * j + 4))), l6, l7, l8, l9], [], g) P) : mj_lrun L xs (28, [some (.retAddr 1), some (.ref 0), some (.ref 400), some (.ref 412), some (.ref 413), some (.int (nI (4 * j))), l6, l7, l8, l9], [], h) P := by
  obtain ⟨w1, H0, H400, pT, pL, pR, pV, pC, pI, pS, pO, pX, pP, pG, j5, b1, b2⟩ := id w
  have ln := w.len
  have np6 := pL.np
  obtain ⟨⟨ou, H412⟩, od, H413⟩ := id pO
  obtain ⟨k, vf, wf, sf, uf, dp, ca, hk20, H375, H376, H377, H402, H403, H404, hvw, hsu⟩ := pR.w
  obtain ⟨mp, Ep, H38, H401⟩ := pL.w
  obtain ⟨g, E, G, rf, mf, hg24, H393, H394, hls, hGG, hEo⟩ := id pC
  obtain ⟨cap, mc, ef, H410, hEA, hgc, hc31, hE3, hef⟩ := id hls
  obtain ⟨im, jm, IM, H397, H411, hIM, hJM⟩ := id pI
  have him : ∀ i, i < 8 → jm i = im i := fun i hi => by rw [(hIM i hi).1, (hJM i hi).1]
  have hG1 : ∀ i, i < g → rf i = nI (G i) ∧ G i < 24 := fun i hi => ⟨(hGG i hi).1, (hGG i hi).2.1⟩
  have hG2 : ∀ i, i < g → ef i = some (1000138 + G i) ∧ G i < 24 := fun i hi => ⟨(hef i hi).1, (hGG i hi).2.1⟩
  have hGi : ∀ i, i < g → isG (G i) := fun i hi => (hGG i hi).2
  have e1 : mj_CB = 1000000 := rfl
  have HE := rdA_lt hEA
  have hE9 : E = 1000000 ∨ 414 ≤ E ∧ E < h.length ∧ own E = 2 := hE3.elim (fun q => Or.inr (by have o := hEo q.1; have := w1 E (by omega); omega)) (fun q => Or.inl q.1)
  have hE0 : 414 ≤ E := by omega
  have hEN : E < h.length ∨ E = 1000000 := by omega
  have oE : own E = 0 ∨ own E = 2 := hE9.elim (fun q => Or.inl (by
    by_cases z : own E = 0
    · exact z
    · have := w1 E z
      omega)) (fun q => Or.inr q.2.2)
  rcases (by omega : (xs (4 * j + 1)).toInt < 0 ∨ 0 ≤ (xs (4 * j + 1)).toInt) with q | q
  · refine w_33_n (i := 4 * j) (N := h.length) (gs := gs) (pl := pl) (ty := ty) (wa := wa) (nw := nw) (nx := nx) (dp := dp) (ca := ca) (mf := mf) (th := th) (sd := sd) (be := be) (ou := ou) (vf := vf) (wf := wf) (sf := sf) (uf := uf) (im := im) (jm := jm) (k := k) (g := g) (pe := (.ref Ep)) (pm := (.int mp)) (ge := (.ref E)) (gm := (.int mc)) (q := np) (rf := rf) (E := E) (cap := cap) (mc := mc) (ef := ef) (G := G) (p := _) hL hi ln.2 ln.1 rfl hk hk20 hvw hsu him np6 hg24 hG1 hE0 hEA hG2 hgc hc31 q rfl H0 H400 ?_
    rintro l6' l7' l8' l9' h' ⟨Q400, qf, ql, qz⟩
    exact hn _ _ _ _ _ (w.q qf (fun x hx => by simp only [List.mem_cons, List.not_mem_nil, or_false] at hx; omega) Q400 (pO.fr qf (fun x hx => by simp only [List.mem_cons, List.not_mem_nil, or_false] at hx; omega)) (by omega) (by omega) (by omega))
  · obtain ⟨v, hvb, hx1⟩ := toI_ex q
    by_cases y : v < 8
    · refine w_33 (i := 4 * j) (N := h.length) (gs := gs) (pl := pl) (ty := ty) (wa := wa) (nw := nw) (nx := nx) (dp := dp) (ca := ca) (mf := mf) (th := th) (sd := sd) (be := be) (ou := ou) (vf := vf) (wf := wf) (sf := sf) (uf := uf) (im := im) (jm := jm) (k := k) (g := g) (pe := (.ref Ep)) (pm := (.int mp)) (ge := (.ref E)) (gm := (.int mc)) (q := np) (rf := rf) (E := E) (cap := cap) (mc := mc) (ef := ef) (G := G) (v := v) hL hi ln.2 ln.1 rfl hk hk20 hvw hsu him np6 hg24 hG1 hE0 hEA hG2 hgc hc31 y hx1 H0 H393 H394 H400 H410 H412 ?_
      rintro l6' l7' l8' l9' h' ⟨Q400, Q412, qf, ql, qz⟩
      exact hn _ _ _ _ _ (w.q qf (fun x hx => by simp only [List.mem_cons, List.not_mem_nil, or_false] at hx; omega) Q400 (pO.f2 qf (fun x hx => by simp only [List.mem_cons, List.not_mem_nil, or_false] at hx; omega) ⟨_, Q412⟩) (by omega) (by omega) (by omega))
    · refine w_33_m (i := 4 * j) (N := h.length) (gs := gs) (pl := pl) (ty := ty) (wa := wa) (nw := nw) (nx := nx) (dp := dp) (ca := ca) (mf := mf) (th := th) (sd := sd) (be := be) (ou := ou) (vf := vf) (wf := wf) (sf := sf) (uf := uf) (im := im) (jm := jm) (k := k) (g := g) (pe := (.ref Ep)) (pm := (.int mp)) (ge := (.ref E)) (gm := (.int mc)) (q := np) (rf := rf) (E := E) (cap := cap) (mc := mc) (ef := ef) (G := G) (p := _) hL hi ln.2 ln.1 rfl hk hk20 hvw hsu him np6 hg24 hG1 hE0 hEA hG2 hgc hc31 (by rw [hx1, mI_ti hvb]; omega) rfl H0 H400 ?_
      rintro l6' l7' l8' l9' h' ⟨Q400, qf, ql, qz⟩
      exact hn _ _ _ _ _ (w.q qf (fun x hx => by simp only [List.mem_cons, List.not_mem_nil, or_false] at hx; omega) Q400 (pO.fr qf (fun x hx => by simp only [List.mem_cons, List.not_mem_nil, or_false] at hx; omega)) (by omega) (by omega) (by omega))
theorem r_41 {L j : Nat} {xs : Nat → Int32} {h : mj_H} {l6 l7 l8 l9 : Option Value} {P : mj_H → Prop} {own : Nat → Nat} {th : Int32} {sd be : Int64} {gs pl ty wa nw nx : Value} {np : Nat} {K : Nat → Nat} {X : Nat → Nat → Nat → Nat} {rz : Nat} (w : wJ own th sd be gs pl ty wa nw nx np K X rz j h) (hL : L ≤ 2048) (hi : 4 * j + 4 ≤ L) (hk : xs (4 * j) &&& nI 63 = nI 41) (hn : ∀ (l6 l7 l8 l9 : Option Value) (g : mj_H), wI (j + 1) g → mj_lrun L xs (28, [some (.retAddr 1), some (.ref 0), some (.ref 400), some (.ref 412), some (.ref 413), some (.int (nI (4 * j + 4))), l6, l7, l8, l9], [], g) P) : mj_lrun L xs (28, [some (.retAddr 1), some (.ref 0), some (.ref 400), some (.ref 412), some (.ref 413), some (.int (nI (4 * j))), l6, l7, l8, l9], [], h) P := by
  obtain ⟨w1, H0, H400, pT, pL, pR, pV, pC, pI, pS, pO, pX, pP, pG, j5, b1, b2⟩ := id w
  have ln := w.len
  have np6 := pL.np
  obtain ⟨⟨ou, H412⟩, od, H413⟩ := id pO
  obtain ⟨k, vf, wf, sf, uf, dp, ca, hk20, H375, H376, H377, H402, H403, H404, hvw, hsu⟩ := pR.w
  obtain ⟨mp, Ep, H38, H401⟩ := pL.w
  obtain ⟨g, E, G, rf, mf, hg24, H393, H394, hls, hGG, hEo⟩ := id pC
  obtain ⟨cap, mc, ef, H410, hEA, hgc, hc31, hE3, hef⟩ := id hls
  obtain ⟨im, jm, IM, H397, H411, hIM, hJM⟩ := id pI
  have him : ∀ i, i < 8 → jm i = im i := fun i hi => by rw [(hIM i hi).1, (hJM i hi).1]
  have hG1 : ∀ i, i < g → rf i = nI (G i) ∧ G i < 24 := fun i hi => ⟨(hGG i hi).1, (hGG i hi).2.1⟩
  have hG2 : ∀ i, i < g → ef i = some (1000138 + G i) ∧ G i < 24 := fun i hi => ⟨(hef i hi).1, (hGG i hi).2.1⟩
  have hGi : ∀ i, i < g → isG (G i) := fun i hi => (hGG i hi).2
  have e1 : mj_CB = 1000000 := rfl
  have HE := rdA_lt hEA
  have hE9 : E = 1000000 ∨ 414 ≤ E ∧ E < h.length ∧ own E = 2 := hE3.elim (fun q => Or.inr (by have o := hEo q.1; have := w1 E (by omega); omega)) (fun q => Or.inl q.1)
  have hE0 : 414 ≤ E := by omega
  have hEN : E < h.length ∨ E = 1000000 := by omega
  have oE : own E = 0 ∨ own E = 2 := hE9.elim (fun q => Or.inl (by
    by_cases z : own E = 0
    · exact z
    · have := w1 E z
      omega)) (fun q => Or.inr q.2.2)
  rcases (by omega : (xs (4 * j + 1)).toInt < 0 ∨ 0 ≤ (xs (4 * j + 1)).toInt) with q | q
  · refine w_41_n (i := 4 * j) (N := h.length) (gs := gs) (pl := pl) (ty := ty) (wa := wa) (nw := nw) (nx := nx) (dp := dp) (ca := ca) (mf := mf) (th := th) (sd := sd) (be := be) (ou := ou) (vf := vf) (wf := wf) (sf := sf) (uf := uf) (im := im) (jm := jm) (k := k) (g := g) (pe := (.ref Ep)) (pm := (.int mp)) (ge := (.ref E)) (gm := (.int mc)) (q := np) (p := _) hL hi ln.2 ln.1 rfl hk hk20 hvw hsu him np6 hg24 q rfl H0 H400 ?_
    rintro l6' l7' l8' l9' h' ⟨Q400, qf, ql, qz⟩
    exact hn _ _ _ _ _ (w.q qf (fun x hx => by simp only [List.mem_cons, List.not_mem_nil, or_false] at hx; omega) Q400 (pO.fr qf (fun x hx => by simp only [List.mem_cons, List.not_mem_nil, or_false] at hx; omega)) (by omega) (by omega) (by omega))
  · obtain ⟨v, hvb, hx1⟩ := toI_ex q
    by_cases y : v < 8
    · rcases (by omega : (xs (4 * j + 2)).toInt < 0 ∨ 0 ≤ (xs (4 * j + 2)).toInt) with q2 | q2
      · refine w_41_vn (i := 4 * j) (N := h.length) (gs := gs) (pl := pl) (ty := ty) (wa := wa) (nw := nw) (nx := nx) (dp := dp) (ca := ca) (mf := mf) (th := th) (sd := sd) (be := be) (ou := ou) (vf := vf) (wf := wf) (sf := sf) (uf := uf) (im := im) (jm := jm) (k := k) (g := g) (pe := (.ref Ep)) (pm := (.int mp)) (ge := (.ref E)) (gm := (.int mc)) (q := np) (v := v) (p := _) hL hi ln.2 ln.1 rfl hk hk20 hvw hsu him np6 hg24 y q2 hx1 rfl H0 H400 ?_
        rintro l6' l7' l8' l9' h' ⟨Q400, qf, ql, qz⟩
        exact hn _ _ _ _ _ (w.q qf (fun x hx => by simp only [List.mem_cons, List.not_mem_nil, or_false] at hx; omega) Q400 (pO.fr qf (fun x hx => by simp only [List.mem_cons, List.not_mem_nil, or_false] at hx; omega)) (by omega) (by omega) (by omega))
      · obtain ⟨u, hub, hx2⟩ := toI_ex q2
        by_cases y2 : u < 8
        · refine w_41 (i := 4 * j) (N := h.length) (gs := gs) (pl := pl) (ty := ty) (wa := wa) (nw := nw) (nx := nx) (dp := dp) (ca := ca) (mf := mf) (th := th) (sd := sd) (be := be) (ou := ou) (vf := vf) (wf := wf) (sf := sf) (uf := uf) (im := im) (jm := jm) (k := k) (g := g) (pe := (.ref Ep)) (pm := (.int mp)) (ge := (.ref E)) (gm := (.int mc)) (q := np) (v := v) (w := u) hL hi ln.2 ln.1 rfl hk hk20 hvw hsu him np6 hg24 y y2 hx1 hx2 H0 H397 H400 H411 H412 ?_
          rintro l6' l7' l8' l9' h' ⟨Q397, Q400, Q411, Q412, qf, ql, qz⟩
          have npI : pIm h' := ⟨upd im v (nI u), upd jm v (nI u), upN IM v u, Q397, Q411, fun i hi => by
            unfold upN
            by_cases z : i = v
            · rw [if_pos z, z, upd_s]; exact ⟨rfl, y2⟩
            · rw [if_neg z, upd_n z]; exact hIM i hi, fun i hi => by
            unfold upN
            by_cases z : i = v
            · rw [if_pos z, z, upd_s]; exact ⟨rfl, y2⟩
            · rw [if_neg z, upd_n z]; exact hJM i hi⟩
          have qo : pOu h' := pO.f2 qf (fun x hx => by simp only [List.mem_cons, List.not_mem_nil, or_false] at hx; omega) ⟨_, Q412⟩
          have hx0 : ∀ x, x ∈ [397, 400, 411, 412] → (own x = 0 ∧ (x = 397 ∨ x = 400 ∨ x = 411 ∨ x = 412)) ∨ (414 ≤ x ∧ (own x = 0)) := by
            intro x hx
            simp only [List.mem_cons, List.not_mem_nil, or_false] at hx
            rcases hx with q | q | q | q
            · rw [q]; exact Or.inl ⟨w1.z (by decide), by decide⟩
            · rw [q]; exact Or.inl ⟨w1.z (by decide), by decide⟩
            · rw [q]; exact Or.inl ⟨w1.z (by decide), by decide⟩
            · rw [q]; exact Or.inl ⟨w1.z (by decide), by decide⟩
          have lz : 413 < h'.length := by obtain ⟨_, _, q⟩ := qo; exact rd_len (by decide) q
          have le : h.length ≤ h'.length := fr_len qf (by omega) (fun x hx hlt => by simp only [List.mem_cons, List.not_mem_nil, or_false] at hx; omega)
          exact hn _ _ _ _ _ ⟨own, _, _, _, gs, pl, _, wa, nw, nx, np, K, X, rz, w1.len le, qf 0 (fun q => by have := hx0 _ q; omega) _ H0, Q400, pT.fr qf (fun x hx => by have := hx0 x hx; omega) (fun _ q => q), pL.fr qf (fun x hx => by have := hx0 x hx; omega) (fun _ q => q) (fun a q => by have := (w1 a (by omega)).2; omega) (fun _ q => q), pR.fr qf (fun x hx => by have := hx0 x hx; omega), pV.fr qf (fun x hx => by have := hx0 x hx; omega), pC.fr qf (fun x hx => by have := hx0 x hx; omega) (fun _ q => q), npI, pS.fr qf (fun x hx => by have := hx0 x hx; omega), qo, pX.fr qf (fun x hx => by have := hx0 x hx; omega), pP.fr qf (fun x hx => by have := hx0 x hx; omega) (fun _ q => q), pG.fr qf (fun x hx => by have := hx0 x hx; omega) (fun _ q => q), by omega, by omega, by omega⟩
        · refine w_41_vm (i := 4 * j) (N := h.length) (gs := gs) (pl := pl) (ty := ty) (wa := wa) (nw := nw) (nx := nx) (dp := dp) (ca := ca) (mf := mf) (th := th) (sd := sd) (be := be) (ou := ou) (vf := vf) (wf := wf) (sf := sf) (uf := uf) (im := im) (jm := jm) (k := k) (g := g) (pe := (.ref Ep)) (pm := (.int mp)) (ge := (.ref E)) (gm := (.int mc)) (q := np) (v := v) (p := _) hL hi ln.2 ln.1 rfl hk hk20 hvw hsu him np6 hg24 y (by rw [hx2, mI_ti hub]; omega) hx1 rfl H0 H400 ?_
          rintro l6' l7' l8' l9' h' ⟨Q400, qf, ql, qz⟩
          exact hn _ _ _ _ _ (w.q qf (fun x hx => by simp only [List.mem_cons, List.not_mem_nil, or_false] at hx; omega) Q400 (pO.fr qf (fun x hx => by simp only [List.mem_cons, List.not_mem_nil, or_false] at hx; omega)) (by omega) (by omega) (by omega))
    · refine w_41_m (i := 4 * j) (N := h.length) (gs := gs) (pl := pl) (ty := ty) (wa := wa) (nw := nw) (nx := nx) (dp := dp) (ca := ca) (mf := mf) (th := th) (sd := sd) (be := be) (ou := ou) (vf := vf) (wf := wf) (sf := sf) (uf := uf) (im := im) (jm := jm) (k := k) (g := g) (pe := (.ref Ep)) (pm := (.int mp)) (ge := (.ref E)) (gm := (.int mc)) (q := np) (p := _) hL hi ln.2 ln.1 rfl hk hk20 hvw hsu him np6 hg24 (by rw [hx1, mI_ti hvb]; omega) rfl H0 H400 ?_
      rintro l6' l7' l8' l9' h' ⟨Q400, qf, ql, qz⟩
      exact hn _ _ _ _ _ (w.q qf (fun x hx => by simp only [List.mem_cons, List.not_mem_nil, or_false] at hx; omega) Q400 (pO.fr qf (fun x hx => by simp only [List.mem_cons, List.not_mem_nil, or_false] at hx; omega)) (by omega) (by omega) (by omega))
theorem r_42 {L j : Nat} {xs : Nat → Int32} {h : mj_H} {l6 l7 l8 l9 : Option Value} {P : mj_H → Prop} {own : Nat → Nat} {th : Int32} {sd be : Int64} {gs pl ty wa nw nx : Value} {np : Nat} {K : Nat → Nat} {X : Nat → Nat → Nat → Nat} {rz : Nat} (w : wJ own th sd be gs pl ty wa nw nx np K X rz j h) (hL : L ≤ 2048) (hi : 4 * j + 4 ≤ L) (hk : xs (4 * j) &&& nI 63 = nI 42) (hn : ∀ (l6 l7 l8 l9 : Option Value) (g : mj_H), wI (j + 1) g → mj_lrun L xs (28, [some (.retAddr 1), some (.ref 0), some (.ref 400), some (.ref 412), some (.ref 413), some (.int (nI (4 * j + 4))), l6, l7, l8, l9], [], g) P) : mj_lrun L xs (28, [some (.retAddr 1), some (.ref 0), some (.ref 400), some (.ref 412), some (.ref 413), some (.int (nI (4 * j))), l6, l7, l8, l9], [], h) P := by
  obtain ⟨w1, H0, H400, pT, pL, pR, pV, pC, pI, pS, pO, pX, pP, pG, j5, b1, b2⟩ := id w
  have ln := w.len
  have np6 := pL.np
  obtain ⟨⟨ou, H412⟩, od, H413⟩ := id pO
  obtain ⟨k, vf, wf, sf, uf, dp, ca, hk20, H375, H376, H377, H402, H403, H404, hvw, hsu⟩ := pR.w
  obtain ⟨mp, Ep, H38, H401⟩ := pL.w
  obtain ⟨g, E, G, rf, mf, hg24, H393, H394, hls, hGG, hEo⟩ := id pC
  obtain ⟨cap, mc, ef, H410, hEA, hgc, hc31, hE3, hef⟩ := id hls
  obtain ⟨im, jm, IM, H397, H411, hIM, hJM⟩ := id pI
  have him : ∀ i, i < 8 → jm i = im i := fun i hi => by rw [(hIM i hi).1, (hJM i hi).1]
  have hG1 : ∀ i, i < g → rf i = nI (G i) ∧ G i < 24 := fun i hi => ⟨(hGG i hi).1, (hGG i hi).2.1⟩
  have hG2 : ∀ i, i < g → ef i = some (1000138 + G i) ∧ G i < 24 := fun i hi => ⟨(hef i hi).1, (hGG i hi).2.1⟩
  have hGi : ∀ i, i < g → isG (G i) := fun i hi => (hGG i hi).2
  have e1 : mj_CB = 1000000 := rfl
  have HE := rdA_lt hEA
  have hE9 : E = 1000000 ∨ 414 ≤ E ∧ E < h.length ∧ own E = 2 := hE3.elim (fun q => Or.inr (by have o := hEo q.1; have := w1 E (by omega); omega)) (fun q => Or.inl q.1)
  have hE0 : 414 ≤ E := by omega
  have hEN : E < h.length ∨ E = 1000000 := by omega
  have oE : own E = 0 ∨ own E = 2 := hE9.elim (fun q => Or.inl (by
    by_cases z : own E = 0
    · exact z
    · have := w1 E z
      omega)) (fun q => Or.inr q.2.2)
  obtain ⟨⟨s1, S1⟩, ⟨s2, S2⟩, ⟨s3, S3⟩, s4, S4⟩ := id pS
  refine w_42 (i := 4 * j) (N := h.length) (gs := gs) (pl := pl) (ty := ty) (wa := wa) (nw := nw) (nx := nx) (dp := dp) (ca := ca) (mf := mf) (th := th) (sd := sd) (be := be) (ou := ou) (vf := vf) (wf := wf) (sf := sf) (uf := uf) (im := im) (jm := jm) (k := k) (g := g) (pe := (.ref Ep)) (pm := (.int mp)) (ge := (.ref E)) (gm := (.int mc)) (q := np) (ta := s4) (IM := IM) hL hi ln.2 ln.1 rfl hk hk20 hvw hsu np6 hg24 hIM hJM H0 H397 S4 H400 H411 ?_
  rintro l6' l7' l8' l9' h' ⟨Q400, X0, qf, ql, qz⟩
  have qo : pOu h' := pO.fr qf (fun x hx => by simp only [List.mem_cons, List.not_mem_nil, or_false] at hx; omega)
  have hx0 : ∀ x, x ∈ [399, 400] → (own x = 0 ∧ (x = 399 ∨ x = 400)) ∨ (414 ≤ x ∧ (own x = 0)) := by
    intro x hx
    simp only [List.mem_cons, List.not_mem_nil, or_false] at hx
    rcases hx with q | q
    · rw [q]; exact Or.inl ⟨w1.z (by decide), by decide⟩
    · rw [q]; exact Or.inl ⟨w1.z (by decide), by decide⟩
  have lz : 413 < h'.length := by obtain ⟨_, _, q⟩ := qo; exact rd_len (by decide) q
  have le : h.length ≤ h'.length := fr_len qf (by omega) (fun x hx hlt => by simp only [List.mem_cons, List.not_mem_nil, or_false] at hx; omega)
  exact hn _ _ _ _ _ ⟨own, _, _, _, gs, pl, _, wa, nw, nx, np, K, X, rz, w1.len le, qf 0 (fun q => by have := hx0 _ q; omega) _ H0, Q400, pT.fr qf (fun x hx => by have := hx0 x hx; omega) (fun _ q => q), pL.fr qf (fun x hx => by have := hx0 x hx; omega) (fun _ q => q) (fun a q => by have := (w1 a (by omega)).2; omega) (fun _ q => q), pR.fr qf (fun x hx => by have := hx0 x hx; omega), pV.fr qf (fun x hx => by have := hx0 x hx; omega), pC.fr qf (fun x hx => by have := hx0 x hx; omega) (fun _ q => q), pI.fr qf (fun x hx => by have := hx0 x hx; omega), ⟨⟨s1, qf _ (by decide) _ S1⟩, ⟨s2, qf _ (by decide) _ S2⟩, ⟨s3, qf _ (by decide) _ S3⟩, X0⟩, qo, pX.fr qf (fun x hx => by have := hx0 x hx; omega), pP.fr qf (fun x hx => by have := hx0 x hx; omega) (fun _ q => q), pG.fr qf (fun x hx => by have := hx0 x hx; omega) (fun _ q => q), by omega, by omega, by omega⟩
theorem r_43 {L j : Nat} {xs : Nat → Int32} {h : mj_H} {l6 l7 l8 l9 : Option Value} {P : mj_H → Prop} {own : Nat → Nat} {th : Int32} {sd be : Int64} {gs pl ty wa nw nx : Value} {np : Nat} {K : Nat → Nat} {X : Nat → Nat → Nat → Nat} {rz : Nat} (w : wJ own th sd be gs pl ty wa nw nx np K X rz j h) (hL : L ≤ 2048) (hi : 4 * j + 4 ≤ L) (hk : xs (4 * j) &&& nI 63 = nI 43) (hn : ∀ (l6 l7 l8 l9 : Option Value) (g : mj_H), wI (j + 1) g → mj_lrun L xs (28, [some (.retAddr 1), some (.ref 0), some (.ref 400), some (.ref 412), some (.ref 413), some (.int (nI (4 * j + 4))), l6, l7, l8, l9], [], g) P) : mj_lrun L xs (28, [some (.retAddr 1), some (.ref 0), some (.ref 400), some (.ref 412), some (.ref 413), some (.int (nI (4 * j))), l6, l7, l8, l9], [], h) P := by
  obtain ⟨w1, H0, H400, pT, pL, pR, pV, pC, pI, pS, pO, pX, pP, pG, j5, b1, b2⟩ := id w
  have ln := w.len
  have np6 := pL.np
  obtain ⟨⟨ou, H412⟩, od, H413⟩ := id pO
  obtain ⟨k, vf, wf, sf, uf, dp, ca, hk20, H375, H376, H377, H402, H403, H404, hvw, hsu⟩ := pR.w
  obtain ⟨mp, Ep, H38, H401⟩ := pL.w
  obtain ⟨g, E, G, rf, mf, hg24, H393, H394, hls, hGG, hEo⟩ := id pC
  obtain ⟨cap, mc, ef, H410, hEA, hgc, hc31, hE3, hef⟩ := id hls
  obtain ⟨im, jm, IM, H397, H411, hIM, hJM⟩ := id pI
  have him : ∀ i, i < 8 → jm i = im i := fun i hi => by rw [(hIM i hi).1, (hJM i hi).1]
  have hG1 : ∀ i, i < g → rf i = nI (G i) ∧ G i < 24 := fun i hi => ⟨(hGG i hi).1, (hGG i hi).2.1⟩
  have hG2 : ∀ i, i < g → ef i = some (1000138 + G i) ∧ G i < 24 := fun i hi => ⟨(hef i hi).1, (hGG i hi).2.1⟩
  have hGi : ∀ i, i < g → isG (G i) := fun i hi => (hGG i hi).2
  have e1 : mj_CB = 1000000 := rfl
  have HE := rdA_lt hEA
  have hE9 : E = 1000000 ∨ 414 ≤ E ∧ E < h.length ∧ own E = 2 := hE3.elim (fun q => Or.inr (by have o := hEo q.1; have := w1 E (by omega); omega)) (fun q => Or.inl q.1)
  have hE0 : 414 ≤ E := by omega
  have hEN : E < h.length ∨ E = 1000000 := by omega
  have oE : own E = 0 ∨ own E = 2 := hE9.elim (fun q => Or.inl (by
    by_cases z : own E = 0
    · exact z
    · have := w1 E z
      omega)) (fun q => Or.inr q.2.2)
  obtain ⟨⟨s1, S1⟩, ⟨s2, S2⟩, ⟨s3, S3⟩, s4, S4⟩ := id pS
  have hm : mis (cti IM 8) 8 ≤ 8 := mis_le8 _ 8
  rcases (by omega : mis (cti IM 8) 8 = 0 ∨ mis (cti IM 8) 8 = 1 ∨ mis (cti IM 8) 8 = 2 ∨ mis (cti IM 8) 8 = 3 ∨ mis (cti IM 8) 8 = 4 ∨ mis (cti IM 8) 8 = 5 ∨ mis (cti IM 8) 8 = 6 ∨ mis (cti IM 8) 8 = 7 ∨ mis (cti IM 8) 8 = 8) with q | q | q | q | q | q | q | q | q
  · refine w_43_0 (i := 4 * j) (N := h.length) (gs := gs) (pl := pl) (ty := ty) (wa := wa) (nw := nw) (nx := nx) (dp := dp) (ca := ca) (mf := mf) (th := th) (sd := sd) (be := be) (ou := ou) (vf := vf) (wf := wf) (sf := sf) (uf := uf) (im := im) (jm := jm) (k := k) (g := g) (pe := (.ref Ep)) (pm := (.int mp)) (ge := (.ref E)) (gm := (.int mc)) (q := np) (ta := s4) (IM := IM) hL hi ln.2 ln.1 rfl hk hk20 hvw hsu np6 hg24 hIM hJM q H0 H397 S4 H400 H411 ?_
    rintro l6' l7' l8' l9' h' ⟨Q400, X0, qf, ql, qz⟩
    have qo : pOu h' := pO.fr qf (fun x hx => by simp only [List.mem_cons, List.not_mem_nil, or_false] at hx; omega)
    have hx0 : ∀ x, x ∈ [399, 400] → (own x = 0 ∧ (x = 399 ∨ x = 400)) ∨ (414 ≤ x ∧ (own x = 0)) := by
      intro x hx
      simp only [List.mem_cons, List.not_mem_nil, or_false] at hx
      rcases hx with q | q
      · rw [q]; exact Or.inl ⟨w1.z (by decide), by decide⟩
      · rw [q]; exact Or.inl ⟨w1.z (by decide), by decide⟩
    have lz : 413 < h'.length := by obtain ⟨_, _, q⟩ := qo; exact rd_len (by decide) q
    have le : h.length ≤ h'.length := fr_len qf (by omega) (fun x hx hlt => by simp only [List.mem_cons, List.not_mem_nil, or_false] at hx; omega)
    exact hn _ _ _ _ _ ⟨own, _, _, _, gs, pl, _, wa, nw, nx, np, K, X, rz, w1.len le, qf 0 (fun q => by have := hx0 _ q; omega) _ H0, Q400, pT.fr qf (fun x hx => by have := hx0 x hx; omega) (fun _ q => q), pL.fr qf (fun x hx => by have := hx0 x hx; omega) (fun _ q => q) (fun a q => by have := (w1 a (by omega)).2; omega) (fun _ q => q), pR.fr qf (fun x hx => by have := hx0 x hx; omega), pV.fr qf (fun x hx => by have := hx0 x hx; omega), pC.fr qf (fun x hx => by have := hx0 x hx; omega) (fun _ q => q), pI.fr qf (fun x hx => by have := hx0 x hx; omega), ⟨⟨s1, qf _ (by decide) _ S1⟩, ⟨s2, qf _ (by decide) _ S2⟩, ⟨s3, qf _ (by decide) _ S3⟩, X0⟩, qo, pX.fr qf (fun x hx => by have := hx0 x hx; omega), pP.fr qf (fun x hx => by have := hx0 x hx; omega) (fun _ q => q), pG.fr qf (fun x hx => by have := hx0 x hx; omega) (fun _ q => q), by omega, by omega, by omega⟩
  · refine w_43_1 (i := 4 * j) (N := h.length) (gs := gs) (pl := pl) (ty := ty) (wa := wa) (nw := nw) (nx := nx) (dp := dp) (ca := ca) (mf := mf) (th := th) (sd := sd) (be := be) (ou := ou) (vf := vf) (wf := wf) (sf := sf) (uf := uf) (im := im) (jm := jm) (k := k) (g := g) (pe := (.ref Ep)) (pm := (.int mp)) (ge := (.ref E)) (gm := (.int mc)) (q := np) (ta := s4) (IM := IM) hL hi ln.2 ln.1 rfl hk hk20 hvw hsu np6 hg24 hIM hJM q H0 H397 S4 H400 H411 ?_
    rintro l6' l7' l8' l9' h' ⟨Q400, X0, qf, ql, qz⟩
    have qo : pOu h' := pO.fr qf (fun x hx => by simp only [List.mem_cons, List.not_mem_nil, or_false] at hx; omega)
    have hx0 : ∀ x, x ∈ [399, 400] → (own x = 0 ∧ (x = 399 ∨ x = 400)) ∨ (414 ≤ x ∧ (own x = 0)) := by
      intro x hx
      simp only [List.mem_cons, List.not_mem_nil, or_false] at hx
      rcases hx with q | q
      · rw [q]; exact Or.inl ⟨w1.z (by decide), by decide⟩
      · rw [q]; exact Or.inl ⟨w1.z (by decide), by decide⟩
    have lz : 413 < h'.length := by obtain ⟨_, _, q⟩ := qo; exact rd_len (by decide) q
    have le : h.length ≤ h'.length := fr_len qf (by omega) (fun x hx hlt => by simp only [List.mem_cons, List.not_mem_nil, or_false] at hx; omega)
    exact hn _ _ _ _ _ ⟨own, _, _, _, gs, pl, _, wa, nw, nx, np, K, X, rz, w1.len le, qf 0 (fun q => by have := hx0 _ q; omega) _ H0, Q400, pT.fr qf (fun x hx => by have := hx0 x hx; omega) (fun _ q => q), pL.fr qf (fun x hx => by have := hx0 x hx; omega) (fun _ q => q) (fun a q => by have := (w1 a (by omega)).2; omega) (fun _ q => q), pR.fr qf (fun x hx => by have := hx0 x hx; omega), pV.fr qf (fun x hx => by have := hx0 x hx; omega), pC.fr qf (fun x hx => by have := hx0 x hx; omega) (fun _ q => q), pI.fr qf (fun x hx => by have := hx0 x hx; omega), ⟨⟨s1, qf _ (by decide) _ S1⟩, ⟨s2, qf _ (by decide) _ S2⟩, ⟨s3, qf _ (by decide) _ S3⟩, X0⟩, qo, pX.fr qf (fun x hx => by have := hx0 x hx; omega), pP.fr qf (fun x hx => by have := hx0 x hx; omega) (fun _ q => q), pG.fr qf (fun x hx => by have := hx0 x hx; omega) (fun _ q => q), by omega, by omega, by omega⟩
  · refine w_43_2 (i := 4 * j) (N := h.length) (gs := gs) (pl := pl) (ty := ty) (wa := wa) (nw := nw) (nx := nx) (dp := dp) (ca := ca) (mf := mf) (th := th) (sd := sd) (be := be) (ou := ou) (vf := vf) (wf := wf) (sf := sf) (uf := uf) (im := im) (jm := jm) (k := k) (g := g) (pe := (.ref Ep)) (pm := (.int mp)) (ge := (.ref E)) (gm := (.int mc)) (q := np) (ta := s4) (IM := IM) hL hi ln.2 ln.1 rfl hk hk20 hvw hsu np6 hg24 hIM hJM q H0 H397 S4 H400 H411 ?_
    rintro l6' l7' l8' l9' h' ⟨Q400, X0, qf, ql, qz⟩
    have qo : pOu h' := pO.fr qf (fun x hx => by simp only [List.mem_cons, List.not_mem_nil, or_false] at hx; omega)
    have hx0 : ∀ x, x ∈ [399, 400] → (own x = 0 ∧ (x = 399 ∨ x = 400)) ∨ (414 ≤ x ∧ (own x = 0)) := by
      intro x hx
      simp only [List.mem_cons, List.not_mem_nil, or_false] at hx
      rcases hx with q | q
      · rw [q]; exact Or.inl ⟨w1.z (by decide), by decide⟩
      · rw [q]; exact Or.inl ⟨w1.z (by decide), by decide⟩
    have lz : 413 < h'.length := by obtain ⟨_, _, q⟩ := qo; exact rd_len (by decide) q
    have le : h.length ≤ h'.length := fr_len qf (by omega) (fun x hx hlt => by simp only [List.mem_cons, List.not_mem_nil, or_false] at hx; omega)
    exact hn _ _ _ _ _ ⟨own, _, _, _, gs, pl, _, wa, nw, nx, np, K, X, rz, w1.len le, qf 0 (fun q => by have := hx0 _ q; omega) _ H0, Q400, pT.fr qf (fun x hx => by have := hx0 x hx; omega) (fun _ q => q), pL.fr qf (fun x hx => by have := hx0 x hx; omega) (fun _ q => q) (fun a q => by have := (w1 a (by omega)).2; omega) (fun _ q => q), pR.fr qf (fun x hx => by have := hx0 x hx; omega), pV.fr qf (fun x hx => by have := hx0 x hx; omega), pC.fr qf (fun x hx => by have := hx0 x hx; omega) (fun _ q => q), pI.fr qf (fun x hx => by have := hx0 x hx; omega), ⟨⟨s1, qf _ (by decide) _ S1⟩, ⟨s2, qf _ (by decide) _ S2⟩, ⟨s3, qf _ (by decide) _ S3⟩, X0⟩, qo, pX.fr qf (fun x hx => by have := hx0 x hx; omega), pP.fr qf (fun x hx => by have := hx0 x hx; omega) (fun _ q => q), pG.fr qf (fun x hx => by have := hx0 x hx; omega) (fun _ q => q), by omega, by omega, by omega⟩
  · refine w_43_3 (i := 4 * j) (N := h.length) (gs := gs) (pl := pl) (ty := ty) (wa := wa) (nw := nw) (nx := nx) (dp := dp) (ca := ca) (mf := mf) (th := th) (sd := sd) (be := be) (ou := ou) (vf := vf) (wf := wf) (sf := sf) (uf := uf) (im := im) (jm := jm) (k := k) (g := g) (pe := (.ref Ep)) (pm := (.int mp)) (ge := (.ref E)) (gm := (.int mc)) (q := np) (ta := s4) (IM := IM) hL hi ln.2 ln.1 rfl hk hk20 hvw hsu np6 hg24 hIM hJM q H0 H397 S4 H400 H411 ?_
    rintro l6' l7' l8' l9' h' ⟨Q400, X0, qf, ql, qz⟩
    have qo : pOu h' := pO.fr qf (fun x hx => by simp only [List.mem_cons, List.not_mem_nil, or_false] at hx; omega)
    have hx0 : ∀ x, x ∈ [399, 400] → (own x = 0 ∧ (x = 399 ∨ x = 400)) ∨ (414 ≤ x ∧ (own x = 0)) := by
      intro x hx
      simp only [List.mem_cons, List.not_mem_nil, or_false] at hx
      rcases hx with q | q
      · rw [q]; exact Or.inl ⟨w1.z (by decide), by decide⟩
      · rw [q]; exact Or.inl ⟨w1.z (by decide), by decide⟩
    have lz : 413 < h'.length := by obtain ⟨_, _, q⟩ := qo; exact rd_len (by decide) q
    have le : h.length ≤ h'.length := fr_len qf (by omega) (fun x hx hlt => by simp only [List.mem_cons, List.not_mem_nil, or_false] at hx; omega)
    exact hn _ _ _ _ _ ⟨own, _, _, _, gs, pl, _, wa, nw, nx, np, K, X, rz, w1.len le, qf 0 (fun q => by have := hx0 _ q; omega) _ H0, Q400, pT.fr qf (fun x hx => by have := hx0 x hx; omega) (fun _ q => q), pL.fr qf (fun x hx => by have := hx0 x hx; omega) (fun _ q => q) (fun a q => by have := (w1 a (by omega)).2; omega) (fun _ q => q), pR.fr qf (fun x hx => by have := hx0 x hx; omega), pV.fr qf (fun x hx => by have := hx0 x hx; omega), pC.fr qf (fun x hx => by have := hx0 x hx; omega) (fun _ q => q), pI.fr qf (fun x hx => by have := hx0 x hx; omega), ⟨⟨s1, qf _ (by decide) _ S1⟩, ⟨s2, qf _ (by decide) _ S2⟩, ⟨s3, qf _ (by decide) _ S3⟩, X0⟩, qo, pX.fr qf (fun x hx => by have := hx0 x hx; omega), pP.fr qf (fun x hx => by have := hx0 x hx; omega) (fun _ q => q), pG.fr qf (fun x hx => by have := hx0 x hx; omega) (fun _ q => q), by omega, by omega, by omega⟩
  · refine w_43_4 (i := 4 * j) (N := h.length) (gs := gs) (pl := pl) (ty := ty) (wa := wa) (nw := nw) (nx := nx) (dp := dp) (ca := ca) (mf := mf) (th := th) (sd := sd) (be := be) (ou := ou) (vf := vf) (wf := wf) (sf := sf) (uf := uf) (im := im) (jm := jm) (k := k) (g := g) (pe := (.ref Ep)) (pm := (.int mp)) (ge := (.ref E)) (gm := (.int mc)) (q := np) (ta := s4) (IM := IM) hL hi ln.2 ln.1 rfl hk hk20 hvw hsu np6 hg24 hIM hJM q H0 H397 S4 H400 H411 ?_
    rintro l6' l7' l8' l9' h' ⟨Q400, X0, qf, ql, qz⟩
    have qo : pOu h' := pO.fr qf (fun x hx => by simp only [List.mem_cons, List.not_mem_nil, or_false] at hx; omega)
    have hx0 : ∀ x, x ∈ [399, 400] → (own x = 0 ∧ (x = 399 ∨ x = 400)) ∨ (414 ≤ x ∧ (own x = 0)) := by
      intro x hx
      simp only [List.mem_cons, List.not_mem_nil, or_false] at hx
      rcases hx with q | q
      · rw [q]; exact Or.inl ⟨w1.z (by decide), by decide⟩
      · rw [q]; exact Or.inl ⟨w1.z (by decide), by decide⟩
    have lz : 413 < h'.length := by obtain ⟨_, _, q⟩ := qo; exact rd_len (by decide) q
    have le : h.length ≤ h'.length := fr_len qf (by omega) (fun x hx hlt => by simp only [List.mem_cons, List.not_mem_nil, or_false] at hx; omega)
    exact hn _ _ _ _ _ ⟨own, _, _, _, gs, pl, _, wa, nw, nx, np, K, X, rz, w1.len le, qf 0 (fun q => by have := hx0 _ q; omega) _ H0, Q400, pT.fr qf (fun x hx => by have := hx0 x hx; omega) (fun _ q => q), pL.fr qf (fun x hx => by have := hx0 x hx; omega) (fun _ q => q) (fun a q => by have := (w1 a (by omega)).2; omega) (fun _ q => q), pR.fr qf (fun x hx => by have := hx0 x hx; omega), pV.fr qf (fun x hx => by have := hx0 x hx; omega), pC.fr qf (fun x hx => by have := hx0 x hx; omega) (fun _ q => q), pI.fr qf (fun x hx => by have := hx0 x hx; omega), ⟨⟨s1, qf _ (by decide) _ S1⟩, ⟨s2, qf _ (by decide) _ S2⟩, ⟨s3, qf _ (by decide) _ S3⟩, X0⟩, qo, pX.fr qf (fun x hx => by have := hx0 x hx; omega), pP.fr qf (fun x hx => by have := hx0 x hx; omega) (fun _ q => q), pG.fr qf (fun x hx => by have := hx0 x hx; omega) (fun _ q => q), by omega, by omega, by omega⟩
  · refine w_43_5 (i := 4 * j) (N := h.length) (gs := gs) (pl := pl) (ty := ty) (wa := wa) (nw := nw) (nx := nx) (dp := dp) (ca := ca) (mf := mf) (th := th) (sd := sd) (be := be) (ou := ou) (vf := vf) (wf := wf) (sf := sf) (uf := uf) (im := im) (jm := jm) (k := k) (g := g) (pe := (.ref Ep)) (pm := (.int mp)) (ge := (.ref E)) (gm := (.int mc)) (q := np) (ta := s4) (IM := IM) hL hi ln.2 ln.1 rfl hk hk20 hvw hsu np6 hg24 hIM hJM q H0 H397 S4 H400 H411 ?_
    rintro l6' l7' l8' l9' h' ⟨Q400, X0, qf, ql, qz⟩
    have qo : pOu h' := pO.fr qf (fun x hx => by simp only [List.mem_cons, List.not_mem_nil, or_false] at hx; omega)
    have hx0 : ∀ x, x ∈ [399, 400] → (own x = 0 ∧ (x = 399 ∨ x = 400)) ∨ (414 ≤ x ∧ (own x = 0)) := by
      intro x hx
      simp only [List.mem_cons, List.not_mem_nil, or_false] at hx
      rcases hx with q | q
      · rw [q]; exact Or.inl ⟨w1.z (by decide), by decide⟩
      · rw [q]; exact Or.inl ⟨w1.z (by decide), by decide⟩
    have lz : 413 < h'.length := by obtain ⟨_, _, q⟩ := qo; exact rd_len (by decide) q
    have le : h.length ≤ h'.length := fr_len qf (by omega) (fun x hx hlt => by simp only [List.mem_cons, List.not_mem_nil, or_false] at hx; omega)
    exact hn _ _ _ _ _ ⟨own, _, _, _, gs, pl, _, wa, nw, nx, np, K, X, rz, w1.len le, qf 0 (fun q => by have := hx0 _ q; omega) _ H0, Q400, pT.fr qf (fun x hx => by have := hx0 x hx; omega) (fun _ q => q), pL.fr qf (fun x hx => by have := hx0 x hx; omega) (fun _ q => q) (fun a q => by have := (w1 a (by omega)).2; omega) (fun _ q => q), pR.fr qf (fun x hx => by have := hx0 x hx; omega), pV.fr qf (fun x hx => by have := hx0 x hx; omega), pC.fr qf (fun x hx => by have := hx0 x hx; omega) (fun _ q => q), pI.fr qf (fun x hx => by have := hx0 x hx; omega), ⟨⟨s1, qf _ (by decide) _ S1⟩, ⟨s2, qf _ (by decide) _ S2⟩, ⟨s3, qf _ (by decide) _ S3⟩, X0⟩, qo, pX.fr qf (fun x hx => by have := hx0 x hx; omega), pP.fr qf (fun x hx => by have := hx0 x hx; omega) (fun _ q => q), pG.fr qf (fun x hx => by have := hx0 x hx; omega) (fun _ q => q), by omega, by omega, by omega⟩
  · refine w_43_6 (i := 4 * j) (N := h.length) (gs := gs) (pl := pl) (ty := ty) (wa := wa) (nw := nw) (nx := nx) (dp := dp) (ca := ca) (mf := mf) (th := th) (sd := sd) (be := be) (ou := ou) (vf := vf) (wf := wf) (sf := sf) (uf := uf) (im := im) (jm := jm) (k := k) (g := g) (pe := (.ref Ep)) (pm := (.int mp)) (ge := (.ref E)) (gm := (.int mc)) (q := np) (ta := s4) (IM := IM) hL hi ln.2 ln.1 rfl hk hk20 hvw hsu np6 hg24 hIM hJM q H0 H397 S4 H400 H411 ?_
    rintro l6' l7' l8' l9' h' ⟨Q400, X0, qf, ql, qz⟩
    have qo : pOu h' := pO.fr qf (fun x hx => by simp only [List.mem_cons, List.not_mem_nil, or_false] at hx; omega)
    have hx0 : ∀ x, x ∈ [399, 400] → (own x = 0 ∧ (x = 399 ∨ x = 400)) ∨ (414 ≤ x ∧ (own x = 0)) := by
      intro x hx
      simp only [List.mem_cons, List.not_mem_nil, or_false] at hx
      rcases hx with q | q
      · rw [q]; exact Or.inl ⟨w1.z (by decide), by decide⟩
      · rw [q]; exact Or.inl ⟨w1.z (by decide), by decide⟩
    have lz : 413 < h'.length := by obtain ⟨_, _, q⟩ := qo; exact rd_len (by decide) q
    have le : h.length ≤ h'.length := fr_len qf (by omega) (fun x hx hlt => by simp only [List.mem_cons, List.not_mem_nil, or_false] at hx; omega)
    exact hn _ _ _ _ _ ⟨own, _, _, _, gs, pl, _, wa, nw, nx, np, K, X, rz, w1.len le, qf 0 (fun q => by have := hx0 _ q; omega) _ H0, Q400, pT.fr qf (fun x hx => by have := hx0 x hx; omega) (fun _ q => q), pL.fr qf (fun x hx => by have := hx0 x hx; omega) (fun _ q => q) (fun a q => by have := (w1 a (by omega)).2; omega) (fun _ q => q), pR.fr qf (fun x hx => by have := hx0 x hx; omega), pV.fr qf (fun x hx => by have := hx0 x hx; omega), pC.fr qf (fun x hx => by have := hx0 x hx; omega) (fun _ q => q), pI.fr qf (fun x hx => by have := hx0 x hx; omega), ⟨⟨s1, qf _ (by decide) _ S1⟩, ⟨s2, qf _ (by decide) _ S2⟩, ⟨s3, qf _ (by decide) _ S3⟩, X0⟩, qo, pX.fr qf (fun x hx => by have := hx0 x hx; omega), pP.fr qf (fun x hx => by have := hx0 x hx; omega) (fun _ q => q), pG.fr qf (fun x hx => by have := hx0 x hx; omega) (fun _ q => q), by omega, by omega, by omega⟩
  · refine w_43_7 (i := 4 * j) (N := h.length) (gs := gs) (pl := pl) (ty := ty) (wa := wa) (nw := nw) (nx := nx) (dp := dp) (ca := ca) (mf := mf) (th := th) (sd := sd) (be := be) (ou := ou) (vf := vf) (wf := wf) (sf := sf) (uf := uf) (im := im) (jm := jm) (k := k) (g := g) (pe := (.ref Ep)) (pm := (.int mp)) (ge := (.ref E)) (gm := (.int mc)) (q := np) (ta := s4) (IM := IM) hL hi ln.2 ln.1 rfl hk hk20 hvw hsu np6 hg24 hIM hJM q H0 H397 S4 H400 H411 ?_
    rintro l6' l7' l8' l9' h' ⟨Q400, X0, qf, ql, qz⟩
    have qo : pOu h' := pO.fr qf (fun x hx => by simp only [List.mem_cons, List.not_mem_nil, or_false] at hx; omega)
    have hx0 : ∀ x, x ∈ [399, 400] → (own x = 0 ∧ (x = 399 ∨ x = 400)) ∨ (414 ≤ x ∧ (own x = 0)) := by
      intro x hx
      simp only [List.mem_cons, List.not_mem_nil, or_false] at hx
      rcases hx with q | q
      · rw [q]; exact Or.inl ⟨w1.z (by decide), by decide⟩
      · rw [q]; exact Or.inl ⟨w1.z (by decide), by decide⟩
    have lz : 413 < h'.length := by obtain ⟨_, _, q⟩ := qo; exact rd_len (by decide) q
    have le : h.length ≤ h'.length := fr_len qf (by omega) (fun x hx hlt => by simp only [List.mem_cons, List.not_mem_nil, or_false] at hx; omega)
    exact hn _ _ _ _ _ ⟨own, _, _, _, gs, pl, _, wa, nw, nx, np, K, X, rz, w1.len le, qf 0 (fun q => by have := hx0 _ q; omega) _ H0, Q400, pT.fr qf (fun x hx => by have := hx0 x hx; omega) (fun _ q => q), pL.fr qf (fun x hx => by have := hx0 x hx; omega) (fun _ q => q) (fun a q => by have := (w1 a (by omega)).2; omega) (fun _ q => q), pR.fr qf (fun x hx => by have := hx0 x hx; omega), pV.fr qf (fun x hx => by have := hx0 x hx; omega), pC.fr qf (fun x hx => by have := hx0 x hx; omega) (fun _ q => q), pI.fr qf (fun x hx => by have := hx0 x hx; omega), ⟨⟨s1, qf _ (by decide) _ S1⟩, ⟨s2, qf _ (by decide) _ S2⟩, ⟨s3, qf _ (by decide) _ S3⟩, X0⟩, qo, pX.fr qf (fun x hx => by have := hx0 x hx; omega), pP.fr qf (fun x hx => by have := hx0 x hx; omega) (fun _ q => q), pG.fr qf (fun x hx => by have := hx0 x hx; omega) (fun _ q => q), by omega, by omega, by omega⟩
  · refine w_43_8 (i := 4 * j) (N := h.length) (gs := gs) (pl := pl) (ty := ty) (wa := wa) (nw := nw) (nx := nx) (dp := dp) (ca := ca) (mf := mf) (th := th) (sd := sd) (be := be) (ou := ou) (vf := vf) (wf := wf) (sf := sf) (uf := uf) (im := im) (jm := jm) (k := k) (g := g) (pe := (.ref Ep)) (pm := (.int mp)) (ge := (.ref E)) (gm := (.int mc)) (q := np) (ta := s4) (IM := IM) hL hi ln.2 ln.1 rfl hk hk20 hvw hsu np6 hg24 hIM hJM q H0 H397 S4 H400 H411 ?_
    rintro l6' l7' l8' l9' h' ⟨Q400, X0, qf, ql, qz⟩
    have qo : pOu h' := pO.fr qf (fun x hx => by simp only [List.mem_cons, List.not_mem_nil, or_false] at hx; omega)
    have hx0 : ∀ x, x ∈ [399, 400] → (own x = 0 ∧ (x = 399 ∨ x = 400)) ∨ (414 ≤ x ∧ (own x = 0)) := by
      intro x hx
      simp only [List.mem_cons, List.not_mem_nil, or_false] at hx
      rcases hx with q | q
      · rw [q]; exact Or.inl ⟨w1.z (by decide), by decide⟩
      · rw [q]; exact Or.inl ⟨w1.z (by decide), by decide⟩
    have lz : 413 < h'.length := by obtain ⟨_, _, q⟩ := qo; exact rd_len (by decide) q
    have le : h.length ≤ h'.length := fr_len qf (by omega) (fun x hx hlt => by simp only [List.mem_cons, List.not_mem_nil, or_false] at hx; omega)
    exact hn _ _ _ _ _ ⟨own, _, _, _, gs, pl, _, wa, nw, nx, np, K, X, rz, w1.len le, qf 0 (fun q => by have := hx0 _ q; omega) _ H0, Q400, pT.fr qf (fun x hx => by have := hx0 x hx; omega) (fun _ q => q), pL.fr qf (fun x hx => by have := hx0 x hx; omega) (fun _ q => q) (fun a q => by have := (w1 a (by omega)).2; omega) (fun _ q => q), pR.fr qf (fun x hx => by have := hx0 x hx; omega), pV.fr qf (fun x hx => by have := hx0 x hx; omega), pC.fr qf (fun x hx => by have := hx0 x hx; omega) (fun _ q => q), pI.fr qf (fun x hx => by have := hx0 x hx; omega), ⟨⟨s1, qf _ (by decide) _ S1⟩, ⟨s2, qf _ (by decide) _ S2⟩, ⟨s3, qf _ (by decide) _ S3⟩, X0⟩, qo, pX.fr qf (fun x hx => by have := hx0 x hx; omega), pP.fr qf (fun x hx => by have := hx0 x hx; omega) (fun _ q => q), pG.fr qf (fun x hx => by have := hx0 x hx; omega) (fun _ q => q), by omega, by omega, by omega⟩
