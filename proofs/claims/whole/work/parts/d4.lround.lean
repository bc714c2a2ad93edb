/-! The round of leastGates. -/
theorem thr_r {G : Nat → Nat} : ∀ (k j m o : Nat), rch m o → (∀ i, j ≤ i → i < j + k → isG (G i)) → rch (m + k) (wS (fun v => thr G k j (vP o v)) 8)
  | 0, j, m, o, h, _ => by
    have e : wS (fun v => thr G 0 j (vP o v)) 8 = o := wS_eq h.pk.1
    rw [e]
    exact h
  | k + 1, j, m, o, h, hg => by
    have g1 := hg j (Nat.le_refl _) (by omega)
    have ih := thr_r k (j + 1) (m + 1) (wth (G j) o) ⟨o, G j, h, g1, rfl⟩ (fun i h1 h2 => hg i (by omega) (by omega))
    have e : wS (fun v => thr G (k + 1) j (vP o v)) 8 = wS (fun v => thr G k (j + 1) (vP (wth (G j) o) v)) 8 := wS_cg 8 fun v hv => by
      rw [wth_at g1.1 hv]
      rfl
    rw [e, show m + (k + 1) = m + 1 + k by omega]
    exact ih
theorem pk_rch {G : Nat → Nat} {n : Nat} (hG : ∀ i, i < n → isG (G i)) : rch (0 + n) (wS (fun v => thr G n 0 v) 8) := by
  have h := thr_r n 0 0 idN rfl (fun i _ h2 => hG i (by omega))
  have e : wS (fun v => thr G n 0 (vP idN v)) 8 = wS (fun v => thr G n 0 v) 8 := wS_cg 8 fun v hv => by
    rw [show vP idN v = v from wS_at 8 (fun i hi => hi) v hv]
  rw [e] at h
  exact h
theorem r_38 {L j : Nat} {xs : Nat → Int32} {h : mj_H} {l6 l7 l8 l9 : Option Value} {P : mj_H → Prop} {own : Nat → Nat} {th : Int32} {sd be : Int64} {gs pl ty wa nw nx : Value} {np : Nat} {K : Nat → Nat} {X : Nat → Nat → Nat → Nat} {rz : Nat} (w : wJ own th sd be gs pl ty wa nw nx np K X rz j h) (hL : L ≤ 2048) (hi : 4 * j + 4 ≤ L) (hk : xs (4 * j) &&& nI 63 = nI 38) (hn : ∀ (l6 l7 l8 l9 : Option Value) (g : mj_H), wI (j + 1) g → mj_lrun L xs (28, [some (.retAddr 1), some (.ref 0), some (.ref 400), some (.ref 412), some (.ref 413), some (.int (nI (4 * j + 4))), l6, l7, l8, l9], [], g) P) : mj_lrun L xs (28, [some (.retAddr 1), some (.ref 0), some (.ref 400), some (.ref 412), some (.ref 413), some (.int (nI (4 * j))), l6, l7, l8, l9], [], h) P := by
  obtain ⟨w1, H0, H400, pT, pL, pR, pV, pC, pI, pS, pO, pX, pP, pG, j5, b1, b2⟩ := id w
  have ln := w.len
  have np6 := pL.np
  obtain ⟨⟨ou, H412⟩, od, H413⟩ := id pO
  obtain ⟨k, vf, wf, sf, uf, dp, ca, hk20, H375, H376, H377, H402, H403, H404, hvw, hsu⟩ := pR.w
  obtain ⟨mp, Ep, H38, H401⟩ := pL.w
  obtain ⟨g, E, G, rf, mf, hg24, H393, H394, hls, hGG, hEo⟩ := id pC
  obtain ⟨cap, mc, ef, H410, hEA, hgc, hc31, hE3, hef⟩ := id hls
  obtain ⟨im, jm, IM, H397, H411, hIM, hJM⟩ := id pI
  have him : ∀ i, i < 8 → jm i = im i := fun i hi => by rw [(hIM i hi).1, (hJM i hi).1]
  have hG1 : ∀ i, i < g → rf i = nI (G i) ∧ G i < 24 := fun i hi => ⟨(hGG i hi).1, (hGG i hi).2.1⟩
  have hG2 : ∀ i, i < g → ef i = some (1000138 + G i) ∧ G i < 24 := fun i hi => ⟨(hef i hi).1, (hGG i hi).2.1⟩
  have hGi : ∀ i, i < g → isG (G i) := fun i hi => (hGG i hi).2
  have e1 : mj_CB = 1000000 := rfl
  have HE := rdA_lt hEA
  have hE9 : E = 1000000 ∨ 414 ≤ E ∧ E < h.length ∧ own E = 2 := hE3.elim (fun q => Or.inr (by have o := hEo q.1; have := w1 E (by omega); omega)) (fun q => Or.inl q.1)
  have hE0 : 414 ≤ E := by omega
  have hEN : E < h.length ∨ E = 1000000 := by omega
  have oE : own E = 0 ∨ own E = 2 := hE9.elim (fun q => Or.inl (by
    by_cases z : own E = 0
    · exact z
    · have := w1 E z
      omega)) (fun q => Or.inr q.2.2)
  have hrc := pk_rch (G := G) (n := g) hGi
  obtain ⟨k', hk8, hv⟩ := rch_8 hrc.pk
  rcases id pG with ⟨rfl, rfl, rfl, rfl, rfl⟩ | ⟨S, T, W, A, V, b, f1, f2, rfl, rfl, rfl, rfl, rfl, c1, c2, c3, c4, c5, o1, o2, o3, o4, o5, oAV⟩
  · refine lr_38 (i := 4 * j) (A := fun g1 => mz_mo [0] 2 8193 h g1 ∧ mj_rd g1 0 = some (xC_ (.ref h.length) pl sd be) ∧ mj_rd g1 h.length = some (.inr (10, [.ref (h.length + 1)])) ∧ mj_rd g1 (h.length + 1) = some (.inl (0, (8192, .inl (gfill fun _ => 0))))) (B := fun g => wI (j + 1) g) (b := nI k') hL hi hk ?_ ?_ ?_ ⟨_, H0⟩ (fun _ _ _ _ g q => hn _ _ _ _ _ q)
    · refine (mj_Wp.mono (x_lg0 H393 H394 hG1 hg24 hv H0 (by omega)) (by decide)).imp ?_
      rintro _ ⟨_, g1, rfl, rfl, d1, d2, d3, d4⟩
      exact ⟨_, _, rfl, rfl, d4, d1, d2, d3⟩
    · rintro g1 ⟨m1, _⟩
      exact ⟨_, m1.1 400 (by decide) _ H400⟩
    · rintro g1 ⟨m1, d1, d2, d3⟩
      have lg := mo_le m1
      have ls1 := rd_len (by omega) d2
      have lt1 := rd_len (by omega) d3
      have L410 := m1.1 410 (by decide) _ H410
      have EA := mz_fr.A m1.1 (a := E) (fun q => by rw [List.mem_singleton] at q; omega) hEA
      refine (mj_Wp.mono (y_lgs (k := k') (by omega) (by omega) L410 EA hG2 hg24 hgc hc31 (m1.1 400 (by decide) _ H400) (fun h2 y2 m2 => (y_lgn y2 (by have := mo_le m2; omega) hv).imp ?_)) (by decide))
      rintro _ ⟨_, g2, rfl, rfl, ⟨A', V', c0, y400⟩, ⟨⟨b', q1⟩, ⟨f1', q2⟩, f2', q3⟩, m3⟩
      have lh2 := mo_le m2
      have lg2 := mo_le m3
      have mt := mo2 m1 (mo2 m2 m3)
      have hx0 : ∀ x, x ∈ [0] ++ ([400] ++ [400]) → own x = 0 ∧ (x = 0 ∨ x = 400) := by
        intro x hx
        simp only [List.mem_cons, List.mem_append, List.not_mem_nil, or_false] at hx
        have z : x < 414 ∧ (x = 0 ∨ x = 400) := by omega
        exact ⟨w1.z z.1, z.2⟩
      have le := mt.2.1
      have l1 := mt.2.2.1
      have l2 := mt.2.2.2
      have qo : pOu g2 := pO.fr mt.1 (fun x hx => by have := hx0 x hx; omega)
      have no : ∀ a, 414 ≤ a → a ∉ [400] ++ [400] := fun a ha q => by
        simp only [List.mem_cons, List.mem_append, List.not_mem_nil, or_false] at q
        omega
      have e2 := (mo2 m2 m3).1 h.length (no _ ln.1) _ d2
      have e3 := (mo2 m2 m3).1 (h.length + 1) (no _ (by omega)) _ d3
      have lq1 := rd_len (by omega) q1
      have lq2 := rd_len (by omega) q2
      have lq3 := rd_len (by omega) q3
      obtain ⟨own', w2, hk1, hnew⟩ := recolW w1 ln.1 le (fun a => a = h.length ∨ a = h.length + 1 ∨ a = h2.length ∨ a = h2.length + 1 ∨ a = h2.length + 2) 4 (fun a q => by omega)
      have nG : pLg own' g2 (.ref h.length) (.ref h2.length) (.ref A') (.ref V') 0 := by
        rcases c0 with ⟨rfl, rfl⟩ | ⟨rfl, rfl⟩
        · exact Or.inr ⟨h.length, h.length + 1, h2.length, h2.length + 1, h2.length + 2, b', f1', f2', rfl, rfl, rfl, rfl, rfl, e2, e3, q1, q2, q3, hnew _ (by omega), hnew _ (by omega), hnew _ (by omega), hnew _ (by omega), hnew _ (by omega), by omega⟩
        · exact Or.inr ⟨h.length, h.length + 1, h2.length, h2.length + 2, h2.length + 1, b', f2', f1', rfl, rfl, rfl, rfl, rfl, e2, e3, q1, q3, q2, hnew _ (by omega), hnew _ (by omega), hnew _ (by omega), hnew _ (by omega), hnew _ (by omega), by omega⟩
      exact ⟨_, _, rfl, rfl, ⟨own', _, _, _, (.ref h.length), pl, _, (.ref h2.length), (.ref A'), (.ref V'), np, K, X, 0, w2, (mo2 m2 m3).1 0 (by decide) _ d1, y400, pT.fr mt.1 (fun x hx => by have := hx0 x hx; omega) (fun a q => (hk1 a (by omega)).trans q), pL.fr mt.1 (fun x hx => by have := hx0 x hx; omega) (fun a q => (hk1 a (by omega)).trans q) (fun a q => by have := (w2 a (by omega)).2; omega) (fun a q => (hk1 a (by omega)).trans q), pR.fr mt.1 (fun x hx => by have := hx0 x hx; omega), pV.fr mt.1 (fun x hx => by have := hx0 x hx; omega), pC.fr mt.1 (fun x hx => by have := hx0 x hx; omega) (fun a q => (hk1 a (by omega)).trans q), pI.fr mt.1 (fun x hx => by have := hx0 x hx; omega), pS.fr mt.1 (fun x hx => by have := hx0 x hx; omega), qo, pX.fr mt.1 (fun x hx => by have := hx0 x hx; omega), pP.fr mt.1 (fun x hx => by have := hx0 x hx; omega) (fun a q => (hk1 a (by omega)).trans q), nG, by omega, by omega, by omega⟩⟩
  · have lS := w1 S (by omega)
    have lT := w1 T (by omega)
    have lW := w1 W (by omega)
    have lA := w1 A (by omega)
    have lV := w1 V (by omega)
    have nST : S ≠ T := fun e => by rw [e, c2] at c1; cases c1
    have nSW : S ≠ W := fun e => by rw [e, c3] at c1; cases c1
    have nSA : S ≠ A := fun e => by rw [e, c4] at c1; cases c1
    have nSV : S ≠ V := fun e => by rw [e, c5] at c1; cases c1
    have nTW : W ≠ T := fun e => by rw [e, c2] at c3; exact absurd (show (0 : Nat) = 2 from congrArg Prod.fst (Sum.inl.inj (Option.some.inj c3))) (by decide)
    have nTA : A ≠ T := fun e => by rw [e, c2] at c4; exact absurd (show (8192 : Nat) = 40320 from congrArg (fun x => x.2.1) (Sum.inl.inj (Option.some.inj c4))) (by decide)
    have nTV : V ≠ T := fun e => by rw [e, c2] at c5; exact absurd (show (8192 : Nat) = 40320 from congrArg (fun x => x.2.1) (Sum.inl.inj (Option.some.inj c5))) (by decide)
    refine lr_38 (i := 4 * j) (A := fun g1 => mz_mo [T] 0 0 h g1 ∧ mj_rd g1 T = some (.inl (0, (8192, .inl (gfill fun _ => 0))))) (B := fun g => wI (j + 1) g) (b := nI k') hL hi hk ?_ ?_ ?_ ⟨_, H0⟩ (fun _ _ _ _ g q => hn _ _ _ _ _ q)
    · refine (mj_Wp.mono (x_lg1 H393 H394 hG1 hg24 hv H0 c1 c2 (by omega) nST) (by decide)).imp ?_
      rintro _ ⟨_, g1, rfl, rfl, d3, d4⟩
      exact ⟨_, _, rfl, rfl, d4, d3⟩
    · rintro g1 ⟨m1, _⟩
      exact ⟨_, m1.1 400 (fun q => by rw [List.mem_singleton] at q; omega) _ H400⟩
    · rintro g1 ⟨m1, d3⟩
      have lg := mo_le m1
      have n1 : ∀ a, a ≠ T → a ∉ [T] := fun a ha q => ha (List.mem_singleton.mp q)
      have L410 := m1.1 410 (n1 _ (by omega)) _ H410
      have EA := mz_fr.A m1.1 (a := E) (n1 E (fun e => by rw [e, c2] at HE; exact absurd (show (0 : Nat) = 6 from congrArg Prod.fst (Sum.inl.inj (Option.some.inj HE))) (by decide))) hEA
      refine (mj_Wp.mono (y_lgs (k := k') (by omega) (by omega) L410 EA hG2 hg24 hgc hc31 (m1.1 400 (n1 _ (by omega)) _ H400) (fun h2 y2 m2 => (y_lg2 y2 (m2.1 W (fun q => by rw [List.mem_singleton] at q; omega) _ (m1.1 W (n1 _ nTW) _ c3)) (m2.1 A (fun q => by rw [List.mem_singleton] at q; omega) _ (m1.1 A (n1 _ nTA) _ c4)) (m2.1 V (fun q => by rw [List.mem_singleton] at q; omega) _ (m1.1 V (n1 _ nTV) _ c5)) (by omega) (by omega) (by omega) oAV hv).imp ?_)) (by decide))
      rintro _ ⟨_, g2, rfl, rfl, ⟨A', V', c0, y400⟩, ⟨⟨b', q1⟩, ⟨f1', q2⟩, f2', q3⟩, m3⟩
      have mt := mo2 m1 (mo2 m2 m3)
      have hx0 : ∀ x, x ∈ [T] ++ ([400] ++ [400, W, A, V]) → own x = 0 ∧ x = 400 ∨ 414 ≤ x ∧ own x = 4 := by
        intro x hx
        simp only [List.mem_cons, List.mem_append, List.not_mem_nil, or_false] at hx
        rcases hx with q | q | q | q | q | q
        · rw [q]; omega
        · rw [q]; exact Or.inl ⟨w1.z (by decide), rfl⟩
        · rw [q]; exact Or.inl ⟨w1.z (by decide), rfl⟩
        · rw [q]; omega
        · rw [q]; omega
        · rw [q]; omega
      have le := mt.2.1
      have l1 := mt.2.2.1
      have l2 := mt.2.2.2
      have qo : pOu g2 := pO.fr mt.1 (fun x hx => by have := hx0 x hx; omega)
      have e2 := mt.1 S (fun q => by simp only [List.mem_cons, List.mem_append, List.not_mem_nil, or_false] at q; omega) _ c1
      have e3 := (mo2 m2 m3).1 T (fun q => by simp only [List.mem_cons, List.mem_append, List.not_mem_nil, or_false] at q; omega) _ d3
      have nG : pLg own g2 (.ref S) (.ref W) (.ref A') (.ref V') 0 := by
        rcases c0 with ⟨rfl, rfl⟩ | ⟨rfl, rfl⟩
        · exact Or.inr ⟨S, T, W, _, _, b', f1', f2', rfl, rfl, rfl, rfl, rfl, e2, e3, q1, q2, q3, o1, o2, o3, o4, o5, oAV⟩
        · exact Or.inr ⟨S, T, W, _, _, b', f2', f1', rfl, rfl, rfl, rfl, rfl, e2, e3, q1, q3, q2, o1, o2, o3, o5, o4, Ne.symm oAV⟩
      exact ⟨_, _, rfl, rfl, ⟨own, _, _, _, (.ref S), pl, _, (.ref W), (.ref A'), (.ref V'), np, K, X, 0, w1.len le, mt.1 0 (fun q => by have := hx0 _ q; omega) _ H0, y400, pT.fr mt.1 (fun x hx => by have := hx0 x hx; omega) (fun _ q => q), pL.fr mt.1 (fun x hx => by have := hx0 x hx; omega) (fun _ q => q) (fun a q => by have := (w1 a (by omega)).2; omega) (fun _ q => q), pR.fr mt.1 (fun x hx => by have := hx0 x hx; omega), pV.fr mt.1 (fun x hx => by have := hx0 x hx; omega), pC.fr mt.1 (fun x hx => by have := hx0 x hx; omega) (fun _ q => q), pI.fr mt.1 (fun x hx => by have := hx0 x hx; omega), pS.fr mt.1 (fun x hx => by have := hx0 x hx; omega), qo, pX.fr mt.1 (fun x hx => by have := hx0 x hx; omega), pP.fr mt.1 (fun x hx => by have := hx0 x hx; omega) (fun _ q => q), nG, by omega, by omega, by omega⟩⟩
