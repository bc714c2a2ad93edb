/-! The reference: procedures made, defined. -/
theorem rdc {h g : mj_H} {a : Nat} (ha : mj_CB ≤ a) : mj_rd g a = mj_rd h a := by
  unfold mj_rd
  rw [if_neg (by omega), if_neg (by omega)]
/-- a text whose cells stay -/
def yStI (I : Nat → Prop) (h : mj_H) (T n : Nat) (f : Nat → Nat) : Prop := ∃ c, yStr h T n c f ∧ (I T ∨ mj_CB ≤ T) ∧ ∀ (B : Nat) (rs : List Value), mj_rd h T = some (.inr (21, .ref B :: rs)) → I B ∨ mj_CB ≤ B
theorem yStI.mv {I J : Nat → Prop} {L : List Nat} {h g : mj_H} {T n : Nat} {f : Nat → Nat} (m : Mv I J L h g) : yStI I h T n f → yStI J g T n f := by
  rintro ⟨c, ⟨ok, B, rs, k, bf, b1, b2⟩, hT, hB⟩
  have hB' := hB B _ k
  have kT : mj_rd g T = some (.inr (21, .ref B :: .int (nI c) :: rs)) := hT.elim (fun i => m.rd i k) (fun q => (rdc q).trans k)
  have kB := hB'.elim (fun i => m.rd i b1) (fun q => (rdc (g := g) (h := h) q).trans b1)
  refine ⟨c, ⟨ok, B, rs, kT, bf, kB, b2⟩, hT.imp (fun i => m.j i k) id, fun B' rs' q => ?_⟩
  rw [kT] at q
  have e : @Eq Nat B B' := Value.ref.inj (List.cons.inj (Prod.mk.inj (Sum.inr.inj (Option.some.inj q))).2).1
  rw [← e]
  exact hB'.imp (fun i => m.j i b1) id
theorem yStI.cg {I : Nat → Prop} {h : mj_H} {T n : Nat} {f f' : Nat → Nat} (e : ∀ j, j < n → f j = f' j) : yStI I h T n f → yStI I h T n f' := by
  rintro ⟨c, ⟨ok, B, rs, k, bf, b1, b2, b3, b4⟩, hT, hB⟩
  refine ⟨c, ⟨⟨ok.1, fun j hj => by rw [← e j hj]; exact ok.2 j hj⟩, B, rs, k, bf, b1, b2, b3, fun j hj => ?_⟩, hT, hB⟩
  rw [b4 j hj]
  unfold enc
  by_cases q : c = 0
  · rw [if_pos q, if_pos q, e j (by rw [q] at hj; omega)]
  · have hc : c = 1 := by have := ok.1; omega
    rw [if_neg q, if_neg q, e (j / 2) (by rw [hc] at hj; omega)]
/-- the reference's procedure at D: text n f, acts k x -/
def yPrF (I : Nat → Prop) (h : mj_H) (D n : Nat) (f : Nat → Nat) (k : Nat) (x : Nat → Nat → Nat) : Prop := ∃ (Lr Tx La Ea : Nat) (F : Nat → Nat), I D ∧ mj_rd h D = some (.inr (26, [.ref Lr, .ref Tx, .ref La])) ∧ yLs h La Ea k F ∧ I La ∧ (I Ea ∨ Ea = 1000000) ∧ (∀ j, j < k → I (F j) ∧ yAc I h x (F j) j) ∧ yStI I h Tx n f ∧ yRow I h x 6 Lr 0 k
theorem yPrF.a {I : Nat → Prop} {h : mj_H} {D n k : Nat} {f : Nat → Nat} {x : Nat → Nat → Nat} : yPrF I h D n f k x → yPrA I h D k x
  | ⟨Lr, Tx, La, Ea, F, i1, r, l, i2, i3, a, _⟩ => ⟨Lr, Tx, La, Ea, F, i1, r, l, i2, i3, a⟩
theorem yPrF.mv {I J : Nat → Prop} {L : List Nat} {h g : mj_H} {D n k : Nat} {f : Nat → Nat} {x : Nat → Nat → Nat} (m : Mv I J L h g) : yPrF I h D n f k x → yPrF J g D n f k x
  | ⟨Lr, Tx, La, Ea, F, i1, r, l, i2, i3, a, t, w⟩ => by
    have l0 := l
    obtain ⟨cap, mc, ef, l1, l2, l3, l4, l5, l6⟩ := l0
    have hE : mj_rdA g Ea = some (6, (cap, objs ef)) ∧ (J Ea ∨ Ea = 1000000) := by
      rcases i3 with i3 | i3
      · have hlt := m.lt i3 (rdA_lt l2)
        exact ⟨mz_fr.A m.1 (m.2.2 _ i3 hlt).1 l2, Or.inl (m.2.2 _ i3 hlt).2⟩
      · rw [i3] at l2 ⊢
        exact ⟨l2, Or.inr rfl⟩
    exact ⟨Lr, Tx, La, Ea, F, m.j i1 r, m.rd i1 r, ⟨cap, mc, ef, m.rd i2 l1, hE.1, l3, l4, l5, fun j hj => ⟨(l6 j hj).1, by
      obtain ⟨c1, fs, z, _⟩ := (l6 j hj).2
      exact (l6 j hj).2.fr m.1 (m.2.2 _ (a j hj).1 (m.lt (a j hj).1 z)).1⟩⟩, m.j i2 l1, hE.2, fun j hj => ⟨((a j hj).2.mv m).1, (a j hj).2.mv m⟩, t.mv m, rwP.mv m (fun p a b _ _ => yPt.mv m 6 p a b (fun _ _ _ _ _ => rfl)) (fun p a b => yPt.lt 6 p a b) w⟩
/-- the reference's library -/
def yLi (I : Nat → Prop) (h : mj_H) (np : Nat) (N : Nat → Nat) (F : Nat → Nat → Nat) (K : Nat → Nat) (X : Nat → Nat → Nat → Nat) (PF : Nat → Nat) (Ep : Nat) : Prop := yLs h 401 Ep np PF ∧ (∀ a, I a → a < mj_CB) ∧ ∀ p, p < np → yPrF I h (PF p) (N p) (F p) (K p) (X p)
theorem yLi.lb {I : Nat → Prop} {h : mj_H} {np Ep : Nat} {N : Nat → Nat} {F : Nat → Nat → Nat} {K : Nat → Nat} {X : Nat → Nat → Nat → Nat} {PF : Nat → Nat} {th : Int32} {ty : Value} {sd be : Int64} {wa nw nx : Value} (l : yLi I h np N F K X PF Ep) (h4 : mj_rd h 400 = some (yC_ th ty sd be wa nw nx)) : yLb I h np K X :=
  ⟨⟨_, _, _, _, _, _, _, _, _, _, h4⟩, Ep, PF, l.1, l.2.1, fun p hp => (l.2.2 p hp).a⟩
theorem y_prI {I I2 : Nat → Prop} {h : mj_H} {D Lr Tx B n k : Nat} {f : Nat → Nat} {x : Nat → Nat → Nat} (hI2 : ∀ a, I2 a → a ≠ D ∧ a < h.length) (hA : ∀ j, j < k → aOk x 0 k j) (hK : k ≤ 30) (hIB : ∀ a, I a → a < B) (hBD : B ≤ D) (bB : B < mj_CB) (D0 : mj_rd h D = some (.inr (26, [.null, .null, .null]))) (bD : D < mj_CB) (hr : yRow I h x 6 Lr 0 k) (ht : yStI I2 h Tx n f) (hb : h.length + 6 * k + 60 < mj_CB) : mj_Wp 141 346 (0, [some (.ref D), some (.ref Lr), some (.ref Tx)], [], h) (mz_N fun g => yPrF (fun a => I a ∨ I2 a ∨ B ≤ a ∧ a < mj_CB) g D n f k x ∧ mz_mo [D] (4 * k + 2) (100 * k + 7) h g) := by
  have hBL := rd_len bD D0
  refine s_aldn (p' := 1) rfl rfl rfl ?_
  refine s_primN (p' := 4) (q := 3) rfl rfl rfl rfl rfl rfl rfl rfl ?_
  refine s_aldn (p' := 5) rfl rfl rfl ?_
  refine s_newz (p' := 8) (a := h.length) rfl rfl rfl rfl ?_
  generalize hg1 : h ++ [_] = h1
  have L1 : mj_rd h1 h.length = some (.inr (18, [.null, .int 0, .int 0])) := by rw [← hg1]; exact rd_nw (Nat.blt_eq.mpr (by omega)) rfl
  have D1 : mj_rd h1 D = some (.inr (26, [.null, .null, .null])) := by rw [← hg1]; exact rd_app D0
  have m1 : mz_mo [D] 1 3 h h1 := by rw [← hg1]; exact mz_mo.ap [D] _ _
  have l1 : h1.length = h.length + 1 := by rw [← hg1]; exact List.length_append
  clear hg1
  refine s_sp (p' := 9) (ls' := _) rfl rfl rfl ?_
  refine s_callN (p' := 12) (ls0 := [_]) rfl rfl rfl rfl rfl (mj_rcv_is L1) rfl (y_ini (by omega) L1) (by first | decide | omega) rfl ?_
  generalize hg2 : List.set h1 h.length _ = h2
  have L2 : mj_rd h2 h.length = some (alC 1000000 0 (nI 0)) := by rw [← hg2]; exact rd_set (by omega) L1
  have D2 : mj_rd h2 D = some (.inr (26, [.null, .null, .null])) := by rw [← hg2]; exact (rd_setn (by omega)).trans D1
  have m2 : mz_mo [D] 1 3 h h2 := by rw [← hg2]; exact mz_mo.s m1 (by omega) L1 rfl (Or.inr (Nat.le_refl _))
  have l2 : h2.length = h.length + 1 := by rw [← hg2, List.length_set, l1]
  clear hg2 L1 D1 m1
  refine s_pf (p' := 15) (fs' := [_, _, _]) rfl bD D2 (Nat.blt_eq.mp rfl) rfl rfl rfl ?_
  refine s_aldn (p' := 16) rfl rfl rfl ?_
  refine s_aldn (p' := 17) rfl rfl rfl ?_
  refine s_pf (p' := 20) (fs' := [_, _, _]) rfl bD (rd_set bD D2) (Nat.blt_eq.mp rfl) rfl rfl rfl ?_
  rw [List.set_set]
  refine s_aldn (p' := 21) rfl rfl rfl ?_
  refine s_aldn (p' := 22) rfl rfl rfl ?_
  refine s_pf (p' := 25) (fs' := [_, _, _]) rfl bD (rd_set bD D2) (Nat.blt_eq.mp rfl) rfl rfl rfl ?_
  rw [List.set_set]
  generalize hg3 : List.set h2 D _ = h3
  have L3 : mj_rd h3 h.length = some (alC 1000000 0 (nI 0)) := by rw [← hg3]; exact (rd_setn (by omega)).trans L2
  have D3 : mj_rd h3 D = some (.inr (26, [.ref Lr, .ref Tx, .ref h.length])) := by rw [← hg3]; exact rd_set bD D2
  have m3 : mz_mo [D] 1 3 h h3 := by rw [← hg3]; exact mz_mo.s m2 bD D2 rfl (Or.inl (by simp))
  have l3 : h3.length = h.length + 1 := by rw [← hg3, List.length_set, l2]
  clear hg3 L2 D2 m2
  have mv3 : Mv I I [D] h h3 := ⟨m3.1, fun a ha => by have := hIB a ha; omega, fun a ha _ => ⟨by have := hIB a ha; simp only [List.mem_singleton]; omega, ha⟩⟩
  have r3 : yRow I h3 x 6 Lr 0 k := rwP.mv mv3 (fun p a b _ _ => yPt.mv mv3 6 p a b (fun _ _ _ _ _ => rfl)) (fun p a b => yPt.lt 6 p a b) hr
  have mvt : Mv I2 I2 [D] h h3 := ⟨m3.1, fun a ha => by have := hI2 a ha; omega, fun a ha _ => ⟨by have := hI2 a ha; simp only [List.mem_singleton]; omega, ha⟩⟩
  have t3 := ht.mv mvt
  have yl3 : yLs h3 h.length 1000000 0 (fun _ => 0) := ⟨0, nI 0, fun _ => none, L3, mj_rdA_cst (k_0 _) (by decide), Nat.le_refl 0, by decide, Or.inr ⟨rfl, rfl⟩, fun i hi => absurd hi (Nat.not_lt_zero i)⟩
  refine s_aldn (p' := 26) rfl rfl rfl ?_
  refine s_aldn (p' := 27) rfl rfl rfl ?_
  refine s_callEN (p' := 30) (ls0 := [_, _, _, _, _, _, _, _, _, _, _, _]) rfl rfl rfl rfl rfl (mj_rcv_is D3) rfl (y_lay (I := I) (J := fun a => I a ∨ I2 a ∨ B ≤ a ∧ a < mj_CB) (B := B) hA hK (by omega) hIB (by omega) (fun a ha => Or.inl ha) (fun a ha => by have := hIB a ha; omega) 6 Lr 0 k 1000000 (fun _ => 0) h3 r3 (Nat.le_refl k) D3 yl3 (Or.inl rfl) (by omega) (fun q q1 q2 => Or.inr (Or.inr ⟨by omega, q2⟩))) rfl rfl ?_
  rintro g ⟨E', F', a1, a2, a3, a4, a5, a6, a7⟩
  have e1 : mj_CB = 1000000 := rfl
  have D4 := a4.1 D (by simp only [List.mem_cons, List.not_mem_nil, or_false]; omega) _ D3
  have mvu : Mv I2 (fun a => I a ∨ I2 a ∨ B ≤ a ∧ a < mj_CB) [h.length, 1000000] h3 g := ⟨a4.1, fun a ha => by have := hI2 a ha; omega, fun a ha _ => ⟨by have := hI2 a ha; simp only [List.mem_cons, List.not_mem_nil, or_false]; omega, Or.inr (Or.inl ha)⟩⟩
  have mv4 : Mv I (fun a => I a ∨ I2 a ∨ B ≤ a ∧ a < mj_CB) [h.length, 1000000] h3 g := ⟨a4.1, fun a ha => by have := hIB a ha; omega, fun a ha _ => ⟨by have := hIB a ha; simp only [List.mem_cons, List.not_mem_nil, or_false]; omega, Or.inl ha⟩⟩
  have r4 := rwP.mv mv4 (fun p a b _ _ => yPt.mv mv4 6 p a b (fun _ _ _ _ _ => rfl)) (fun p a b => yPt.lt 6 p a b) r3
  have t4 := t3.mv mvu
  have u3 := mo_le m3
  have u4 := mo_le a4
  have hEE : (I E' ∨ I2 E' ∨ B ≤ E' ∧ E' < mj_CB) ∨ E' = 1000000 := by
    rcases a5 with q | q
    · exact Or.inr q
    · by_cases z : E' = 1000000
      · exact Or.inr z
      · obtain ⟨_, _, _, _, z2, _, _, z3, _⟩ := a1
        exact Or.inl (Or.inr (Or.inr ⟨q, by rcases z3 with z3 | z3 <;> omega⟩))
  refine s_ret rfl ?_
  refine ⟨_, rfl, ⟨Lr, Tx, h.length, E', F', Or.inr (Or.inr ⟨hBD, bD⟩), D4, a1, Or.inr (Or.inr ⟨by omega, by omega⟩), hEE, fun j hj => ⟨(a3 j (Nat.zero_le j) hj).1, a3 j (Nat.zero_le j) hj⟩, t4, r4⟩, ?_⟩
  refine m3.tr (L' := [h.length, 1000000]) (a := 1) (x := 3) (b := 4 * (k - 0) + 1) (y := 100 * (k - 0) + 4) a4 (fun y hy => ?_) (by omega) (by omega)
  simp only [List.mem_cons, List.not_mem_nil, or_false] at hy
  exact Or.inr (by omega)
/-- cells of the text now typed, of all that is made from here on -/
def dJ (I : Nat → Prop) (h : mj_H) (T : Nat) (a : Nat) : Prop := I a ∨ (a = T ∧ a < mj_CB) ∨ ((∃ rs, mj_rd h T = some (.inr (21, .ref a :: rs))) ∧ a < mj_CB) ∨ frI h a
theorem dJ.lt {I : Nat → Prop} {h : mj_H} {T : Nat} (hI : ∀ a, I a → a < mj_CB) : ∀ a, dJ I h T a → a < mj_CB
  | a, .inl q => hI a q
  | _, .inr (.inl q) => q.2
  | _, .inr (.inr (.inl q)) => q.2
  | _, .inr (.inr (.inr q)) => q.2
/-- what stands in them -/
theorem dJ.kd {I : Nat → Prop} {h : mj_H} {T n c : Nat} {f : Nat → Nat} (ht : yStr h T n c f) {a : Nat} (ha : dJ I h T a) (hl : a < h.length) (hI : ¬ I a) : (∃ fs, mj_rd h a = some (.inr (21, fs))) ∨ ∃ y, mj_rd h a = some (.inl (1, y)) := by
  obtain ⟨_, B, rs, k, bf, b1, _⟩ := ht
  rcases ha with q | q | ⟨⟨rs', q⟩, _⟩ | q
  · exact absurd q hI
  · rw [q.1]; exact Or.inl ⟨_, k⟩
  · rw [k] at q
    have e : @Eq Nat B a := Value.ref.inj (List.cons.inj (Prod.mk.inj (Sum.inr.inj (Option.some.inj q))).2).1
    rw [← e]; exact Or.inr ⟨_, b1⟩
  · have := q.1; omega
def dJ0 (I : Nat → Prop) (h : mj_H) (T B : Nat) (a : Nat) : Prop := dJ I h T a ∧ a < B
theorem yPrF.D {I : Nat → Prop} {h : mj_H} {D n k : Nat} {f : Nat → Nat} {x : Nat → Nat → Nat} : yPrF I h D n f k x → ∃ fs, mj_rd h D = some (.inr (26, fs))
  | ⟨_, _, _, _, _, _, r, _⟩ => ⟨_, r⟩
theorem yPrF.i {I : Nat → Prop} {h : mj_H} {D n k : Nat} {f : Nat → Nat} {x : Nat → Nat → Nat} : yPrF I h D n f k x → I D
  | ⟨_, _, _, _, _, i, _⟩ => i
theorem yStr.st {I : Nat → Prop} {h : mj_H} {T n c : Nat} {f : Nat → Nat} (ht : yStr h T n c f) : yStI (dJ I h T) h T n f :=
  ⟨c, ht, (Nat.lt_or_ge T mj_CB).imp (fun q => Or.inr (Or.inl ⟨rfl, q⟩)) id, fun B rs k => (Nat.lt_or_ge B mj_CB).imp (fun q => Or.inr (Or.inr (Or.inl ⟨⟨rs, k⟩, q⟩))) id⟩
theorem y_defU {h : mj_H} {T n c : Nat} {f : Nat → Nat} (hn : n ≤ 60) (hf : ∀ j, j < n → f j < 65536) (ht : yStr h T n c f) (hb : h.length + 700 < mj_CB) {th : Int32} {sd be : Int64} {wa nw nx : Value} (h4 : mj_rd h 400 = some (yC_ th (.ref T) sd be wa nw nx)) {I : Nat → Prop} {np Ep : Nat} {N : Nat → Nat} {F : Nat → Nat → Nat} {K : Nat → Nat} {X : Nat → Nat → Nat → Nat} {PF : Nat → Nat} (hl : yLi I h np N F K X PF Ep) (hnp : np = 6) {s0 : PS} (hR : rAll n f = .inr s0) : mj_Wp 170 344 (0, [some (.ref 400), none], [], h) (mz_V fun r g => r = .int (nI 0) ∧ mj_rd g 400 = some (yC_ (nI 2) (.ref T) sd be wa nw nx) ∧ mz_mo [400] 310 5000 h g) := by
  have m0 : mz_mo [] 0 0 h h := mz_mo.rf _ _ _ _
  have l0 : h.length = h.length + 0 := rfl
  refine s_new (p' := 3) rfl rfl rfl ?_
  generalize hg1 : h ++ [_] = h1
  have l1 : h1.length = h.length + 1 := by rw [← hg1, List.length_append, l0]; rfl
  have X1 : mj_rd h1 h.length = some (.inr (22, [.null, .int 0, .int 0])) := by rw [← hg1]; exact rd_nw (Nat.blt_eq.mpr (by omega)) l0
  have m1 : mz_mo [] 1 3 h h1 := by rw [← hg1]; exact m0.tr (mz_mo.ap [] _ _) (fun y hy => Or.inl hy) (by omega) (by show 0 + 3 ≤ 3; omega)
  clear hg1
  have z1 := m1.1 400 List.not_mem_nil _ h4
  refine s_sp (p' := 4) (ls' := _) rfl rfl rfl ?_
  refine s_aldn (p' := 5) rfl rfl rfl ?_
  refine s_gf (p' := 8) rfl z1 rfl rfl ?_
  refine c_call (p' := 11) (kc := 168) (ls0 := [_, _]) rfl rfl rfl rfl rfl (mj_rcv_is X1) rfl rfl rfl ?_
  refine s_aldn (p' := 1) rfl rfl rfl ?_
  refine s_primN (p' := 4) (q := 3) rfl rfl rfl rfl rfl rfl rfl rfl ?_
  refine s_aldn (p' := 5) rfl rfl rfl ?_
  refine s_aldn (p' := 6) rfl rfl rfl ?_
  refine s_pf (p' := 9) (fs' := [_, _, _]) rfl (by omega) X1 (Nat.blt_eq.mp rfl) rfl rfl rfl ?_
  generalize hg2 : List.set h1 h.length _ = h2
  have l2 : h2.length = h.length + 1 := by rw [← hg2, List.length_set, l1]
  have m2 : mz_mo [] 1 3 h h2 := by rw [← hg2]; exact mz_mo.s m1 (by omega) X1 rfl (Or.inr (by omega))
  have X2 : mj_rd h2 h.length = some (.inr (22, [.ref T, .int (nI 0), .int (nI 0)])) := by rw [← hg2]; exact rd_set (by omega) X1
  clear hg2
  have r2 : yR h2 h.length T n c f 0 0 := ⟨X2, ht.fr m2.1 List.not_mem_nil (fun _ _ _ => List.not_mem_nil)⟩
  have z2 := m2.1 400 List.not_mem_nil _ h4
  refine c_ret rfl ?_
  refine c_call (p' := 14) (kc := 161) (ls0 := [_]) rfl rfl rfl rfl rfl (mj_rcv_is X2) rfl rfl rfl ?_
  refine ((y_all y_HFl hn hf r2 (by omega) (by omega))).imp ?_
  rintro _ (⟨s', p, h3, e1, rfl, r3, w3, m3⟩ | ⟨e, e1, q, h3, rfl, t1, t2, t3, m3⟩)
  rotate_left
  · cases hR.symm.trans e1
  show mj_Wp _ _ (14, _, _, _) _
  try dsimp only
  cases hR.symm.trans e1
  have hs := (rAll_t hf hR).2.2
  have m03 : mz_mo [] 310 5000 h h3 := m2.tr m3 (fun y hy => Or.inr (by rw [List.mem_singleton] at hy; omega)) (by omega) (by omega)
  have z3 := m03.1 400 List.not_mem_nil _ h4
  have u3 := mo_le m03
  refine s_astn (p' := 15) (ls' := [_, _]) rfl rfl rfl rfl ?_
  refine s_aldn (p' := 16) rfl rfl rfl ?_
  refine s_aldn (p' := 17) rfl rfl rfl ?_
  refine s_gf (p' := 20) rfl z3 rfl rfl ?_
  have y3 : yLs h3 401 Ep np PF := hl.1.fr m03.1 List.not_mem_nil List.not_mem_nil (fun _ _ => List.not_mem_nil)
  obtain ⟨mc3, c3⟩ := y3.c
  refine s_callV (p' := 25) (ls0 := [_]) rfl rfl rfl rfl rfl (mj_rcv_is c3) rfl (y_siz c3) (by first | decide | omega) rfl ?_
  refine s_bip (p' := 27) rfl rfl ?_
  refine s_icmp (p' := 30) false rfl ((ci_ne (by omega) (by omega)).trans (decide_eq_false (by omega))) rfl ?_
  refine s_con (p' := 31) rfl rfl ?_
  refine s_goto (p' := 35) rfl rfl ?_
  refine c_call (p' := 38) (kc := 100) (ls0 := [_, _]) rfl rfl rfl rfl rfl (mj_rcv_is z3) rfl rfl rfl ?_
  refine s_aldn (p' := 1) rfl rfl rfl ?_
  refine s_ildn (p' := 2) rfl rfl rfl ?_
  refine s_pf (p' := 5) (fs' := [_, _, _, _, _, _, _, _, _, _, _]) rfl (by decide) z3 (Nat.blt_eq.mp rfl) rfl rfl rfl ?_
  generalize hgh4_ : List.set h3 400 _ = h4_
  have z4 : mj_rd h4_ 400 = some (yC_ (nI 2) (.ref T) sd be wa nw nx) := by rw [← hgh4_]; exact rd_set (by decide) z3
  have m4 : mz_mo [400] 310 5000 h h4_ := by rw [← hgh4_]; exact mz_mo.s (m03.wk (fun y hy => by cases hy) (by omega) (by omega)) (by decide) z3 rfl (Or.inl (by simp))
  clear hgh4_
  refine s_ildn (p' := 6) rfl rfl rfl ?_
  refine s_if (p' := 9) false rfl (by decide +kernel) rfl ?_
  refine s_con (p' := 10) rfl rfl ?_
  refine s_goto (p' := 14) rfl rfl ?_
  refine c_iret rfl rfl ?_
  refine s_if (p' := 41) false rfl (by decide +kernel) rfl ?_
  refine s_con (p' := 42) rfl rfl ?_
  refine s_iret rfl rfl ?_
  exact ⟨_, _, rfl, rfl, z4, m4⟩
theorem y_defF {h : mj_H} {T n c : Nat} {f : Nat → Nat} (hn : n ≤ 60) (hf : ∀ j, j < n → f j < 65536) (ht : yStr h T n c f) (hb : h.length + 700 < mj_CB) {th : Int32} {sd be : Int64} {wa nw nx : Value} (h4 : mj_rd h 400 = some (yC_ th (.ref T) sd be wa nw nx))  {e : Nat × Nat} (hR : rAll n f = .inl e) : mj_Wp 170 344 (0, [some (.ref 400), none], [], h) (mz_V fun r g => r = .int (nI 0) ∧ mj_rd g 400 = some (yC_ (nI 1) (.ref T) sd be wa nw nx) ∧ mz_mo [400] 330 5300 h g) := by
  have m0 : mz_mo [] 0 0 h h := mz_mo.rf _ _ _ _
  have l0 : h.length = h.length + 0 := rfl
  refine s_new (p' := 3) rfl rfl rfl ?_
  generalize hg1 : h ++ [_] = h1
  have l1 : h1.length = h.length + 1 := by rw [← hg1, List.length_append, l0]; rfl
  have X1 : mj_rd h1 h.length = some (.inr (22, [.null, .int 0, .int 0])) := by rw [← hg1]; exact rd_nw (Nat.blt_eq.mpr (by omega)) l0
  have m1 : mz_mo [] 1 3 h h1 := by rw [← hg1]; exact m0.tr (mz_mo.ap [] _ _) (fun y hy => Or.inl hy) (by omega) (by show 0 + 3 ≤ 3; omega)
  clear hg1
  have z1 := m1.1 400 List.not_mem_nil _ h4
  refine s_sp (p' := 4) (ls' := _) rfl rfl rfl ?_
  refine s_aldn (p' := 5) rfl rfl rfl ?_
  refine s_gf (p' := 8) rfl z1 rfl rfl ?_
  refine c_call (p' := 11) (kc := 168) (ls0 := [_, _]) rfl rfl rfl rfl rfl (mj_rcv_is X1) rfl rfl rfl ?_
  refine s_aldn (p' := 1) rfl rfl rfl ?_
  refine s_primN (p' := 4) (q := 3) rfl rfl rfl rfl rfl rfl rfl rfl ?_
  refine s_aldn (p' := 5) rfl rfl rfl ?_
  refine s_aldn (p' := 6) rfl rfl rfl ?_
  refine s_pf (p' := 9) (fs' := [_, _, _]) rfl (by omega) X1 (Nat.blt_eq.mp rfl) rfl rfl rfl ?_
  generalize hg2 : List.set h1 h.length _ = h2
  have l2 : h2.length = h.length + 1 := by rw [← hg2, List.length_set, l1]
  have m2 : mz_mo [] 1 3 h h2 := by rw [← hg2]; exact mz_mo.s m1 (by omega) X1 rfl (Or.inr (by omega))
  have X2 : mj_rd h2 h.length = some (.inr (22, [.ref T, .int (nI 0), .int (nI 0)])) := by rw [← hg2]; exact rd_set (by omega) X1
  clear hg2
  have r2 : yR h2 h.length T n c f 0 0 := ⟨X2, ht.fr m2.1 List.not_mem_nil (fun _ _ _ => List.not_mem_nil)⟩
  have z2 := m2.1 400 List.not_mem_nil _ h4
  refine c_ret rfl ?_
  refine c_call (p' := 14) (kc := 161) (ls0 := [_]) rfl rfl rfl rfl rfl (mj_rcv_is X2) rfl rfl rfl ?_
  refine ((y_all y_HFl hn hf r2 (by omega) (by omega))).imp ?_
  rintro _ (⟨s', p, h3, e1, rfl, r3, w3, m3⟩ | ⟨e', e1, q, h3, rfl, t1, t2, t3, m3⟩)
  · cases hR.symm.trans e1
  · cases hR.symm.trans e1
    have m03 : mz_mo [] 330 5300 h h3 := m2.tr m3 (fun y hy => Or.inr (by rw [List.mem_singleton] at hy; omega)) (by omega) (by omega)
    have z3 := m03.1 400 List.not_mem_nil _ h4
    refine K_c (ci := 23) (hp := 83) (Nat.blt_eq.mpr t1) (mj_ocl_is t3) rfl ?_
    refine s_astn (p' := 84) (ls' := [_, _]) rfl rfl rfl rfl ?_
    refine s_aldn (p' := 85) rfl rfl rfl ?_
    refine s_con (p' := 86) rfl rfl ?_
    refine s_pf (p' := 89) (fs' := [_, _, _, _, _, _, _, _, _, _, _]) rfl (by decide) z3 (Nat.blt_eq.mp rfl) rfl rfl rfl ?_
    refine s_con (p' := 90) rfl rfl ?_
    refine s_iret rfl rfl ?_
    exact ⟨_, _, rfl, rfl, rd_set (by decide) z3, mz_mo.s (m03.wk (fun y hy => by cases hy) (by omega) (by omega)) (by decide) z3 rfl (Or.inl (by simp))⟩
theorem y_def {h : mj_H} {T n c : Nat} {f : Nat → Nat} (hn : n ≤ 60) (hf : ∀ j, j < n → f j < 65536) (ht : yStr h T n c f) (hb : h.length + 700 < mj_CB) {th : Int32} {sd be : Int64} {wa nw nx : Value} (h4 : mj_rd h 400 = some (yC_ th (.ref T) sd be wa nw nx)) {I : Nat → Prop} {np Ep : Nat} {N : Nat → Nat} {F : Nat → Nat → Nat} {K : Nat → Nat} {X : Nat → Nat → Nat → Nat} {PF : Nat → Nat} (hl : yLi I h np N F K X PF Ep) (hI4 : ∀ a, I a → a ≠ 400 ∧ a ≠ 401 ∧ a ≠ Ep) (hIl : ∀ a, I a → a < h.length) (hnp : np < 6) {s0 : PS} (hR : rAll n f = .inr s0) : mj_Wp 170 344 (0, [some (.ref 400), none], [], h) (mz_V fun r g => r = .int (nI np) ∧ mj_rd g 400 = some (yC_ (nI 0) (.ref 1000300) sd be wa nw nx) ∧ ∃ D E', yLi (fun a => dJ I h T a ∧ a ≠ E') g (np + 1) (updN3 N np n) (updN3 F np f) (updN3 K np s0.2.1) (updN3 X np s0.2.2) (updN3 PF np D) E' ∧ (E' = Ep ∨ h.length ≤ E') ∧ E' < mj_CB ∧ mz_mo [400, 401, Ep] 450 8500 h g) := by
  have m0 : mz_mo [] 0 0 h h := mz_mo.rf _ _ _ _
  have l0 : h.length = h.length + 0 := rfl
  refine s_new (p' := 3) rfl rfl rfl ?_
  generalize hg1 : h ++ [_] = h1
  have l1 : h1.length = h.length + 1 := by rw [← hg1, List.length_append, l0]; rfl
  have X1 : mj_rd h1 h.length = some (.inr (22, [.null, .int 0, .int 0])) := by rw [← hg1]; exact rd_nw (Nat.blt_eq.mpr (by omega)) l0
  have m1 : mz_mo [] 1 3 h h1 := by rw [← hg1]; exact m0.tr (mz_mo.ap [] _ _) (fun y hy => Or.inl hy) (by omega) (by show 0 + 3 ≤ 3; omega)
  clear hg1
  have z1 := m1.1 400 List.not_mem_nil _ h4
  refine s_sp (p' := 4) (ls' := _) rfl rfl rfl ?_
  refine s_aldn (p' := 5) rfl rfl rfl ?_
  refine s_gf (p' := 8) rfl z1 rfl rfl ?_
  refine c_call (p' := 11) (kc := 168) (ls0 := [_, _]) rfl rfl rfl rfl rfl (mj_rcv_is X1) rfl rfl rfl ?_
  refine s_aldn (p' := 1) rfl rfl rfl ?_
  refine s_primN (p' := 4) (q := 3) rfl rfl rfl rfl rfl rfl rfl rfl ?_
  refine s_aldn (p' := 5) rfl rfl rfl ?_
  refine s_aldn (p' := 6) rfl rfl rfl ?_
  refine s_pf (p' := 9) (fs' := [_, _, _]) rfl (by omega) X1 (Nat.blt_eq.mp rfl) rfl rfl rfl ?_
  generalize hg2 : List.set h1 h.length _ = h2
  have l2 : h2.length = h.length + 1 := by rw [← hg2, List.length_set, l1]
  have m2 : mz_mo [] 1 3 h h2 := by rw [← hg2]; exact mz_mo.s m1 (by omega) X1 rfl (Or.inr (by omega))
  have X2 : mj_rd h2 h.length = some (.inr (22, [.ref T, .int (nI 0), .int (nI 0)])) := by rw [← hg2]; exact rd_set (by omega) X1
  clear hg2
  have r2 : yR h2 h.length T n c f 0 0 := ⟨X2, ht.fr m2.1 List.not_mem_nil (fun _ _ _ => List.not_mem_nil)⟩
  have z2 := m2.1 400 List.not_mem_nil _ h4
  refine c_ret rfl ?_
  refine c_call (p' := 14) (kc := 161) (ls0 := [_]) rfl rfl rfl rfl rfl (mj_rcv_is X2) rfl rfl rfl ?_
  refine ((y_all y_HFl hn hf r2 (by omega) (by omega))).imp ?_
  rintro _ (⟨s', p, h3, e1, rfl, r3, w3, m3⟩ | ⟨e, e1, q, h3, rfl, t1, t2, t3, m3⟩)
  rotate_left
  · cases hR.symm.trans e1
  show mj_Wp _ _ (14, _, _, _) _
  try dsimp only
  cases hR.symm.trans e1
  have hs := (rAll_t hf hR).2.2
  have m03 : mz_mo [] 310 5000 h h3 := m2.tr m3 (fun y hy => Or.inr (by rw [List.mem_singleton] at hy; omega)) (by omega) (by omega)
  have z3 := m03.1 400 List.not_mem_nil _ h4
  have u3 := mo_le m03
  refine s_astn (p' := 15) (ls' := [_, _]) rfl rfl rfl rfl ?_
  refine s_aldn (p' := 16) rfl rfl rfl ?_
  refine s_aldn (p' := 17) rfl rfl rfl ?_
  refine s_gf (p' := 20) rfl z3 rfl rfl ?_
  have y3 : yLs h3 401 Ep np PF := hl.1.fr m03.1 List.not_mem_nil List.not_mem_nil (fun _ _ => List.not_mem_nil)
  obtain ⟨mc3, c3⟩ := y3.c
  refine s_callV (p' := 25) (ls0 := [_]) rfl rfl rfl rfl rfl (mj_rcv_is c3) rfl (y_siz c3) (by first | decide | omega) rfl ?_
  refine s_bip (p' := 27) rfl rfl ?_
  refine s_icmp (p' := 34) true rfl ((ci_ne (by omega) (by omega)).trans (decide_eq_true (by omega))) rfl ?_
  refine s_con (p' := 35) rfl rfl ?_
  refine c_call (p' := 38) (kc := 100) (ls0 := [_, _]) rfl rfl rfl rfl rfl (mj_rcv_is z3) rfl rfl rfl ?_
  refine s_aldn (p' := 1) rfl rfl rfl ?_
  refine s_ildn (p' := 2) rfl rfl rfl ?_
  refine s_pf (p' := 5) (fs' := [_, _, _, _, _, _, _, _, _, _, _]) rfl (by decide) z3 (Nat.blt_eq.mp rfl) rfl rfl rfl ?_
  generalize hgh4_ : List.set h3 400 _ = h4_
  have z4 : mj_rd h4_ 400 = some (yC_ (nI 0) (.ref T) sd be wa nw nx) := by rw [← hgh4_]; exact rd_set (by decide) z3
  have m4 : mz_mo [400] 310 5000 h h4_ := by rw [← hgh4_]; exact mz_mo.s (m03.wk (fun y hy => by cases hy) (by omega) (by omega)) (by decide) z3 rfl (Or.inl (by simp))
  have k4 : mz_fr [400] h3 h4_ := by rw [← hgh4_]; exact mz_fr.s (by simp) (mz_fr.rf _ _)
  have l4 : h4_.length = h3.length := by rw [← hgh4_]; exact List.length_set
  clear hgh4_
  refine s_ildn (p' := 6) rfl rfl rfl ?_
  refine s_if (p' := 13) true rfl (by decide +kernel) rfl ?_
  refine s_con (p' := 14) rfl rfl ?_
  refine c_iret rfl rfl ?_
  refine s_if (p' := 43) true rfl (by decide +kernel) rfl ?_
  refine s_aldn (p' := 44) rfl rfl rfl ?_
  refine s_gf (p' := 47) rfl z4 rfl rfl ?_
  refine s_newz (p' := 50) (a := h4_.length) rfl rfl rfl rfl ?_
  generalize hg5 : h4_ ++ [_] = h5
  have D5 : mj_rd h5 h4_.length = some (.inr (26, [.null, .null, .null])) := by rw [← hg5]; exact rd_nw (Nat.blt_eq.mpr (by omega)) rfl
  have z5 : mj_rd h5 400 = some (yC_ (nI 0) (.ref T) sd be wa nw nx) := by rw [← hg5]; exact rd_app z4
  have l400 := rd_len (by decide) h4
  have l401 := (ls_len hl.1).1
  have k5 : mz_mo [] 1 3 h4_ h5 := by rw [← hg5]; exact mz_mo.ap [] _ _
  have l5 : h5.length = h4_.length + 1 := by rw [← hg5]; exact List.length_append
  clear hg5
  have m5 : mz_mo [400] 311 5004 h h5 := m4.tr k5 (fun y hy => by cases hy) (by omega) (by omega)
  have hIB : ∀ a, dJ0 I h T h4_.length a → a < h4_.length := fun a ha => ha.2
  have e1 : mj_CB = 1000000 := rfl
  have mv5 : Mv (frI h2) (dJ0 I h T h4_.length) [400] h3 h5 := ⟨fun a q c0 hc0 => k5.1 a List.not_mem_nil _ (k4 a q _ hc0), fun a ha => ha.2, fun a ha hlt => ⟨by have := ha.1; simp only [List.mem_singleton]; omega, Or.inr (Or.inr (Or.inr ⟨by have := ha.1; omega, ha.2⟩)), by omega⟩⟩
  have w5 : yRow (dJ0 I h T h4_.length) h5 s0.2.2 6 p 0 s0.2.1 := rwP.mv mv5 (fun p a b _ _ => yPt.mv mv5 6 p a b (fun _ _ _ _ _ => rfl)) (fun p a b => yPt.lt 6 p a b) w3
  have tl : T < h.length ∨ mj_CB ≤ T := by obtain ⟨_, _, _, k, _⟩ := ht; exact rdN k
  have hbl : ∀ (B : Nat) (rs : List Value), mj_rd h T = some (.inr (21, .ref B :: rs)) → B < h.length ∨ mj_CB ≤ B := fun B rs k => by
    obtain ⟨_, B', rs', k', bf, b1, _⟩ := ht
    rw [k'] at k
    have e : @Eq Nat B' B := Value.ref.inj (List.cons.inj (Prod.mk.inj (Sum.inr.inj (Option.some.inj k))).2).1
    rw [← e]; exact rdN b1
  have T4 : T ≠ 400 := fun e => by obtain ⟨_, _, _, k, _⟩ := ht; rw [e, h4] at k; cases k
  have B4 : ∀ (B : Nat) (rs : List Value), mj_rd h T = some (.inr (21, .ref B :: rs)) → B ≠ 400 := fun B rs k e => by
    obtain ⟨_, B', rs', k', bf, b1, _⟩ := ht
    rw [k'] at k
    have e2 : @Eq Nat B' B := Value.ref.inj (List.cons.inj (Prod.mk.inj (Sum.inr.inj (Option.some.inj k))).2).1
    rw [e2, e, h4] at b1; cases b1
  have ht5 : yStI (dJ0 I h T h4_.length) h5 T n f := by
    refine ⟨c, ht.fr m5.1 (by simpa only [List.mem_singleton] using T4) (fun B rs k => by simpa only [List.mem_singleton] using B4 B rs k), ?_, fun B rs k => ?_⟩
    · rcases tl with q | q
      · exact Or.inl ⟨Or.inr (Or.inl ⟨rfl, by omega⟩), by omega⟩
      · exact Or.inr q
    · have k0 : mj_rd h T = some (.inr (21, .ref B :: rs)) := by
        obtain ⟨_, B', rs', k', _⟩ := ht
        have := m5.1 T (by simpa only [List.mem_singleton] using T4) _ k'
        rw [this] at k; rw [k']; exact k
      rcases hbl B rs k0 with q | q
      · exact Or.inl ⟨Or.inr (Or.inr (Or.inl ⟨⟨rs, k0⟩, by omega⟩)), by omega⟩
      · exact Or.inr q
  have hE4 : Ep ≠ 400 := fun e => by obtain ⟨_, y, q2⟩ := ls_kd hl.1; rw [e, h4] at q2; cases q2
  have hK30 := rAll_K hn hf hR
  have hA := fun j hj => (rAll_t hf hR).1.act j (Nat.zero_le j) hj
  refine s_sp (p' := 51) (ls' := _) rfl rfl rfl ?_
  refine s_aldn (p' := 52) rfl rfl rfl ?_
  refine s_aldn (p' := 53) rfl rfl rfl ?_
  refine s_gf (p' := 56) rfl z5 rfl rfl ?_
  refine s_callEN (p' := 59) (ls0 := [_, _, _]) rfl rfl rfl rfl rfl (mj_rcv_is D5) rfl (y_prI (B := h4_.length) (fun a ha => by have := ha.2; omega) hA hK30 hIB (Nat.le_refl _) (by omega) D5 (by omega) w5 ht5 (by omega)) rfl rfl ?_
  rintro h6 ⟨pr6, m6⟩
  have u6 := mo_le m6
  have z6 := m6.1 400 (by simp only [List.mem_singleton]; omega) _ z5
  have y5 : yLs h5 401 Ep np PF := hl.1.fr m5.1 (by simp) (by simp only [List.mem_singleton]; exact hE4) (fun j hj => by simp only [List.mem_singleton]; exact (hI4 _ (hl.2.2 j hj).i).1)
  have y6 : yLs h6 401 Ep np PF := y5.fr m6.1 (by simp only [List.mem_singleton]; omega) (by simp only [List.mem_singleton]; have := (ls_len hl.1).2; omega) (fun j hj => by obtain ⟨_, q⟩ := (hl.2.2 j hj).D; have := rdN q; simp only [List.mem_singleton]; omega)
  have gq : gE h6 h4_.length := by obtain ⟨_, q⟩ := pr6.D; exact ⟨26, _, q, by decide, by decide⟩
  obtain ⟨mc6, c6⟩ := y6.c
  refine s_callEV (p' := 64) (ls0 := [_, _]) rfl rfl rfl rfl rfl (mj_rcv_is c6) rfl (y_ad (by decide) (by omega) (by omega) y6 gq) rfl rfl ?_
  rintro _ h7 ⟨rfl, E7, y7, hE7, bE7, m7⟩
  have u7 := mo_le m7
  have hEn : (400 : Nat) ∉ [401, Ep] := by
    simp only [List.mem_cons, List.not_mem_nil, or_false]
    intro q
    rcases q with q | q
    · omega
    · obtain ⟨_, y, q2⟩ := ls_kd y6
      rw [← q, z6] at q2; cases q2
  have z7 := m7.1 400 hEn _ z6
  obtain ⟨mc7, c7⟩ := y7.c
  refine s_sp (p' := 65) (ls' := _) rfl rfl rfl ?_
  refine s_aldn (p' := 66) rfl rfl rfl ?_
  refine s_sh (p' := 68) (ls' := _) (st' := .ref 1000300 :: _) (h' := _) rfl rfl rfl rfl ?_
  refine s_pf (p' := 71) (fs' := [_, _, _, _, _, _, _, _, _, _, _]) rfl (by decide) z7 (Nat.blt_eq.mp rfl) rfl rfl rfl ?_
  have hE7' := (ls_len hl.1).2
  have m67 : mz_mo [400, 401, Ep] 434 8033 h h7 := by
    have q6 := m5.tr m6 (fun y hy => Or.inr (by rw [List.mem_singleton.mp hy]; omega)) (show 311 + (4 * s0.2.1 + 2) ≤ 433 by omega) (show 5004 + (100 * s0.2.1 + 7) ≤ 8011 by omega)
    exact (q6.wk (L' := [400, 401, Ep]) (fun y hy => Or.inl (by rw [List.mem_singleton.mp hy]; simp)) (Nat.le_refl _) (Nat.le_refl _)).tr m7 (fun y hy => Or.inl (List.mem_cons_of_mem _ hy)) (by omega) (by omega)
  generalize hg8 : List.set h7 400 _ = h8
  have z8 : mj_rd h8 400 = some (yC_ (nI 0) (.ref 1000300) sd be wa nw nx) := by rw [← hg8]; exact rd_set (by decide) z7
  have k8 : mz_fr [400] h7 h8 := by rw [← hg8]; exact mz_fr.s (by simp) (mz_fr.rf _ _)
  have m8 : mz_mo [400, 401, Ep] 434 8033 h h8 := by rw [← hg8]; exact mz_mo.s m67 (by decide) z7 rfl (Or.inl (by simp))
  have c8 : mj_rd h8 401 = some (alC E7 (np + 1) mc7) := by rw [← hg8]; exact (rd_setn (by decide)).trans c7
  clear hg8
  have hIc : ∀ a, I a → a < mj_CB := fun a ha => by have := hIl a ha; omega
  have kd6 : ∀ a, dJ0 I h T h4_.length a → a ∉ [400, 401, Ep] := fun a ha => by
    simp only [List.mem_cons, List.not_mem_nil, or_false]
    rcases ha.1 with q | q
    · have := hI4 a q; omega
    · by_cases q2 : I a
      · have := hI4 a q2; omega
      · by_cases q3 : a < h.length
        · intro q4
          rcases dJ.kd ht ha.1 q3 q2 with ⟨fs, r⟩ | ⟨y, r⟩
          · rcases q4 with q4 | q4 | q4
            · rw [q4, h4] at r; cases r
            · obtain ⟨⟨_, r2⟩, _⟩ := ls_kd hl.1; rw [q4, r2] at r; cases r
            · obtain ⟨_, y, r2⟩ := ls_kd hl.1; rw [q4, r2] at r; cases r
          · rcases q4 with q4 | q4 | q4
            · rw [q4, h4] at r; cases r
            · obtain ⟨⟨_, r2⟩, _⟩ := ls_kd hl.1; rw [q4, r2] at r; cases r
            · obtain ⟨_, y, r2⟩ := ls_kd hl.1; rw [q4, r2] at r; cases r
        · have := ha.2
          have l401 := (ls_len hl.1).1
          have l400 := rd_len (by decide) h4
          omega
  have mvP : Mv (fun a => dJ0 I h T h4_.length a ∨ dJ0 I h T h4_.length a ∨ h4_.length ≤ a ∧ a < mj_CB) (fun a => dJ I h T a ∧ a ≠ E7) [400, 401, Ep] h6 h8 := ⟨fun a q c0 hc0 => k8 a (fun q2 => q (by rw [List.mem_singleton.mp q2]; simp)) _ (m7.1 a (fun q2 => q (List.mem_cons_of_mem _ q2)) _ hc0), fun a ha => ha.elim (fun q => by have := q.2; omega) (fun q => q.elim (fun q => by have := q.2; omega) (fun q => q.2)), fun a ha hlt => by
    have ne7 : a ∉ [400, 401, Ep] → a ≠ E7 := fun q1 e => by
      rcases hE7 with q2 | q2
      · exact q1 (by rw [e, q2]; simp)
      · omega
    rcases ha with q | q | q
    · exact ⟨kd6 a q, q.1, ne7 (kd6 a q)⟩
    · exact ⟨kd6 a q, q.1, ne7 (kd6 a q)⟩
    · have nm : a ∉ [400, 401, Ep] := by
        have l401 := (ls_len hl.1).1
        have l400 := rd_len (by decide) h4
        simp only [List.mem_cons, List.not_mem_nil, or_false]
        omega
      exact ⟨nm, Or.inr (Or.inr (Or.inr ⟨by omega, q.2⟩)), ne7 nm⟩⟩
  have mvO : Mv I (fun a => dJ I h T a ∧ a ≠ E7) [400, 401, Ep] h h8 := ⟨m8.1, hIc, fun a ha _ => ⟨by have := hI4 a ha; simp only [List.mem_cons, List.not_mem_nil, or_false]; omega, Or.inl ha, by have := hI4 a ha; have := hIl a ha; omega⟩⟩
  have y8 : yLs h8 401 E7 (np + 1) (upN PF np h4_.length) := y7.fr k8 (by simp) (by simp only [List.mem_singleton]; intro e; obtain ⟨_, y, q2⟩ := ls_kd y7; rw [e, z7] at q2; cases q2) (fun j hj => by
    simp only [List.mem_singleton]
    unfold upN
    by_cases q : j = np
    · rw [if_pos q]; have l400 := rd_len (by decide) h4; omega
    · rw [if_neg q]; exact (hI4 _ (hl.2.2 j (by omega)).i).1)
  refine s_aldn (p' := 72) rfl rfl rfl ?_
  refine s_gf (p' := 75) rfl z8 rfl rfl ?_
  refine s_callV (p' := 80) (ls0 := [_]) rfl rfl rfl rfl rfl (mj_rcv_is c8) rfl (y_siz c8) (by first | decide | omega) rfl ?_
  refine s_con (p' := 81) rfl rfl ?_
  refine s_sp (p' := 82) (ls' := _) rfl rfl rfl ?_
  rw [mI_sub (by omega), Nat.add_sub_cancel]
  refine s_iret rfl rfl ?_
  refine ⟨_, _, rfl, rfl, z8, h4_.length, E7, ⟨y8, fun a ha => dJ.lt hIc a ha.1, fun q hq => ?_⟩, ?_, bE7, m8.wk (fun y hy => Or.inl hy) (by decide) (by decide)⟩
  · by_cases z : q = np
    · rw [z, updN3_s, updN3_s, updN3_s, updN3_s, updN3_s]
      exact pr6.mv mvP
    · rw [updN3_n z, updN3_n z, updN3_n z, updN3_n z, updN3_n z]
      exact (hl.2.2 q (by omega)).mv mvO
  · rcases hE7 with q | q
    · exact Or.inl q
    · exact Or.inr (by omega)
