/-! The reference: rows of parts turned. -/
/-- where the next part begins -/
def nxA (x : Nat → Nat → Nat) (a : Nat) : Nat := if brS (x a 0) = true then x a 7 + 1 else a + 1
theorem sOk.nb {A : Nat → Nat} (h : sOk A) : ¬ brS (A 0) = true := brS_f (by have := h.1; omega)
theorem tPt.nx {x : Nat → Nat → Nat} {d a b : Nat} (t : tPt x d a b) : b = nxA x a := by
  have key : (sOk (x a) ∧ b = a + 1) ∨ ∃ m e, b = e + 1 ∧ bOk x a m e := by
    cases d with
    | zero => exact Or.inl t
    | succ d =>
      rcases t with t | ⟨m, e, h1, h2, _⟩
      · exact Or.inl t
      · exact Or.inr ⟨m, e, h1, h2⟩
  unfold nxA
  rcases key with ⟨s, e⟩ | ⟨m, e, h1, h2⟩
  · rw [if_neg s.nb]; exact e
  · have sg := h2.1
    have l := h2.2.2.2.2.2.2.1.2.2
    rw [if_pos (brS_t (by omega)), l]
    exact h1
theorem yPt.nx {I : Nat → Prop} {h : mj_H} {x : Nat → Nat → Nat} {d p a b : Nat} (t : yPt I h x d p a b) : b = nxA x a := by
  unfold nxA
  cases d with
  | zero => rw [if_neg (by rw [t.1.1]; decide)]; exact t.2
  | succ d =>
    rcases t with t | ⟨m, e, S1, S2, R1, R2, s1, s2, q1, q2, q3, q4, _⟩
    · rw [if_neg (by rw [t.1.1]; decide)]; exact t.2
    · rw [if_pos (brS_t (by omega)), q4]; exact q1
theorem seq_det {f : Nat → Nat} {ks kw : Nat → Nat} : ∀ (c c' : Nat), ks 0 = kw 0 → ks c = kw c' → (∀ j, j < c → ks (j + 1) = f (ks j)) → (∀ j, j < c' → kw (j + 1) = f (kw j)) → (∀ j, j < c → ks j < ks (j + 1)) → (∀ j, j < c' → kw j < kw (j + 1)) → c = c' ∧ ∀ j, j ≤ c → ks j = kw j := by
  intro c c' h0 hc hs hw ls lw
  have ag : ∀ j, j ≤ c → j ≤ c' → ks j = kw j := by
    intro j
    induction j with
    | zero => exact fun _ _ => h0
    | succ j ih =>
      intro q1 q2
      rw [hs j (by omega), hw j (by omega), ih (by omega) (by omega)]
  have ms : ∀ i j, i + j ≤ c → ks i + j ≤ ks (i + j) := by
    intro i j
    induction j with
    | zero => exact fun _ => Nat.le_refl _
    | succ j ih =>
      intro q
      have := ih (by omega)
      have := ls (i + j) (by omega)
      rw [show i + (j + 1) = i + j + 1 by omega]
      omega
  have mw : ∀ i j, i + j ≤ c' → kw i + j ≤ kw (i + j) := by
    intro i j
    induction j with
    | zero => exact fun _ => Nat.le_refl _
    | succ j ih =>
      intro q
      have := ih (by omega)
      have := lw (i + j) (by omega)
      rw [show i + (j + 1) = i + j + 1 by omega]
      omega
  have e : c = c' := by
    rcases Nat.lt_trichotomy c c' with q | q | q
    · have a1 := ag c (Nat.le_refl _) (by omega)
      have a2 := mw c (c' - c) (by omega)
      rw [show c + (c' - c) = c' by omega] at a2
      omega
    · exact q
    · have a1 := ag c' (by omega) (Nat.le_refl _)
      have a2 := ms c' (c - c') (by omega)
      rw [show c' + (c - c') = c by omega] at a2
      omega
  exact ⟨e, fun j hj => ag j hj (by omega)⟩
theorem wSq.at {x y : Nat → Nat → Nat} {d k k' s c : Nat} {ks : Nat → Nat} (w : wSq (wPt x y d) k k' s) (h0 : ks 0 = k) (hc : ks c = k') (hn : ∀ j, j < c → ks (j + 1) = nxA x (ks j)) (hl : ∀ j, j < c → ks j < ks (j + 1)) : ∀ j, j < c → wPt x y d (ks j) (ks (j + 1)) (s + k' - ks (j + 1)) := by
  obtain ⟨hk, c2, kw, r0, rc, rj, rm⟩ := w.S (fun a b a' q => wPt.lt d a b a' q)
  obtain ⟨e, ag⟩ := seq_det (f := nxA x) (ks := ks) (kw := kw) c c2 (by rw [h0, r0]) (by rw [hc, rc]) hn (fun j hj => (wPt.t d _ _ _ (rj j hj)).nx) hl (fun j hj => wPt.lt d _ _ _ (rj j hj))
  subst e
  intro j hj
  rw [ag j (by omega), ag (j + 1) (by omega)]
  exact rj j hj
/-! rows while they are made, over shared cells I -/
def bI (I : Nat → Prop) (h : mj_H) (a : Nat) : Prop := I a ∨ frI h a
def bPI (I : Nat → Prop) (h : mj_H) (Lr E : Nat) (a : Nat) : Prop := bI I h a ∧ a ≠ Lr ∧ a ≠ E
def rowB (I : Nat → Prop) (h g : mj_H) (Lr E c : Nat) (ps ks : Nat → Nat) (A : Nat → Nat → Nat) (d k k1 : Nat) : Prop := yLs g Lr E c ps ∧ frI h Lr ∧ (E = 1000000 ∨ frI h E) ∧ ks 0 = k ∧ ks c = k1 ∧ ∀ j, j < c → bPI I h Lr E (ps j) ∧ yPt (bPI I h Lr E) g A d (ps j) (ks j) (ks (j + 1))
theorem bI.lt {I : Nat → Prop} {h : mj_H} (hI : ∀ a, I a → a < mj_CB) : ∀ a, bI I h a → a < mj_CB := fun a ha => ha.elim (hI a) (fun q => q.2)
theorem rowB.fin {I : Nat → Prop} {h g : mj_H} {Lr E c : Nat} {ps ks : Nat → Nat} {A : Nat → Nat → Nat} {d k k1 : Nat} (hI : ∀ a, I a → a < mj_CB) (r : rowB I h g Lr E c ps ks A d k k1) : yRow (bI I h) g A d Lr k k1 := by
  obtain ⟨l, i1, i2, k0, kc, hj⟩ := r
  have m : Mv (bPI I h Lr E) (bI I h) [] g g := ⟨mz_fr.rf _ _, fun a ha => bI.lt hI a ha.1, fun a ha _ => ⟨by simp, ha.1⟩⟩
  exact ⟨E, c, ps, ks, l, Or.inr i1, i2.symm.imp (fun q => Or.inr q) id, k0, kc, fun j h1 => ⟨(hj j h1).1.1, yPt.mv m d _ _ _ (fun _ _ _ _ _ => rfl) (hj j h1).2⟩⟩
theorem rowB.nil {I : Nat → Prop} {h g : mj_H} {Lr : Nat} {A : Nat → Nat → Nat} {d k : Nat} (hL : mj_rd g Lr = some (alC 1000000 0 (nI 0))) (i : frI h Lr) : rowB I h g Lr 1000000 0 (fun _ => 0) (fun _ => k) A d k k :=
  ⟨⟨0, nI 0, fun _ => none, hL, mj_rdA_cst (k_0 _) (by decide), Nat.le_refl 0, by decide, Or.inr ⟨rfl, rfl⟩, fun i hi => absurd hi (Nat.not_lt_zero i)⟩, i, Or.inl rfl, rfl, rfl, fun j hj => absurd hj (Nat.not_lt_zero j)⟩
theorem rowB.mv0 {I : Nat → Prop} {h g g1 : mj_H} {Lr E c : Nat} {ps ks : Nat → Nat} {A : Nat → Nat → Nat} {d k k1 : Nat} (hI : ∀ a, I a → a < mj_CB) (e : mz_fr [] g g1) (r : rowB I h g Lr E c ps ks A d k k1) : rowB I h g1 Lr E c ps ks A d k k1 := by
  obtain ⟨l, i1, i2, k0, kc, hj⟩ := r
  have m : Mv (bPI I h Lr E) (bPI I h Lr E) [] g g1 := ⟨e, fun a ha => bI.lt hI a ha.1, fun a ha _ => ⟨by simp, ha⟩⟩
  exact ⟨l.fr e (by simp) (by simp) (fun _ _ => by simp), i1, i2, k0, kc, fun j hjc => ⟨(hj j hjc).1, yPt.mv m d _ _ _ (fun _ _ _ _ _ => rfl) (hj j hjc).2⟩⟩
theorem rowB.ad {I : Nat → Prop} {h g g1 g2 : mj_H} {Lr E E' c q K Z : Nat} {ps ks : Nat → Nat} {A : Nat → Nat → Nat} {d k k1 k2 : Nat} (hI : ∀ a, I a → a < mj_CB) (hIl : ∀ a, I a → a < h.length) (r : rowB I h g1 Lr E c ps ks A d k k1) (hl : yLs g2 Lr E' (c + 1) (upN ps c q)) (hE : E' = E ∨ E' = g1.length) (hB : E' < mj_CB) (ml : mz_mo [Lr, E] K Z g1 g2) (pt : yPt (bI I g) g1 A d q k1 k2) (hg : h.length ≤ g.length ∧ Lr < g.length ∧ (E = 1000000 ∨ E < g.length)) (h1 : g.length ≤ g1.length) : rowB I h g2 Lr E' (c + 1) (upN ps c q) (fun j => if j = c + 1 then k2 else ks j) A d k k2 := by
  obtain ⟨l, i1, i2, k0, kc, hj⟩ := r
  have hl1 : h.length ≤ g1.length := by omega
  have e1 : mj_CB = 1000000 := rfl
  have i1' := i1.1
  have i2' : E = 1000000 ∨ h.length ≤ E := i2.imp id (fun q => q.1)
  have m : Mv (bPI I h Lr E) (bPI I h Lr E') [Lr, E] g1 g2 := ⟨ml.1, fun a ha => bI.lt hI a ha.1, fun a ha hlt => ⟨by have := ha.2; simp only [List.mem_cons, List.not_mem_nil, or_false]; omega, ha.1, ha.2.1, by have := ha.2.2; omega⟩⟩
  have m2 : Mv (bI I g) (bPI I h Lr E') [Lr, E] g1 g2 := ⟨ml.1, fun a ha => bI.lt hI a ha, fun a ha hlt => by
    rcases ha with ha | ha
    · have h3 := hIl a ha
      have h4 := hI a ha
      exact ⟨by simp only [List.mem_cons, List.not_mem_nil, or_false]; omega, Or.inl ha, by omega, by omega⟩
    · have h3 := ha.1
      have h4 := ha.2
      exact ⟨by simp only [List.mem_cons, List.not_mem_nil, or_false]; omega, Or.inr ⟨by omega, h4⟩, by omega, by omega⟩⟩
  have pt2 := yPt.mv m2 d _ _ _ (fun _ _ _ _ _ => rfl) pt
  have hE2 : frI h E' := by
    rcases hE with rfl | rfl
    · rcases i2 with i2 | i2
      · omega
      · exact i2
    · exact ⟨hl1, hB⟩
  refine ⟨hl, i1, Or.inr hE2, by show (if 0 = c + 1 then k2 else ks 0) = k; rw [if_neg (by omega)]; exact k0, if_pos rfl, fun j hjc => ?_⟩
  show bPI I h Lr E' (if j = c then q else ps j) ∧ yPt (bPI I h Lr E') g2 A d (if j = c then q else ps j) (if j = c + 1 then k2 else ks j) (if j + 1 = c + 1 then k2 else ks (j + 1))
  rw [if_neg (c := j = c + 1) (by omega)]
  by_cases z : j = c
  · rw [if_pos z, if_pos (by omega), z, kc]
    exact ⟨pt2.ge.2, pt2⟩
  · rw [if_neg z, if_neg (by omega)]
    have t := yPt.mv m d _ _ _ (fun _ _ _ _ _ => rfl) (hj j (by omega)).2
    exact ⟨t.ge.2, t⟩
theorem y_bk33 {g : mj_H} {p : Nat} {A : Nat → Nat} {bb : Int32} {vv : Value} (hP : mj_rd g p = some (ptC (nI (A 0)) (nI (A 1)) bb vv .null .null .null .null)) (h0 : A 0 = 33) (hv : vv = .null ∨ ∃ S, vv = .ref S) (hb : g.length + 20 < mj_CB) : mj_Wp 6 362 (0, [some (.ref p), none, none], [], g) (mz_V fun r g' => r = .ref g.length ∧ mj_rd g' g.length = some (ptC (nI 63) (nI (A 1)) bb vv .null .null .null .null) ∧ mz_mo [] 1 8 g g') := by
  refine s_sh (p' := 2) (ls' := _) (st' := .ref 1000308 :: _) (h' := _) rfl rfl rfl rfl ?_
  refine s_aldn (p' := 3) rfl rfl rfl ?_
  refine s_gf (p' := 6) rfl hP rfl rfl ?_
  rw [h0]
  refine s_callV (p' := 9) (ls0 := [_, _]) rfl rfl rfl rfl rfl (mj_rcv_is (k_308 _)) rfl (y_io308 (c := 33) (by decide)) (by first | decide | omega) rfl ?_
  rw [show (if 33 < 256 then fIdx tl_308 33 6 0 else 4294967295) = 2 from by decide]
  refine s_istn (p' := 10) (ls' := [_, _, _]) rfl rfl rfl rfl ?_
  refine s_newz (p' := 13) (a := g.length) rfl rfl rfl rfl ?_
  have hQp : g.length ≠ p := by have := rdN hP; have e1 : mj_CB = 1000000 := rfl; omega
  have bQ : g.length < mj_CB := by omega
  generalize hg1 : g ++ [_] = h1
  have P1 : mj_rd h1 p = some (ptC (nI (A 0)) (nI (A 1)) bb vv .null .null .null .null) := by rw [← hg1]; exact rd_app hP
  have Q1 : mj_rd h1 g.length = some (ptC 0 0 0 .null .null .null .null .null) := by rw [← hg1]; exact rd_nw (Nat.blt_eq.mpr (by omega)) rfl
  have m1 : mz_mo [] 1 8 g h1 := by rw [← hg1]; exact mz_mo.ap [] _ _
  have l1 : h1.length = g.length + 1 := by rw [← hg1]; exact List.length_append
  clear hg1
  refine s_sp (p' := 14) (ls' := _) rfl rfl rfl ?_
  refine s_ildn (p' := 15) rfl rfl rfl ?_
  refine s_if (p' := 25) true rfl (by decide +kernel) rfl ?_
  refine s_sh (p' := 27) (ls' := _) (st' := .ref 1000308 :: _) (h' := _) rfl rfl rfl rfl ?_
  refine s_ildn (p' := 28) rfl rfl rfl ?_
  refine s_con (p' := 29) rfl rfl ?_
  refine s_sp (p' := 30) (ls' := _) rfl rfl rfl ?_
  rw [show nI 2 ^^^ nI 1 = nI 3 from by decide +kernel]
  refine s_callV (p' := 33) (ls0 := [_, _]) rfl rfl rfl rfl rfl (mj_rcv_is (k_308 _)) rfl (y_chr0 (ks_308 _) (by decide) (by decide)) (by first | decide | omega) rfl ?_
  rw [show tl_308 3 = 63 from rfl]
  refine c_call (p' := 36) (kc := 5) (ls0 := [_, _]) rfl rfl rfl rfl rfl (mj_rcv_is Q1) rfl (Nat.ble_eq.mpr (by omega)) rfl ?_
  refine s_aldn (p' := 1) rfl rfl rfl ?_
  refine s_primN (p' := 4) (q := 3) rfl rfl rfl rfl rfl rfl rfl rfl ?_
  refine s_aldn (p' := 5) rfl rfl rfl ?_
  refine s_ildn (p' := 6) rfl rfl rfl ?_
  refine s_pf (p' := 9) (fs' := [_, _, _, _, _, _, _, _]) rfl bQ Q1 (Nat.blt_eq.mp rfl) (by decide +kernel) rfl rfl ?_
  refine c_ret rfl ?_
  refine s_astn (p' := 37) (ls' := [_, _, _]) rfl rfl rfl rfl ?_
  refine s_aldn (p' := 38) rfl rfl rfl ?_
  refine s_aldn (p' := 39) rfl rfl rfl ?_
  refine s_gf (p' := 42) rfl ((rd_setn hQp).trans P1) rfl rfl ?_
  refine s_pf (p' := 45) (fs' := [_, _, _, _, _, _, _, _]) rfl bQ (rd_set bQ Q1) (Nat.blt_eq.mp rfl) rfl rfl rfl ?_
  rw [List.set_set]
  refine s_aldn (p' := 46) rfl rfl rfl ?_
  refine s_aldn (p' := 47) rfl rfl rfl ?_
  refine s_gf (p' := 50) rfl ((rd_setn hQp).trans P1) rfl rfl ?_
  refine s_pf (p' := 53) (fs' := [_, _, _, _, _, _, _, _]) rfl bQ (rd_set bQ Q1) (Nat.blt_eq.mp rfl) rfl rfl rfl ?_
  rw [List.set_set]
  refine s_aldn (p' := 54) rfl rfl rfl ?_
  refine s_aldn (p' := 55) rfl rfl rfl ?_
  refine s_gf (p' := 58) rfl ((rd_setn hQp).trans P1) rfl rfl ?_
  refine s_pf (p' := 61) (fs' := [_, _, _, _, _, _, _, _]) rfl bQ (rd_set bQ Q1) (Nat.blt_eq.mp rfl) (by rcases hv with rfl | ⟨S, rfl⟩ <;> rfl) rfl rfl ?_
  rw [List.set_set]
  refine s_aldn (p' := 62) rfl rfl rfl ?_
  refine s_aldn (p' := 63) rfl rfl rfl ?_
  refine s_gf (p' := 66) rfl ((rd_setn hQp).trans P1) rfl rfl ?_
  refine s_pf (p' := 69) (fs' := [_, _, _, _, _, _, _, _]) rfl bQ (rd_set bQ Q1) (Nat.blt_eq.mp rfl) rfl rfl rfl ?_
  rw [List.set_set]
  refine s_aldn (p' := 70) rfl rfl rfl ?_
  refine s_aldn (p' := 71) rfl rfl rfl ?_
  refine s_gf (p' := 74) rfl ((rd_setn hQp).trans P1) rfl rfl ?_
  refine s_pf (p' := 77) (fs' := [_, _, _, _, _, _, _, _]) rfl bQ (rd_set bQ Q1) (Nat.blt_eq.mp rfl) rfl rfl rfl ?_
  rw [List.set_set]
  refine s_aldn (p' := 78) rfl rfl rfl ?_
  refine s_aldn (p' := 79) rfl rfl rfl ?_
  refine s_gf (p' := 82) rfl ((rd_setn hQp).trans P1) rfl rfl ?_
  refine s_nonnull (p' := 85) (x := none) false rfl rfl rfl ?_
  refine s_sp (p' := 86) (ls' := _) rfl rfl rfl ?_
  refine s_goto (p' := 96) rfl rfl ?_
  refine s_pf (p' := 99) (fs' := [_, _, _, _, _, _, _, _]) rfl bQ (rd_set bQ Q1) (Nat.blt_eq.mp rfl) rfl rfl rfl ?_
  rw [List.set_set]
  refine s_aldn (p' := 100) rfl rfl rfl ?_
  refine s_aldn (p' := 101) rfl rfl rfl ?_
  refine s_gf (p' := 104) rfl ((rd_setn hQp).trans P1) rfl rfl ?_
  refine s_nonnull (p' := 107) (x := none) false rfl rfl rfl ?_
  refine s_sp (p' := 108) (ls' := _) rfl rfl rfl ?_
  refine s_goto (p' := 118) rfl rfl ?_
  refine s_pf (p' := 121) (fs' := [_, _, _, _, _, _, _, _]) rfl bQ (rd_set bQ Q1) (Nat.blt_eq.mp rfl) rfl rfl rfl ?_
  rw [List.set_set]
  refine s_aldn (p' := 122) rfl rfl rfl ?_
  refine s_aret rfl ?_
  exact ⟨_, _, rfl, rfl, rd_set bQ Q1, mz_mo.s m1 bQ Q1 rfl (Or.inr (Nat.le_refl _))⟩
theorem y_bk36 {g : mj_H} {p : Nat} {A : Nat → Nat} {bb : Int32} {vv : Value} (hP : mj_rd g p = some (ptC (nI (A 0)) (nI (A 1)) bb vv .null .null .null .null)) (h0 : A 0 = 36) (hv : vv = .null ∨ ∃ S, vv = .ref S) (hb : g.length + 20 < mj_CB) : mj_Wp 6 362 (0, [some (.ref p), none, none], [], g) (mz_V fun r g' => r = .ref g.length ∧ mj_rd g' g.length = some (ptC (nI 64) (nI (A 1)) bb vv .null .null .null .null) ∧ mz_mo [] 1 8 g g') := by
  refine s_sh (p' := 2) (ls' := _) (st' := .ref 1000308 :: _) (h' := _) rfl rfl rfl rfl ?_
  refine s_aldn (p' := 3) rfl rfl rfl ?_
  refine s_gf (p' := 6) rfl hP rfl rfl ?_
  rw [h0]
  refine s_callV (p' := 9) (ls0 := [_, _]) rfl rfl rfl rfl rfl (mj_rcv_is (k_308 _)) rfl (y_io308 (c := 36) (by decide)) (by first | decide | omega) rfl ?_
  rw [show (if 36 < 256 then fIdx tl_308 36 6 0 else 4294967295) = 5 from by decide]
  refine s_istn (p' := 10) (ls' := [_, _, _]) rfl rfl rfl rfl ?_
  refine s_newz (p' := 13) (a := g.length) rfl rfl rfl rfl ?_
  have hQp : g.length ≠ p := by have := rdN hP; have e1 : mj_CB = 1000000 := rfl; omega
  have bQ : g.length < mj_CB := by omega
  generalize hg1 : g ++ [_] = h1
  have P1 : mj_rd h1 p = some (ptC (nI (A 0)) (nI (A 1)) bb vv .null .null .null .null) := by rw [← hg1]; exact rd_app hP
  have Q1 : mj_rd h1 g.length = some (ptC 0 0 0 .null .null .null .null .null) := by rw [← hg1]; exact rd_nw (Nat.blt_eq.mpr (by omega)) rfl
  have m1 : mz_mo [] 1 8 g h1 := by rw [← hg1]; exact mz_mo.ap [] _ _
  have l1 : h1.length = g.length + 1 := by rw [← hg1]; exact List.length_append
  clear hg1
  refine s_sp (p' := 14) (ls' := _) rfl rfl rfl ?_
  refine s_ildn (p' := 15) rfl rfl rfl ?_
  refine s_if (p' := 25) true rfl (by decide +kernel) rfl ?_
  refine s_sh (p' := 27) (ls' := _) (st' := .ref 1000308 :: _) (h' := _) rfl rfl rfl rfl ?_
  refine s_ildn (p' := 28) rfl rfl rfl ?_
  refine s_con (p' := 29) rfl rfl ?_
  refine s_sp (p' := 30) (ls' := _) rfl rfl rfl ?_
  rw [show nI 5 ^^^ nI 1 = nI 4 from by decide +kernel]
  refine s_callV (p' := 33) (ls0 := [_, _]) rfl rfl rfl rfl rfl (mj_rcv_is (k_308 _)) rfl (y_chr0 (ks_308 _) (by decide) (by decide)) (by first | decide | omega) rfl ?_
  rw [show tl_308 4 = 64 from rfl]
  refine c_call (p' := 36) (kc := 5) (ls0 := [_, _]) rfl rfl rfl rfl rfl (mj_rcv_is Q1) rfl (Nat.ble_eq.mpr (by omega)) rfl ?_
  refine s_aldn (p' := 1) rfl rfl rfl ?_
  refine s_primN (p' := 4) (q := 3) rfl rfl rfl rfl rfl rfl rfl rfl ?_
  refine s_aldn (p' := 5) rfl rfl rfl ?_
  refine s_ildn (p' := 6) rfl rfl rfl ?_
  refine s_pf (p' := 9) (fs' := [_, _, _, _, _, _, _, _]) rfl bQ Q1 (Nat.blt_eq.mp rfl) (by decide +kernel) rfl rfl ?_
  refine c_ret rfl ?_
  refine s_astn (p' := 37) (ls' := [_, _, _]) rfl rfl rfl rfl ?_
  refine s_aldn (p' := 38) rfl rfl rfl ?_
  refine s_aldn (p' := 39) rfl rfl rfl ?_
  refine s_gf (p' := 42) rfl ((rd_setn hQp).trans P1) rfl rfl ?_
  refine s_pf (p' := 45) (fs' := [_, _, _, _, _, _, _, _]) rfl bQ (rd_set bQ Q1) (Nat.blt_eq.mp rfl) rfl rfl rfl ?_
  rw [List.set_set]
  refine s_aldn (p' := 46) rfl rfl rfl ?_
  refine s_aldn (p' := 47) rfl rfl rfl ?_
  refine s_gf (p' := 50) rfl ((rd_setn hQp).trans P1) rfl rfl ?_
  refine s_pf (p' := 53) (fs' := [_, _, _, _, _, _, _, _]) rfl bQ (rd_set bQ Q1) (Nat.blt_eq.mp rfl) rfl rfl rfl ?_
  rw [List.set_set]
  refine s_aldn (p' := 54) rfl rfl rfl ?_
  refine s_aldn (p' := 55) rfl rfl rfl ?_
  refine s_gf (p' := 58) rfl ((rd_setn hQp).trans P1) rfl rfl ?_
  refine s_pf (p' := 61) (fs' := [_, _, _, _, _, _, _, _]) rfl bQ (rd_set bQ Q1) (Nat.blt_eq.mp rfl) (by rcases hv with rfl | ⟨S, rfl⟩ <;> rfl) rfl rfl ?_
  rw [List.set_set]
  refine s_aldn (p' := 62) rfl rfl rfl ?_
  refine s_aldn (p' := 63) rfl rfl rfl ?_
  refine s_gf (p' := 66) rfl ((rd_setn hQp).trans P1) rfl rfl ?_
  refine s_pf (p' := 69) (fs' := [_, _, _, _, _, _, _, _]) rfl bQ (rd_set bQ Q1) (Nat.blt_eq.mp rfl) rfl rfl rfl ?_
  rw [List.set_set]
  refine s_aldn (p' := 70) rfl rfl rfl ?_
  refine s_aldn (p' := 71) rfl rfl rfl ?_
  refine s_gf (p' := 74) rfl ((rd_setn hQp).trans P1) rfl rfl ?_
  refine s_pf (p' := 77) (fs' := [_, _, _, _, _, _, _, _]) rfl bQ (rd_set bQ Q1) (Nat.blt_eq.mp rfl) rfl rfl rfl ?_
  rw [List.set_set]
  refine s_aldn (p' := 78) rfl rfl rfl ?_
  refine s_aldn (p' := 79) rfl rfl rfl ?_
  refine s_gf (p' := 82) rfl ((rd_setn hQp).trans P1) rfl rfl ?_
  refine s_nonnull (p' := 85) (x := none) false rfl rfl rfl ?_
  refine s_sp (p' := 86) (ls' := _) rfl rfl rfl ?_
  refine s_goto (p' := 96) rfl rfl ?_
  refine s_pf (p' := 99) (fs' := [_, _, _, _, _, _, _, _]) rfl bQ (rd_set bQ Q1) (Nat.blt_eq.mp rfl) rfl rfl rfl ?_
  rw [List.set_set]
  refine s_aldn (p' := 100) rfl rfl rfl ?_
  refine s_aldn (p' := 101) rfl rfl rfl ?_
  refine s_gf (p' := 104) rfl ((rd_setn hQp).trans P1) rfl rfl ?_
  refine s_nonnull (p' := 107) (x := none) false rfl rfl rfl ?_
  refine s_sp (p' := 108) (ls' := _) rfl rfl rfl ?_
  refine s_goto (p' := 118) rfl rfl ?_
  refine s_pf (p' := 121) (fs' := [_, _, _, _, _, _, _, _]) rfl bQ (rd_set bQ Q1) (Nat.blt_eq.mp rfl) rfl rfl rfl ?_
  rw [List.set_set]
  refine s_aldn (p' := 122) rfl rfl rfl ?_
  refine s_aret rfl ?_
  exact ⟨_, _, rfl, rfl, rd_set bQ Q1, mz_mo.s m1 bQ Q1 rfl (Or.inr (Nat.le_refl _))⟩
theorem y_bk43 {g : mj_H} {p : Nat} {A : Nat → Nat} {bb : Int32} {vv : Value} (hP : mj_rd g p = some (ptC (nI (A 0)) (nI (A 1)) bb vv .null .null .null .null)) (h0 : A 0 = 43) (hv : vv = .null ∨ ∃ S, vv = .ref S) (hb : g.length + 20 < mj_CB) : mj_Wp 6 362 (0, [some (.ref p), none, none], [], g) (mz_V fun r g' => r = .ref g.length ∧ mj_rd g' g.length = some (ptC (nI 45) (nI (A 1)) bb vv .null .null .null .null) ∧ mz_mo [] 1 8 g g') := by
  refine s_sh (p' := 2) (ls' := _) (st' := .ref 1000308 :: _) (h' := _) rfl rfl rfl rfl ?_
  refine s_aldn (p' := 3) rfl rfl rfl ?_
  refine s_gf (p' := 6) rfl hP rfl rfl ?_
  rw [h0]
  refine s_callV (p' := 9) (ls0 := [_, _]) rfl rfl rfl rfl rfl (mj_rcv_is (k_308 _)) rfl (y_io308 (c := 43) (by decide)) (by first | decide | omega) rfl ?_
  rw [show (if 43 < 256 then fIdx tl_308 43 6 0 else 4294967295) = 0 from by decide]
  refine s_istn (p' := 10) (ls' := [_, _, _]) rfl rfl rfl rfl ?_
  refine s_newz (p' := 13) (a := g.length) rfl rfl rfl rfl ?_
  have hQp : g.length ≠ p := by have := rdN hP; have e1 : mj_CB = 1000000 := rfl; omega
  have bQ : g.length < mj_CB := by omega
  generalize hg1 : g ++ [_] = h1
  have P1 : mj_rd h1 p = some (ptC (nI (A 0)) (nI (A 1)) bb vv .null .null .null .null) := by rw [← hg1]; exact rd_app hP
  have Q1 : mj_rd h1 g.length = some (ptC 0 0 0 .null .null .null .null .null) := by rw [← hg1]; exact rd_nw (Nat.blt_eq.mpr (by omega)) rfl
  have m1 : mz_mo [] 1 8 g h1 := by rw [← hg1]; exact mz_mo.ap [] _ _
  have l1 : h1.length = g.length + 1 := by rw [← hg1]; exact List.length_append
  clear hg1
  refine s_sp (p' := 14) (ls' := _) rfl rfl rfl ?_
  refine s_ildn (p' := 15) rfl rfl rfl ?_
  refine s_if (p' := 25) true rfl (by decide +kernel) rfl ?_
  refine s_sh (p' := 27) (ls' := _) (st' := .ref 1000308 :: _) (h' := _) rfl rfl rfl rfl ?_
  refine s_ildn (p' := 28) rfl rfl rfl ?_
  refine s_con (p' := 29) rfl rfl ?_
  refine s_sp (p' := 30) (ls' := _) rfl rfl rfl ?_
  rw [show nI 0 ^^^ nI 1 = nI 1 from by decide +kernel]
  refine s_callV (p' := 33) (ls0 := [_, _]) rfl rfl rfl rfl rfl (mj_rcv_is (k_308 _)) rfl (y_chr0 (ks_308 _) (by decide) (by decide)) (by first | decide | omega) rfl ?_
  rw [show tl_308 1 = 45 from rfl]
  refine c_call (p' := 36) (kc := 5) (ls0 := [_, _]) rfl rfl rfl rfl rfl (mj_rcv_is Q1) rfl (Nat.ble_eq.mpr (by omega)) rfl ?_
  refine s_aldn (p' := 1) rfl rfl rfl ?_
  refine s_primN (p' := 4) (q := 3) rfl rfl rfl rfl rfl rfl rfl rfl ?_
  refine s_aldn (p' := 5) rfl rfl rfl ?_
  refine s_ildn (p' := 6) rfl rfl rfl ?_
  refine s_pf (p' := 9) (fs' := [_, _, _, _, _, _, _, _]) rfl bQ Q1 (Nat.blt_eq.mp rfl) (by decide +kernel) rfl rfl ?_
  refine c_ret rfl ?_
  refine s_astn (p' := 37) (ls' := [_, _, _]) rfl rfl rfl rfl ?_
  refine s_aldn (p' := 38) rfl rfl rfl ?_
  refine s_aldn (p' := 39) rfl rfl rfl ?_
  refine s_gf (p' := 42) rfl ((rd_setn hQp).trans P1) rfl rfl ?_
  refine s_pf (p' := 45) (fs' := [_, _, _, _, _, _, _, _]) rfl bQ (rd_set bQ Q1) (Nat.blt_eq.mp rfl) rfl rfl rfl ?_
  rw [List.set_set]
  refine s_aldn (p' := 46) rfl rfl rfl ?_
  refine s_aldn (p' := 47) rfl rfl rfl ?_
  refine s_gf (p' := 50) rfl ((rd_setn hQp).trans P1) rfl rfl ?_
  refine s_pf (p' := 53) (fs' := [_, _, _, _, _, _, _, _]) rfl bQ (rd_set bQ Q1) (Nat.blt_eq.mp rfl) rfl rfl rfl ?_
  rw [List.set_set]
  refine s_aldn (p' := 54) rfl rfl rfl ?_
  refine s_aldn (p' := 55) rfl rfl rfl ?_
  refine s_gf (p' := 58) rfl ((rd_setn hQp).trans P1) rfl rfl ?_
  refine s_pf (p' := 61) (fs' := [_, _, _, _, _, _, _, _]) rfl bQ (rd_set bQ Q1) (Nat.blt_eq.mp rfl) (by rcases hv with rfl | ⟨S, rfl⟩ <;> rfl) rfl rfl ?_
  rw [List.set_set]
  refine s_aldn (p' := 62) rfl rfl rfl ?_
  refine s_aldn (p' := 63) rfl rfl rfl ?_
  refine s_gf (p' := 66) rfl ((rd_setn hQp).trans P1) rfl rfl ?_
  refine s_pf (p' := 69) (fs' := [_, _, _, _, _, _, _, _]) rfl bQ (rd_set bQ Q1) (Nat.blt_eq.mp rfl) rfl rfl rfl ?_
  rw [List.set_set]
  refine s_aldn (p' := 70) rfl rfl rfl ?_
  refine s_aldn (p' := 71) rfl rfl rfl ?_
  refine s_gf (p' := 74) rfl ((rd_setn hQp).trans P1) rfl rfl ?_
  refine s_pf (p' := 77) (fs' := [_, _, _, _, _, _, _, _]) rfl bQ (rd_set bQ Q1) (Nat.blt_eq.mp rfl) rfl rfl rfl ?_
  rw [List.set_set]
  refine s_aldn (p' := 78) rfl rfl rfl ?_
  refine s_aldn (p' := 79) rfl rfl rfl ?_
  refine s_gf (p' := 82) rfl ((rd_setn hQp).trans P1) rfl rfl ?_
  refine s_nonnull (p' := 85) (x := none) false rfl rfl rfl ?_
  refine s_sp (p' := 86) (ls' := _) rfl rfl rfl ?_
  refine s_goto (p' := 96) rfl rfl ?_
  refine s_pf (p' := 99) (fs' := [_, _, _, _, _, _, _, _]) rfl bQ (rd_set bQ Q1) (Nat.blt_eq.mp rfl) rfl rfl rfl ?_
  rw [List.set_set]
  refine s_aldn (p' := 100) rfl rfl rfl ?_
  refine s_aldn (p' := 101) rfl rfl rfl ?_
  refine s_gf (p' := 104) rfl ((rd_setn hQp).trans P1) rfl rfl ?_
  refine s_nonnull (p' := 107) (x := none) false rfl rfl rfl ?_
  refine s_sp (p' := 108) (ls' := _) rfl rfl rfl ?_
  refine s_goto (p' := 118) rfl rfl ?_
  refine s_pf (p' := 121) (fs' := [_, _, _, _, _, _, _, _]) rfl bQ (rd_set bQ Q1) (Nat.blt_eq.mp rfl) rfl rfl rfl ?_
  rw [List.set_set]
  refine s_aldn (p' := 122) rfl rfl rfl ?_
  refine s_aret rfl ?_
  exact ⟨_, _, rfl, rfl, rd_set bQ Q1, mz_mo.s m1 bQ Q1 rfl (Or.inr (Nat.le_refl _))⟩
theorem y_bk45 {g : mj_H} {p : Nat} {A : Nat → Nat} {bb : Int32} {vv : Value} (hP : mj_rd g p = some (ptC (nI (A 0)) (nI (A 1)) bb vv .null .null .null .null)) (h0 : A 0 = 45) (hv : vv = .null ∨ ∃ S, vv = .ref S) (hb : g.length + 20 < mj_CB) : mj_Wp 6 362 (0, [some (.ref p), none, none], [], g) (mz_V fun r g' => r = .ref g.length ∧ mj_rd g' g.length = some (ptC (nI 43) (nI (A 1)) bb vv .null .null .null .null) ∧ mz_mo [] 1 8 g g') := by
  refine s_sh (p' := 2) (ls' := _) (st' := .ref 1000308 :: _) (h' := _) rfl rfl rfl rfl ?_
  refine s_aldn (p' := 3) rfl rfl rfl ?_
  refine s_gf (p' := 6) rfl hP rfl rfl ?_
  rw [h0]
  refine s_callV (p' := 9) (ls0 := [_, _]) rfl rfl rfl rfl rfl (mj_rcv_is (k_308 _)) rfl (y_io308 (c := 45) (by decide)) (by first | decide | omega) rfl ?_
  rw [show (if 45 < 256 then fIdx tl_308 45 6 0 else 4294967295) = 1 from by decide]
  refine s_istn (p' := 10) (ls' := [_, _, _]) rfl rfl rfl rfl ?_
  refine s_newz (p' := 13) (a := g.length) rfl rfl rfl rfl ?_
  have hQp : g.length ≠ p := by have := rdN hP; have e1 : mj_CB = 1000000 := rfl; omega
  have bQ : g.length < mj_CB := by omega
  generalize hg1 : g ++ [_] = h1
  have P1 : mj_rd h1 p = some (ptC (nI (A 0)) (nI (A 1)) bb vv .null .null .null .null) := by rw [← hg1]; exact rd_app hP
  have Q1 : mj_rd h1 g.length = some (ptC 0 0 0 .null .null .null .null .null) := by rw [← hg1]; exact rd_nw (Nat.blt_eq.mpr (by omega)) rfl
  have m1 : mz_mo [] 1 8 g h1 := by rw [← hg1]; exact mz_mo.ap [] _ _
  have l1 : h1.length = g.length + 1 := by rw [← hg1]; exact List.length_append
  clear hg1
  refine s_sp (p' := 14) (ls' := _) rfl rfl rfl ?_
  refine s_ildn (p' := 15) rfl rfl rfl ?_
  refine s_if (p' := 25) true rfl (by decide +kernel) rfl ?_
  refine s_sh (p' := 27) (ls' := _) (st' := .ref 1000308 :: _) (h' := _) rfl rfl rfl rfl ?_
  refine s_ildn (p' := 28) rfl rfl rfl ?_
  refine s_con (p' := 29) rfl rfl ?_
  refine s_sp (p' := 30) (ls' := _) rfl rfl rfl ?_
  rw [show nI 1 ^^^ nI 1 = nI 0 from by decide +kernel]
  refine s_callV (p' := 33) (ls0 := [_, _]) rfl rfl rfl rfl rfl (mj_rcv_is (k_308 _)) rfl (y_chr0 (ks_308 _) (by decide) (by decide)) (by first | decide | omega) rfl ?_
  rw [show tl_308 0 = 43 from rfl]
  refine c_call (p' := 36) (kc := 5) (ls0 := [_, _]) rfl rfl rfl rfl rfl (mj_rcv_is Q1) rfl (Nat.ble_eq.mpr (by omega)) rfl ?_
  refine s_aldn (p' := 1) rfl rfl rfl ?_
  refine s_primN (p' := 4) (q := 3) rfl rfl rfl rfl rfl rfl rfl rfl ?_
  refine s_aldn (p' := 5) rfl rfl rfl ?_
  refine s_ildn (p' := 6) rfl rfl rfl ?_
  refine s_pf (p' := 9) (fs' := [_, _, _, _, _, _, _, _]) rfl bQ Q1 (Nat.blt_eq.mp rfl) (by decide +kernel) rfl rfl ?_
  refine c_ret rfl ?_
  refine s_astn (p' := 37) (ls' := [_, _, _]) rfl rfl rfl rfl ?_
  refine s_aldn (p' := 38) rfl rfl rfl ?_
  refine s_aldn (p' := 39) rfl rfl rfl ?_
  refine s_gf (p' := 42) rfl ((rd_setn hQp).trans P1) rfl rfl ?_
  refine s_pf (p' := 45) (fs' := [_, _, _, _, _, _, _, _]) rfl bQ (rd_set bQ Q1) (Nat.blt_eq.mp rfl) rfl rfl rfl ?_
  rw [List.set_set]
  refine s_aldn (p' := 46) rfl rfl rfl ?_
  refine s_aldn (p' := 47) rfl rfl rfl ?_
  refine s_gf (p' := 50) rfl ((rd_setn hQp).trans P1) rfl rfl ?_
  refine s_pf (p' := 53) (fs' := [_, _, _, _, _, _, _, _]) rfl bQ (rd_set bQ Q1) (Nat.blt_eq.mp rfl) rfl rfl rfl ?_
  rw [List.set_set]
  refine s_aldn (p' := 54) rfl rfl rfl ?_
  refine s_aldn (p' := 55) rfl rfl rfl ?_
  refine s_gf (p' := 58) rfl ((rd_setn hQp).trans P1) rfl rfl ?_
  refine s_pf (p' := 61) (fs' := [_, _, _, _, _, _, _, _]) rfl bQ (rd_set bQ Q1) (Nat.blt_eq.mp rfl) (by rcases hv with rfl | ⟨S, rfl⟩ <;> rfl) rfl rfl ?_
  rw [List.set_set]
  refine s_aldn (p' := 62) rfl rfl rfl ?_
  refine s_aldn (p' := 63) rfl rfl rfl ?_
  refine s_gf (p' := 66) rfl ((rd_setn hQp).trans P1) rfl rfl ?_
  refine s_pf (p' := 69) (fs' := [_, _, _, _, _, _, _, _]) rfl bQ (rd_set bQ Q1) (Nat.blt_eq.mp rfl) rfl rfl rfl ?_
  rw [List.set_set]
  refine s_aldn (p' := 70) rfl rfl rfl ?_
  refine s_aldn (p' := 71) rfl rfl rfl ?_
  refine s_gf (p' := 74) rfl ((rd_setn hQp).trans P1) rfl rfl ?_
  refine s_pf (p' := 77) (fs' := [_, _, _, _, _, _, _, _]) rfl bQ (rd_set bQ Q1) (Nat.blt_eq.mp rfl) rfl rfl rfl ?_
  rw [List.set_set]
  refine s_aldn (p' := 78) rfl rfl rfl ?_
  refine s_aldn (p' := 79) rfl rfl rfl ?_
  refine s_gf (p' := 82) rfl ((rd_setn hQp).trans P1) rfl rfl ?_
  refine s_nonnull (p' := 85) (x := none) false rfl rfl rfl ?_
  refine s_sp (p' := 86) (ls' := _) rfl rfl rfl ?_
  refine s_goto (p' := 96) rfl rfl ?_
  refine s_pf (p' := 99) (fs' := [_, _, _, _, _, _, _, _]) rfl bQ (rd_set bQ Q1) (Nat.blt_eq.mp rfl) rfl rfl rfl ?_
  rw [List.set_set]
  refine s_aldn (p' := 100) rfl rfl rfl ?_
  refine s_aldn (p' := 101) rfl rfl rfl ?_
  refine s_gf (p' := 104) rfl ((rd_setn hQp).trans P1) rfl rfl ?_
  refine s_nonnull (p' := 107) (x := none) false rfl rfl rfl ?_
  refine s_sp (p' := 108) (ls' := _) rfl rfl rfl ?_
  refine s_goto (p' := 118) rfl rfl ?_
  refine s_pf (p' := 121) (fs' := [_, _, _, _, _, _, _, _]) rfl bQ (rd_set bQ Q1) (Nat.blt_eq.mp rfl) rfl rfl rfl ?_
  rw [List.set_set]
  refine s_aldn (p' := 122) rfl rfl rfl ?_
  refine s_aret rfl ?_
  exact ⟨_, _, rfl, rfl, rd_set bQ Q1, mz_mo.s m1 bQ Q1 rfl (Or.inr (Nat.le_refl _))⟩
theorem y_bk63 {g : mj_H} {p : Nat} {A : Nat → Nat} {bb : Int32} {vv : Value} (hP : mj_rd g p = some (ptC (nI (A 0)) (nI (A 1)) bb vv .null .null .null .null)) (h0 : A 0 = 63) (hv : vv = .null ∨ ∃ S, vv = .ref S) (hb : g.length + 20 < mj_CB) : mj_Wp 6 362 (0, [some (.ref p), none, none], [], g) (mz_V fun r g' => r = .ref g.length ∧ mj_rd g' g.length = some (ptC (nI 33) (nI (A 1)) bb vv .null .null .null .null) ∧ mz_mo [] 1 8 g g') := by
  refine s_sh (p' := 2) (ls' := _) (st' := .ref 1000308 :: _) (h' := _) rfl rfl rfl rfl ?_
  refine s_aldn (p' := 3) rfl rfl rfl ?_
  refine s_gf (p' := 6) rfl hP rfl rfl ?_
  rw [h0]
  refine s_callV (p' := 9) (ls0 := [_, _]) rfl rfl rfl rfl rfl (mj_rcv_is (k_308 _)) rfl (y_io308 (c := 63) (by decide)) (by first | decide | omega) rfl ?_
  rw [show (if 63 < 256 then fIdx tl_308 63 6 0 else 4294967295) = 3 from by decide]
  refine s_istn (p' := 10) (ls' := [_, _, _]) rfl rfl rfl rfl ?_
  refine s_newz (p' := 13) (a := g.length) rfl rfl rfl rfl ?_
  have hQp : g.length ≠ p := by have := rdN hP; have e1 : mj_CB = 1000000 := rfl; omega
  have bQ : g.length < mj_CB := by omega
  generalize hg1 : g ++ [_] = h1
  have P1 : mj_rd h1 p = some (ptC (nI (A 0)) (nI (A 1)) bb vv .null .null .null .null) := by rw [← hg1]; exact rd_app hP
  have Q1 : mj_rd h1 g.length = some (ptC 0 0 0 .null .null .null .null .null) := by rw [← hg1]; exact rd_nw (Nat.blt_eq.mpr (by omega)) rfl
  have m1 : mz_mo [] 1 8 g h1 := by rw [← hg1]; exact mz_mo.ap [] _ _
  have l1 : h1.length = g.length + 1 := by rw [← hg1]; exact List.length_append
  clear hg1
  refine s_sp (p' := 14) (ls' := _) rfl rfl rfl ?_
  refine s_ildn (p' := 15) rfl rfl rfl ?_
  refine s_if (p' := 25) true rfl (by decide +kernel) rfl ?_
  refine s_sh (p' := 27) (ls' := _) (st' := .ref 1000308 :: _) (h' := _) rfl rfl rfl rfl ?_
  refine s_ildn (p' := 28) rfl rfl rfl ?_
  refine s_con (p' := 29) rfl rfl ?_
  refine s_sp (p' := 30) (ls' := _) rfl rfl rfl ?_
  rw [show nI 3 ^^^ nI 1 = nI 2 from by decide +kernel]
  refine s_callV (p' := 33) (ls0 := [_, _]) rfl rfl rfl rfl rfl (mj_rcv_is (k_308 _)) rfl (y_chr0 (ks_308 _) (by decide) (by decide)) (by first | decide | omega) rfl ?_
  rw [show tl_308 2 = 33 from rfl]
  refine c_call (p' := 36) (kc := 5) (ls0 := [_, _]) rfl rfl rfl rfl rfl (mj_rcv_is Q1) rfl (Nat.ble_eq.mpr (by omega)) rfl ?_
  refine s_aldn (p' := 1) rfl rfl rfl ?_
  refine s_primN (p' := 4) (q := 3) rfl rfl rfl rfl rfl rfl rfl rfl ?_
  refine s_aldn (p' := 5) rfl rfl rfl ?_
  refine s_ildn (p' := 6) rfl rfl rfl ?_
  refine s_pf (p' := 9) (fs' := [_, _, _, _, _, _, _, _]) rfl bQ Q1 (Nat.blt_eq.mp rfl) (by decide +kernel) rfl rfl ?_
  refine c_ret rfl ?_
  refine s_astn (p' := 37) (ls' := [_, _, _]) rfl rfl rfl rfl ?_
  refine s_aldn (p' := 38) rfl rfl rfl ?_
  refine s_aldn (p' := 39) rfl rfl rfl ?_
  refine s_gf (p' := 42) rfl ((rd_setn hQp).trans P1) rfl rfl ?_
  refine s_pf (p' := 45) (fs' := [_, _, _, _, _, _, _, _]) rfl bQ (rd_set bQ Q1) (Nat.blt_eq.mp rfl) rfl rfl rfl ?_
  rw [List.set_set]
  refine s_aldn (p' := 46) rfl rfl rfl ?_
  refine s_aldn (p' := 47) rfl rfl rfl ?_
  refine s_gf (p' := 50) rfl ((rd_setn hQp).trans P1) rfl rfl ?_
  refine s_pf (p' := 53) (fs' := [_, _, _, _, _, _, _, _]) rfl bQ (rd_set bQ Q1) (Nat.blt_eq.mp rfl) rfl rfl rfl ?_
  rw [List.set_set]
  refine s_aldn (p' := 54) rfl rfl rfl ?_
  refine s_aldn (p' := 55) rfl rfl rfl ?_
  refine s_gf (p' := 58) rfl ((rd_setn hQp).trans P1) rfl rfl ?_
  refine s_pf (p' := 61) (fs' := [_, _, _, _, _, _, _, _]) rfl bQ (rd_set bQ Q1) (Nat.blt_eq.mp rfl) (by rcases hv with rfl | ⟨S, rfl⟩ <;> rfl) rfl rfl ?_
  rw [List.set_set]
  refine s_aldn (p' := 62) rfl rfl rfl ?_
  refine s_aldn (p' := 63) rfl rfl rfl ?_
  refine s_gf (p' := 66) rfl ((rd_setn hQp).trans P1) rfl rfl ?_
  refine s_pf (p' := 69) (fs' := [_, _, _, _, _, _, _, _]) rfl bQ (rd_set bQ Q1) (Nat.blt_eq.mp rfl) rfl rfl rfl ?_
  rw [List.set_set]
  refine s_aldn (p' := 70) rfl rfl rfl ?_
  refine s_aldn (p' := 71) rfl rfl rfl ?_
  refine s_gf (p' := 74) rfl ((rd_setn hQp).trans P1) rfl rfl ?_
  refine s_pf (p' := 77) (fs' := [_, _, _, _, _, _, _, _]) rfl bQ (rd_set bQ Q1) (Nat.blt_eq.mp rfl) rfl rfl rfl ?_
  rw [List.set_set]
  refine s_aldn (p' := 78) rfl rfl rfl ?_
  refine s_aldn (p' := 79) rfl rfl rfl ?_
  refine s_gf (p' := 82) rfl ((rd_setn hQp).trans P1) rfl rfl ?_
  refine s_nonnull (p' := 85) (x := none) false rfl rfl rfl ?_
  refine s_sp (p' := 86) (ls' := _) rfl rfl rfl ?_
  refine s_goto (p' := 96) rfl rfl ?_
  refine s_pf (p' := 99) (fs' := [_, _, _, _, _, _, _, _]) rfl bQ (rd_set bQ Q1) (Nat.blt_eq.mp rfl) rfl rfl rfl ?_
  rw [List.set_set]
  refine s_aldn (p' := 100) rfl rfl rfl ?_
  refine s_aldn (p' := 101) rfl rfl rfl ?_
  refine s_gf (p' := 104) rfl ((rd_setn hQp).trans P1) rfl rfl ?_
  refine s_nonnull (p' := 107) (x := none) false rfl rfl rfl ?_
  refine s_sp (p' := 108) (ls' := _) rfl rfl rfl ?_
  refine s_goto (p' := 118) rfl rfl ?_
  refine s_pf (p' := 121) (fs' := [_, _, _, _, _, _, _, _]) rfl bQ (rd_set bQ Q1) (Nat.blt_eq.mp rfl) rfl rfl rfl ?_
  rw [List.set_set]
  refine s_aldn (p' := 122) rfl rfl rfl ?_
  refine s_aret rfl ?_
  exact ⟨_, _, rfl, rfl, rd_set bQ Q1, mz_mo.s m1 bQ Q1 rfl (Or.inr (Nat.le_refl _))⟩
theorem y_bk64 {g : mj_H} {p : Nat} {A : Nat → Nat} {bb : Int32} {vv : Value} (hP : mj_rd g p = some (ptC (nI (A 0)) (nI (A 1)) bb vv .null .null .null .null)) (h0 : A 0 = 64) (hv : vv = .null ∨ ∃ S, vv = .ref S) (hb : g.length + 20 < mj_CB) : mj_Wp 6 362 (0, [some (.ref p), none, none], [], g) (mz_V fun r g' => r = .ref g.length ∧ mj_rd g' g.length = some (ptC (nI 36) (nI (A 1)) bb vv .null .null .null .null) ∧ mz_mo [] 1 8 g g') := by
  refine s_sh (p' := 2) (ls' := _) (st' := .ref 1000308 :: _) (h' := _) rfl rfl rfl rfl ?_
  refine s_aldn (p' := 3) rfl rfl rfl ?_
  refine s_gf (p' := 6) rfl hP rfl rfl ?_
  rw [h0]
  refine s_callV (p' := 9) (ls0 := [_, _]) rfl rfl rfl rfl rfl (mj_rcv_is (k_308 _)) rfl (y_io308 (c := 64) (by decide)) (by first | decide | omega) rfl ?_
  rw [show (if 64 < 256 then fIdx tl_308 64 6 0 else 4294967295) = 4 from by decide]
  refine s_istn (p' := 10) (ls' := [_, _, _]) rfl rfl rfl rfl ?_
  refine s_newz (p' := 13) (a := g.length) rfl rfl rfl rfl ?_
  have hQp : g.length ≠ p := by have := rdN hP; have e1 : mj_CB = 1000000 := rfl; omega
  have bQ : g.length < mj_CB := by omega
  generalize hg1 : g ++ [_] = h1
  have P1 : mj_rd h1 p = some (ptC (nI (A 0)) (nI (A 1)) bb vv .null .null .null .null) := by rw [← hg1]; exact rd_app hP
  have Q1 : mj_rd h1 g.length = some (ptC 0 0 0 .null .null .null .null .null) := by rw [← hg1]; exact rd_nw (Nat.blt_eq.mpr (by omega)) rfl
  have m1 : mz_mo [] 1 8 g h1 := by rw [← hg1]; exact mz_mo.ap [] _ _
  have l1 : h1.length = g.length + 1 := by rw [← hg1]; exact List.length_append
  clear hg1
  refine s_sp (p' := 14) (ls' := _) rfl rfl rfl ?_
  refine s_ildn (p' := 15) rfl rfl rfl ?_
  refine s_if (p' := 25) true rfl (by decide +kernel) rfl ?_
  refine s_sh (p' := 27) (ls' := _) (st' := .ref 1000308 :: _) (h' := _) rfl rfl rfl rfl ?_
  refine s_ildn (p' := 28) rfl rfl rfl ?_
  refine s_con (p' := 29) rfl rfl ?_
  refine s_sp (p' := 30) (ls' := _) rfl rfl rfl ?_
  rw [show nI 4 ^^^ nI 1 = nI 5 from by decide +kernel]
  refine s_callV (p' := 33) (ls0 := [_, _]) rfl rfl rfl rfl rfl (mj_rcv_is (k_308 _)) rfl (y_chr0 (ks_308 _) (by decide) (by decide)) (by first | decide | omega) rfl ?_
  rw [show tl_308 5 = 36 from rfl]
  refine c_call (p' := 36) (kc := 5) (ls0 := [_, _]) rfl rfl rfl rfl rfl (mj_rcv_is Q1) rfl (Nat.ble_eq.mpr (by omega)) rfl ?_
  refine s_aldn (p' := 1) rfl rfl rfl ?_
  refine s_primN (p' := 4) (q := 3) rfl rfl rfl rfl rfl rfl rfl rfl ?_
  refine s_aldn (p' := 5) rfl rfl rfl ?_
  refine s_ildn (p' := 6) rfl rfl rfl ?_
  refine s_pf (p' := 9) (fs' := [_, _, _, _, _, _, _, _]) rfl bQ Q1 (Nat.blt_eq.mp rfl) (by decide +kernel) rfl rfl ?_
  refine c_ret rfl ?_
  refine s_astn (p' := 37) (ls' := [_, _, _]) rfl rfl rfl rfl ?_
  refine s_aldn (p' := 38) rfl rfl rfl ?_
  refine s_aldn (p' := 39) rfl rfl rfl ?_
  refine s_gf (p' := 42) rfl ((rd_setn hQp).trans P1) rfl rfl ?_
  refine s_pf (p' := 45) (fs' := [_, _, _, _, _, _, _, _]) rfl bQ (rd_set bQ Q1) (Nat.blt_eq.mp rfl) rfl rfl rfl ?_
  rw [List.set_set]
  refine s_aldn (p' := 46) rfl rfl rfl ?_
  refine s_aldn (p' := 47) rfl rfl rfl ?_
  refine s_gf (p' := 50) rfl ((rd_setn hQp).trans P1) rfl rfl ?_
  refine s_pf (p' := 53) (fs' := [_, _, _, _, _, _, _, _]) rfl bQ (rd_set bQ Q1) (Nat.blt_eq.mp rfl) rfl rfl rfl ?_
  rw [List.set_set]
  refine s_aldn (p' := 54) rfl rfl rfl ?_
  refine s_aldn (p' := 55) rfl rfl rfl ?_
  refine s_gf (p' := 58) rfl ((rd_setn hQp).trans P1) rfl rfl ?_
  refine s_pf (p' := 61) (fs' := [_, _, _, _, _, _, _, _]) rfl bQ (rd_set bQ Q1) (Nat.blt_eq.mp rfl) (by rcases hv with rfl | ⟨S, rfl⟩ <;> rfl) rfl rfl ?_
  rw [List.set_set]
  refine s_aldn (p' := 62) rfl rfl rfl ?_
  refine s_aldn (p' := 63) rfl rfl rfl ?_
  refine s_gf (p' := 66) rfl ((rd_setn hQp).trans P1) rfl rfl ?_
  refine s_pf (p' := 69) (fs' := [_, _, _, _, _, _, _, _]) rfl bQ (rd_set bQ Q1) (Nat.blt_eq.mp rfl) rfl rfl rfl ?_
  rw [List.set_set]
  refine s_aldn (p' := 70) rfl rfl rfl ?_
  refine s_aldn (p' := 71) rfl rfl rfl ?_
  refine s_gf (p' := 74) rfl ((rd_setn hQp).trans P1) rfl rfl ?_
  refine s_pf (p' := 77) (fs' := [_, _, _, _, _, _, _, _]) rfl bQ (rd_set bQ Q1) (Nat.blt_eq.mp rfl) rfl rfl rfl ?_
  rw [List.set_set]
  refine s_aldn (p' := 78) rfl rfl rfl ?_
  refine s_aldn (p' := 79) rfl rfl rfl ?_
  refine s_gf (p' := 82) rfl ((rd_setn hQp).trans P1) rfl rfl ?_
  refine s_nonnull (p' := 85) (x := none) false rfl rfl rfl ?_
  refine s_sp (p' := 86) (ls' := _) rfl rfl rfl ?_
  refine s_goto (p' := 96) rfl rfl ?_
  refine s_pf (p' := 99) (fs' := [_, _, _, _, _, _, _, _]) rfl bQ (rd_set bQ Q1) (Nat.blt_eq.mp rfl) rfl rfl rfl ?_
  rw [List.set_set]
  refine s_aldn (p' := 100) rfl rfl rfl ?_
  refine s_aldn (p' := 101) rfl rfl rfl ?_
  refine s_gf (p' := 104) rfl ((rd_setn hQp).trans P1) rfl rfl ?_
  refine s_nonnull (p' := 107) (x := none) false rfl rfl rfl ?_
  refine s_sp (p' := 108) (ls' := _) rfl rfl rfl ?_
  refine s_goto (p' := 118) rfl rfl ?_
  refine s_pf (p' := 121) (fs' := [_, _, _, _, _, _, _, _]) rfl bQ (rd_set bQ Q1) (Nat.blt_eq.mp rfl) rfl rfl rfl ?_
  rw [List.set_set]
  refine s_aldn (p' := 122) rfl rfl rfl ?_
  refine s_aret rfl ?_
  exact ⟨_, _, rfl, rfl, rd_set bQ Q1, mz_mo.s m1 bQ Q1 rfl (Or.inr (Nat.le_refl _))⟩
theorem y_bk94 {g : mj_H} {p : Nat} {A : Nat → Nat} {bb : Int32} {vv : Value} (hP : mj_rd g p = some (ptC (nI (A 0)) (nI (A 1)) bb vv .null .null .null .null)) (h0 : A 0 = 94) (hv : vv = .null ∨ ∃ S, vv = .ref S) (hb : g.length + 20 < mj_CB) : mj_Wp 6 362 (0, [some (.ref p), none, none], [], g) (mz_V fun r g' => r = .ref g.length ∧ mj_rd g' g.length = some (ptC (nI 94) (nI (A 1)) bb vv .null .null .null .null) ∧ mz_mo [] 1 8 g g') := by
  refine s_sh (p' := 2) (ls' := _) (st' := .ref 1000308 :: _) (h' := _) rfl rfl rfl rfl ?_
  refine s_aldn (p' := 3) rfl rfl rfl ?_
  refine s_gf (p' := 6) rfl hP rfl rfl ?_
  rw [h0]
  refine s_callV (p' := 9) (ls0 := [_, _]) rfl rfl rfl rfl rfl (mj_rcv_is (k_308 _)) rfl (y_io308 (c := 94) (by decide)) (by first | decide | omega) rfl ?_
  rw [show (if 94 < 256 then fIdx tl_308 94 6 0 else 4294967295) = 4294967295 from by decide]
  refine s_istn (p' := 10) (ls' := [_, _, _]) rfl rfl rfl rfl ?_
  refine s_newz (p' := 13) (a := g.length) rfl rfl rfl rfl ?_
  have hQp : g.length ≠ p := by have := rdN hP; have e1 : mj_CB = 1000000 := rfl; omega
  have bQ : g.length < mj_CB := by omega
  generalize hg1 : g ++ [_] = h1
  have P1 : mj_rd h1 p = some (ptC (nI (A 0)) (nI (A 1)) bb vv .null .null .null .null) := by rw [← hg1]; exact rd_app hP
  have Q1 : mj_rd h1 g.length = some (ptC 0 0 0 .null .null .null .null .null) := by rw [← hg1]; exact rd_nw (Nat.blt_eq.mpr (by omega)) rfl
  have m1 : mz_mo [] 1 8 g h1 := by rw [← hg1]; exact mz_mo.ap [] _ _
  have l1 : h1.length = g.length + 1 := by rw [← hg1]; exact List.length_append
  clear hg1
  refine s_sp (p' := 14) (ls' := _) rfl rfl rfl ?_
  refine s_ildn (p' := 15) rfl rfl rfl ?_
  refine s_if (p' := 18) false rfl (by decide +kernel) rfl ?_
  refine s_aldn (p' := 19) rfl rfl rfl ?_
  refine s_gf (p' := 22) rfl P1 rfl rfl ?_
  rw [h0]
  refine s_goto (p' := 33) rfl rfl ?_
  refine c_call (p' := 36) (kc := 5) (ls0 := [_, _]) rfl rfl rfl rfl rfl (mj_rcv_is Q1) rfl (Nat.ble_eq.mpr (by omega)) rfl ?_
  refine s_aldn (p' := 1) rfl rfl rfl ?_
  refine s_primN (p' := 4) (q := 3) rfl rfl rfl rfl rfl rfl rfl rfl ?_
  refine s_aldn (p' := 5) rfl rfl rfl ?_
  refine s_ildn (p' := 6) rfl rfl rfl ?_
  refine s_pf (p' := 9) (fs' := [_, _, _, _, _, _, _, _]) rfl bQ Q1 (Nat.blt_eq.mp rfl) (by decide +kernel) rfl rfl ?_
  refine c_ret rfl ?_
  refine s_astn (p' := 37) (ls' := [_, _, _]) rfl rfl rfl rfl ?_
  refine s_aldn (p' := 38) rfl rfl rfl ?_
  refine s_aldn (p' := 39) rfl rfl rfl ?_
  refine s_gf (p' := 42) rfl ((rd_setn hQp).trans P1) rfl rfl ?_
  refine s_pf (p' := 45) (fs' := [_, _, _, _, _, _, _, _]) rfl bQ (rd_set bQ Q1) (Nat.blt_eq.mp rfl) rfl rfl rfl ?_
  rw [List.set_set]
  refine s_aldn (p' := 46) rfl rfl rfl ?_
  refine s_aldn (p' := 47) rfl rfl rfl ?_
  refine s_gf (p' := 50) rfl ((rd_setn hQp).trans P1) rfl rfl ?_
  refine s_pf (p' := 53) (fs' := [_, _, _, _, _, _, _, _]) rfl bQ (rd_set bQ Q1) (Nat.blt_eq.mp rfl) rfl rfl rfl ?_
  rw [List.set_set]
  refine s_aldn (p' := 54) rfl rfl rfl ?_
  refine s_aldn (p' := 55) rfl rfl rfl ?_
  refine s_gf (p' := 58) rfl ((rd_setn hQp).trans P1) rfl rfl ?_
  refine s_pf (p' := 61) (fs' := [_, _, _, _, _, _, _, _]) rfl bQ (rd_set bQ Q1) (Nat.blt_eq.mp rfl) (by rcases hv with rfl | ⟨S, rfl⟩ <;> rfl) rfl rfl ?_
  rw [List.set_set]
  refine s_aldn (p' := 62) rfl rfl rfl ?_
  refine s_aldn (p' := 63) rfl rfl rfl ?_
  refine s_gf (p' := 66) rfl ((rd_setn hQp).trans P1) rfl rfl ?_
  refine s_pf (p' := 69) (fs' := [_, _, _, _, _, _, _, _]) rfl bQ (rd_set bQ Q1) (Nat.blt_eq.mp rfl) rfl rfl rfl ?_
  rw [List.set_set]
  refine s_aldn (p' := 70) rfl rfl rfl ?_
  refine s_aldn (p' := 71) rfl rfl rfl ?_
  refine s_gf (p' := 74) rfl ((rd_setn hQp).trans P1) rfl rfl ?_
  refine s_pf (p' := 77) (fs' := [_, _, _, _, _, _, _, _]) rfl bQ (rd_set bQ Q1) (Nat.blt_eq.mp rfl) rfl rfl rfl ?_
  rw [List.set_set]
  refine s_aldn (p' := 78) rfl rfl rfl ?_
  refine s_aldn (p' := 79) rfl rfl rfl ?_
  refine s_gf (p' := 82) rfl ((rd_setn hQp).trans P1) rfl rfl ?_
  refine s_nonnull (p' := 85) (x := none) false rfl rfl rfl ?_
  refine s_sp (p' := 86) (ls' := _) rfl rfl rfl ?_
  refine s_goto (p' := 96) rfl rfl ?_
  refine s_pf (p' := 99) (fs' := [_, _, _, _, _, _, _, _]) rfl bQ (rd_set bQ Q1) (Nat.blt_eq.mp rfl) rfl rfl rfl ?_
  rw [List.set_set]
  refine s_aldn (p' := 100) rfl rfl rfl ?_
  refine s_aldn (p' := 101) rfl rfl rfl ?_
  refine s_gf (p' := 104) rfl ((rd_setn hQp).trans P1) rfl rfl ?_
  refine s_nonnull (p' := 107) (x := none) false rfl rfl rfl ?_
  refine s_sp (p' := 108) (ls' := _) rfl rfl rfl ?_
  refine s_goto (p' := 118) rfl rfl ?_
  refine s_pf (p' := 121) (fs' := [_, _, _, _, _, _, _, _]) rfl bQ (rd_set bQ Q1) (Nat.blt_eq.mp rfl) rfl rfl rfl ?_
  rw [List.set_set]
  refine s_aldn (p' := 122) rfl rfl rfl ?_
  refine s_aret rfl ?_
  exact ⟨_, _, rfl, rfl, rd_set bQ Q1, mz_mo.s m1 bQ Q1 rfl (Or.inr (Nat.le_refl _))⟩
theorem y_bk126 {g : mj_H} {p : Nat} {A : Nat → Nat} {bb : Int32} {vv : Value} (hP : mj_rd g p = some (ptC (nI (A 0)) (nI (A 1)) bb vv .null .null .null .null)) (h0 : A 0 = 126) (hv : vv = .null ∨ ∃ S, vv = .ref S) (hb : g.length + 20 < mj_CB) : mj_Wp 6 362 (0, [some (.ref p), none, none], [], g) (mz_V fun r g' => r = .ref g.length ∧ mj_rd g' g.length = some (ptC (nI 126) (nI (A 1)) bb vv .null .null .null .null) ∧ mz_mo [] 1 8 g g') := by
  refine s_sh (p' := 2) (ls' := _) (st' := .ref 1000308 :: _) (h' := _) rfl rfl rfl rfl ?_
  refine s_aldn (p' := 3) rfl rfl rfl ?_
  refine s_gf (p' := 6) rfl hP rfl rfl ?_
  rw [h0]
  refine s_callV (p' := 9) (ls0 := [_, _]) rfl rfl rfl rfl rfl (mj_rcv_is (k_308 _)) rfl (y_io308 (c := 126) (by decide)) (by first | decide | omega) rfl ?_
  rw [show (if 126 < 256 then fIdx tl_308 126 6 0 else 4294967295) = 4294967295 from by decide]
  refine s_istn (p' := 10) (ls' := [_, _, _]) rfl rfl rfl rfl ?_
  refine s_newz (p' := 13) (a := g.length) rfl rfl rfl rfl ?_
  have hQp : g.length ≠ p := by have := rdN hP; have e1 : mj_CB = 1000000 := rfl; omega
  have bQ : g.length < mj_CB := by omega
  generalize hg1 : g ++ [_] = h1
  have P1 : mj_rd h1 p = some (ptC (nI (A 0)) (nI (A 1)) bb vv .null .null .null .null) := by rw [← hg1]; exact rd_app hP
  have Q1 : mj_rd h1 g.length = some (ptC 0 0 0 .null .null .null .null .null) := by rw [← hg1]; exact rd_nw (Nat.blt_eq.mpr (by omega)) rfl
  have m1 : mz_mo [] 1 8 g h1 := by rw [← hg1]; exact mz_mo.ap [] _ _
  have l1 : h1.length = g.length + 1 := by rw [← hg1]; exact List.length_append
  clear hg1
  refine s_sp (p' := 14) (ls' := _) rfl rfl rfl ?_
  refine s_ildn (p' := 15) rfl rfl rfl ?_
  refine s_if (p' := 18) false rfl (by decide +kernel) rfl ?_
  refine s_aldn (p' := 19) rfl rfl rfl ?_
  refine s_gf (p' := 22) rfl P1 rfl rfl ?_
  rw [h0]
  refine s_goto (p' := 33) rfl rfl ?_
  refine c_call (p' := 36) (kc := 5) (ls0 := [_, _]) rfl rfl rfl rfl rfl (mj_rcv_is Q1) rfl (Nat.ble_eq.mpr (by omega)) rfl ?_
  refine s_aldn (p' := 1) rfl rfl rfl ?_
  refine s_primN (p' := 4) (q := 3) rfl rfl rfl rfl rfl rfl rfl rfl ?_
  refine s_aldn (p' := 5) rfl rfl rfl ?_
  refine s_ildn (p' := 6) rfl rfl rfl ?_
  refine s_pf (p' := 9) (fs' := [_, _, _, _, _, _, _, _]) rfl bQ Q1 (Nat.blt_eq.mp rfl) (by decide +kernel) rfl rfl ?_
  refine c_ret rfl ?_
  refine s_astn (p' := 37) (ls' := [_, _, _]) rfl rfl rfl rfl ?_
  refine s_aldn (p' := 38) rfl rfl rfl ?_
  refine s_aldn (p' := 39) rfl rfl rfl ?_
  refine s_gf (p' := 42) rfl ((rd_setn hQp).trans P1) rfl rfl ?_
  refine s_pf (p' := 45) (fs' := [_, _, _, _, _, _, _, _]) rfl bQ (rd_set bQ Q1) (Nat.blt_eq.mp rfl) rfl rfl rfl ?_
  rw [List.set_set]
  refine s_aldn (p' := 46) rfl rfl rfl ?_
  refine s_aldn (p' := 47) rfl rfl rfl ?_
  refine s_gf (p' := 50) rfl ((rd_setn hQp).trans P1) rfl rfl ?_
  refine s_pf (p' := 53) (fs' := [_, _, _, _, _, _, _, _]) rfl bQ (rd_set bQ Q1) (Nat.blt_eq.mp rfl) rfl rfl rfl ?_
  rw [List.set_set]
  refine s_aldn (p' := 54) rfl rfl rfl ?_
  refine s_aldn (p' := 55) rfl rfl rfl ?_
  refine s_gf (p' := 58) rfl ((rd_setn hQp).trans P1) rfl rfl ?_
  refine s_pf (p' := 61) (fs' := [_, _, _, _, _, _, _, _]) rfl bQ (rd_set bQ Q1) (Nat.blt_eq.mp rfl) (by rcases hv with rfl | ⟨S, rfl⟩ <;> rfl) rfl rfl ?_
  rw [List.set_set]
  refine s_aldn (p' := 62) rfl rfl rfl ?_
  refine s_aldn (p' := 63) rfl rfl rfl ?_
  refine s_gf (p' := 66) rfl ((rd_setn hQp).trans P1) rfl rfl ?_
  refine s_pf (p' := 69) (fs' := [_, _, _, _, _, _, _, _]) rfl bQ (rd_set bQ Q1) (Nat.blt_eq.mp rfl) rfl rfl rfl ?_
  rw [List.set_set]
  refine s_aldn (p' := 70) rfl rfl rfl ?_
  refine s_aldn (p' := 71) rfl rfl rfl ?_
  refine s_gf (p' := 74) rfl ((rd_setn hQp).trans P1) rfl rfl ?_
  refine s_pf (p' := 77) (fs' := [_, _, _, _, _, _, _, _]) rfl bQ (rd_set bQ Q1) (Nat.blt_eq.mp rfl) rfl rfl rfl ?_
  rw [List.set_set]
  refine s_aldn (p' := 78) rfl rfl rfl ?_
  refine s_aldn (p' := 79) rfl rfl rfl ?_
  refine s_gf (p' := 82) rfl ((rd_setn hQp).trans P1) rfl rfl ?_
  refine s_nonnull (p' := 85) (x := none) false rfl rfl rfl ?_
  refine s_sp (p' := 86) (ls' := _) rfl rfl rfl ?_
  refine s_goto (p' := 96) rfl rfl ?_
  refine s_pf (p' := 99) (fs' := [_, _, _, _, _, _, _, _]) rfl bQ (rd_set bQ Q1) (Nat.blt_eq.mp rfl) rfl rfl rfl ?_
  rw [List.set_set]
  refine s_aldn (p' := 100) rfl rfl rfl ?_
  refine s_aldn (p' := 101) rfl rfl rfl ?_
  refine s_gf (p' := 104) rfl ((rd_setn hQp).trans P1) rfl rfl ?_
  refine s_nonnull (p' := 107) (x := none) false rfl rfl rfl ?_
  refine s_sp (p' := 108) (ls' := _) rfl rfl rfl ?_
  refine s_goto (p' := 118) rfl rfl ?_
  refine s_pf (p' := 121) (fs' := [_, _, _, _, _, _, _, _]) rfl bQ (rd_set bQ Q1) (Nat.blt_eq.mp rfl) rfl rfl rfl ?_
  rw [List.set_set]
  refine s_aldn (p' := 122) rfl rfl rfl ?_
  refine s_aret rfl ?_
  exact ⟨_, _, rfl, rfl, rd_set bQ Q1, mz_mo.s m1 bQ Q1 rfl (Or.inr (Nat.le_refl _))⟩
/-- a statement that is one act, turned -/
theorem y_bkS {I : Nat → Prop} {g : mj_H} {p a' : Nat} {A : Nat → Nat} {y : Nat → Nat → Nat} {d : Nat} (hI : ∀ a, I a → a < mj_CB) (sm : ySim I g A p) (w : wSm A (y a')) (hb : g.length + 20 < mj_CB) : mj_Wp 6 362 (0, [some (.ref p), none, none], [], g) (mz_V fun r g' => ∃ q, r = .ref q ∧ yPt (bI I g) g' y d q a' (a' + 1) ∧ mz_mo [] 1 8 g g') := by
  obtain ⟨nb, ip, bb, vv, hP, e1, e2, hv⟩ := sm
  have hs : A 0 = 33 ∨ A 0 = 63 ∨ A 0 = 64 ∨ A 0 = 36 ∨ A 0 = 126 ∨ A 0 = 43 ∨ A 0 = 45 ∨ A 0 = 94 := by have := w.1.1; omega
  obtain ⟨f0, f1, f2, f3, f4⟩ := fl1_0 0 A
  have y0 := (w.2 0 (by decide)).trans f0
  have y1 := (w.2 1 (by decide)).trans f1
  have y2 := (w.2 2 (by decide)).trans f2
  have y3 := (w.2 3 (by decide)).trans f3
  have y4 := (w.2 4 (by decide)).trans f4
  have key : mj_Wp 6 362 (0, [some (.ref p), none, none], [], g) (mz_V fun r g' => r = .ref g.length ∧ mj_rd g' g.length = some (ptC (nI (flS (A 0))) (nI (A 1)) bb vv .null .null .null .null) ∧ mz_mo [] 1 8 g g') := by
    rcases hs with h0 | h0 | h0 | h0 | h0 | h0 | h0 | h0
    · rw [show flS (A 0) = 63 by rw [h0]; rfl]; exact y_bk33 hP h0 hv hb
    · rw [show flS (A 0) = 33 by rw [h0]; rfl]; exact y_bk63 hP h0 hv hb
    · rw [show flS (A 0) = 36 by rw [h0]; rfl]; exact y_bk64 hP h0 hv hb
    · rw [show flS (A 0) = 64 by rw [h0]; rfl]; exact y_bk36 hP h0 hv hb
    · rw [show flS (A 0) = 126 by rw [h0]; rfl]; exact y_bk126 hP h0 hv hb
    · rw [show flS (A 0) = 45 by rw [h0]; rfl]; exact y_bk43 hP h0 hv hb
    · rw [show flS (A 0) = 43 by rw [h0]; rfl]; exact y_bk45 hP h0 hv hb
    · rw [show flS (A 0) = 94 by rw [h0]; rfl]; exact y_bk94 hP h0 hv hb
  refine key.imp ?_
  rintro _ ⟨r, g', rfl, rfl, Q, m⟩
  refine ⟨_, _, rfl, _, rfl, yPt.s ⟨?_, Or.inr ⟨Nat.le_refl _, by omega⟩, bb, vv, ?_, fun e => ?_, fun e => ?_, hv⟩, m⟩
  · rw [y0]; exact (flS_i hs).2
  · rw [y0, y1]; exact Q
  · rw [y2]
    refine e1 ?_
    rw [y0] at e
    rcases hs with h0 | h0 | h0 | h0 | h0 | h0 | h0 | h0 <;> rw [h0] at e <;> first | exact h0 | exact absurd e (by decide)
  · rw [y2, y3, y4]
    have mv : Mv I (bI I g) [] g g' := ⟨m.1, hI, fun a ha _ => ⟨List.not_mem_nil, Or.inl ha⟩⟩
    refine (e2 ?_).imp fun S q => ⟨q.1, q.2.mv mv⟩
    rw [y0] at e
    rcases hs with h0 | h0 | h0 | h0 | h0 | h0 | h0 | h0 <;> rw [h0] at e <;> first | omega | exact absurd e (by decide)
theorem y_bkb91 {I : Nat → Prop} {g : mj_H} {x y : Nat → Nat → Nat} {A : Nat → Nat} {d D p a m e a' S1 S2 R1 R2 : Nat} {s1 s2 : Int32} (hD : 5 ≤ D) (hI : ∀ a, I a → a < mj_CB) (hIl : ∀ a, I a → a < g.length) (hrow : ∀ (Lr k k' s : Nat) (g : mj_H), (∀ a, I a → a < g.length) → yRow I g x d Lr k k' → wSq (wPt x y d) k k' s → k' ≤ 30 → g.length + 4 * (k' - k) + 70 < mj_CB → mj_Wp D 361 (0, [some (.ref Lr), none, none], [], g) (mz_V fun r g' => ∃ L', r = .ref L' ∧ yRow (bI I g) g' y d L' s (s + (k' - k)) ∧ mz_mo [] (4 * (k' - k) + 1) (90 * (k' - k) + 10) g g')) (hP : mj_rd g p = some (ptC (nI (A 0)) s1 s2 .null (.ref S1) (.ref S2) (.ref R1) (.ref R2))) (h0 : A 0 = 91) (h1 : a < m) (h2 : m < e) (he : e < 30) (r1 : yRow I g x d R1 (a + 1) m) (r2 : yRow I g x d R2 (m + 1) e) (w1 : wSq (wPt x y d) (a + 1) m (a' + 1)) (w3 : wSq (wPt x y d) (m + 1) e (a' + (m - a) + 1)) (hb : g.length + 4 * (e + 1 - a) + 60 < mj_CB) : mj_Wp (D + 1) 362 (0, [some (.ref p), none, none], [], g) (mz_V fun r g' => ∃ q L1 L2, r = .ref q ∧ frI g q ∧ mj_rd g' q = some (ptC (nI 91) s1 s2 .null (.ref S2) (.ref S1) (.ref L1) (.ref L2)) ∧ yRow (bI I g) g' y d L1 (a' + 1) (a' + (m - a)) ∧ yRow (bI I g) g' y d L2 (a' + (m - a) + 1) (a' + (e - a)) ∧ mz_mo [] (4 * (e + 1 - a) - 1) (90 * (e + 1 - a) - 72) g g') := by
  refine s_sh (p' := 2) (ls' := _) (st' := .ref 1000308 :: _) (h' := _) rfl rfl rfl rfl ?_
  refine s_aldn (p' := 3) rfl rfl rfl ?_
  refine s_gf (p' := 6) rfl hP rfl rfl ?_
  rw [h0]
  refine s_callV (p' := 9) (ls0 := [_, _]) rfl rfl rfl rfl rfl (mj_rcv_is (k_308 _)) rfl (y_io308 (c := 91) (by decide)) (by first | decide | omega) rfl ?_
  rw [show (if 91 < 256 then fIdx tl_308 91 6 0 else 4294967295) = 4294967295 from by decide]
  refine s_istn (p' := 10) (ls' := [_, _, _]) rfl rfl rfl rfl ?_
  refine s_newz (p' := 13) (a := g.length) rfl rfl rfl rfl ?_
  have hQp : g.length ≠ p := by have := rdN hP; have e1 : mj_CB = 1000000 := rfl; omega
  have bQ : g.length < mj_CB := by omega
  generalize hg1 : g ++ [_] = h1
  have P1 : mj_rd h1 p = some (ptC (nI (A 0)) s1 s2 .null (.ref S1) (.ref S2) (.ref R1) (.ref R2)) := by rw [← hg1]; exact rd_app hP
  have Q1 : mj_rd h1 g.length = some (ptC 0 0 0 .null .null .null .null .null) := by rw [← hg1]; exact rd_nw (Nat.blt_eq.mpr (by omega)) rfl
  have m1 : mz_mo [] 1 8 g h1 := by rw [← hg1]; exact mz_mo.ap [] _ _
  have l1 : h1.length = g.length + 1 := by rw [← hg1]; exact List.length_append
  clear hg1
  refine s_sp (p' := 14) (ls' := _) rfl rfl rfl ?_
  refine s_ildn (p' := 15) rfl rfl rfl ?_
  refine s_if (p' := 18) false rfl (by decide +kernel) rfl ?_
  refine s_aldn (p' := 19) rfl rfl rfl ?_
  refine s_gf (p' := 22) rfl P1 rfl rfl ?_
  rw [h0]
  refine s_goto (p' := 33) rfl rfl ?_
  refine c_call (p' := 36) (kc := 5) (ls0 := [_, _]) rfl rfl rfl rfl rfl (mj_rcv_is Q1) rfl (Nat.ble_eq.mpr (by omega)) rfl ?_
  refine s_aldn (p' := 1) rfl rfl rfl ?_
  refine s_primN (p' := 4) (q := 3) rfl rfl rfl rfl rfl rfl rfl rfl ?_
  refine s_aldn (p' := 5) rfl rfl rfl ?_
  refine s_ildn (p' := 6) rfl rfl rfl ?_
  refine s_pf (p' := 9) (fs' := [_, _, _, _, _, _, _, _]) rfl bQ Q1 (Nat.blt_eq.mp rfl) (by decide +kernel) rfl rfl ?_
  refine c_ret rfl ?_
  refine s_astn (p' := 37) (ls' := [_, _, _]) rfl rfl rfl rfl ?_
  refine s_aldn (p' := 38) rfl rfl rfl ?_
  refine s_aldn (p' := 39) rfl rfl rfl ?_
  refine s_gf (p' := 42) rfl ((rd_setn hQp).trans P1) rfl rfl ?_
  refine s_pf (p' := 45) (fs' := [_, _, _, _, _, _, _, _]) rfl bQ (rd_set bQ Q1) (Nat.blt_eq.mp rfl) rfl rfl rfl ?_
  rw [List.set_set]
  refine s_aldn (p' := 46) rfl rfl rfl ?_
  refine s_aldn (p' := 47) rfl rfl rfl ?_
  refine s_gf (p' := 50) rfl ((rd_setn hQp).trans P1) rfl rfl ?_
  refine s_pf (p' := 53) (fs' := [_, _, _, _, _, _, _, _]) rfl bQ (rd_set bQ Q1) (Nat.blt_eq.mp rfl) rfl rfl rfl ?_
  rw [List.set_set]
  refine s_aldn (p' := 54) rfl rfl rfl ?_
  refine s_aldn (p' := 55) rfl rfl rfl ?_
  refine s_gf (p' := 58) rfl ((rd_setn hQp).trans P1) rfl rfl ?_
  refine s_pf (p' := 61) (fs' := [_, _, _, _, _, _, _, _]) rfl bQ (rd_set bQ Q1) (Nat.blt_eq.mp rfl) rfl rfl rfl ?_
  rw [List.set_set]
  refine s_aldn (p' := 62) rfl rfl rfl ?_
  refine s_aldn (p' := 63) rfl rfl rfl ?_
  refine s_gf (p' := 66) rfl ((rd_setn hQp).trans P1) rfl rfl ?_
  refine s_pf (p' := 69) (fs' := [_, _, _, _, _, _, _, _]) rfl bQ (rd_set bQ Q1) (Nat.blt_eq.mp rfl) rfl rfl rfl ?_
  rw [List.set_set]
  refine s_aldn (p' := 70) rfl rfl rfl ?_
  refine s_aldn (p' := 71) rfl rfl rfl ?_
  refine s_gf (p' := 74) rfl ((rd_setn hQp).trans P1) rfl rfl ?_
  refine s_pf (p' := 77) (fs' := [_, _, _, _, _, _, _, _]) rfl bQ (rd_set bQ Q1) (Nat.blt_eq.mp rfl) rfl rfl rfl ?_
  rw [List.set_set]
  generalize hg2 : List.set h1 g.length _ = h2
  have P2 : mj_rd h2 p = some (ptC (nI (A 0)) s1 s2 .null (.ref S1) (.ref S2) (.ref R1) (.ref R2)) := by rw [← hg2]; exact (rd_setn hQp).trans P1
  have Q2 : mj_rd h2 g.length = some (ptC (nI 91) s1 s2 .null (.ref S2) (.ref S1) .null .null) := by rw [← hg2]; exact rd_set bQ Q1
  have m2 : mz_mo [] 1 8 g h2 := by rw [← hg2]; exact mz_mo.s m1 bQ Q1 rfl (Or.inr (Nat.le_refl _))
  have u2 := mo_le m2
  have w2 : g.length < h2.length := rd_len bQ Q2
  clear hg2 P1 Q1 m1
  have mv2 : Mv I I [] g h2 := ⟨m2.1, hI, fun a ha _ => ⟨List.not_mem_nil, ha⟩⟩
  have rw1 : yRow I h2 x d R1 (a + 1) m := rwP.mv mv2 (fun p a b _ _ => yPt.mv mv2 d p a b (fun _ _ _ _ _ => rfl)) (fun p a b => yPt.lt d p a b) r1
  refine s_aldn (p' := 78) rfl rfl rfl ?_
  refine s_aldn (p' := 79) rfl rfl rfl ?_
  refine s_gf (p' := 82) rfl P2 rfl rfl ?_
  refine s_nonnull (p' := 89) (x := (some R1)) true rfl rfl rfl ?_
  refine s_aldn (p' := 90) rfl rfl rfl ?_
  refine s_gf (p' := 93) rfl P2 rfl rfl ?_
  refine s_callEV (p' := 96) (ls0 := [_, _, _]) rfl rfl rfl rfl rfl rfl rfl (hrow R1 (a + 1) m (a' + 1) _ (fun z hz => by have := hIl z hz; omega) rw1 w1 (by omega) (by omega)) (Nat.ble_eq.mpr (by omega)) rfl ?_
  rintro _ h3 ⟨L1, rfl, n1, m3⟩
  have P3 := m3.1 _ (by simp) _ P2
  have Q3 := m3.1 _ (by simp) _ Q2
  have u3 := mo_le m3
  refine s_pf (p' := 99) (fs' := [_, _, _, _, _, _, _, _]) rfl bQ Q3 (Nat.blt_eq.mp rfl) rfl rfl rfl ?_
  generalize hg4 : List.set h3 g.length _ = h4
  have P4 : mj_rd h4 p = some (ptC (nI (A 0)) s1 s2 .null (.ref S1) (.ref S2) (.ref R1) (.ref R2)) := by rw [← hg4]; exact (rd_setn hQp).trans P3
  have Q4 : mj_rd h4 g.length = some (ptC (nI 91) s1 s2 .null (.ref S2) (.ref S1) (.ref L1) .null) := by rw [← hg4]; exact rd_set bQ Q3
  have n4 : mz_fr [g.length] h3 h4 := by rw [← hg4]; exact mz_fr.s (by simp) (mz_fr.rf _ _)
  have m4 : mz_mo [] (1 + (4 * (m - (a + 1)) + 1)) (8 + (90 * (m - (a + 1)) + 10)) g h4 := by rw [← hg4]; exact mz_mo.s (m2.tr m3 (fun y hy => by cases hy) (Nat.le_refl _) (Nat.le_refl _)) bQ Q3 rfl (Or.inr (Nat.le_refl _))
  have u4 := mo_le m4
  have l4 : h4.length = h3.length := by rw [← hg4, List.length_set]
  clear hg4 P2 Q2 m2 P3 Q3
  have mv4 : Mv I I [] g h4 := ⟨m4.1, hI, fun a ha _ => ⟨List.not_mem_nil, ha⟩⟩
  have rw2 : yRow I h4 x d R2 (m + 1) e := rwP.mv mv4 (fun p a b _ _ => yPt.mv mv4 d p a b (fun _ _ _ _ _ => rfl)) (fun p a b => yPt.lt d p a b) r2
  have mw4 : Mv (bI I h2) (bI I h2) [g.length] h3 h4 := ⟨n4, bI.lt hI, fun z hz _ => by
    refine ⟨?_, hz⟩
    simp only [List.mem_singleton]
    rcases hz with hz | hz
    · have := hIl z hz; omega
    · have := hz.1; omega⟩
  have nn1 : yRow (bI I h2) h4 y d L1 (a' + 1) (a' + 1 + (m - (a + 1))) := rwP.mv mw4 (fun p a b _ _ => yPt.mv mw4 d p a b (fun _ _ _ _ _ => rfl)) (fun p a b => yPt.lt d p a b) n1
  clear n1 mw4 n4
  refine s_aldn (p' := 100) rfl rfl rfl ?_
  refine s_aldn (p' := 101) rfl rfl rfl ?_
  refine s_gf (p' := 104) rfl P4 rfl rfl ?_
  refine s_nonnull (p' := 111) (x := (some R2)) true rfl rfl rfl ?_
  refine s_aldn (p' := 112) rfl rfl rfl ?_
  refine s_gf (p' := 115) rfl P4 rfl rfl ?_
  refine s_callEV (p' := 118) (ls0 := [_, _, _]) rfl rfl rfl rfl rfl rfl rfl (hrow R2 (m + 1) e (a' + (m - a) + 1) _ (fun z hz => by have := hIl z hz; omega) rw2 w3 (by omega) (by omega)) (Nat.ble_eq.mpr (by omega)) rfl ?_
  rintro _ h5 ⟨L2, rfl, n2, m5⟩
  have Q5 := m5.1 _ (by simp) _ Q4
  have u5 := mo_le m5
  refine s_pf (p' := 121) (fs' := [_, _, _, _, _, _, _, _]) rfl bQ Q5 (Nat.blt_eq.mp rfl) rfl rfl rfl ?_
  refine s_aldn (p' := 122) rfl rfl rfl ?_
  refine s_aret rfl ?_
  generalize hg6 : List.set h5 g.length _ = h6
  have Q6 : mj_rd h6 g.length = some (ptC (nI 91) s1 s2 .null (.ref S2) (.ref S1) (.ref L1) (.ref L2)) := by rw [← hg6]; exact rd_set bQ Q5
  have n6 : mz_fr [g.length] h5 h6 := by rw [← hg6]; exact mz_fr.s (by simp) (mz_fr.rf _ _)
  have m6 : mz_mo [] (1 + (4 * (m - (a + 1)) + 1) + (4 * (e - (m + 1)) + 1)) (8 + (90 * (m - (a + 1)) + 10) + (90 * (e - (m + 1)) + 10)) g h6 := by rw [← hg6]; exact mz_mo.s (m4.tr m5 (fun y hy => by cases hy) (Nat.le_refl _) (Nat.le_refl _)) bQ Q5 rfl (Or.inr (Nat.le_refl _))
  clear hg6 Q5 P4 Q4
  have mw6 : Mv (bI I h4) (bI I g) [g.length] h5 h6 := ⟨n6, bI.lt hI, fun z hz _ => by
    rcases hz with hz | hz
    · have := hIl z hz
      exact ⟨by simp only [List.mem_singleton]; omega, Or.inl hz⟩
    · have h1 := hz.1
      have h2 := hz.2
      exact ⟨by simp only [List.mem_singleton]; omega, Or.inr ⟨by omega, h2⟩⟩⟩
  have nn2 : yRow (bI I g) h6 y d L2 (a' + (m - a) + 1) (a' + (m - a) + 1 + (e - (m + 1))) := rwP.mv mw6 (fun p a b _ _ => yPt.mv mw6 d p a b (fun _ _ _ _ _ => rfl)) (fun p a b => yPt.lt d p a b) n2
  have mw5 : Mv (bI I h2) (bI I h2) [] h4 h5 := ⟨m5.1, bI.lt hI, fun z hz _ => ⟨List.not_mem_nil, hz⟩⟩
  have nn3 : yRow (bI I h2) h5 y d L1 (a' + 1) (a' + 1 + (m - (a + 1))) := rwP.mv mw5 (fun p a b _ _ => yPt.mv mw5 d p a b (fun _ _ _ _ _ => rfl)) (fun p a b => yPt.lt d p a b) nn1
  have mw7 : Mv (bI I h2) (bI I g) [g.length] h5 h6 := ⟨n6, bI.lt hI, fun z hz _ => by
    rcases hz with hz | hz
    · have := hIl z hz
      exact ⟨by simp only [List.mem_singleton]; omega, Or.inl hz⟩
    · have h1 := hz.1
      have h2 := hz.2
      exact ⟨by simp only [List.mem_singleton]; omega, Or.inr ⟨by omega, h2⟩⟩⟩
  have nn4 : yRow (bI I g) h6 y d L1 (a' + 1) (a' + 1 + (m - (a + 1))) := rwP.mv mw7 (fun p a b _ _ => yPt.mv mw7 d p a b (fun _ _ _ _ _ => rfl)) (fun p a b => yPt.lt d p a b) nn3
  rw [show a' + 1 + (m - (a + 1)) = a' + (m - a) by omega] at nn4
  rw [show a' + (m - a) + 1 + (e - (m + 1)) = a' + (e - a) by omega] at nn2
  exact ⟨_, _, rfl, _, L1, L2, rfl, ⟨Nat.le_refl _, by omega⟩, Q6, nn4, nn2, m6.wk (fun y hy => Or.inl hy) (by omega) (by omega)⟩
theorem y_bkb123 {I : Nat → Prop} {g : mj_H} {x y : Nat → Nat → Nat} {A : Nat → Nat} {d D p a m e a' S1 S2 R1 R2 : Nat} {s1 s2 : Int32} (hD : 5 ≤ D) (hI : ∀ a, I a → a < mj_CB) (hIl : ∀ a, I a → a < g.length) (hrow : ∀ (Lr k k' s : Nat) (g : mj_H), (∀ a, I a → a < g.length) → yRow I g x d Lr k k' → wSq (wPt x y d) k k' s → k' ≤ 30 → g.length + 4 * (k' - k) + 70 < mj_CB → mj_Wp D 361 (0, [some (.ref Lr), none, none], [], g) (mz_V fun r g' => ∃ L', r = .ref L' ∧ yRow (bI I g) g' y d L' s (s + (k' - k)) ∧ mz_mo [] (4 * (k' - k) + 1) (90 * (k' - k) + 10) g g')) (hP : mj_rd g p = some (ptC (nI (A 0)) s1 s2 .null (.ref S1) (.ref S2) (.ref R1) (.ref R2))) (h0 : A 0 = 123) (h1 : a < m) (h2 : m < e) (he : e < 30) (r1 : yRow I g x d R1 (a + 1) m) (r2 : yRow I g x d R2 (m + 1) e) (w1 : wSq (wPt x y d) (a + 1) m (a' + 1)) (w3 : wSq (wPt x y d) (m + 1) e (a' + (m - a) + 1)) (hb : g.length + 4 * (e + 1 - a) + 60 < mj_CB) : mj_Wp (D + 1) 362 (0, [some (.ref p), none, none], [], g) (mz_V fun r g' => ∃ q L1 L2, r = .ref q ∧ frI g q ∧ mj_rd g' q = some (ptC (nI 123) s1 s2 .null (.ref S2) (.ref S1) (.ref L1) (.ref L2)) ∧ yRow (bI I g) g' y d L1 (a' + 1) (a' + (m - a)) ∧ yRow (bI I g) g' y d L2 (a' + (m - a) + 1) (a' + (e - a)) ∧ mz_mo [] (4 * (e + 1 - a) - 1) (90 * (e + 1 - a) - 72) g g') := by
  refine s_sh (p' := 2) (ls' := _) (st' := .ref 1000308 :: _) (h' := _) rfl rfl rfl rfl ?_
  refine s_aldn (p' := 3) rfl rfl rfl ?_
  refine s_gf (p' := 6) rfl hP rfl rfl ?_
  rw [h0]
  refine s_callV (p' := 9) (ls0 := [_, _]) rfl rfl rfl rfl rfl (mj_rcv_is (k_308 _)) rfl (y_io308 (c := 123) (by decide)) (by first | decide | omega) rfl ?_
  rw [show (if 123 < 256 then fIdx tl_308 123 6 0 else 4294967295) = 4294967295 from by decide]
  refine s_istn (p' := 10) (ls' := [_, _, _]) rfl rfl rfl rfl ?_
  refine s_newz (p' := 13) (a := g.length) rfl rfl rfl rfl ?_
  have hQp : g.length ≠ p := by have := rdN hP; have e1 : mj_CB = 1000000 := rfl; omega
  have bQ : g.length < mj_CB := by omega
  generalize hg1 : g ++ [_] = h1
  have P1 : mj_rd h1 p = some (ptC (nI (A 0)) s1 s2 .null (.ref S1) (.ref S2) (.ref R1) (.ref R2)) := by rw [← hg1]; exact rd_app hP
  have Q1 : mj_rd h1 g.length = some (ptC 0 0 0 .null .null .null .null .null) := by rw [← hg1]; exact rd_nw (Nat.blt_eq.mpr (by omega)) rfl
  have m1 : mz_mo [] 1 8 g h1 := by rw [← hg1]; exact mz_mo.ap [] _ _
  have l1 : h1.length = g.length + 1 := by rw [← hg1]; exact List.length_append
  clear hg1
  refine s_sp (p' := 14) (ls' := _) rfl rfl rfl ?_
  refine s_ildn (p' := 15) rfl rfl rfl ?_
  refine s_if (p' := 18) false rfl (by decide +kernel) rfl ?_
  refine s_aldn (p' := 19) rfl rfl rfl ?_
  refine s_gf (p' := 22) rfl P1 rfl rfl ?_
  rw [h0]
  refine s_goto (p' := 33) rfl rfl ?_
  refine c_call (p' := 36) (kc := 5) (ls0 := [_, _]) rfl rfl rfl rfl rfl (mj_rcv_is Q1) rfl (Nat.ble_eq.mpr (by omega)) rfl ?_
  refine s_aldn (p' := 1) rfl rfl rfl ?_
  refine s_primN (p' := 4) (q := 3) rfl rfl rfl rfl rfl rfl rfl rfl ?_
  refine s_aldn (p' := 5) rfl rfl rfl ?_
  refine s_ildn (p' := 6) rfl rfl rfl ?_
  refine s_pf (p' := 9) (fs' := [_, _, _, _, _, _, _, _]) rfl bQ Q1 (Nat.blt_eq.mp rfl) (by decide +kernel) rfl rfl ?_
  refine c_ret rfl ?_
  refine s_astn (p' := 37) (ls' := [_, _, _]) rfl rfl rfl rfl ?_
  refine s_aldn (p' := 38) rfl rfl rfl ?_
  refine s_aldn (p' := 39) rfl rfl rfl ?_
  refine s_gf (p' := 42) rfl ((rd_setn hQp).trans P1) rfl rfl ?_
  refine s_pf (p' := 45) (fs' := [_, _, _, _, _, _, _, _]) rfl bQ (rd_set bQ Q1) (Nat.blt_eq.mp rfl) rfl rfl rfl ?_
  rw [List.set_set]
  refine s_aldn (p' := 46) rfl rfl rfl ?_
  refine s_aldn (p' := 47) rfl rfl rfl ?_
  refine s_gf (p' := 50) rfl ((rd_setn hQp).trans P1) rfl rfl ?_
  refine s_pf (p' := 53) (fs' := [_, _, _, _, _, _, _, _]) rfl bQ (rd_set bQ Q1) (Nat.blt_eq.mp rfl) rfl rfl rfl ?_
  rw [List.set_set]
  refine s_aldn (p' := 54) rfl rfl rfl ?_
  refine s_aldn (p' := 55) rfl rfl rfl ?_
  refine s_gf (p' := 58) rfl ((rd_setn hQp).trans P1) rfl rfl ?_
  refine s_pf (p' := 61) (fs' := [_, _, _, _, _, _, _, _]) rfl bQ (rd_set bQ Q1) (Nat.blt_eq.mp rfl) rfl rfl rfl ?_
  rw [List.set_set]
  refine s_aldn (p' := 62) rfl rfl rfl ?_
  refine s_aldn (p' := 63) rfl rfl rfl ?_
  refine s_gf (p' := 66) rfl ((rd_setn hQp).trans P1) rfl rfl ?_
  refine s_pf (p' := 69) (fs' := [_, _, _, _, _, _, _, _]) rfl bQ (rd_set bQ Q1) (Nat.blt_eq.mp rfl) rfl rfl rfl ?_
  rw [List.set_set]
  refine s_aldn (p' := 70) rfl rfl rfl ?_
  refine s_aldn (p' := 71) rfl rfl rfl ?_
  refine s_gf (p' := 74) rfl ((rd_setn hQp).trans P1) rfl rfl ?_
  refine s_pf (p' := 77) (fs' := [_, _, _, _, _, _, _, _]) rfl bQ (rd_set bQ Q1) (Nat.blt_eq.mp rfl) rfl rfl rfl ?_
  rw [List.set_set]
  generalize hg2 : List.set h1 g.length _ = h2
  have P2 : mj_rd h2 p = some (ptC (nI (A 0)) s1 s2 .null (.ref S1) (.ref S2) (.ref R1) (.ref R2)) := by rw [← hg2]; exact (rd_setn hQp).trans P1
  have Q2 : mj_rd h2 g.length = some (ptC (nI 123) s1 s2 .null (.ref S2) (.ref S1) .null .null) := by rw [← hg2]; exact rd_set bQ Q1
  have m2 : mz_mo [] 1 8 g h2 := by rw [← hg2]; exact mz_mo.s m1 bQ Q1 rfl (Or.inr (Nat.le_refl _))
  have u2 := mo_le m2
  have w2 : g.length < h2.length := rd_len bQ Q2
  clear hg2 P1 Q1 m1
  have mv2 : Mv I I [] g h2 := ⟨m2.1, hI, fun a ha _ => ⟨List.not_mem_nil, ha⟩⟩
  have rw1 : yRow I h2 x d R1 (a + 1) m := rwP.mv mv2 (fun p a b _ _ => yPt.mv mv2 d p a b (fun _ _ _ _ _ => rfl)) (fun p a b => yPt.lt d p a b) r1
  refine s_aldn (p' := 78) rfl rfl rfl ?_
  refine s_aldn (p' := 79) rfl rfl rfl ?_
  refine s_gf (p' := 82) rfl P2 rfl rfl ?_
  refine s_nonnull (p' := 89) (x := (some R1)) true rfl rfl rfl ?_
  refine s_aldn (p' := 90) rfl rfl rfl ?_
  refine s_gf (p' := 93) rfl P2 rfl rfl ?_
  refine s_callEV (p' := 96) (ls0 := [_, _, _]) rfl rfl rfl rfl rfl rfl rfl (hrow R1 (a + 1) m (a' + 1) _ (fun z hz => by have := hIl z hz; omega) rw1 w1 (by omega) (by omega)) (Nat.ble_eq.mpr (by omega)) rfl ?_
  rintro _ h3 ⟨L1, rfl, n1, m3⟩
  have P3 := m3.1 _ (by simp) _ P2
  have Q3 := m3.1 _ (by simp) _ Q2
  have u3 := mo_le m3
  refine s_pf (p' := 99) (fs' := [_, _, _, _, _, _, _, _]) rfl bQ Q3 (Nat.blt_eq.mp rfl) rfl rfl rfl ?_
  generalize hg4 : List.set h3 g.length _ = h4
  have P4 : mj_rd h4 p = some (ptC (nI (A 0)) s1 s2 .null (.ref S1) (.ref S2) (.ref R1) (.ref R2)) := by rw [← hg4]; exact (rd_setn hQp).trans P3
  have Q4 : mj_rd h4 g.length = some (ptC (nI 123) s1 s2 .null (.ref S2) (.ref S1) (.ref L1) .null) := by rw [← hg4]; exact rd_set bQ Q3
  have n4 : mz_fr [g.length] h3 h4 := by rw [← hg4]; exact mz_fr.s (by simp) (mz_fr.rf _ _)
  have m4 : mz_mo [] (1 + (4 * (m - (a + 1)) + 1)) (8 + (90 * (m - (a + 1)) + 10)) g h4 := by rw [← hg4]; exact mz_mo.s (m2.tr m3 (fun y hy => by cases hy) (Nat.le_refl _) (Nat.le_refl _)) bQ Q3 rfl (Or.inr (Nat.le_refl _))
  have u4 := mo_le m4
  have l4 : h4.length = h3.length := by rw [← hg4, List.length_set]
  clear hg4 P2 Q2 m2 P3 Q3
  have mv4 : Mv I I [] g h4 := ⟨m4.1, hI, fun a ha _ => ⟨List.not_mem_nil, ha⟩⟩
  have rw2 : yRow I h4 x d R2 (m + 1) e := rwP.mv mv4 (fun p a b _ _ => yPt.mv mv4 d p a b (fun _ _ _ _ _ => rfl)) (fun p a b => yPt.lt d p a b) r2
  have mw4 : Mv (bI I h2) (bI I h2) [g.length] h3 h4 := ⟨n4, bI.lt hI, fun z hz _ => by
    refine ⟨?_, hz⟩
    simp only [List.mem_singleton]
    rcases hz with hz | hz
    · have := hIl z hz; omega
    · have := hz.1; omega⟩
  have nn1 : yRow (bI I h2) h4 y d L1 (a' + 1) (a' + 1 + (m - (a + 1))) := rwP.mv mw4 (fun p a b _ _ => yPt.mv mw4 d p a b (fun _ _ _ _ _ => rfl)) (fun p a b => yPt.lt d p a b) n1
  clear n1 mw4 n4
  refine s_aldn (p' := 100) rfl rfl rfl ?_
  refine s_aldn (p' := 101) rfl rfl rfl ?_
  refine s_gf (p' := 104) rfl P4 rfl rfl ?_
  refine s_nonnull (p' := 111) (x := (some R2)) true rfl rfl rfl ?_
  refine s_aldn (p' := 112) rfl rfl rfl ?_
  refine s_gf (p' := 115) rfl P4 rfl rfl ?_
  refine s_callEV (p' := 118) (ls0 := [_, _, _]) rfl rfl rfl rfl rfl rfl rfl (hrow R2 (m + 1) e (a' + (m - a) + 1) _ (fun z hz => by have := hIl z hz; omega) rw2 w3 (by omega) (by omega)) (Nat.ble_eq.mpr (by omega)) rfl ?_
  rintro _ h5 ⟨L2, rfl, n2, m5⟩
  have Q5 := m5.1 _ (by simp) _ Q4
  have u5 := mo_le m5
  refine s_pf (p' := 121) (fs' := [_, _, _, _, _, _, _, _]) rfl bQ Q5 (Nat.blt_eq.mp rfl) rfl rfl rfl ?_
  refine s_aldn (p' := 122) rfl rfl rfl ?_
  refine s_aret rfl ?_
  generalize hg6 : List.set h5 g.length _ = h6
  have Q6 : mj_rd h6 g.length = some (ptC (nI 123) s1 s2 .null (.ref S2) (.ref S1) (.ref L1) (.ref L2)) := by rw [← hg6]; exact rd_set bQ Q5
  have n6 : mz_fr [g.length] h5 h6 := by rw [← hg6]; exact mz_fr.s (by simp) (mz_fr.rf _ _)
  have m6 : mz_mo [] (1 + (4 * (m - (a + 1)) + 1) + (4 * (e - (m + 1)) + 1)) (8 + (90 * (m - (a + 1)) + 10) + (90 * (e - (m + 1)) + 10)) g h6 := by rw [← hg6]; exact mz_mo.s (m4.tr m5 (fun y hy => by cases hy) (Nat.le_refl _) (Nat.le_refl _)) bQ Q5 rfl (Or.inr (Nat.le_refl _))
  clear hg6 Q5 P4 Q4
  have mw6 : Mv (bI I h4) (bI I g) [g.length] h5 h6 := ⟨n6, bI.lt hI, fun z hz _ => by
    rcases hz with hz | hz
    · have := hIl z hz
      exact ⟨by simp only [List.mem_singleton]; omega, Or.inl hz⟩
    · have h1 := hz.1
      have h2 := hz.2
      exact ⟨by simp only [List.mem_singleton]; omega, Or.inr ⟨by omega, h2⟩⟩⟩
  have nn2 : yRow (bI I g) h6 y d L2 (a' + (m - a) + 1) (a' + (m - a) + 1 + (e - (m + 1))) := rwP.mv mw6 (fun p a b _ _ => yPt.mv mw6 d p a b (fun _ _ _ _ _ => rfl)) (fun p a b => yPt.lt d p a b) n2
  have mw5 : Mv (bI I h2) (bI I h2) [] h4 h5 := ⟨m5.1, bI.lt hI, fun z hz _ => ⟨List.not_mem_nil, hz⟩⟩
  have nn3 : yRow (bI I h2) h5 y d L1 (a' + 1) (a' + 1 + (m - (a + 1))) := rwP.mv mw5 (fun p a b _ _ => yPt.mv mw5 d p a b (fun _ _ _ _ _ => rfl)) (fun p a b => yPt.lt d p a b) nn1
  have mw7 : Mv (bI I h2) (bI I g) [g.length] h5 h6 := ⟨n6, bI.lt hI, fun z hz _ => by
    rcases hz with hz | hz
    · have := hIl z hz
      exact ⟨by simp only [List.mem_singleton]; omega, Or.inl hz⟩
    · have h1 := hz.1
      have h2 := hz.2
      exact ⟨by simp only [List.mem_singleton]; omega, Or.inr ⟨by omega, h2⟩⟩⟩
  have nn4 : yRow (bI I g) h6 y d L1 (a' + 1) (a' + 1 + (m - (a + 1))) := rwP.mv mw7 (fun p a b _ _ => yPt.mv mw7 d p a b (fun _ _ _ _ _ => rfl)) (fun p a b => yPt.lt d p a b) nn3
  rw [show a' + 1 + (m - (a + 1)) = a' + (m - a) by omega] at nn4
  rw [show a' + (m - a) + 1 + (e - (m + 1)) = a' + (e - a) by omega] at nn2
  exact ⟨_, _, rfl, _, L1, L2, rfl, ⟨Nat.le_refl _, by omega⟩, Q6, nn4, nn2, m6.wk (fun y hy => Or.inl hy) (by omega) (by omega)⟩
theorem cz_ge' {p : Nat} (h : p + 1 < 1000) : mj_ci .lt (nI (p + 1) - nI 1) 0 = false := by
  rw [mI_sub (by omega), Nat.add_sub_cancel]
  exact cz_lt (by omega)
theorem y_bwL {I : Nat → Prop} {g0 : mj_H} {x y : Nat → Nat → Nat} {d D Lr Er c k k' s L' : Nat} {ps ks : Nat → Nat} (hD : 8 ≤ D) (hI : ∀ a, I a → a < mj_CB) (hIl : ∀ a, I a → a < g0.length) (hpart : ∀ (p a b a' : Nat) (g : mj_H), (∀ a, I a → a < g.length) → yPt I g x d p a b → wPt x y d a b a' → b ≤ 30 → g.length + 4 * (b - a) + 60 < mj_CB → mj_Wp D 362 (0, [some (.ref p), none, none], [], g) (mz_V fun r g' => ∃ q, r = .ref q ∧ yPt (bI I g) g' y d q a' (a' + (b - a)) ∧ mz_mo [] (4 * (b - a) - 1) (90 * (b - a) - 72) g g')) (hl0 : yLs g0 Lr Er c ps) (hps : ∀ j, j < c → I (ps j) ∧ yPt I g0 x d (ps j) (ks j) (ks (j + 1))) (k0 : ks 0 = k) (kc : ks c = k') (hk30 : k' ≤ 30) (hkk : k ≤ k') (hw : ∀ j, j < c → wPt x y d (ks j) (ks (j + 1)) (s + k' - ks (j + 1))) (hb : g0.length + 4 * (k' - k) + 70 < mj_CB) : ∀ (p E : Nat) (ps' ks' : Nat → Nat) (g : mj_H), p ≤ c → rowB I g0 g L' E (c - p) ps' ks' y d s (s + k' - ks p) → mz_mo [] (4 * (k' - ks p) + 1) (90 * (k' - ks p) + 10) g0 g → mj_Wp (D + 1) 361 (17, [some (.ref Lr), some (.ref L'), some (.int (nI p - nI 1))], [], g) (mz_V fun r g' => ∃ L', r = .ref L' ∧ yRow (bI I g0) g' y d L' s (s + (k' - k)) ∧ mz_mo [] (4 * (k' - k) + 1) (90 * (k' - k) + 10) g0 g')
  | 0, E, ps', ks', g, hp, r, M => by
    refine s_ildn (p' := 18) rfl rfl rfl ?_
    refine s_if (p' := 47) true rfl ((cg_lt (w := 0) (by decide +kernel)).trans (decide_eq_true (by decide +kernel))) rfl ?_
    refine s_aldn (p' := 48) rfl rfl rfl ?_
    refine s_aret rfl ?_
    have r2 := r.fin hI
    rw [show s + k' - ks 0 = s + (k' - k) by rw [k0]; omega] at r2
    exact ⟨_, _, rfl, _, rfl, r2, M.wk (fun y hy => Or.inl hy) (by omega) (by omega)⟩
  | p + 1, E, ps', ks', g, hp, r, M => by
    have hl1 : yLs g Lr Er c ps := hl0.fr M.1 (by simp) (by simp) (fun _ _ => by simp)
    have mv1 : Mv I I [] g0 g := ⟨M.1, hI, fun a ha _ => ⟨List.not_mem_nil, ha⟩⟩
    have pt1 := yPt.mv mv1 d _ _ _ (fun _ _ _ _ _ => rfl) (hps p (by omega)).2
    obtain ⟨fs1, rd1⟩ := pt1.rd
    have wj := hw p (by omega)
    have hlt := yPt.lt _ _ _ _ pt1
    have u := mo_le M
    have e1 : mj_CB = 1000000 := rfl
    have bL : L' < mj_CB := r.2.1.2
    have bL2 := r.2.1.1
    have hmn : ∀ i j, i + j ≤ c → ks i + j ≤ ks (i + j) := by
      intro i j
      induction j with
      | zero => exact fun _ => Nat.le_refl _
      | succ j ih =>
        intro q
        have := ih (by omega)
        have := yPt.lt _ _ _ _ (hps (i + j) (by omega)).2
        rw [show i + (j + 1) = i + j + 1 by omega]
        omega
    have h30 := hmn (p + 1) (c - (p + 1)) (by omega)
    rw [show p + 1 + (c - (p + 1)) = c by omega, kc] at h30
    have h0p := hmn 0 p (by omega)
    rw [Nat.zero_add, k0] at h0p
    rw [show nI (p + 1) - nI 1 = nI p from by rw [mI_sub (by omega), Nat.add_sub_cancel]]
    refine s_ildn (p' := 18) rfl rfl rfl ?_
    refine s_if (p' := 21) false rfl (cz_lt (by omega)) rfl ?_
    refine s_aldn (p' := 22) rfl rfl rfl ?_
    refine s_aldn (p' := 23) rfl rfl rfl ?_
    refine s_ildn (p' := 24) rfl rfl rfl ?_
    refine s_callV (p' := 29) (ls0 := [_, _]) rfl rfl rfl rfl rfl (by obtain ⟨mc, q⟩ := hl1.c; exact mj_rcv_is q) rfl (y_get hl1 (show p < c by omega)) (by first | decide | omega) rfl ?_
    refine s_cco (p' := 32) rfl rd1 rfl ?_
    refine s_callEV (p' := 35) (ls0 := [_, _, _]) rfl rfl rfl rfl rfl (mj_rcv_is rd1) rfl (hpart (ps p) (ks p) (ks (p + 1)) (s + k' - ks (p + 1)) _ (fun z hz => by have := hIl z hz; omega) pt1 wj (by omega) (by omega)) (Nat.ble_eq.mpr (by omega)) rfl ?_
    rintro _ g1 ⟨q, rfl, pq, m1⟩
    have u1 := mo_le m1
    have r1 := r.mv0 hI m1.1
    rw [show s + k' - ks (p + 1) + (ks (p + 1) - ks p) = s + k' - ks p by omega] at pq
    have cn : c - (p + 1) ≤ 30 := by omega
    refine s_callEV (p' := 40) (ls0 := [_, _]) rfl rfl rfl rfl rfl (by obtain ⟨mc, q⟩ := r1.1.c; exact mj_rcv_is q) rfl (y_ad bL (by omega) (by omega) r1.1 pq.ge.1) (Nat.ble_eq.mpr (by omega)) rfl ?_
    rintro _ g2 ⟨rfl, E2, yl2, hE2, bE2, m2⟩
    have u2 := mo_le m2
    have hEl : E = 1000000 ∨ E < g.length := by obtain ⟨_, _, _, _, z2, _⟩ := r.1; have z3 := rdN (rdA_lt z2); omega
    have r2 := r1.ad hI hIl (g := g) yl2 hE2 bE2 m2 pq ⟨by omega, by have := rd_len bL (Classical.choose_spec r.1.c); omega, hEl⟩ u1.1
    have M2 : mz_mo [] (4 * (k' - ks p) + 1) (90 * (k' - ks p) + 10) g0 g2 := by
      refine ⟨fun z hz c0 hc0 => ?_, by omega, by omega, by have := M.2.2.2; have := m1.2.2.2; have := m2.2.2.2; omega⟩
      have hlt := rdN hc0
      by_cases z1 : z = 1000000
      · rw [z1] at hc0 ⊢; exact hc0
      · refine m2.1 z ?_ _ (m1.1 z (by simp) _ (M.1 z hz _ hc0))
        simp only [List.mem_cons, List.not_mem_nil, or_false]
        rcases r.2.2.1 with q | q
        · omega
        · have := q.1; omega
    refine s_sp (p' := 41) (ls' := _) rfl rfl rfl ?_
    refine s_inc (p' := 44) (ls' := [_, _, _]) rfl rfl rfl rfl rfl ?_
    rw [mI_dec1]
    refine s_goto (p' := 17) rfl rfl ?_
    exact y_bwL hD hI hIl hpart hl0 hps k0 kc hk30 hkk hw hb p E2 _ _ g2 (by omega) (by rw [show c - (p + 1) + 1 = c - p by omega] at r2; exact r2) M2
theorem y_bk {I : Nat → Prop} {x y : Nat → Nat → Nat} (hI : ∀ a, I a → a < mj_CB) : ∀ (d : Nat) (Lr k k' s : Nat) (g : mj_H), (∀ a, I a → a < g.length) → yRow I g x d Lr k k' → wSq (wPt x y d) k k' s → k' ≤ 30 → g.length + 4 * (k' - k) + 70 < mj_CB → mj_Wp (2 * d + 10) 361 (0, [some (.ref Lr), none, none], [], g) (mz_V fun r g' => ∃ L', r = .ref L' ∧ yRow (bI I g) g' y d L' s (s + (k' - k)) ∧ mz_mo [] (4 * (k' - k) + 1) (90 * (k' - k) + 10) g g') := by
  intro d
  induction d with
  | zero =>
    intro Lr k k' s g hIl hr w hk30 hb
    obtain ⟨Er, c, ps, ks, l, i1, i2, k0, kc, hps⟩ := hr
    obtain ⟨mc, lc⟩ := l.c
    have e1 : mj_CB = 1000000 := rfl
    have hln : ∀ j, j < c → ks j < ks (j + 1) := fun j hj => yPt.lt _ _ _ _ (hps j hj).2
    have hw := w.at k0 kc (fun j hj => (hps j hj).2.nx) hln
    have hkk : k ≤ k' := wRow.le w
    have hcn : ∀ j, j ≤ c → k + j ≤ ks j := by
      intro j
      induction j with
      | zero => exact fun _ => by omega
      | succ j ih2 =>
        intro q
        have := ih2 (by omega)
        have := hln j (by omega)
        omega
    have hc30 := hcn c (Nat.le_refl c)
    refine s_new (p' := 3) rfl rfl rfl ?_
    generalize hg1 : g ++ [_] = h1
    have l1 : h1.length = g.length + 1 := by rw [← hg1]; exact List.length_append
    have L1 : mj_rd h1 g.length = some (.inr (18, [.null, .int 0, .int 0])) := by rw [← hg1]; exact rd_nw (Nat.blt_eq.mpr (by omega)) rfl
    have m1 : mz_mo [] 1 3 g h1 := by rw [← hg1]; exact mz_mo.ap [] _ _
    clear hg1
    refine s_sp (p' := 4) (ls' := _) rfl rfl rfl ?_
    refine s_callN (p' := 7) (ls0 := [_]) rfl rfl rfl rfl rfl (mj_rcv_is L1) rfl (y_ini (by omega) L1) (by first | decide | omega) rfl ?_
    generalize hg2 : List.set h1 g.length _ = h2
    have l2 : h2.length = g.length + 1 := by rw [← hg2, List.length_set, l1]
    have m2 : mz_mo [] 1 3 g h2 := by rw [← hg2]; exact mz_mo.s m1 (by omega) L1 rfl (Or.inr (by omega))
    have L2 : mj_rd h2 g.length = some (alC 1000000 0 (nI 0)) := by rw [← hg2]; exact rd_set (by omega) L1
    clear hg2
    refine s_astn (p' := 8) (ls' := [_, _, _]) rfl rfl rfl rfl ?_
    refine s_aldn (p' := 9) rfl rfl rfl ?_
    refine s_callV (p' := 14) (ls0 := [_]) rfl rfl rfl rfl rfl (mj_rcv_is (m2.1 _ (by simp) _ lc)) rfl (y_siz (m2.1 _ (by simp) _ lc)) (by first | decide | omega) rfl ?_
    refine s_con (p' := 15) rfl rfl ?_
    refine s_sp (p' := 16) (ls' := _) rfl rfl rfl ?_
    refine s_istn (p' := 17) (ls' := [_, _, _]) rfl rfl rfl rfl ?_
    exact y_bwL (g0 := g) (D := 9) (L' := g.length) (by omega) hI hIl (fun p a b a' g2 hIl2 pt wp hb30 hb2 => by
      obtain ⟨sm, e⟩ := pt
      subst e
      rw [Nat.add_sub_cancel_left] at hb2 ⊢
      refine mj_Wp.mono ((y_bkS (d := 0) hI sm wp.2 (by omega)).imp ?_) (by omega)
      rintro _ ⟨r, g', rfl, q, e, pq, m⟩
      exact ⟨_, _, rfl, q, e, pq, m.wk (fun y hy => Or.inl hy) (by decide) (by decide)⟩) l hps k0 kc hk30 hkk hw hb c 1000000 (fun _ => 0) (fun _ => s) h2 (Nat.le_refl c) (by rw [Nat.sub_self, kc, show s + k' - k' = s by omega]; exact rowB.nil L2 ⟨Nat.le_refl _, by omega⟩) (m2.wk (fun y hy => Or.inl hy) (by omega) (by omega))
  | succ d ih =>
    intro Lr k k' s g hIl hr w hk30 hb
    obtain ⟨Er, c, ps, ks, l, i1, i2, k0, kc, hps⟩ := hr
    obtain ⟨mc, lc⟩ := l.c
    have e1 : mj_CB = 1000000 := rfl
    have hln : ∀ j, j < c → ks j < ks (j + 1) := fun j hj => yPt.lt _ _ _ _ (hps j hj).2
    have hw := w.at k0 kc (fun j hj => (hps j hj).2.nx) hln
    have hkk : k ≤ k' := wRow.le w
    have hcn : ∀ j, j ≤ c → k + j ≤ ks j := by
      intro j
      induction j with
      | zero => exact fun _ => by omega
      | succ j ih2 =>
        intro q
        have := ih2 (by omega)
        have := hln j (by omega)
        omega
    have hc30 := hcn c (Nat.le_refl c)
    refine s_new (p' := 3) rfl rfl rfl ?_
    generalize hg1 : g ++ [_] = h1
    have l1 : h1.length = g.length + 1 := by rw [← hg1]; exact List.length_append
    have L1 : mj_rd h1 g.length = some (.inr (18, [.null, .int 0, .int 0])) := by rw [← hg1]; exact rd_nw (Nat.blt_eq.mpr (by omega)) rfl
    have m1 : mz_mo [] 1 3 g h1 := by rw [← hg1]; exact mz_mo.ap [] _ _
    clear hg1
    refine s_sp (p' := 4) (ls' := _) rfl rfl rfl ?_
    refine s_callN (p' := 7) (ls0 := [_]) rfl rfl rfl rfl rfl (mj_rcv_is L1) rfl (y_ini (by omega) L1) (by first | decide | omega) rfl ?_
    generalize hg2 : List.set h1 g.length _ = h2
    have l2 : h2.length = g.length + 1 := by rw [← hg2, List.length_set, l1]
    have m2 : mz_mo [] 1 3 g h2 := by rw [← hg2]; exact mz_mo.s m1 (by omega) L1 rfl (Or.inr (by omega))
    have L2 : mj_rd h2 g.length = some (alC 1000000 0 (nI 0)) := by rw [← hg2]; exact rd_set (by omega) L1
    clear hg2
    refine s_astn (p' := 8) (ls' := [_, _, _]) rfl rfl rfl rfl ?_
    refine s_aldn (p' := 9) rfl rfl rfl ?_
    refine s_callV (p' := 14) (ls0 := [_]) rfl rfl rfl rfl rfl (mj_rcv_is (m2.1 _ (by simp) _ lc)) rfl (y_siz (m2.1 _ (by simp) _ lc)) (by first | decide | omega) rfl ?_
    refine s_con (p' := 15) rfl rfl ?_
    refine s_sp (p' := 16) (ls' := _) rfl rfl rfl ?_
    refine s_istn (p' := 17) (ls' := [_, _, _]) rfl rfl rfl rfl ?_
    exact y_bwL (g0 := g) (D := 2 * d + 11) (L' := g.length) (by omega) hI hIl (fun p a b a' g2 hIl2 pt wp hb30 hb2 => by
      rcases pt with ⟨sm, e⟩ | ⟨m, e, S1, S2, R1, R2, s1, s2, q1, q2, q3, q4, q5, q6, q7, q8, r1, r2⟩
      · subst e
        have wm : wSm (x a) (y a') := by
          rcases wp with wp | ⟨m, e, _, _, _, w4, _⟩
          · exact wp.2
          · have := brS_t (s := x a 0) (by have := w4.1.1; omega)
            rw [sm.1] at this; cases this
        rw [Nat.add_sub_cancel_left] at hb2 ⊢
        refine mj_Wp.mono ((y_bkS (d := d + 1) hI sm wm (by omega)).imp ?_) (by omega)
        rintro _ ⟨r, g', rfl, q, e, pq, m⟩
        exact ⟨_, _, rfl, q, e, pq, m.wk (fun y hy => Or.inl hy) (by decide) (by decide)⟩
      · subst q1
        have wb : a < m ∧ m < e ∧ wBr x y a m e a' (a' + (m - a)) (a' + (e - a)) ∧ wSq (wPt x y d) (a + 1) m (a' + 1) ∧ wSq (wPt x y d) (m + 1) e (a' + (m - a) + 1) := by
          rcases wp with wp | ⟨m2, e2, _, w2, w3, w4, w5, w6⟩
          · exact absurd (brS_t (s := x a 0) (by omega)) wp.2.1.nb
          · have lk := w4.1.2.2.2.2.2.2.1
            obtain rfl : m2 = m := by have := lk.2.1; omega
            obtain rfl : e2 = e := by have := lk.2.2; omega
            exact ⟨w2, w3, w4, w5, w6⟩
        obtain ⟨w2, w3, w4, w5, w6⟩ := wb
        have hrow := fun (Lr k k' s : Nat) (g : mj_H) z1 z2 z3 z4 z5 => ih Lr k k' s g z1 z2 z3 z4 z5
        have yb := w4.2.1
        have ysg := w4.2.2.1
        have fin : ∀ (o : mj_O × mj_H) (sg : Nat), sg = x a 0 → (mz_V fun r g' => ∃ q L1 L2, r = .ref q ∧ frI g2 q ∧ mj_rd g' q = some (ptC (nI sg) s1 s2 .null (.ref S2) (.ref S1) (.ref L1) (.ref L2)) ∧ yRow (bI I g2) g' y d L1 (a' + 1) (a' + (m - a)) ∧ yRow (bI I g2) g' y d L2 (a' + (m - a) + 1) (a' + (e - a)) ∧ mz_mo [] (4 * (e + 1 - a) - 1) (90 * (e + 1 - a) - 72) g2 g') o → (mz_V fun r g' => ∃ q, r = .ref q ∧ yPt (bI I g2) g' y (d + 1) q a' (a' + (e + 1 - a)) ∧ mz_mo [] (4 * (e + 1 - a) - 1) (90 * (e + 1 - a) - 72) g2 g') o := by
          rintro o sg hsg ⟨r, g', rfl, q, L1, L2, rfl, fq, rq, n1, n2, mm⟩
          have mv : Mv I (bI I g2) [] g2 g' := ⟨mm.1, hI, fun a ha _ => ⟨List.not_mem_nil, Or.inl ha⟩⟩
          refine ⟨_, _, rfl, q, rfl, Or.inr ⟨a' + (m - a), a' + (e - a), S2, S1, L1, L2, s1, s2, by omega, by rw [ysg]; exact q2, yb.2.2.2.2.2.2.1.2.1, yb.2.2.2.2.2.2.1.2.2, Or.inr fq, by rw [ysg, ← hsg]; exact rq, ?_, ?_, n1, n2⟩, mm⟩
          · have := q8.mv mv
            rw [w4.2.2.2.1 2 (by decide) (by decide), w4.2.2.2.1 3 (by decide) (by decide), w4.2.2.2.1 4 (by decide) (by decide)]
            exact this
          · have := q7.mv mv
            rw [w4.2.2.2.2 2 (by decide) (by decide), w4.2.2.2.2 3 (by decide) (by decide), w4.2.2.2.2 4 (by decide) (by decide)]
            exact this
        rcases q2 with q2 | q2
        · exact (y_bkb91 (A := x a) (D := 2 * d + 10) (by omega) hI hIl2 hrow q6 q2 w2 w3 (by omega) r1 r2 w5 w6 (by omega)).imp fun o ho => fin o 91 q2.symm ho
        · exact (y_bkb123 (A := x a) (D := 2 * d + 10) (by omega) hI hIl2 hrow q6 q2 w2 w3 (by omega) r1 r2 w5 w6 (by omega)).imp fun o ho => fin o 123 q2.symm ho) l hps k0 kc hk30 hkk hw hb c 1000000 (fun _ => 0) (fun _ => s) h2 (Nat.le_refl c) (by rw [Nat.sub_self, kc, show s + k' - k' = s by omega]; exact rowB.nil L2 ⟨Nat.le_refl _, by omega⟩) (m2.wk (fun y hy => Or.inl hy) (by omega) (by omega))
