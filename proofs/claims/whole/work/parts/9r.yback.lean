/-! The reference runs: procedures, coming back. -/
/-- the reference's procedure at D: its acts -/
def yPrA (I : Nat → Prop) (h : mj_H) (D k : Nat) (x : Nat → Nat → Nat) : Prop := ∃ (Lr Tx La Ea : Nat) (F : Nat → Nat), I D ∧ mj_rd h D = some (.inr (26, [.ref Lr, .ref Tx, .ref La])) ∧ yLs h La Ea k F ∧ I La ∧ (I Ea ∨ Ea = 1000000) ∧ ∀ j, j < k → I (F j) ∧ yAc I h x (F j) j
theorem yPrA.mv {I J : Nat → Prop} {L : List Nat} {h g : mj_H} {D k : Nat} {x : Nat → Nat → Nat} (m : Mv I J L h g) : yPrA I h D k x → yPrA J g D k x
  | ⟨Lr, Tx, La, Ea, F, i1, r, l, i2, i3, a⟩ => by
    have l0 := l
    obtain ⟨cap, mc, ef, l1, l2, l3, l4, l5, l6⟩ := l0
    have hE : mj_rdA g Ea = some (6, (cap, objs ef)) ∧ (J Ea ∨ Ea = 1000000) := by
      rcases i3 with i3 | i3
      · have hlt := m.lt i3 (rdA_lt l2)
        exact ⟨mz_fr.A m.1 (m.2.2 _ i3 hlt).1 l2, Or.inl (m.2.2 _ i3 hlt).2⟩
      · rw [i3] at l2 ⊢
        exact ⟨l2, Or.inr rfl⟩
    exact ⟨Lr, Tx, La, Ea, F, m.j i1 r, m.rd i1 r, ⟨cap, mc, ef, m.rd i2 l1, hE.1, l3, l4, l5, fun j hj => ⟨(l6 j hj).1, by
      obtain ⟨c1, fs, z, _⟩ := (l6 j hj).2
      exact (l6 j hj).2.fr m.1 (m.2.2 _ (a j hj).1 (m.lt (a j hj).1 z)).1⟩⟩, m.j i2 l1, hE.2, fun j hj => ⟨((a j hj).2.mv m).1, (a j hj).2.mv m⟩⟩
/-- the reference's procedures -/
def yLb (I : Nat → Prop) (h : mj_H) (np : Nat) (K : Nat → Nat) (X : Nat → Nat → Nat → Nat) : Prop := (∃ (m0 m2 m3 m4 m5 m6 m7 m8 m9 m10 : Value), mj_rd h 400 = some (.inr (17, [m0, .ref 401, m2, m3, m4, m5, m6, m7, m8, m9, m10]))) ∧ ∃ (Ep : Nat) (PF : Nat → Nat), yLs h 401 Ep np PF ∧ (∀ a, I a → a < mj_CB) ∧ ∀ p, p < np → yPrA I h (PF p) (K p) (X p)
theorem wML_m {W x : Nat} : x ∈ wML W ↔ W ≤ x ∧ x ≤ W + 7 := by
  unfold wML
  simp only [List.mem_cons, List.not_mem_nil, or_false]
  omega
/-- a world's cells are no lists, no rows of lists, not the reference -/
theorem yWl.kd {h : mj_H} {W : Nat} {s : SS} {z : CZ} (a : yWl h W s z) {x : Nat} (hx : x ∈ wML W) : ∃ c, mj_rd h x = some c ∧ (∀ y, c ≠ .inl (6, y)) ∧ ∀ k fs, c = .inr (k, fs) → k = 19 := by
  obtain ⟨sv, p, l, c, w, cp, cl, cw⟩ := s
  obtain ⟨a0, ⟨⟨_, a1, _⟩, ⟨_, a2, _⟩, _⟩, ⟨⟨_, a3, _⟩, ⟨_, a4, _⟩, _, a5, _⟩, _, _, a6, a7, _⟩ := a
  unfold wML at hx
  simp only [List.mem_cons, List.not_mem_nil, or_false] at hx
  rcases hx with rfl | rfl | rfl | rfl | rfl | rfl | rfl | rfl
  · exact ⟨_, a0, (fun _ e => by unfold wrC at e; cases e), fun k fs e => (Prod.mk.inj (Sum.inr.inj e)).1.symm⟩
  · exact ⟨_, a1, (fun _ e => by cases e), (fun _ _ e => by cases e)⟩
  · exact ⟨_, a2, (fun _ e => by cases e), (fun _ _ e => by cases e)⟩
  · exact ⟨_, a3, (fun _ e => by cases e), (fun _ _ e => by cases e)⟩
  · exact ⟨_, a4, (fun _ e => by cases e), (fun _ _ e => by cases e)⟩
  · exact ⟨_, a5, (fun _ e => by cases e), (fun _ _ e => by cases e)⟩
  · exact ⟨_, a6, (fun _ e => by cases e), (fun _ _ e => by cases e)⟩
  · exact ⟨_, a7, (fun _ e => by cases e), (fun _ _ e => by cases e)⟩
/-- procedures stay while a world changes -/
theorem yLb.fr {I : Nat → Prop} {h g : mj_H} {L : List Nat} {W np : Nat} {K : Nat → Nat} {X : Nat → Nat → Nat → Nat} {s : SS} {z : CZ} (a : yLb I h np K X) (e : mz_fr L h g) (w : yWl h W s z) (hL : ∀ x, x ∈ L → x ∈ wML W) (hI : ∀ x, x ∈ wML W → ¬ I x) : yLb I g np K X := by
  obtain ⟨⟨m0, m2, m3, m4, m5, m6, m7, m8, m9, m10, r⟩, Ep, PF, l, hB, pr⟩ := a
  have no : ∀ x k fs, mj_rd h x = some (.inr (k, fs)) → k ≠ 19 → x ∉ L := fun x k fs hr hk hx => by
    obtain ⟨c, c1, _, c3⟩ := w.kd (hL x hx)
    rw [hr] at c1
    exact hk (c3 k fs (Option.some.inj c1).symm)
  have m : Mv I I L h g := ⟨e, hB, fun a ha _ => ⟨fun hx => hI a (hL a hx) ha, ha⟩⟩
  refine ⟨⟨m0, m2, m3, m4, m5, m6, m7, m8, m9, m10, e _ (no _ _ _ r (by decide)) _ r⟩, Ep, PF, ?_, hB, fun p hp => (pr p hp).mv m⟩
  have l0 := l
  obtain ⟨cap, mc, ef, l1, l2, l3, l4, l5, l6⟩ := l0
  refine l.fr e (no _ _ _ l1 (by decide)) (fun hx => ?_) (fun j hj => ?_)
  · obtain ⟨c, c1, c2, _⟩ := w.kd (hL _ hx)
    rw [rdA_lt l2] at c1
    exact c2 _ (Option.some.inj c1).symm
  · obtain ⟨_, _, _, _, _, i1, r1, _⟩ := pr j hj
    exact no _ _ _ r1 (by decide)
theorem y_act {I : Nat → Prop} {h : mj_H} {W np p l c t cn : Nat} {w : Bool} {cp cl : Nat → Nat} {cw : Nat → Bool} {K : Nat → Nat} {X : Nat → Nat → Nat → Nat} (hl : yLb I h np K X) (hW : mj_rd h W = some (wrC W t c cn)) (hR : wRn h W (p, l, c, w, cp, cl, cw)) (hc : c ≤ 20) (hp : p < np) (hn : np ≤ 6) : mj_Wp 5 383 (0, [some (.ref W)], [], h) (fun o => ∃ (La Ea : Nat) (F : Nat → Nat), o = (.inl (some (.ref La)), h) ∧ yLs h La Ea (K p) F ∧ ∀ j, j < K p → yAc I h (X p) (F j) j) := by
  obtain ⟨⟨m0, m2, m3, m4, m5, m6, m7, m8, m9, m10, r0⟩, Ep, PF, yl, hB, pr⟩ := hl
  obtain ⟨Lr, Tx, La, Ea, F, iD, rD, la, _, _, ac⟩ := pr p hp
  obtain ⟨⟨f1, a1, _, b1⟩, _⟩ := hR
  refine s_aldn (p' := 1) rfl rfl rfl ?_
  refine s_gf (p' := 4) rfl hW rfl rfl ?_
  refine s_gf (p' := 7) rfl r0 rfl rfl ?_
  refine s_aldn (p' := 8) rfl rfl rfl ?_
  refine s_gf (p' := 11) rfl hW rfl rfl ?_
  refine s_aldn (p' := 12) rfl rfl rfl ?_
  refine s_gf (p' := 15) rfl hW rfl rfl ?_
  refine s_ial (p' := 16) rfl a1 (inb_nI (by omega) (by omega)) rfl ?_
  rw [mI_cl (by omega), b1]
  refine s_callV (p' := 21) (ls0 := [_, _]) rfl rfl rfl rfl rfl (by obtain ⟨_, _, _, zz, _⟩ := yl; exact mj_rcv_is zz) rfl (y_get yl hp) (by first | decide | omega) rfl ?_
  refine s_cco (p' := 24) rfl rD rfl ?_
  refine s_gf (p' := 27) rfl rD rfl rfl ?_
  refine s_aret rfl ?_
  exact ⟨La, Ea, F, rfl, la, fun j hj => (ac j hj).2⟩
theorem y_aen {I : Nat → Prop} {h : mj_H} {W np p l c t cn : Nat} {w : Bool} {cp cl : Nat → Nat} {cw : Nat → Bool} {K : Nat → Nat} {X : Nat → Nat → Nat → Nat} (hl : yLb I h np K X) (hW : mj_rd h W = some (wrC W t c cn)) (hR : wRn h W (p, l, c, w, cp, cl, cw)) (hc : c ≤ 20) (hp : p < np) (hn : np ≤ 6) (hk : K p ≤ 30) (hll : l ≤ 30) : mj_Wp 6 382 (0, [some (.ref W)], [], h) (fun o => o = (.inl (some (.int (nI (bN (decide (l = if w = true then K p else 0)))))), h)) := by
  obtain ⟨_, ⟨f2, a2, _, b2⟩, f3, a3, _, _, b3⟩ := id hR
  refine s_aldn (p' := 1) rfl rfl rfl ?_
  refine s_gf (p' := 4) rfl hW rfl rfl ?_
  refine s_aldn (p' := 5) rfl rfl rfl ?_
  refine s_gf (p' := 8) rfl hW rfl rfl ?_
  refine s_ial (p' := 9) rfl a2 (inb_nI (by omega) (by omega)) rfl ?_
  rw [mI_cl (by omega), b2]
  refine s_aldn (p' := 10) rfl rfl rfl ?_
  refine s_gf (p' := 13) rfl hW rfl rfl ?_
  refine s_aldn (p' := 14) rfl rfl rfl ?_
  refine s_gf (p' := 17) rfl hW rfl rfl ?_
  refine s_bal2 (p' := 18) rfl a3 (inb_nI (by omega) (by omega)) rfl ?_
  rw [mI_cl (by omega), b3]
  by_cases qw : w = true
  · refine s_if (p' := 21) false rfl (by rw [qw]; rfl) rfl ?_
    refine s_aldn (p' := 22) rfl rfl rfl ?_
    refine c_call (p' := 25) (kc := 5) (ls0 := [_]) rfl rfl rfl rfl rfl (mj_rcv_is hW) rfl rfl rfl ?_
    refine ((y_act hl hW hR hc hp hn)).imp ?_
    rintro o ⟨La, Ea, F, rfl, la, ac⟩
    show mj_Wp _ _ (25, _, _, _) _
    refine s_callV (p' := 30) (ls0 := [_]) rfl rfl rfl rfl rfl (by obtain ⟨_, _, _, zz, _⟩ := la; exact mj_rcv_is zz) rfl (by obtain ⟨_, _, _, zz, _⟩ := la; exact y_siz zz) (by first | decide | omega) rfl ?_
    refine s_goto (p' := 34) rfl rfl ?_
    by_cases q : l = K p
    · refine s_icmp (p' := 37) false rfl ((ci_ne (by omega) (by omega)).trans (decide_eq_false (by omega))) rfl ?_
      refine s_con (p' := 38) rfl rfl ?_
      refine s_goto (p' := 42) rfl rfl ?_
      exact s_iret rfl rfl (by rw [if_pos qw, decide_eq_true q]; rfl)
    · refine s_icmp (p' := 41) true rfl ((ci_ne (by omega) (by omega)).trans (decide_eq_true (by omega))) rfl ?_
      refine s_con (p' := 42) rfl rfl ?_
      exact s_iret rfl rfl (by rw [if_pos qw, decide_eq_false q]; rfl)
  · refine s_if (p' := 33) true rfl (by rw [Bool.eq_false_iff.mpr qw]; rfl) rfl ?_
    refine s_con (p' := 34) rfl rfl ?_
    by_cases q : l = 0
    · refine s_icmp (p' := 37) false rfl ((ci_ne (by omega) (by omega)).trans (decide_eq_false (by omega))) rfl ?_
      refine s_con (p' := 38) rfl rfl ?_
      refine s_goto (p' := 42) rfl rfl ?_
      exact s_iret rfl rfl (by rw [if_neg qw, decide_eq_true q]; rfl)
    · refine s_icmp (p' := 41) true rfl ((ci_ne (by omega) (by omega)).trans (decide_eq_true (by omega))) rfl ?_
      refine s_con (p' := 42) rfl rfl ?_
      exact s_iret rfl rfl (by rw [if_neg qw, decide_eq_false q]; rfl)
theorem y_end {I : Nat → Prop} {h : mj_H} {W np p l c t cn : Nat} {w : Bool} {cp cl : Nat → Nat} {cw : Nat → Bool} {K : Nat → Nat} {X : Nat → Nat → Nat → Nat} (hl : yLb I h np K X) (hW : mj_rd h W = some (wrC W t c cn)) (hR : wRn h W (p, l, c, w, cp, cl, cw)) (hc : c ≤ 20) (hp : p < np) (hn : np ≤ 6) (hk : K p ≤ 30) (hll : l ≤ K p) (hw4 : ∀ d, d < c → cp d < np ∧ cl d < K (cp d)) : mj_run 7 385 (0, [some (.ref W)], [], h) (.inl (some (.int (nI (bN (edd K (p, l, c, w, cp, cl, cw)))))), h) := by
  have he := edg_eq (np := np) (K := K) (show wfR np K (p, l, c, w, cp, cl, cw) from ⟨hp, hll, hc, hw4⟩)
  refine s_aldn (p' := 1) rfl rfl rfl ?_
  refine s_gf (p' := 4) rfl hW rfl rfl ?_
  by_cases q : c = 0
  · refine s_if (p' := 7) false rfl ((cz_ne (by omega)).trans (decide_eq_false (fun e => e q))) rfl ?_
    refine s_aldn (p' := 8) rfl rfl rfl ?_
    refine s_callV (p' := 11) (ls0 := [_]) rfl rfl rfl rfl rfl (mj_rcv_is hW) rfl (y_aen hl hW hR hc hp hn hk (by omega)) (by first | decide | omega) rfl ?_
    rw [← he]
    by_cases q2 : edg K (p, l, c, w, cp, cl, cw) = true
    · refine s_if (p' := 14) false rfl (by rw [q2]; rfl) rfl ?_
      refine s_con (p' := 15) rfl rfl ?_
      refine s_goto (p' := 19) rfl rfl ?_
      exact s_iret rfl rfl (by unfold edd; rw [q2, show decide ((p, l, c, w, cp, cl, cw).2.2.1 = 0) = true from decide_eq_true q]; rfl)
    · refine s_if (p' := 18) true rfl (by rw [Bool.eq_false_iff.mpr q2]; rfl) rfl ?_
      refine s_con (p' := 19) rfl rfl ?_
      exact s_iret rfl rfl (by unfold edd; rw [Bool.eq_false_iff.mpr q2, Bool.and_false]; rfl)
  · refine s_if (p' := 18) true rfl ((cz_ne (by omega)).trans (decide_eq_true q)) rfl ?_
    refine s_con (p' := 19) rfl rfl ?_
    exact s_iret rfl rfl (by unfold edd; rw [show decide ((p, l, c, w, cp, cl, cw).2.2.1 = 0) = false from decide_eq_false q]; rfl)
