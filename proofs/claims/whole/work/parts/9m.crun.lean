/-! The class runs: stores, statements. -/
def stC_ (S t : Nat) : mj_C := .inr (7, [.ref (S + 1), .ref (S + 2), .int (nI t)])
/-- the class's store at S -/
def cSt (h : mj_H) (S : Nat) (s : SV) : Prop := mj_rd h S = some (stC_ S s.2.2) ∧ (∃ vf : Nat → Int32, mj_rd h (S + 1) = some (.inl (0, (8, .inl vf))) ∧ ∀ j, j < 8 → vf j = s.1 j) ∧ (∃ tf : Nat → Int32, mj_rd h (S + 2) = some (.inl (0, (20, .inl tf))) ∧ ∀ j, j < s.2.2 → tf j = s.2.1 j) ∧ s.2.2 ≤ 20
theorem cSt.fr {h g : mj_H} {L : List Nat} {S : Nat} {s : SV} (c : cSt h S s) (e : mz_fr L h g) (h0 : S ∉ L) (h1 : S + 1 ∉ L) (h2 : S + 2 ∉ L) : cSt g S s := by
  obtain ⟨a, ⟨vf, b, b2⟩, ⟨tf, d, d2⟩, k⟩ := c
  exact ⟨e _ h0 _ a, ⟨vf, e _ h1 _ b, b2⟩, ⟨tf, e _ h2 _ d, d2⟩, k⟩
theorem upd_ag {f g : Nat → Int32} {i j : Nat} {y : Int32} (h : f i = g i) : upd f j y i = upd g j y i := by
  unfold upd
  by_cases z : i = j
  · rw [if_pos z, if_pos z]
  · rw [if_neg z, if_neg z]
    exact h
theorem tvl_n {v : Nat → Int32} {t : Nat} (h : t < 1000) : tvl v t = nI t := if_pos h
theorem tvl_v {v : Nat → Int32} {w : Nat} (h : w < 8) : tvl v (vT w) = v w := by
  unfold tvl vT
  rw [if_neg (by omega), show 4294967295 - (4294967295 - w) = w by omega]
theorem x_val {h : mj_H} {S : Nat} {v st : Nat → Int32} {t : Nat} (bS : S + 3 < mj_CB) (hS : cSt h S (v, st, t)) {j : Nat} (hj : j < 8) : mj_run 0 147 (0, [some (.ref S), some (.int (nI j))], [], h) (.inl (some (.int (v j))), h) := by
  obtain ⟨k0, ⟨vf, k1, k2⟩, ⟨tf, k3, k4⟩, k5⟩ := hS
  dsimp only at k0 k2 k4 k5
  refine s_ildn (p' := 1) rfl rfl rfl ?_
  refine s_if (p' := 4) false rfl (cz_lt (by omega)) rfl ?_
  refine s_ildn (p' := 5) rfl rfl rfl ?_
  refine s_aldn (p' := 6) rfl rfl rfl ?_
  refine s_gf (p' := 9) rfl k0 rfl rfl ?_
  refine s_len (p' := 10) rfl (mj_rdA_is k1 (by decide)) (by decide) rfl ?_
  refine s_icmp (p' := 13) false rfl ((ci_ge (by omega) (by omega)).trans (decide_eq_false (by omega))) rfl ?_
  refine s_aldn (p' := 14) rfl rfl rfl ?_
  refine s_gf (p' := 17) rfl k0 rfl rfl ?_
  refine s_ildn (p' := 18) rfl rfl rfl ?_
  refine s_ial (p' := 19) rfl k1 (inb_nI (by omega) (by omega)) rfl ?_
  rw [mI_cl (by omega), k2 j hj]
  refine s_goto (p' := 23) rfl rfl ?_
  exact s_iret rfl rfl rfl
theorem x_spt {h : mj_H} {S : Nat} {v st : Nat → Int32} {t : Nat} (bS : S + 3 < mj_CB) (hS : cSt h S (v, st, t)) {j : Nat} {y : Int32} (hj : j < 8) : mj_Wp 0 148 (0, [some (.ref S), some (.int (nI j)), some (.int y)], [], h) (mz_N fun h' => cSt h' S (upd v j y, st, t) ∧ mz_mo [S + 1] 0 0 h h') := by
  obtain ⟨k0, ⟨vf, k1, k2⟩, ⟨tf, k3, k4⟩, k5⟩ := hS
  dsimp only at k0 k2 k4 k5
  refine s_ildn (p' := 1) rfl rfl rfl ?_
  refine s_if (p' := 4) false rfl (cz_lt (by omega)) rfl ?_
  refine s_ildn (p' := 5) rfl rfl rfl ?_
  refine s_aldn (p' := 6) rfl rfl rfl ?_
  refine s_gf (p' := 9) rfl k0 rfl rfl ?_
  refine s_len (p' := 10) rfl (mj_rdA_is k1 (by decide)) (by decide) rfl ?_
  refine s_icmp (p' := 13) false rfl ((ci_ge (by omega) (by omega)).trans (decide_eq_false (by omega))) rfl ?_
  refine s_aldn (p' := 14) rfl rfl rfl ?_
  refine s_gf (p' := 17) rfl k0 rfl rfl ?_
  refine s_ildn (p' := 18) rfl rfl rfl ?_
  refine s_ildn (p' := 19) rfl rfl rfl ?_
  refine s_ias (p' := 20) rfl (by omega) k1 (inb_nI (by omega) (by omega)) rfl ?_
  rw [mI_cl (by omega)]
  refine s_ret rfl ?_
  exact ⟨_, rfl, ⟨(rd_setn (by omega)).trans k0, ⟨upd vf j y, rd_set (by omega) k1, fun i hi => upd_ag (k2 i hi)⟩, ⟨tf, (rd_setn (by omega)).trans k3, k4⟩, k5⟩, mz_mo.s (mz_mo.rf _ _ _ _) (by omega) k1 rfl (Or.inl (by simp))⟩
theorem tm_lt {t : Nat} (h : t < 1000) : mj_ci .lt (nI 4294967295 - nI t) 0 = true := by
  rw [mI_sub (by omega), show 4294967295 - t = vT t from rfl]
  refine decide_eq_true ?_
  rw [Int32.lt_iff_toInt_lt, vT_ti h]
  show -1 - (t : Int) < 0
  omega
theorem x_tvl {h : mj_H} {S : Nat} {v st : Nat → Int32} {t : Nat} (bS : S + 3 < mj_CB) (hS : cSt h S (v, st, t)) {u : Nat} (hu : okTm u) : mj_run 0 165 (0, [some (.ref S), some (.int (nI u)), none], [], h) (.inl (some (.int (tvl v u))), h) := by
  obtain ⟨k0, ⟨vf, k1, k2⟩, ⟨tf, k3, k4⟩, k5⟩ := hS
  dsimp only at k0 k2 k4 k5
  refine s_con (p' := 1) rfl rfl ?_
  refine s_ildn (p' := 2) rfl rfl rfl ?_
  refine s_sp (p' := 3) (ls' := _) rfl rfl rfl ?_
  refine s_istn (p' := 4) (ls' := [_, _, _]) rfl rfl rfl rfl ?_
  refine s_ildn (p' := 5) rfl rfl rfl ?_
  by_cases q : u < 1000
  · refine s_if (p' := 26) true rfl (tm_lt q) rfl ?_
    refine s_ildn (p' := 27) rfl rfl rfl ?_
    exact s_iret rfl rfl (by rw [tvl_n q])
  · obtain ⟨w, hw, rfl⟩ : ∃ w, w < 8 ∧ u = vT w := hu.resolve_left q
    rw [show nI 4294967295 - nI (vT w) = nI w from by rw [mI_sub (by unfold vT; omega), show 4294967295 - vT w = w by unfold vT; omega]]
    refine s_if (p' := 8) false rfl (cz_lt (by omega)) rfl ?_
    refine s_ildn (p' := 9) rfl rfl rfl ?_
    refine s_aldn (p' := 10) rfl rfl rfl ?_
    refine s_gf (p' := 13) rfl k0 rfl rfl ?_
    refine s_len (p' := 14) rfl (mj_rdA_is k1 (by decide)) (by decide) rfl ?_
    refine s_icmp (p' := 17) false rfl ((ci_ge (by omega) (by omega)).trans (decide_eq_false (by omega))) rfl ?_
    refine s_aldn (p' := 18) rfl rfl rfl ?_
    refine s_gf (p' := 21) rfl k0 rfl rfl ?_
    refine s_ildn (p' := 22) rfl rfl rfl ?_
    refine s_ial (p' := 23) rfl k1 (inb_nI (by omega) (by omega)) rfl ?_
    rw [mI_cl (by omega), k2 w hw]
    refine s_goto (p' := 27) rfl rfl ?_
    exact s_iret rfl rfl (by rw [tvl_v hw])
theorem x_sml {h : mj_H} {S : Nat} {v st : Nat → Int32} {t : Nat} (bS : S + 3 < mj_CB) (hS : cSt h S (v, st, t)) {q : Nat} {ins : Nat → Int32} {A : Nat → Nat} (hq : mj_rd h q = some (inC ins)) (hi : ∀ i, i < 8 → ins i = nI (A i)) (hf : okTm (A 2)) (hg : okTm (A 4)) (h3 : A 3 = 32 ∨ A 3 = 43 ∨ A 3 = 45 ∨ A 3 = 42 ∨ A 3 = 38) : mj_run 1 164 (0, [some (.ref S), some (.ref q), none, none], [], h) (.inl (some (.int (sml v A))), h) := by
  refine s_aldn (p' := 1) rfl rfl rfl ?_
  refine s_aldn (p' := 2) rfl rfl rfl ?_
  refine s_gf (p' := 5) rfl hq rfl rfl ?_
  rw [hi 2 (by decide)]
  refine s_callV (p' := 8) (ls0 := [_, _, _]) rfl rfl rfl rfl rfl (mj_rcv_is hS.1) rfl (x_tvl bS hS (by assumption)) (by first | decide | omega) rfl ?_
  refine s_istn (p' := 9) (ls' := [_, _, _, _]) rfl rfl rfl rfl ?_
  refine s_aldn (p' := 10) rfl rfl rfl ?_
  refine s_aldn (p' := 11) rfl rfl rfl ?_
  refine s_gf (p' := 14) rfl hq rfl rfl ?_
  rw [hi 4 (by decide)]
  refine s_callV (p' := 17) (ls0 := [_, _, _]) rfl rfl rfl rfl rfl (mj_rcv_is hS.1) rfl (x_tvl bS hS (by assumption)) (by first | decide | omega) rfl ?_
  refine s_istn (p' := 18) (ls' := [_, _, _, _]) rfl rfl rfl rfl ?_
  refine s_aldn (p' := 19) rfl rfl rfl ?_
  refine s_gf (p' := 22) rfl hq rfl rfl ?_
  rw [hi 3 (by decide)]
  by_cases q43 : A 3 = 43
  · rw [q43]
    refine s_sp (p' := 68) (ls' := _) rfl rfl rfl ?_
    refine s_ildn (p' := 69) rfl rfl rfl ?_
    refine s_ildn (p' := 70) rfl rfl rfl ?_
    refine s_sp (p' := 71) (ls' := _) rfl rfl rfl ?_
    exact s_iret rfl rfl (by unfold sml; rw [if_pos q43])
  · by_cases q45 : A 3 = 45
    · rw [q45]
      refine s_sp (p' := 72) (ls' := _) rfl rfl rfl ?_
      refine s_ildn (p' := 73) rfl rfl rfl ?_
      refine s_ildn (p' := 74) rfl rfl rfl ?_
      refine s_sp (p' := 75) (ls' := _) rfl rfl rfl ?_
      exact s_iret rfl rfl (by unfold sml; rw [if_neg (by omega), if_pos q45])
    · by_cases q42 : A 3 = 42
      · rw [q42]
        refine s_sp (p' := 76) (ls' := _) rfl rfl rfl ?_
        refine s_ildn (p' := 77) rfl rfl rfl ?_
        refine s_ildn (p' := 78) rfl rfl rfl ?_
        refine s_sp (p' := 79) (ls' := _) rfl rfl rfl ?_
        exact s_iret rfl rfl (by unfold sml; rw [if_neg (by omega), if_neg (by omega), if_pos q42])
      · by_cases q38 : A 3 = 38
        · rw [q38]
          refine s_sp (p' := 80) (ls' := _) rfl rfl rfl ?_
          refine s_ildn (p' := 81) rfl rfl rfl ?_
          refine s_ildn (p' := 82) rfl rfl rfl ?_
          refine s_sp (p' := 83) (ls' := _) rfl rfl rfl ?_
          exact s_iret rfl rfl (by unfold sml; rw [if_neg (by omega), if_neg (by omega), if_neg (by omega), if_pos q38])
        · rw [show A 3 = 32 by omega]
          refine s_sp (p' := 84) (ls' := _) rfl rfl rfl ?_
          refine s_ildn (p' := 85) rfl rfl rfl ?_
          exact s_iret rfl rfl (by unfold sml; rw [if_neg (by omega), if_neg (by omega), if_neg (by omega), if_neg (by omega)])
theorem x_hld {h : mj_H} {S : Nat} {v st : Nat → Int32} {t : Nat} (bS : S + 3 < mj_CB) (hS : cSt h S (v, st, t)) {q : Nat} {ins : Nat → Int32} {A : Nat → Nat} (hq : mj_rd h q = some (inC ins)) (hi : ∀ i, i < 8 → ins i = nI (A i)) (hf : okTm (A 2)) (hg : okTm (A 4)) (h3 : A 3 = 60 ∨ A 3 = 61 ∨ A 3 = 62) : mj_run 1 173 (0, [some (.ref S), some (.ref q), none, none], [], h) (.inl (some (.int (nI (bN (hld v A))))), h) := by
  refine s_aldn (p' := 1) rfl rfl rfl ?_
  refine s_aldn (p' := 2) rfl rfl rfl ?_
  refine s_gf (p' := 5) rfl hq rfl rfl ?_
  rw [hi 2 (by decide)]
  refine s_callV (p' := 8) (ls0 := [_, _, _]) rfl rfl rfl rfl rfl (mj_rcv_is hS.1) rfl (x_tvl bS hS (by assumption)) (by first | decide | omega) rfl ?_
  refine s_istn (p' := 9) (ls' := [_, _, _, _]) rfl rfl rfl rfl ?_
  refine s_aldn (p' := 10) rfl rfl rfl ?_
  refine s_aldn (p' := 11) rfl rfl rfl ?_
  refine s_gf (p' := 14) rfl hq rfl rfl ?_
  rw [hi 4 (by decide)]
  refine s_callV (p' := 17) (ls0 := [_, _, _]) rfl rfl rfl rfl rfl (mj_rcv_is hS.1) rfl (x_tvl bS hS (by assumption)) (by first | decide | omega) rfl ?_
  refine s_istn (p' := 18) (ls' := [_, _, _, _]) rfl rfl rfl rfl ?_
  refine s_aldn (p' := 19) rfl rfl rfl ?_
  refine s_gf (p' := 22) rfl hq rfl rfl ?_
  rw [hi 3 (by decide)]
  by_cases q60 : A 3 = 60
  · rw [q60]
    refine s_sp (p' := 48) (ls' := _) rfl rfl rfl ?_
    refine s_ildn (p' := 49) rfl rfl rfl ?_
    refine s_ildn (p' := 50) rfl rfl rfl ?_
    by_cases qc : tvl v (A 2) < tvl v (A 4)
    · refine s_icmp (p' := 53) false rfl (decide_eq_false (fun e => Int32.not_lt.mpr e qc)) rfl ?_
      refine s_con (p' := 54) rfl rfl ?_
      refine s_goto (p' := 58) rfl rfl ?_
      exact s_iret rfl rfl (by unfold hld; rw [if_pos q60]; rw [decide_eq_true qc]; rfl)
    · refine s_icmp (p' := 57) true rfl (decide_eq_true (Int32.not_lt.mp qc)) rfl ?_
      refine s_con (p' := 58) rfl rfl ?_
      exact s_iret rfl rfl (by unfold hld; rw [if_pos q60]; rw [decide_eq_false qc]; rfl)
  · by_cases q62 : A 3 = 62
    · rw [q62]
      refine s_sp (p' := 59) (ls' := _) rfl rfl rfl ?_
      refine s_ildn (p' := 60) rfl rfl rfl ?_
      refine s_ildn (p' := 61) rfl rfl rfl ?_
      by_cases qc : tvl v (A 4) < tvl v (A 2)
      · refine s_icmp (p' := 64) false rfl (decide_eq_false (fun e => Int32.not_lt.mpr e qc)) rfl ?_
        refine s_con (p' := 65) rfl rfl ?_
        refine s_goto (p' := 69) rfl rfl ?_
        exact s_iret rfl rfl (by unfold hld; rw [if_neg (by omega), if_pos q62]; rw [decide_eq_true qc]; rfl)
      · refine s_icmp (p' := 68) true rfl (decide_eq_true (Int32.not_lt.mp qc)) rfl ?_
        refine s_con (p' := 69) rfl rfl ?_
        exact s_iret rfl rfl (by unfold hld; rw [if_neg (by omega), if_pos q62]; rw [decide_eq_false qc]; rfl)
    · rw [show A 3 = 61 by omega]
      refine s_sp (p' := 70) (ls' := _) rfl rfl rfl ?_
      refine s_ildn (p' := 71) rfl rfl rfl ?_
      refine s_ildn (p' := 72) rfl rfl rfl ?_
      by_cases qc : tvl v (A 2) = tvl v (A 4)
      · refine s_icmp (p' := 75) false rfl (decide_eq_false (fun e => e qc)) rfl ?_
        refine s_con (p' := 76) rfl rfl ?_
        refine s_goto (p' := 80) rfl rfl ?_
        exact s_iret rfl rfl (by unfold hld; rw [if_neg (by omega), if_neg (by omega)]; rw [decide_eq_true qc]; rfl)
      · refine s_icmp (p' := 79) true rfl (decide_eq_true qc) rfl ?_
        refine s_con (p' := 80) rfl rfl ?_
        exact s_iret rfl rfl (by unfold hld; rw [if_neg (by omega), if_neg (by omega)]; rw [decide_eq_false qc]; rfl)
def rnC (R S cn p l c : Nat) (w : Bool) : mj_C := .inr (8, [.ref 38, .ref S, .ref (R + 1), .ref (R + 2), .ref (R + 3), .ref (R + 4), .ref (R + 5), .int (nI cn), .int (nI 1), .int (nI p), .int (nI l), .int (nI c), .int (nI (bN w))])
/-- a run's rows -/
def cRw_ (h : mj_H) (R c : Nat) (cp cl : Nat → Nat) (cw : Nat → Bool) : Prop := (∃ f : Nat → Int32, mj_rd h (R + 1) = some (.inl (0, (20, .inl f))) ∧ ∀ d, d < c → f d = nI (cp d)) ∧ (∃ f : Nat → Int32, mj_rd h (R + 2) = some (.inl (0, (20, .inl f))) ∧ ∀ d, d < c → f d = nI (cl d)) ∧ ∃ f : Nat → Int32, mj_rd h (R + 3) = some (.inl (2, (20, .inl f))) ∧ (∀ d, d < 20 → ∃ b, f d = nI (bN b)) ∧ ∀ d, d < c → f d = nI (bN (cw d))
/-- why it broke -/
def cWy (h : mj_H) (R : Nat) (z : CZ) : Prop := ∃ lf nf : Nat → Int32, mj_rd h (R + 4) = some (.inl (3, (2, .inl lf))) ∧ mj_rd h (R + 5) = some (.inl (0, (2, .inl nf))) ∧ z.1 ≤ 2 ∧ (0 < z.1 → lf 0 = nI z.2.1 ∧ nf 0 = nI z.2.2.1) ∧ (1 < z.1 → lf 1 = nI z.2.2.2.1 ∧ nf 1 = nI z.2.2.2.2)
/-- the class's run at R, its store at S -/
def cRn (h : mj_H) (R S : Nat) (r : SR) (z : CZ) : Prop := mj_rd h R = some (rnC R S z.1 r.1 r.2.1 r.2.2.1 r.2.2.2.1) ∧ cRw_ h R r.2.2.1 r.2.2.2.2.1 r.2.2.2.2.2.1 r.2.2.2.2.2.2 ∧ cWy h R z
theorem cRw_.fr {h g : mj_H} {L : List Nat} {R c : Nat} {cp cl : Nat → Nat} {cw : Nat → Bool} (a : cRw_ h R c cp cl cw) (e : mz_fr L h g) (h1 : R + 1 ∉ L) (h2 : R + 2 ∉ L) (h3 : R + 3 ∉ L) : cRw_ g R c cp cl cw := by
  obtain ⟨⟨f1, a1, b1⟩, ⟨f2, a2, b2⟩, f3, a3, b3⟩ := a
  exact ⟨⟨f1, e _ h1 _ a1, b1⟩, ⟨f2, e _ h2 _ a2, b2⟩, f3, e _ h3 _ a3, b3⟩
theorem cWy.fr {h g : mj_H} {L : List Nat} {R : Nat} {z : CZ} (a : cWy h R z) (e : mz_fr L h g) (h4 : R + 4 ∉ L) (h5 : R + 5 ∉ L) : cWy g R z := by
  obtain ⟨lf, nf, a4, a5, b⟩ := a
  exact ⟨lf, nf, e _ h4 _ a4, e _ h5 _ a5, b⟩
theorem cRn.fr {h g : mj_H} {L : List Nat} {R S : Nat} {r : SR} {z : CZ} (a : cRn h R S r z) (e : mz_fr L h g) (hL : ∀ x, x ∈ L → x < R ∨ R + 6 ≤ x) : cRn g R S r z := by
  have n : ∀ i, i < 6 → R + i ∉ L := fun i hi q => by have := hL _ q; omega
  exact ⟨e _ (n 0 (by decide)) _ a.1, a.2.1.fr e (n 1 (by decide)) (n 2 (by decide)) (n 3 (by decide)), a.2.2.fr e (n 4 (by decide)) (n 5 (by decide))⟩
def cML (R S : Nat) : List Nat := [S, S + 1, S + 2, R, R + 1, R + 2, R + 3, R + 4, R + 5]
theorem bN_in {a b : Bool} (h : nI (bN a) = nI (bN b)) : a = b := by
  cases a <;> cases b <;> first | rfl | exact absurd h (by decide +kernel)
theorem x_upd_ {h : mj_H} {S : Nat} {v st : Nat → Int32} {t : Nat} (bS : S + 3 < mj_CB) (hS : cSt h S (v, st, t)) {R : Nat} (bR : R + 6 < mj_CB) (hSR : S + 3 ≤ R) {q : Nat} {ins : Nat → Int32} {A : Nat → Nat} (hq : mj_rd h q = some (inC ins)) (hi : ∀ i, i < 8 → ins i = nI (A i)) {cn p l c : Nat} {w : Bool} (hR : mj_rd h R = some (rnC R S cn p l c w)) (h1 : A 1 < 8) (h0 : A 0 = 43 ∨ A 0 = 45 ∨ A 0 = 94) (hf : okTm (A 2)) (hg : okTm (A 4)) (h3 : A 3 = 32 ∨ A 3 = 43 ∨ A 3 = 45 ∨ A 3 = 42 ∨ A 3 = 38) : mj_Wp 2 163 (0, [some (.ref R), some (.ref q), none, none, none], [], h) (mz_N fun h' => cSt h' S (upd v (A 1) (nwv (A 0) w (v (A 1)) (sml v A)), st, t) ∧ mz_mo [S + 1] 0 0 h h') := by
  cases w with
  | true =>
    refine s_aldn (p' := 1) rfl rfl rfl ?_
    refine s_gf (p' := 4) rfl hR rfl rfl ?_
    refine s_aldn (p' := 5) rfl rfl rfl ?_
    refine s_gf (p' := 8) rfl hq rfl rfl ?_
    rw [hi 1 (by decide)]
    refine s_callV (p' := 11) (ls0 := [_, _]) rfl rfl rfl rfl rfl (mj_rcv_is hS.1) rfl (x_val bS hS (by omega)) (by first | decide | omega) rfl ?_
    refine s_istn (p' := 12) (ls' := [_, _, _, _, _]) rfl rfl rfl rfl ?_
    refine s_aldn (p' := 13) rfl rfl rfl ?_
    refine s_gf (p' := 16) rfl hR rfl rfl ?_
    refine s_aldn (p' := 17) rfl rfl rfl ?_
    refine s_callV (p' := 20) (ls0 := [_, _, _, _]) rfl rfl rfl rfl rfl (mj_rcv_is hS.1) rfl (x_sml bS hS hq hi hf hg h3) (by first | decide | omega) rfl ?_
    refine s_istn (p' := 21) (ls' := [_, _, _, _, _]) rfl rfl rfl rfl ?_
    refine s_ildn (p' := 22) rfl rfl rfl ?_
    refine s_ildn (p' := 23) rfl rfl rfl ?_
    refine s_sp (p' := 24) (ls' := _) rfl rfl rfl ?_
    refine s_ist (p' := 26) (ls' := [_, _, _, _, _]) rfl rfl rfl rfl ?_
    refine s_aldn (p' := 27) rfl rfl rfl ?_
    refine s_gf (p' := 30) rfl hq rfl rfl ?_
    rw [hi 0 (by decide)]
    refine s_bip (p' := 32) rfl rfl ?_
    by_cases q94 : A 0 = 94
    · refine s_icmp (p' := 67) true rfl ((ci_eq (by omega) (by omega)).trans (decide_eq_true (by omega))) rfl ?_
      refine s_aldn (p' := 68) rfl rfl rfl ?_
      refine s_gf (p' := 71) rfl hR rfl rfl ?_
      refine s_aldn (p' := 72) rfl rfl rfl ?_
      refine s_gf (p' := 75) rfl hq rfl rfl ?_
      rw [hi 1 (by decide)]
      refine s_ild (p' := 77) rfl rfl rfl ?_
      refine s_callEN (p' := 80) (ls0 := [_, _, _]) rfl rfl rfl rfl rfl (mj_rcv_is hS.1) rfl (x_spt bS hS h1) rfl rfl ?_
      rintro h1_ ⟨s1, m1⟩
      refine s_ret rfl ?_
      rw [show v (A 1) ^^^ sml v A = nwv (A 0) true (v (A 1)) (sml v A) from by unfold nwv; rw [if_pos q94]] at s1
      exact ⟨h1_, rfl, s1, m1⟩
    · refine s_icmp (p' := 35) false rfl ((ci_eq (by omega) (by omega)).trans (decide_eq_false (by omega))) rfl ?_
      refine s_aldn (p' := 36) rfl rfl rfl ?_
      refine s_gf (p' := 39) rfl hq rfl rfl ?_
      rw [hi 0 (by decide)]
      refine s_bip (p' := 41) rfl rfl ?_
      by_cases q43 : A 0 = 43
      · refine s_icmp (p' := 44) false rfl ((ci_ne (by omega) (by omega)).trans (decide_eq_false (by omega))) rfl ?_
        refine s_con (p' := 45) rfl rfl ?_
        refine s_goto (p' := 49) rfl rfl ?_
        refine s_aldn (p' := 50) rfl rfl rfl ?_
        refine s_gf (p' := 53) rfl hR rfl rfl ?_
        refine s_icmp (p' := 56) false rfl (by decide +kernel) rfl ?_
        refine s_ildn (p' := 57) rfl rfl rfl ?_
        refine s_ildn (p' := 58) rfl rfl rfl ?_
        refine s_sp (p' := 59) (ls' := _) rfl rfl rfl ?_
        refine s_goto (p' := 65) rfl rfl ?_
        refine s_ist (p' := 67) (ls' := [_, _, _, _, _]) rfl rfl rfl rfl ?_
        refine s_aldn (p' := 68) rfl rfl rfl ?_
        refine s_gf (p' := 71) rfl hR rfl rfl ?_
        refine s_aldn (p' := 72) rfl rfl rfl ?_
        refine s_gf (p' := 75) rfl hq rfl rfl ?_
        rw [hi 1 (by decide)]
        refine s_ild (p' := 77) rfl rfl rfl ?_
        refine s_callEN (p' := 80) (ls0 := [_, _, _]) rfl rfl rfl rfl rfl (mj_rcv_is hS.1) rfl (x_spt bS hS h1) rfl rfl ?_
        rintro h1_ ⟨s1, m1⟩
        refine s_ret rfl ?_
        rw [show v (A 1) + sml v A = nwv (A 0) true (v (A 1)) (sml v A) from by unfold nwv; rw [if_neg q94, if_pos (by rw [decide_eq_true q43])]] at s1
        exact ⟨h1_, rfl, s1, m1⟩
      · refine s_icmp (p' := 48) true rfl ((ci_ne (by omega) (by omega)).trans (decide_eq_true (by omega))) rfl ?_
        refine s_con (p' := 49) rfl rfl ?_
        refine s_aldn (p' := 50) rfl rfl rfl ?_
        refine s_gf (p' := 53) rfl hR rfl rfl ?_
        refine s_icmp (p' := 62) true rfl (by decide +kernel) rfl ?_
        refine s_ildn (p' := 63) rfl rfl rfl ?_
        refine s_ildn (p' := 64) rfl rfl rfl ?_
        refine s_sp (p' := 65) (ls' := _) rfl rfl rfl ?_
        refine s_ist (p' := 67) (ls' := [_, _, _, _, _]) rfl rfl rfl rfl ?_
        refine s_aldn (p' := 68) rfl rfl rfl ?_
        refine s_gf (p' := 71) rfl hR rfl rfl ?_
        refine s_aldn (p' := 72) rfl rfl rfl ?_
        refine s_gf (p' := 75) rfl hq rfl rfl ?_
        rw [hi 1 (by decide)]
        refine s_ild (p' := 77) rfl rfl rfl ?_
        refine s_callEN (p' := 80) (ls0 := [_, _, _]) rfl rfl rfl rfl rfl (mj_rcv_is hS.1) rfl (x_spt bS hS h1) rfl rfl ?_
        rintro h1_ ⟨s1, m1⟩
        refine s_ret rfl ?_
        rw [show v (A 1) - sml v A = nwv (A 0) true (v (A 1)) (sml v A) from by unfold nwv; rw [if_neg q94, if_neg (by rw [decide_eq_false q43]; decide)]] at s1
        exact ⟨h1_, rfl, s1, m1⟩
  | false =>
    refine s_aldn (p' := 1) rfl rfl rfl ?_
    refine s_gf (p' := 4) rfl hR rfl rfl ?_
    refine s_aldn (p' := 5) rfl rfl rfl ?_
    refine s_gf (p' := 8) rfl hq rfl rfl ?_
    rw [hi 1 (by decide)]
    refine s_callV (p' := 11) (ls0 := [_, _]) rfl rfl rfl rfl rfl (mj_rcv_is hS.1) rfl (x_val bS hS (by omega)) (by first | decide | omega) rfl ?_
    refine s_istn (p' := 12) (ls' := [_, _, _, _, _]) rfl rfl rfl rfl ?_
    refine s_aldn (p' := 13) rfl rfl rfl ?_
    refine s_gf (p' := 16) rfl hR rfl rfl ?_
    refine s_aldn (p' := 17) rfl rfl rfl ?_
    refine s_callV (p' := 20) (ls0 := [_, _, _, _]) rfl rfl rfl rfl rfl (mj_rcv_is hS.1) rfl (x_sml bS hS hq hi hf hg h3) (by first | decide | omega) rfl ?_
    refine s_istn (p' := 21) (ls' := [_, _, _, _, _]) rfl rfl rfl rfl ?_
    refine s_ildn (p' := 22) rfl rfl rfl ?_
    refine s_ildn (p' := 23) rfl rfl rfl ?_
    refine s_sp (p' := 24) (ls' := _) rfl rfl rfl ?_
    refine s_ist (p' := 26) (ls' := [_, _, _, _, _]) rfl rfl rfl rfl ?_
    refine s_aldn (p' := 27) rfl rfl rfl ?_
    refine s_gf (p' := 30) rfl hq rfl rfl ?_
    rw [hi 0 (by decide)]
    refine s_bip (p' := 32) rfl rfl ?_
    by_cases q94 : A 0 = 94
    · refine s_icmp (p' := 67) true rfl ((ci_eq (by omega) (by omega)).trans (decide_eq_true (by omega))) rfl ?_
      refine s_aldn (p' := 68) rfl rfl rfl ?_
      refine s_gf (p' := 71) rfl hR rfl rfl ?_
      refine s_aldn (p' := 72) rfl rfl rfl ?_
      refine s_gf (p' := 75) rfl hq rfl rfl ?_
      rw [hi 1 (by decide)]
      refine s_ild (p' := 77) rfl rfl rfl ?_
      refine s_callEN (p' := 80) (ls0 := [_, _, _]) rfl rfl rfl rfl rfl (mj_rcv_is hS.1) rfl (x_spt bS hS h1) rfl rfl ?_
      rintro h1_ ⟨s1, m1⟩
      refine s_ret rfl ?_
      rw [show v (A 1) ^^^ sml v A = nwv (A 0) false (v (A 1)) (sml v A) from by unfold nwv; rw [if_pos q94]] at s1
      exact ⟨h1_, rfl, s1, m1⟩
    · refine s_icmp (p' := 35) false rfl ((ci_eq (by omega) (by omega)).trans (decide_eq_false (by omega))) rfl ?_
      refine s_aldn (p' := 36) rfl rfl rfl ?_
      refine s_gf (p' := 39) rfl hq rfl rfl ?_
      rw [hi 0 (by decide)]
      refine s_bip (p' := 41) rfl rfl ?_
      by_cases q43 : A 0 = 43
      · refine s_icmp (p' := 44) false rfl ((ci_ne (by omega) (by omega)).trans (decide_eq_false (by omega))) rfl ?_
        refine s_con (p' := 45) rfl rfl ?_
        refine s_goto (p' := 49) rfl rfl ?_
        refine s_aldn (p' := 50) rfl rfl rfl ?_
        refine s_gf (p' := 53) rfl hR rfl rfl ?_
        refine s_icmp (p' := 62) true rfl (by decide +kernel) rfl ?_
        refine s_ildn (p' := 63) rfl rfl rfl ?_
        refine s_ildn (p' := 64) rfl rfl rfl ?_
        refine s_sp (p' := 65) (ls' := _) rfl rfl rfl ?_
        refine s_ist (p' := 67) (ls' := [_, _, _, _, _]) rfl rfl rfl rfl ?_
        refine s_aldn (p' := 68) rfl rfl rfl ?_
        refine s_gf (p' := 71) rfl hR rfl rfl ?_
        refine s_aldn (p' := 72) rfl rfl rfl ?_
        refine s_gf (p' := 75) rfl hq rfl rfl ?_
        rw [hi 1 (by decide)]
        refine s_ild (p' := 77) rfl rfl rfl ?_
        refine s_callEN (p' := 80) (ls0 := [_, _, _]) rfl rfl rfl rfl rfl (mj_rcv_is hS.1) rfl (x_spt bS hS h1) rfl rfl ?_
        rintro h1_ ⟨s1, m1⟩
        refine s_ret rfl ?_
        rw [show v (A 1) - sml v A = nwv (A 0) false (v (A 1)) (sml v A) from by unfold nwv; rw [if_neg q94, if_neg (by rw [decide_eq_true q43]; decide)]] at s1
        exact ⟨h1_, rfl, s1, m1⟩
      · refine s_icmp (p' := 48) true rfl ((ci_ne (by omega) (by omega)).trans (decide_eq_true (by omega))) rfl ?_
        refine s_con (p' := 49) rfl rfl ?_
        refine s_aldn (p' := 50) rfl rfl rfl ?_
        refine s_gf (p' := 53) rfl hR rfl rfl ?_
        refine s_icmp (p' := 56) false rfl (by decide +kernel) rfl ?_
        refine s_ildn (p' := 57) rfl rfl rfl ?_
        refine s_ildn (p' := 58) rfl rfl rfl ?_
        refine s_sp (p' := 59) (ls' := _) rfl rfl rfl ?_
        refine s_goto (p' := 65) rfl rfl ?_
        refine s_ist (p' := 67) (ls' := [_, _, _, _, _]) rfl rfl rfl rfl ?_
        refine s_aldn (p' := 68) rfl rfl rfl ?_
        refine s_gf (p' := 71) rfl hR rfl rfl ?_
        refine s_aldn (p' := 72) rfl rfl rfl ?_
        refine s_gf (p' := 75) rfl hq rfl rfl ?_
        rw [hi 1 (by decide)]
        refine s_ild (p' := 77) rfl rfl rfl ?_
        refine s_callEN (p' := 80) (ls0 := [_, _, _]) rfl rfl rfl rfl rfl (mj_rcv_is hS.1) rfl (x_spt bS hS h1) rfl rfl ?_
        rintro h1_ ⟨s1, m1⟩
        refine s_ret rfl ?_
        rw [show v (A 1) + sml v A = nwv (A 0) false (v (A 1)) (sml v A) from by unfold nwv; rw [if_neg q94, if_pos (by rw [decide_eq_false q43])]] at s1
        exact ⟨h1_, rfl, s1, m1⟩
theorem x_swp {h : mj_H} {S : Nat} {v st : Nat → Int32} {t : Nat} (bS : S + 3 < mj_CB) (hS : cSt h S (v, st, t)) {R : Nat} (bR : R + 6 < mj_CB) (hSR : S + 3 ≤ R) {a b cn p l c : Nat} {w : Bool} (hR : mj_rd h R = some (rnC R S cn p l c w)) (ha : a < 8) (hb : b < 8) : mj_Wp 1 166 (0, [some (.ref R), some (.int (nI a)), some (.int (nI b)), none], [], h) (mz_N fun h' => cSt h' S (upd (upd v a (v b)) b (v a), st, t) ∧ mz_mo [S + 1] 0 0 h h') := by
  refine s_aldn (p' := 1) rfl rfl rfl ?_
  refine s_gf (p' := 4) rfl hR rfl rfl ?_
  refine s_ildn (p' := 5) rfl rfl rfl ?_
  refine s_callV (p' := 8) (ls0 := [_, _]) rfl rfl rfl rfl rfl (mj_rcv_is hS.1) rfl (x_val bS hS (by omega)) (by first | decide | omega) rfl ?_
  refine s_istn (p' := 9) (ls' := [_, _, _, _]) rfl rfl rfl rfl ?_
  refine s_aldn (p' := 10) rfl rfl rfl ?_
  refine s_gf (p' := 13) rfl hR rfl rfl ?_
  refine s_ildn (p' := 14) rfl rfl rfl ?_
  refine s_aldn (p' := 15) rfl rfl rfl ?_
  refine s_gf (p' := 18) rfl hR rfl rfl ?_
  refine s_ildn (p' := 19) rfl rfl rfl ?_
  refine s_callV (p' := 22) (ls0 := [_, _]) rfl rfl rfl rfl rfl (mj_rcv_is hS.1) rfl (x_val bS hS (by omega)) (by first | decide | omega) rfl ?_
  refine s_callEN (p' := 25) (ls0 := [_, _, _]) rfl rfl rfl rfl rfl (mj_rcv_is hS.1) rfl (x_spt bS hS ha) rfl rfl ?_
  rintro h1_ ⟨s1, m1⟩
  have R1 := m1.1 R (by simp only [List.mem_singleton]; omega) _ hR
  refine s_aldn (p' := 26) rfl rfl rfl ?_
  refine s_gf (p' := 29) rfl R1 rfl rfl ?_
  refine s_ildn (p' := 30) rfl rfl rfl ?_
  refine s_ildn (p' := 31) rfl rfl rfl ?_
  refine s_callEN (p' := 34) (ls0 := [_, _, _]) rfl rfl rfl rfl rfl (mj_rcv_is s1.1) rfl (x_spt bS s1 hb) rfl rfl ?_
  rintro h2_ ⟨s2, m2⟩
  refine s_ret rfl ?_
  exact ⟨h2_, rfl, s2, m1.tr m2 (fun y hy => Or.inl hy) (by omega) (by omega)⟩
theorem x_psh {h : mj_H} {S : Nat} {v st : Nat → Int32} {t : Nat} (bS : S + 3 < mj_CB) (hS : cSt h S (v, st, t)) {y : Int32} (ht : t < 20) : mj_Wp 0 169 (0, [some (.ref S), some (.int y)], [], h) (mz_N fun h' => cSt h' S (v, upd st t y, t + 1) ∧ mz_mo [S, S + 2] 0 0 h h') := by
  have hS0 := hS
  obtain ⟨k0, ⟨vf, k1, k2⟩, ⟨tf, k3, k4⟩, k5⟩ := hS
  dsimp only at k0 k2 k4 k5
  refine s_aldn (p' := 1) rfl rfl rfl ?_
  refine s_gf (p' := 4) rfl k0 rfl rfl ?_
  refine s_if (p' := 7) false rfl (cz_lt (by omega)) rfl ?_
  refine s_aldn (p' := 8) rfl rfl rfl ?_
  refine s_gf (p' := 11) rfl k0 rfl rfl ?_
  refine s_aldn (p' := 12) rfl rfl rfl ?_
  refine s_gf (p' := 15) rfl k0 rfl rfl ?_
  refine s_len (p' := 16) rfl (mj_rdA_is k3 (by decide)) (by decide) rfl ?_
  refine s_icmp (p' := 19) false rfl ((ci_ge (by omega) (by omega)).trans (decide_eq_false (by omega))) rfl ?_
  refine s_aldn (p' := 20) rfl rfl rfl ?_
  refine s_gf (p' := 23) rfl k0 rfl rfl ?_
  refine s_aldn (p' := 24) rfl rfl rfl ?_
  refine s_gf (p' := 27) rfl k0 rfl rfl ?_
  refine s_ildn (p' := 28) rfl rfl rfl ?_
  refine s_ias (p' := 29) rfl (by omega) k3 (inb_nI (by omega) (by omega)) rfl ?_
  rw [mI_cl (by omega)]
  refine s_aldn (p' := 30) rfl rfl rfl ?_
  refine s_sp (p' := 31) (ls' := _) rfl rfl rfl ?_
  refine s_gf (p' := 34) rfl ((rd_setn (by omega)).trans k0) rfl rfl ?_
  refine s_con (p' := 35) rfl rfl ?_
  refine s_sp (p' := 36) (ls' := _) rfl rfl rfl ?_
  rw [mI_add]
  refine s_pf (p' := 39) (fs' := [_, _, _]) rfl (by omega) ((rd_setn (by omega)).trans k0) (Nat.blt_eq.mp rfl) rfl rfl rfl ?_
  refine s_ret rfl ?_
  refine ⟨_, rfl, ⟨rd_set (by omega) ((rd_setn (by omega)).trans k0), ⟨vf, (rd_setn (by omega)).trans ((rd_setn (by omega)).trans k1), k2⟩, ⟨upd tf t y, (rd_setn (by omega)).trans (rd_set (by omega) k3), fun i hi => ?_⟩, by show t + 1 ≤ 20; omega⟩, mz_mo.s (mz_mo.s (mz_mo.rf _ _ _ _) (by omega) k3 rfl (Or.inl (by simp))) (by omega) ((rd_setn (by omega)).trans k0) rfl (Or.inl (by simp))⟩
  have hi : i < t + 1 := hi
  show upd tf t y i = upd st t y i
  unfold upd
  split
  · rfl
  · exact k4 i (by omega)
theorem x_sta {h : mj_H} {S : Nat} {v st : Nat → Int32} {t : Nat} (bS : S + 3 < mj_CB) (hS : cSt h S (v, st, t)) {j : Nat} (hj : j < t) : mj_run 0 69 (0, [some (.ref S), some (.int (nI j))], [], h) (.inl (some (.int (st j))), h) := by
  have hS0 := hS
  obtain ⟨k0, ⟨vf, k1, k2⟩, ⟨tf, k3, k4⟩, k5⟩ := hS
  dsimp only at k0 k2 k4 k5
  refine s_ildn (p' := 1) rfl rfl rfl ?_
  refine s_if (p' := 4) false rfl (cz_lt (by omega)) rfl ?_
  refine s_ildn (p' := 5) rfl rfl rfl ?_
  refine s_aldn (p' := 6) rfl rfl rfl ?_
  refine s_gf (p' := 9) rfl k0 rfl rfl ?_
  refine s_icmp (p' := 12) false rfl ((ci_ge (by omega) (by omega)).trans (decide_eq_false (by omega))) rfl ?_
  refine s_ildn (p' := 13) rfl rfl rfl ?_
  refine s_aldn (p' := 14) rfl rfl rfl ?_
  refine s_gf (p' := 17) rfl k0 rfl rfl ?_
  refine s_len (p' := 18) rfl (mj_rdA_is k3 (by decide)) (by decide) rfl ?_
  refine s_icmp (p' := 21) false rfl ((ci_ge (by omega) (by omega)).trans (decide_eq_false (by omega))) rfl ?_
  refine s_aldn (p' := 22) rfl rfl rfl ?_
  refine s_gf (p' := 25) rfl k0 rfl rfl ?_
  refine s_ildn (p' := 26) rfl rfl rfl ?_
  refine s_ial (p' := 27) rfl k3 (inb_nI (by omega) (by omega)) rfl ?_
  rw [mI_cl (by omega), k4 j hj]
  refine s_goto (p' := 31) rfl rfl ?_
  exact s_iret rfl rfl rfl
theorem x_pop {h : mj_H} {S : Nat} {v st : Nat → Int32} {t : Nat} (bS : S + 3 < mj_CB) (hS : cSt h S (v, st, t)) (ht : 0 < t) : mj_Wp 1 170 (0, [some (.ref S), none], [], h) (mz_V fun r h' => r = .int (st (t - 1)) ∧ cSt h' S (v, st, t - 1) ∧ mz_mo [S] 0 0 h h') := by
  have hS0 := hS
  obtain ⟨k0, ⟨vf, k1, k2⟩, ⟨tf, k3, k4⟩, k5⟩ := hS
  dsimp only at k0 k2 k4 k5
  refine s_aldn (p' := 1) rfl rfl rfl ?_
  refine s_aldn (p' := 2) rfl rfl rfl ?_
  refine s_gf (p' := 5) rfl k0 rfl rfl ?_
  refine s_con (p' := 6) rfl rfl ?_
  refine s_sp (p' := 7) (ls' := _) rfl rfl rfl ?_
  rw [mI_sub (by omega)]
  refine s_callV (p' := 10) (ls0 := [_, _]) rfl rfl rfl rfl rfl (mj_rcv_is k0) rfl (x_sta bS hS0 (by omega)) (by first | decide | omega) rfl ?_
  refine s_istn (p' := 11) (ls' := [_, _]) rfl rfl rfl rfl ?_
  refine s_aldn (p' := 12) rfl rfl rfl ?_
  refine s_gf (p' := 15) rfl k0 rfl rfl ?_
  refine s_if (p' := 18) false rfl ((cz_le (by omega)).trans (decide_eq_false (by omega))) rfl ?_
  refine s_aldn (p' := 19) rfl rfl rfl ?_
  refine s_sp (p' := 20) (ls' := _) rfl rfl rfl ?_
  refine s_gf (p' := 23) rfl k0 rfl rfl ?_
  refine s_con (p' := 24) rfl rfl ?_
  refine s_sp (p' := 25) (ls' := _) rfl rfl rfl ?_
  rw [mI_sub (by omega)]
  refine s_pf (p' := 28) (fs' := [_, _, _]) rfl (by omega) k0 (Nat.blt_eq.mp rfl) rfl rfl rfl ?_
  refine s_ildn (p' := 29) rfl rfl rfl ?_
  refine s_iret rfl rfl ?_
  exact ⟨_, _, rfl, rfl, ⟨rd_set (by omega) k0, ⟨vf, (rd_setn (by omega)).trans k1, k2⟩, ⟨tf, (rd_setn (by omega)).trans k3, fun i hi => k4 i (by have hi : i < t - 1 := hi; omega)⟩, by show t - 1 ≤ 20; omega⟩, mz_mo.s (mz_mo.rf _ _ _ _) (by omega) k0 rfl (Or.inl (by simp))⟩
theorem x_bof {h : mj_H} {R S lt nu : Nat} {r : SR} {z : CZ} (bR : R + 6 < mj_CB) (hR : cRn h R S r z) (hl : lt < 65536) : mj_Wp 0 168 (0, [some (.ref R), some (.int (nI lt)), some (.int (nI nu))], [], h) (mz_V fun rv h' => rv = .int (nI 0) ∧ cRn h' R S r (1, lt, nu, 0, 0) ∧ mz_mo [R, R + 4, R + 5] 0 0 h h') := by
  obtain ⟨k0, hrw, lf, nf, a4, a5, hz, _, _⟩ := hR
  refine s_aldn (p' := 1) rfl rfl rfl ?_
  refine s_con (p' := 2) rfl rfl ?_
  refine s_pf (p' := 5) (fs' := [_, _, _, _, _, _, _, _, _, _, _, _, _]) rfl (by omega) k0 (Nat.blt_eq.mp rfl) rfl rfl rfl ?_
  refine s_aldn (p' := 6) rfl rfl rfl ?_
  refine s_gf (p' := 9) rfl (rd_set (by omega) k0) rfl rfl ?_
  refine s_con (p' := 10) rfl rfl ?_
  refine s_ildn (p' := 11) rfl rfl rfl ?_
  refine s_cas (p' := 12) rfl (by omega) ((rd_setn (by omega)).trans a4) (inb_nI (by omega) (by omega)) rfl ?_
  rw [mI_cl (by omega), ch_nar hl]
  refine s_aldn (p' := 13) rfl rfl rfl ?_
  refine s_gf (p' := 16) rfl ((rd_setn (by omega)).trans (rd_set (by omega) k0)) rfl rfl ?_
  refine s_con (p' := 17) rfl rfl ?_
  refine s_ildn (p' := 18) rfl rfl rfl ?_
  refine s_ias (p' := 19) rfl (by omega) ((rd_setn (by omega)).trans ((rd_setn (by omega)).trans a5)) (inb_nI (by omega) (by omega)) rfl ?_
  rw [mI_cl (by omega)]
  refine s_con (p' := 20) rfl rfl ?_
  refine s_iret rfl rfl ?_
  have f1 : mz_fr [R, R + 4, R + 5] h _ := ((mz_fr.rf [R, R + 4, R + 5] h).s (a := R) (c := rnC R S 1 r.1 r.2.1 r.2.2.1 r.2.2.2.1) (by simp)).s (a := R + 4) (c := .inl (3, (2, .inl (upd lf 0 (nI lt))))) (by simp) |>.s (a := R + 5) (c := .inl (0, (2, .inl (upd nf 0 (nI nu))))) (by simp)
  exact ⟨_, _, rfl, rfl, ⟨(rd_setn (by omega)).trans ((rd_setn (by omega)).trans (rd_set (by omega) k0)), hrw.fr f1 (by simp) (by simp) (by simp), _, _, (rd_setn (by omega)).trans (rd_set (by omega) ((rd_setn (by omega)).trans a4)), rd_set (by omega) ((rd_setn (by omega)).trans ((rd_setn (by omega)).trans a5)), by show 1 ≤ 2; decide, fun _ => ⟨rfl, rfl⟩, fun e => absurd (show 1 < 1 from e) (by decide)⟩, mz_mo.s (mz_mo.s (mz_mo.s (mz_mo.rf _ _ _ _) (by omega) k0 rfl (Or.inl (by simp))) (by omega) ((rd_setn (by omega)).trans a4) rfl (Or.inl (by simp))) (by omega) ((rd_setn (by omega)).trans ((rd_setn (by omega)).trans a5)) rfl (Or.inl (by simp))⟩
abbrev bP (p : Nat) : Nat := 77 + 37 * p
/-- the class's procedures -/
def cLb (h : mj_H) (np : Nat) (K : Nat → Nat) (X : Nat → Nat → Nat → Nat) : Prop := np ≤ 6 ∧ mj_rd h 38 = some (.inr (6, [.ref 39, .ref 40, .int (nI np)])) ∧ (∃ rf : Nat → Option Nat, mj_rd h 39 = some (.inl (8, (6, objs rf))) ∧ ∀ p, p < 6 → rf p = some (bP p)) ∧ ∀ p, p < np → mj_rd h (bP p) = some (.inr (1, [.ref (bP p + 1), .ref (bP p + 3), .ref (bP p + 36)])) ∧ mj_rd h (bP p + 3) = some (cdC (bP p) (K p)) ∧ cRow h (bP p) ∧ K p ≤ 30 ∧ ∀ j, j < K p → ∃ ins : Nat → Int32, mj_rd h (bP p + 6 + j) = some (inC ins) ∧ ∀ q, q < 8 → ins q = nI (X p j q)
theorem cLb.fr {h g : mj_H} {L : List Nat} {np : Nat} {K : Nat → Nat} {X : Nat → Nat → Nat → Nat} (c : cLb h np K X) (e : mz_fr L h g) (hL : ∀ x, x ∈ L → 336 ≤ x) : cLb g np K X := by
  obtain ⟨a, b, ⟨rf, d, d2⟩, k⟩ := c
  have n : ∀ x, x < 336 → x ∉ L := fun x hx q => by have := hL x q; omega
  refine ⟨a, e _ (n _ (by decide)) _ b, ⟨rf, e _ (n _ (by decide)) _ d, d2⟩, fun p hp => ?_⟩
  obtain ⟨k1, k2, ⟨rw_, k3, k3b⟩, k4, k5⟩ := k p hp
  have hb : bP p = 77 + 37 * p := rfl
  refine ⟨e _ (n _ (by omega)) _ k1, e _ (n _ (by omega)) _ k2, ⟨rw_, e _ (n _ (by omega)) _ k3, k3b⟩, k4, fun j hj => ?_⟩
  obtain ⟨ins, z1, z2⟩ := k5 j hj
  exact ⟨ins, e _ (n _ (by omega)) _ z1, z2⟩
theorem x_lhas {h : mj_H} {np q : Nat} (a2 : mj_rd h 38 = some (.inr (6, [.ref 39, .ref 40, .int (nI np)]))) (hn : np ≤ 6) (hq : q < 1000) : mj_run 0 134 (0, [some (.ref 38), some (.int (nI q))], [], h) (.inl (some (.int (nI (bN (decide (q < np)))))), h) := by
  refine s_ildn (p' := 1) rfl rfl rfl ?_
  refine s_if (p' := 4) false rfl (cz_lt (by omega)) rfl ?_
  refine s_ildn (p' := 5) rfl rfl rfl ?_
  refine s_aldn (p' := 6) rfl rfl rfl ?_
  refine s_gf (p' := 9) rfl a2 rfl rfl ?_
  by_cases z : q < np
  · refine s_icmp (p' := 12) false rfl ((ci_ge (by omega) (by omega)).trans (decide_eq_false (by omega))) rfl ?_
    refine s_con (p' := 13) rfl rfl ?_
    refine s_goto (p' := 17) rfl rfl ?_
    exact s_iret rfl rfl (by rw [decide_eq_true z]; rfl)
  · refine s_icmp (p' := 16) true rfl ((ci_ge (by omega) (by omega)).trans (decide_eq_true (by omega))) rfl ?_
    refine s_con (p' := 17) rfl rfl ?_
    exact s_iret rfl rfl (by rw [decide_eq_false z]; rfl)
theorem x_lcd {h : mj_H} {np p : Nat} {K : Nat → Nat} {X : Nat → Nat → Nat → Nat} (hl : cLb h np K X) (hp : p < np) : mj_run 0 20 (0, [some (.ref 38), some (.int (nI p))], [], h) (.inl (some (.ref (bP p + 3))), h) := by
  obtain ⟨a1, a2, ⟨rf, a3, a4⟩, a5⟩ := hl
  obtain ⟨k1, k2, ⟨rw_, k3, k4⟩, k5, k6⟩ := a5 p hp
  refine s_ildn (p' := 1) rfl rfl rfl ?_
  refine s_if (p' := 4) false rfl (cz_lt (by omega)) rfl ?_
  refine s_ildn (p' := 5) rfl rfl rfl ?_
  refine s_aldn (p' := 6) rfl rfl rfl ?_
  refine s_gf (p' := 9) rfl a2 rfl rfl ?_
  refine s_icmp (p' := 12) false rfl ((ci_ge (by omega) (by omega)).trans (decide_eq_false (by omega))) rfl ?_
  refine s_ildn (p' := 13) rfl rfl rfl ?_
  refine s_aldn (p' := 14) rfl rfl rfl ?_
  refine s_gf (p' := 17) rfl a2 rfl rfl ?_
  refine s_len (p' := 18) rfl (mj_rdA_is a3 (by decide)) (by decide) rfl ?_
  refine s_icmp (p' := 21) false rfl ((ci_ge (by omega) (by omega)).trans (decide_eq_false (by omega))) rfl ?_
  refine s_aldn (p' := 22) rfl rfl rfl ?_
  refine s_gf (p' := 25) rfl a2 rfl rfl ?_
  refine s_ildn (p' := 26) rfl rfl rfl ?_
  refine s_aal (p' := 27) rfl (mj_rdA_is a3 (by decide)) (by decide) (inb_nI (by omega) (by omega)) rfl ?_
  rw [mI_cl (by omega), a4 p (by omega)]
  show mj_Wp _ _ (27, _, [.ref (bP p)], _) _
  refine s_gf (p' := 30) rfl k1 rfl rfl ?_
  refine s_goto (p' := 40) rfl rfl ?_
  exact s_aret rfl rfl
theorem x_lct {h : mj_H} {np p : Nat} {K : Nat → Nat} {X : Nat → Nat → Nat → Nat} (hl : cLb h np K X) (hp : p < np) : mj_run 0 21 (0, [some (.ref (bP p + 3))], [], h) (.inl (some (.int (nI (K p)))), h) := by
  obtain ⟨a1, a2, ⟨rf, a3, a4⟩, a5⟩ := hl
  obtain ⟨k1, k2, ⟨rw_, k3, k4⟩, k5, k6⟩ := a5 p hp
  refine s_aldn (p' := 1) rfl rfl rfl ?_
  refine s_gf (p' := 4) rfl k2 rfl rfl ?_
  exact s_iret rfl rfl rfl
theorem x_lat {h : mj_H} {np p : Nat} {K : Nat → Nat} {X : Nat → Nat → Nat → Nat} (hl : cLb h np K X) (hp : p < np) {j : Nat} (hj : j < K p) : mj_run 0 74 (0, [some (.ref (bP p + 3)), some (.int (nI j))], [], h) (.inl (some (.ref (bP p + 6 + j))), h) := by
  obtain ⟨a1, a2, ⟨rf, a3, a4⟩, a5⟩ := hl
  obtain ⟨k1, k2, ⟨rw_, k3, k4⟩, k5, k6⟩ := a5 p hp
  refine s_ildn (p' := 1) rfl rfl rfl ?_
  refine s_if (p' := 4) false rfl (cz_lt (by omega)) rfl ?_
  refine s_ildn (p' := 5) rfl rfl rfl ?_
  refine s_aldn (p' := 6) rfl rfl rfl ?_
  refine s_gf (p' := 9) rfl k2 rfl rfl ?_
  refine s_icmp (p' := 12) false rfl ((ci_ge (by omega) (by omega)).trans (decide_eq_false (by omega))) rfl ?_
  refine s_ildn (p' := 13) rfl rfl rfl ?_
  refine s_aldn (p' := 14) rfl rfl rfl ?_
  refine s_gf (p' := 17) rfl k2 rfl rfl ?_
  refine s_len (p' := 18) rfl (mj_rdA_is k3 (by decide)) (by decide) rfl ?_
  refine s_icmp (p' := 21) false rfl ((ci_ge (by omega) (by omega)).trans (decide_eq_false (by omega))) rfl ?_
  refine s_aldn (p' := 22) rfl rfl rfl ?_
  refine s_gf (p' := 25) rfl k2 rfl rfl ?_
  refine s_ildn (p' := 26) rfl rfl rfl ?_
  refine s_aal (p' := 27) rfl (mj_rdA_is k3 (by decide)) (by decide) (inb_nI (by omega) (by omega)) rfl ?_
  rw [mI_cl (by omega), k4 j (by omega)]
  show mj_Wp _ _ (27, _, [.ref (bP p + 6 + j)], _) _
  refine s_goto (p' := 34) rfl rfl ?_
  exact s_aret rfl rfl
theorem stS_put {A : Nat → Nat} {w : Bool} {v st : Nat → Int32} {t : Nat} (h : (A 0 = 33 ∧ w = true) ∨ (A 0 = 63 ∧ w = false)) : stS A w (v, st, t) = if 20 ≤ t then .inr (1, 102, 20, 0, 0) else .inl (upd v (A 1) 0, upd st t (v (A 1)), t + 1) := by
  unfold stS
  dsimp only
  rw [if_neg (by omega), if_neg (by omega), if_pos (by rcases h with ⟨a, b⟩ | ⟨a, b⟩ <;> rw [a, b] <;> decide)]
theorem stS_tak {A : Nat → Nat} {w : Bool} {v st : Nat → Int32} {t : Nat} (h : (A 0 = 33 ∧ w = false) ∨ (A 0 = 63 ∧ w = true)) : stS A w (v, st, t) = if v (A 1) = 0 then (if t = 0 then .inr (1, 101, A 1, 0, 0) else .inl (upd v (A 1) (st (t - 1)), st, t - 1)) else .inr (1, 122, A 1, 0, 0) := by
  unfold stS
  dsimp only
  rw [if_neg (by omega), if_neg (by omega), if_neg (by rcases h with ⟨a, b⟩ | ⟨a, b⟩ <;> rw [a, b] <;> decide)]
/-- done, or broken -/
def mvQ (h h' : mj_H) (R S : Nat) (r : SR) (z : CZ) (s : SV) (rv : Value) (res : SV ⊕ CZ) : Prop := ((∃ s', res = .inl s' ∧ rv = .int (nI 1) ∧ cSt h' S s' ∧ cRn h' R S r z) ∨ ∃ z', res = .inr z' ∧ rv = .int (nI 0) ∧ cSt h' S s ∧ cRn h' R S r z') ∧ mz_mo (cML R S) 0 0 h h'
theorem cML_m {R S x : Nat} : x ∈ cML R S ↔ x = S ∨ x = S + 1 ∨ x = S + 2 ∨ x = R ∨ x = R + 1 ∨ x = R + 2 ∨ x = R + 3 ∨ x = R + 4 ∨ x = R + 5 := by
  unfold cML
  simp only [List.mem_cons, List.not_mem_nil, or_false]
theorem mo_ml {L : List Nat} {R S : Nat} {h g : mj_H} (m : mz_mo L 0 0 h g) (hL : ∀ x, x ∈ L → x ∈ cML R S) : mz_mo (cML R S) 0 0 h g := m.wk (fun y hy => Or.inl (hL y hy)) (Nat.le_refl _) (Nat.le_refl _)
theorem x_mst {h : mj_H} {S : Nat} {v st : Nat → Int32} {t : Nat} (bS : S + 3 < mj_CB) (hS : cSt h S (v, st, t)) {R : Nat} (bR : R + 6 < mj_CB) (hSR : S + 3 ≤ R) {q : Nat} {ins : Nat → Int32} {A : Nat → Nat} (hq : mj_rd h q = some (inC ins)) (hi : ∀ i, i < 8 → ins i = nI (A i)) {p l c : Nat} {w : Bool} {cp cl : Nat → Nat} {cw : Nat → Bool} {z : CZ} (hR : cRn h R S (p, l, c, w, cp, cl, cw) z) (h1 : A 1 < 8) (h0 : A 0 = 33 ∨ A 0 = 63) (hqS : q < S) : mj_Wp 2 167 (0, [some (.ref R), some (.ref q), none], [], h) (mz_V fun rv h' => mvQ h h' R S (p, l, c, w, cp, cl, cw) z (v, st, t) rv (stS A w (v, st, t))) := by
  have ht20 : t ≤ 20 := hS.2.2.2
  have hR0 : mj_rd h R = some (rnC R S z.1 p l c w) := hR.1
  have hS0 : mj_rd h S = some (stC_ S t) := hS.1
  cases w with
  | true =>
    refine s_aldn (p' := 1) rfl rfl rfl ?_
    refine s_gf (p' := 4) rfl hq rfl rfl ?_
    rw [hi 0 (by decide)]
    refine s_bip (p' := 6) rfl rfl ?_
    by_cases q33 : A 0 = 33
    · refine s_icmp (p' := 9) false rfl ((ci_ne (by omega) (by omega)).trans (decide_eq_false (by omega))) rfl ?_
      refine s_con (p' := 10) rfl rfl ?_
      refine s_goto (p' := 14) rfl rfl ?_
      refine s_aldn (p' := 15) rfl rfl rfl ?_
      refine s_gf (p' := 18) rfl hR0 rfl rfl ?_
      refine s_icmp (p' := 21) false rfl (by decide +kernel) rfl ?_
      refine s_con (p' := 22) rfl rfl ?_
      refine s_goto (p' := 26) rfl rfl ?_
      refine s_istn (p' := 27) (ls' := [_, _, _]) rfl rfl rfl rfl ?_
      refine s_ildn (p' := 28) rfl rfl rfl ?_
      refine s_if (p' := 31) false rfl (by decide +kernel) rfl ?_
      refine s_aldn (p' := 32) rfl rfl rfl ?_
      refine s_gf (p' := 35) rfl hR0 rfl rfl ?_
      refine c_call (p' := 38) (kc := 1) (ls0 := [_]) rfl rfl rfl rfl rfl (mj_rcv_is hS.1) rfl rfl rfl ?_
      refine s_aldn (p' := 1) rfl rfl rfl ?_
      refine s_gf (p' := 4) rfl hS0 rfl rfl ?_
      refine c_iret rfl rfl ?_
      refine s_bip (p' := 40) rfl rfl ?_
      by_cases qt : t < 20
      · refine s_icmp (p' := 52) true rfl ((ci_lt (by omega) (by omega)).trans (decide_eq_true (by omega))) rfl ?_
        refine s_aldn (p' := 53) rfl rfl rfl ?_
        refine s_gf (p' := 56) rfl hR0 rfl rfl ?_
        refine s_aldn (p' := 57) rfl rfl rfl ?_
        refine s_gf (p' := 60) rfl hR0 rfl rfl ?_
        refine s_aldn (p' := 61) rfl rfl rfl ?_
        refine s_gf (p' := 64) rfl hq rfl rfl ?_
        rw [hi 1 (by decide)]
        refine s_callV (p' := 67) (ls0 := [_, _]) rfl rfl rfl rfl rfl (mj_rcv_is hS.1) rfl (x_val bS hS (by omega)) (by first | decide | omega) rfl ?_
        refine s_callEN (p' := 70) (ls0 := [_, _]) rfl rfl rfl rfl rfl (mj_rcv_is hS.1) rfl (x_psh bS hS qt) rfl rfl ?_
        rintro h1_ ⟨s1, m1⟩
        have hR1 := hR.fr m1.1 (fun x hx => by simp only [List.mem_cons, List.not_mem_nil, or_false] at hx; omega)
        have hq1 := m1.1 q (by simp only [List.mem_cons, List.not_mem_nil, or_false]; omega) _ hq
        refine s_aldn (p' := 71) rfl rfl rfl ?_
        refine s_gf (p' := 74) rfl hR1.1 rfl rfl ?_
        refine s_aldn (p' := 75) rfl rfl rfl ?_
        refine s_gf (p' := 78) rfl hq1 rfl rfl ?_
        rw [hi 1 (by decide)]
        refine s_con (p' := 79) rfl rfl ?_
        refine s_callEN (p' := 82) (ls0 := [_, _, _]) rfl rfl rfl rfl rfl (mj_rcv_is s1.1) rfl (x_spt bS s1 h1) rfl rfl ?_
        rintro h2_ ⟨s2, m2⟩
        have hR2 := hR1.fr m2.1 (fun x hx => by simp only [List.mem_cons, List.not_mem_nil, or_false] at hx; omega)
        refine s_con (p' := 83) rfl rfl ?_
        refine s_iret rfl rfl ?_
        exact ⟨_, _, rfl, Or.inl ⟨_, (stS_put (Or.inl ⟨q33, rfl⟩)).trans (if_neg (by omega)), rfl, s2, hR2⟩, mo00 (mo_ml m1 (fun x hx => cML_m.mpr (by simp only [List.mem_cons, List.not_mem_nil, or_false] at hx; omega))) (mo_ml m2 (fun x hx => cML_m.mpr (by simp only [List.mem_cons, List.not_mem_nil, or_false] at hx; omega)))⟩
      · refine s_icmp (p' := 43) false rfl ((ci_lt (by omega) (by omega)).trans (decide_eq_false (by omega))) rfl ?_
        refine s_aldn (p' := 44) rfl rfl rfl ?_
        refine s_bip (p' := 46) rfl rfl ?_
        refine s_bip (p' := 48) rfl rfl ?_
        refine s_callEV (p' := 51) (ls0 := [_, _, _]) rfl rfl rfl rfl rfl (mj_rcv_is hR.1) rfl (x_bof (lt := 102) (nu := 20) bR hR (by decide)) rfl rfl ?_
        rintro _ h1_ ⟨rfl, r1, m1⟩
        have s1 := hS.fr m1.1 (by simp only [List.mem_cons, List.not_mem_nil, or_false]; omega) (by simp only [List.mem_cons, List.not_mem_nil, or_false]; omega) (by simp only [List.mem_cons, List.not_mem_nil, or_false]; omega)
        refine s_iret rfl rfl ?_
        exact ⟨_, _, rfl, Or.inr ⟨_, (stS_put (Or.inl ⟨q33, rfl⟩)).trans (if_pos (by omega)), rfl, s1, r1⟩, mo_ml m1 (fun x hx => cML_m.mpr (by simp only [List.mem_cons, List.not_mem_nil, or_false] at hx; omega))⟩
    · refine s_icmp (p' := 13) true rfl ((ci_ne (by omega) (by omega)).trans (decide_eq_true (by omega))) rfl ?_
      refine s_con (p' := 14) rfl rfl ?_
      refine s_aldn (p' := 15) rfl rfl rfl ?_
      refine s_gf (p' := 18) rfl hR0 rfl rfl ?_
      refine s_icmp (p' := 25) true rfl (by decide +kernel) rfl ?_
      refine s_con (p' := 26) rfl rfl ?_
      refine s_istn (p' := 27) (ls' := [_, _, _]) rfl rfl rfl rfl ?_
      refine s_ildn (p' := 28) rfl rfl rfl ?_
      refine s_if (p' := 84) true rfl (by decide +kernel) rfl ?_
      refine s_aldn (p' := 85) rfl rfl rfl ?_
      refine s_gf (p' := 88) rfl hR0 rfl rfl ?_
      refine s_aldn (p' := 89) rfl rfl rfl ?_
      refine s_gf (p' := 92) rfl hq rfl rfl ?_
      rw [hi 1 (by decide)]
      refine s_callV (p' := 95) (ls0 := [_, _]) rfl rfl rfl rfl rfl (mj_rcv_is hS.1) rfl (x_val bS hS (by omega)) (by first | decide | omega) rfl ?_
      by_cases qv : v (A 1) = 0
      · refine s_if (p' := 109) true rfl (decide_eq_true qv) rfl ?_
        refine s_aldn (p' := 110) rfl rfl rfl ?_
        refine s_gf (p' := 113) rfl hR0 rfl rfl ?_
        refine c_call (p' := 116) (kc := 1) (ls0 := [_]) rfl rfl rfl rfl rfl (mj_rcv_is hS.1) rfl rfl rfl ?_
        refine s_aldn (p' := 1) rfl rfl rfl ?_
        refine s_gf (p' := 4) rfl hS0 rfl rfl ?_
        refine c_iret rfl rfl ?_
        refine s_con (p' := 117) rfl rfl ?_
        by_cases qt : t = 0
        · refine s_icmp (p' := 120) false rfl ((ci_ge (by omega) (by omega)).trans (decide_eq_false (by omega))) rfl ?_
          refine s_aldn (p' := 121) rfl rfl rfl ?_
          refine s_bip (p' := 123) rfl rfl ?_
          refine s_aldn (p' := 124) rfl rfl rfl ?_
          refine s_gf (p' := 127) rfl hq rfl rfl ?_
          rw [hi 1 (by decide)]
          refine s_callEV (p' := 130) (ls0 := [_, _, _]) rfl rfl rfl rfl rfl (mj_rcv_is hR.1) rfl (x_bof (lt := 101) (nu := A 1) bR hR (by decide)) rfl rfl ?_
          rintro _ h1_ ⟨rfl, r1, m1⟩
          have s1 := hS.fr m1.1 (by simp only [List.mem_cons, List.not_mem_nil, or_false]; omega) (by simp only [List.mem_cons, List.not_mem_nil, or_false]; omega) (by simp only [List.mem_cons, List.not_mem_nil, or_false]; omega)
          refine s_iret rfl rfl ?_
          exact ⟨_, _, rfl, Or.inr ⟨_, (stS_tak (Or.inr ⟨by omega, rfl⟩)).trans ((if_pos qv).trans (if_pos qt)), rfl, s1, r1⟩, mo_ml m1 (fun x hx => cML_m.mpr (by simp only [List.mem_cons, List.not_mem_nil, or_false] at hx; omega))⟩
        · refine s_icmp (p' := 131) true rfl ((ci_ge (by omega) (by omega)).trans (decide_eq_true (by omega))) rfl ?_
          refine s_aldn (p' := 132) rfl rfl rfl ?_
          refine s_gf (p' := 135) rfl hR0 rfl rfl ?_
          refine s_aldn (p' := 136) rfl rfl rfl ?_
          refine s_gf (p' := 139) rfl hq rfl rfl ?_
          rw [hi 1 (by decide)]
          refine s_aldn (p' := 140) rfl rfl rfl ?_
          refine s_gf (p' := 143) rfl hR0 rfl rfl ?_
          refine s_callEV (p' := 146) (ls0 := [_, _]) rfl rfl rfl rfl rfl (mj_rcv_is hS.1) rfl (x_pop bS hS (by omega)) rfl rfl ?_
          rintro _ h1_ ⟨rfl, s1, m1⟩
          have hR1 := hR.fr m1.1 (fun x hx => by simp only [List.mem_cons, List.not_mem_nil, or_false] at hx; omega)
          refine s_callEN (p' := 149) (ls0 := [_, _, _]) rfl rfl rfl rfl rfl (mj_rcv_is s1.1) rfl (x_spt bS s1 h1) rfl rfl ?_
          rintro h2_ ⟨s2, m2⟩
          have hR2 := hR1.fr m2.1 (fun x hx => by simp only [List.mem_cons, List.not_mem_nil, or_false] at hx; omega)
          refine s_con (p' := 150) rfl rfl ?_
          refine s_iret rfl rfl ?_
          exact ⟨_, _, rfl, Or.inl ⟨_, (stS_tak (Or.inr ⟨by omega, rfl⟩)).trans ((if_pos qv).trans (if_neg qt)), rfl, s2, hR2⟩, mo00 (mo_ml m1 (fun x hx => cML_m.mpr (by simp only [List.mem_cons, List.not_mem_nil, or_false] at hx; omega))) (mo_ml m2 (fun x hx => cML_m.mpr (by simp only [List.mem_cons, List.not_mem_nil, or_false] at hx; omega)))⟩
      · refine s_if (p' := 98) false rfl (decide_eq_false qv) rfl ?_
        refine s_aldn (p' := 99) rfl rfl rfl ?_
        refine s_bip (p' := 101) rfl rfl ?_
        refine s_aldn (p' := 102) rfl rfl rfl ?_
        refine s_gf (p' := 105) rfl hq rfl rfl ?_
        rw [hi 1 (by decide)]
        refine s_callEV (p' := 108) (ls0 := [_, _, _]) rfl rfl rfl rfl rfl (mj_rcv_is hR.1) rfl (x_bof (lt := 122) (nu := A 1) bR hR (by decide)) rfl rfl ?_
        rintro _ h1_ ⟨rfl, r1, m1⟩
        have s1 := hS.fr m1.1 (by simp only [List.mem_cons, List.not_mem_nil, or_false]; omega) (by simp only [List.mem_cons, List.not_mem_nil, or_false]; omega) (by simp only [List.mem_cons, List.not_mem_nil, or_false]; omega)
        refine s_iret rfl rfl ?_
        exact ⟨_, _, rfl, Or.inr ⟨_, (stS_tak (Or.inr ⟨by omega, rfl⟩)).trans (if_neg qv), rfl, s1, r1⟩, mo_ml m1 (fun x hx => cML_m.mpr (by simp only [List.mem_cons, List.not_mem_nil, or_false] at hx; omega))⟩
  | false =>
    refine s_aldn (p' := 1) rfl rfl rfl ?_
    refine s_gf (p' := 4) rfl hq rfl rfl ?_
    rw [hi 0 (by decide)]
    refine s_bip (p' := 6) rfl rfl ?_
    by_cases q33 : A 0 = 33
    · refine s_icmp (p' := 9) false rfl ((ci_ne (by omega) (by omega)).trans (decide_eq_false (by omega))) rfl ?_
      refine s_con (p' := 10) rfl rfl ?_
      refine s_goto (p' := 14) rfl rfl ?_
      refine s_aldn (p' := 15) rfl rfl rfl ?_
      refine s_gf (p' := 18) rfl hR0 rfl rfl ?_
      refine s_icmp (p' := 25) true rfl (by decide +kernel) rfl ?_
      refine s_con (p' := 26) rfl rfl ?_
      refine s_istn (p' := 27) (ls' := [_, _, _]) rfl rfl rfl rfl ?_
      refine s_ildn (p' := 28) rfl rfl rfl ?_
      refine s_if (p' := 84) true rfl (by decide +kernel) rfl ?_
      refine s_aldn (p' := 85) rfl rfl rfl ?_
      refine s_gf (p' := 88) rfl hR0 rfl rfl ?_
      refine s_aldn (p' := 89) rfl rfl rfl ?_
      refine s_gf (p' := 92) rfl hq rfl rfl ?_
      rw [hi 1 (by decide)]
      refine s_callV (p' := 95) (ls0 := [_, _]) rfl rfl rfl rfl rfl (mj_rcv_is hS.1) rfl (x_val bS hS (by omega)) (by first | decide | omega) rfl ?_
      by_cases qv : v (A 1) = 0
      · refine s_if (p' := 109) true rfl (decide_eq_true qv) rfl ?_
        refine s_aldn (p' := 110) rfl rfl rfl ?_
        refine s_gf (p' := 113) rfl hR0 rfl rfl ?_
        refine c_call (p' := 116) (kc := 1) (ls0 := [_]) rfl rfl rfl rfl rfl (mj_rcv_is hS.1) rfl rfl rfl ?_
        refine s_aldn (p' := 1) rfl rfl rfl ?_
        refine s_gf (p' := 4) rfl hS0 rfl rfl ?_
        refine c_iret rfl rfl ?_
        refine s_con (p' := 117) rfl rfl ?_
        by_cases qt : t = 0
        · refine s_icmp (p' := 120) false rfl ((ci_ge (by omega) (by omega)).trans (decide_eq_false (by omega))) rfl ?_
          refine s_aldn (p' := 121) rfl rfl rfl ?_
          refine s_bip (p' := 123) rfl rfl ?_
          refine s_aldn (p' := 124) rfl rfl rfl ?_
          refine s_gf (p' := 127) rfl hq rfl rfl ?_
          rw [hi 1 (by decide)]
          refine s_callEV (p' := 130) (ls0 := [_, _, _]) rfl rfl rfl rfl rfl (mj_rcv_is hR.1) rfl (x_bof (lt := 101) (nu := A 1) bR hR (by decide)) rfl rfl ?_
          rintro _ h1_ ⟨rfl, r1, m1⟩
          have s1 := hS.fr m1.1 (by simp only [List.mem_cons, List.not_mem_nil, or_false]; omega) (by simp only [List.mem_cons, List.not_mem_nil, or_false]; omega) (by simp only [List.mem_cons, List.not_mem_nil, or_false]; omega)
          refine s_iret rfl rfl ?_
          exact ⟨_, _, rfl, Or.inr ⟨_, (stS_tak (Or.inl ⟨q33, rfl⟩)).trans ((if_pos qv).trans (if_pos qt)), rfl, s1, r1⟩, mo_ml m1 (fun x hx => cML_m.mpr (by simp only [List.mem_cons, List.not_mem_nil, or_false] at hx; omega))⟩
        · refine s_icmp (p' := 131) true rfl ((ci_ge (by omega) (by omega)).trans (decide_eq_true (by omega))) rfl ?_
          refine s_aldn (p' := 132) rfl rfl rfl ?_
          refine s_gf (p' := 135) rfl hR0 rfl rfl ?_
          refine s_aldn (p' := 136) rfl rfl rfl ?_
          refine s_gf (p' := 139) rfl hq rfl rfl ?_
          rw [hi 1 (by decide)]
          refine s_aldn (p' := 140) rfl rfl rfl ?_
          refine s_gf (p' := 143) rfl hR0 rfl rfl ?_
          refine s_callEV (p' := 146) (ls0 := [_, _]) rfl rfl rfl rfl rfl (mj_rcv_is hS.1) rfl (x_pop bS hS (by omega)) rfl rfl ?_
          rintro _ h1_ ⟨rfl, s1, m1⟩
          have hR1 := hR.fr m1.1 (fun x hx => by simp only [List.mem_cons, List.not_mem_nil, or_false] at hx; omega)
          refine s_callEN (p' := 149) (ls0 := [_, _, _]) rfl rfl rfl rfl rfl (mj_rcv_is s1.1) rfl (x_spt bS s1 h1) rfl rfl ?_
          rintro h2_ ⟨s2, m2⟩
          have hR2 := hR1.fr m2.1 (fun x hx => by simp only [List.mem_cons, List.not_mem_nil, or_false] at hx; omega)
          refine s_con (p' := 150) rfl rfl ?_
          refine s_iret rfl rfl ?_
          exact ⟨_, _, rfl, Or.inl ⟨_, (stS_tak (Or.inl ⟨q33, rfl⟩)).trans ((if_pos qv).trans (if_neg qt)), rfl, s2, hR2⟩, mo00 (mo_ml m1 (fun x hx => cML_m.mpr (by simp only [List.mem_cons, List.not_mem_nil, or_false] at hx; omega))) (mo_ml m2 (fun x hx => cML_m.mpr (by simp only [List.mem_cons, List.not_mem_nil, or_false] at hx; omega)))⟩
      · refine s_if (p' := 98) false rfl (decide_eq_false qv) rfl ?_
        refine s_aldn (p' := 99) rfl rfl rfl ?_
        refine s_bip (p' := 101) rfl rfl ?_
        refine s_aldn (p' := 102) rfl rfl rfl ?_
        refine s_gf (p' := 105) rfl hq rfl rfl ?_
        rw [hi 1 (by decide)]
        refine s_callEV (p' := 108) (ls0 := [_, _, _]) rfl rfl rfl rfl rfl (mj_rcv_is hR.1) rfl (x_bof (lt := 122) (nu := A 1) bR hR (by decide)) rfl rfl ?_
        rintro _ h1_ ⟨rfl, r1, m1⟩
        have s1 := hS.fr m1.1 (by simp only [List.mem_cons, List.not_mem_nil, or_false]; omega) (by simp only [List.mem_cons, List.not_mem_nil, or_false]; omega) (by simp only [List.mem_cons, List.not_mem_nil, or_false]; omega)
        refine s_iret rfl rfl ?_
        exact ⟨_, _, rfl, Or.inr ⟨_, (stS_tak (Or.inl ⟨q33, rfl⟩)).trans (if_neg qv), rfl, s1, r1⟩, mo_ml m1 (fun x hx => cML_m.mpr (by simp only [List.mem_cons, List.not_mem_nil, or_false] at hx; omega))⟩
    · refine s_icmp (p' := 13) true rfl ((ci_ne (by omega) (by omega)).trans (decide_eq_true (by omega))) rfl ?_
      refine s_con (p' := 14) rfl rfl ?_
      refine s_aldn (p' := 15) rfl rfl rfl ?_
      refine s_gf (p' := 18) rfl hR0 rfl rfl ?_
      refine s_icmp (p' := 21) false rfl (by decide +kernel) rfl ?_
      refine s_con (p' := 22) rfl rfl ?_
      refine s_goto (p' := 26) rfl rfl ?_
      refine s_istn (p' := 27) (ls' := [_, _, _]) rfl rfl rfl rfl ?_
      refine s_ildn (p' := 28) rfl rfl rfl ?_
      refine s_if (p' := 31) false rfl (by decide +kernel) rfl ?_
      refine s_aldn (p' := 32) rfl rfl rfl ?_
      refine s_gf (p' := 35) rfl hR0 rfl rfl ?_
      refine c_call (p' := 38) (kc := 1) (ls0 := [_]) rfl rfl rfl rfl rfl (mj_rcv_is hS.1) rfl rfl rfl ?_
      refine s_aldn (p' := 1) rfl rfl rfl ?_
      refine s_gf (p' := 4) rfl hS0 rfl rfl ?_
      refine c_iret rfl rfl ?_
      refine s_bip (p' := 40) rfl rfl ?_
      by_cases qt : t < 20
      · refine s_icmp (p' := 52) true rfl ((ci_lt (by omega) (by omega)).trans (decide_eq_true (by omega))) rfl ?_
        refine s_aldn (p' := 53) rfl rfl rfl ?_
        refine s_gf (p' := 56) rfl hR0 rfl rfl ?_
        refine s_aldn (p' := 57) rfl rfl rfl ?_
        refine s_gf (p' := 60) rfl hR0 rfl rfl ?_
        refine s_aldn (p' := 61) rfl rfl rfl ?_
        refine s_gf (p' := 64) rfl hq rfl rfl ?_
        rw [hi 1 (by decide)]
        refine s_callV (p' := 67) (ls0 := [_, _]) rfl rfl rfl rfl rfl (mj_rcv_is hS.1) rfl (x_val bS hS (by omega)) (by first | decide | omega) rfl ?_
        refine s_callEN (p' := 70) (ls0 := [_, _]) rfl rfl rfl rfl rfl (mj_rcv_is hS.1) rfl (x_psh bS hS qt) rfl rfl ?_
        rintro h1_ ⟨s1, m1⟩
        have hR1 := hR.fr m1.1 (fun x hx => by simp only [List.mem_cons, List.not_mem_nil, or_false] at hx; omega)
        have hq1 := m1.1 q (by simp only [List.mem_cons, List.not_mem_nil, or_false]; omega) _ hq
        refine s_aldn (p' := 71) rfl rfl rfl ?_
        refine s_gf (p' := 74) rfl hR1.1 rfl rfl ?_
        refine s_aldn (p' := 75) rfl rfl rfl ?_
        refine s_gf (p' := 78) rfl hq1 rfl rfl ?_
        rw [hi 1 (by decide)]
        refine s_con (p' := 79) rfl rfl ?_
        refine s_callEN (p' := 82) (ls0 := [_, _, _]) rfl rfl rfl rfl rfl (mj_rcv_is s1.1) rfl (x_spt bS s1 h1) rfl rfl ?_
        rintro h2_ ⟨s2, m2⟩
        have hR2 := hR1.fr m2.1 (fun x hx => by simp only [List.mem_cons, List.not_mem_nil, or_false] at hx; omega)
        refine s_con (p' := 83) rfl rfl ?_
        refine s_iret rfl rfl ?_
        exact ⟨_, _, rfl, Or.inl ⟨_, (stS_put (Or.inr ⟨by omega, rfl⟩)).trans (if_neg (by omega)), rfl, s2, hR2⟩, mo00 (mo_ml m1 (fun x hx => cML_m.mpr (by simp only [List.mem_cons, List.not_mem_nil, or_false] at hx; omega))) (mo_ml m2 (fun x hx => cML_m.mpr (by simp only [List.mem_cons, List.not_mem_nil, or_false] at hx; omega)))⟩
      · refine s_icmp (p' := 43) false rfl ((ci_lt (by omega) (by omega)).trans (decide_eq_false (by omega))) rfl ?_
        refine s_aldn (p' := 44) rfl rfl rfl ?_
        refine s_bip (p' := 46) rfl rfl ?_
        refine s_bip (p' := 48) rfl rfl ?_
        refine s_callEV (p' := 51) (ls0 := [_, _, _]) rfl rfl rfl rfl rfl (mj_rcv_is hR.1) rfl (x_bof (lt := 102) (nu := 20) bR hR (by decide)) rfl rfl ?_
        rintro _ h1_ ⟨rfl, r1, m1⟩
        have s1 := hS.fr m1.1 (by simp only [List.mem_cons, List.not_mem_nil, or_false]; omega) (by simp only [List.mem_cons, List.not_mem_nil, or_false]; omega) (by simp only [List.mem_cons, List.not_mem_nil, or_false]; omega)
        refine s_iret rfl rfl ?_
        exact ⟨_, _, rfl, Or.inr ⟨_, (stS_put (Or.inr ⟨by omega, rfl⟩)).trans (if_pos (by omega)), rfl, s1, r1⟩, mo_ml m1 (fun x hx => cML_m.mpr (by simp only [List.mem_cons, List.not_mem_nil, or_false] at hx; omega))⟩
