/-! Rounds by contracts: running. -/
theorem y_tbl' {k m : Nat} {S : mj_S} {a V : Int32} {R : mj_H → Prop} (h : mj_Wp k m S (mz_V fun r g => r = .int a ∧ R g)) (e : a = V) : mj_Wp k m S (mz_V fun r g => r = .int V ∧ R g) := by
  rw [← e]
  exact h
/-- the whole run's store taken over -/
theorem pRu.run {h g : mj_H} {L : List Nat} {np : Nat} {K : Nat → Nat} {s s' : SV} (a : pRu h np K) (e : mz_fr L h g) (hL : ∀ x, x ∈ L → x < 381 ∨ 387 ≤ x ∧ x < 405 ∨ 410 ≤ x) (hs : cSt h 375 s) (c : cSt g 375 s') (y : yWb g 402 s') (kd : ∀ (cx : Nat) (dx : Int32), mj_rd h 402 = some (wrB 402 s.2.2 cx dx) → mj_rd g 402 = some (wrB 402 s'.2.2 cx dx)) : pRu g np K := by
  obtain ⟨s1, a1, b⟩ := a
  have e2 : s1.2.2 = s.2.2 := by
    have q := hs.1.symm.trans a1.1
    unfold stC_ at q
    have q2 := (Prod.mk.inj (Sum.inr.inj (Option.some.inj q))).2
    simp only [List.cons.injEq, Value.int.injEq, and_true, true_and] at q2
    have k1 := hs.2.2.2
    have k2 := a1.2.2.2
    exact ((mI_inj (by omega) (by omega)).mp q2).symm
  have no : ∀ i, (405 ≤ i ∧ i < 410) → i ∉ L := fun i hi hx => by have := hL _ hx; omega
  refine ⟨s', c, ?_⟩
  rcases b with ⟨_, ⟨r, b2⟩, cn, b3⟩ | ⟨r, z, b1, ⟨c1, c2, c3, c4⟩, b3⟩
  · rw [e2] at b3
    exact Or.inl ⟨y, ⟨r, b2.fr e (fun x hx => by have := hL x hx; omega)⟩, cn, kd _ _ b3⟩
  · have c1' : mj_rd h 402 = some (wrB 402 s.2.2 z.1 (nI r.2.2.1)) := by rw [← e2]; exact c1
    exact Or.inr ⟨r, z, b1.fr e (fun x hx => by have := hL x hx; omega), ⟨kd _ _ c1', y.2.1, c3.fr e (no 405 (by decide)) (no 406 (by decide)) (no 407 (by decide)), c4.fr e (no 408 (by decide)) (no 409 (by decide))⟩, b3⟩
theorem r_14 {L j : Nat} {xs : Nat → Int32} {h : mj_H} {l6 l7 l8 l9 : Option Value} {P : mj_H → Prop} {own : Nat → Nat} {th : Int32} {sd be : Int64} {gs pl ty wa nw nx : Value} {np : Nat} {K : Nat → Nat} {X : Nat → Nat → Nat → Nat} {rz : Nat} (w : wJ own th sd be gs pl ty wa nw nx np K X rz j h) (hL : L ≤ 2048) (hi : 4 * j + 4 ≤ L) (hk : xs (4 * j) &&& nI 63 = nI 14) (hn : ∀ (l6 l7 l8 l9 : Option Value) (g : mj_H), wI (j + 1) g → mj_lrun L xs (28, [some (.retAddr 1), some (.ref 0), some (.ref 400), some (.ref 412), some (.ref 413), some (.int (nI (4 * j + 4))), l6, l7, l8, l9], [], g) P) : mj_lrun L xs (28, [some (.retAddr 1), some (.ref 0), some (.ref 400), some (.ref 412), some (.ref 413), some (.int (nI (4 * j))), l6, l7, l8, l9], [], h) P := by
  obtain ⟨w1, H0, H400, pT, pL, pR, pV, pC, pI, pS, pO, pX, pP, pG, j5, b1, b2⟩ := id w
  have ln := w.len
  obtain ⟨⟨ou, H412⟩, od, H413⟩ := id pO
  obtain ⟨N, F, PF, Ep, hLi, hYL, hLo, oEp⟩ := id pL
  have np6 := hLi.1
  have e1 : mj_CB = 1000000 := rfl
  have hpk := hLo.pOk np6
  have hcb := hLi.lb
  have hIl : ∀ a, own a = 9 → a < h.length := fun a q => (w1 a (by omega)).2
  have hI4 : ∀ a, own a = 9 → a ≠ 400 ∧ a ≠ 401 ∧ a ≠ Ep := fun a q => by
    have z := w1 a (by omega)
    refine ⟨by omega, by omega, fun e => ?_⟩
    rw [e] at q z
    have := oEp (by omega)
    omega
  have hIn : ¬ own 400 = 9 := fun q => by have := w1 400 (by omega); omega
  have hIw : ∀ x, x ∈ wML 402 → ¬ own x = 9 := fun x hx q => by have := wML_m.mp hx; have := w1 x (by omega); omega
  obtain ⟨bb, hbb⟩ : ∃ bb : Bool, decide (xs (4 * j + 2) = 0) = !bb := ⟨!decide (xs (4 * j + 2) = 0), by rw [Bool.not_not]⟩
  rcases (by omega : (xs (4 * j + 1)).toInt < 0 ∨ 0 ≤ (xs (4 * j + 1)).toInt) with q | q
  · have hpr : (xs (4 * j + 1)).toInt < 0 ∨ (np : Int) ≤ (xs (4 * j + 1)).toInt := Or.inl q
    refine lr_14_1 (i := 4 * j) (A := fun g1 => mz_mo ([]) 1 6 h g1) (B := rBc 1 j) (b := nI 0) (bb := bb) hL hi hk hbb ?_ ?_ ?_ (fun g q => q.1) (fun _ _ _ _ g q => hn _ _ _ _ _ q.2)
    · refine lw_start_1 (A := fun g1 => mz_mo ([]) 1 6 h g1) ⟨_, H0⟩ ?_
      exact thrN (x_strT H0 hcb hpr) (by decide) (by omega) rfl
    · rintro g m1
      exact ⟨_, m1.1 400 (fun q => by cases q) _ H400⟩
    · rintro g m1
      have g400 := m1.1 400 (fun q => by cases q) _ H400
      have m1s := m1
      have lg := mo_le m1
      have gL := hYL.lo w1 oEp m1s.1 (fun x q => by cases q)
      have gB := gL.lb g400
      refine (mj_Wp.mono (y_strT gB np6 g400 hIn hpr) (by decide)).imp ?_
      rintro _ ⟨_, g2, rfl, rfl, y400, m2⟩
      have mt : mz_mo (([]) ++ ([400])) (1 + 0) (6 + 0) h g2 := mo2 m1 m2
      have et := mt.1
      have hx0 : ∀ x, x ∈ [] ++ [400] → (own x = 0 ∧ (x = 400)) := by
        intro x hx
        rcases List.mem_append.mp hx with q | q
        · cases q
        · have z : x < 414 ∧ (x = 400) := by simp only [cML, wML, List.mem_cons, List.mem_append, List.not_mem_nil, or_false] at q; omega
          exact ⟨w1.z z.1, z.2⟩
      have le := mt.2.1
      have l1 := mt.2.2.1
      have l2 := mt.2.2.2
      have qo : pOu g2 := pO.fr et (fun x hx => by have := hx0 x hx; omega)
      exact ⟨_, _, rfl, rfl, ⟨_, y400⟩, ⟨own, _, _, _, gs, pl, _, wa, nw, nx, np, K, X, rz, w1.len le, et 0 (fun q => by have := hx0 _ q; omega) _ H0, y400, pT.fr et (fun x hx => by have := hx0 x hx; omega) (fun _ q => q), pL.fr et (fun x hx => by have := hx0 x hx; omega) (fun _ q => q) (fun a q => by have := (w1 a (by omega)).2; omega) (fun _ q => q), pR.fr et (fun x hx => by have := hx0 x hx; omega), pV.fr et (fun x hx => by have := hx0 x hx; omega), pC.fr et (fun x hx => by have := hx0 x hx; omega) (fun _ q => q), pI.fr et (fun x hx => by have := hx0 x hx; omega), pS.fr et (fun x hx => by have := hx0 x hx; omega), qo, pX.fr et (fun x hx => by have := hx0 x hx; omega), pP.fr et (fun x hx => by have := hx0 x hx; omega) (fun _ q => q), pG.fr et (fun x hx => by have := hx0 x hx; omega) (fun _ q => q), by omega, by omega, by omega⟩⟩
  · obtain ⟨p, hpb, hx1⟩ := toI_ex q
    by_cases hp : p < np
    · obtain ⟨s, hS, hYW, b0, ⟨rp, rl, rc, rw_, rcp, rcl, rcw⟩, z, hR⟩ := pR.raw
      refine lr_14_0 (i := 4 * j) (A := fun g => ∃ (g1 : mj_H) (ou : Nat → Int64), (mz_mo ([381]) 0 0 h g1 ∧ cRn g1 381 375 (bgn K p bb (fun _ => 0) (fun _ => 0) (fun _ => false)) z0) ∧ mj_rd g1 412 = some (outC ou) ∧ g = g1.set 412 (outC (vp_updL ou 0 (Int32.toInt64 (nI (if bb = true then 0 else K p)))))) (B := rB0 (nI (if bb = true then 0 else K p)) j) (b := nI (if bb = true then 0 else K p)) (bb := bb) hL hi hk hbb ?_ ?_ ?_ (fun g q => q.h) (fun _ _ _ _ g q => hn _ _ _ _ _ q.2.2)
      · rw [hx1]
        refine lw_start_0 (A := fun g1 => mz_mo ([381]) 0 0 h g1 ∧ cRn g1 381 375 (bgn K p bb (fun _ => 0) (fun _ => 0) (fun _ => false)) z0) ⟨_, H0⟩ ?_ (fun g1 q => ?_)
        · refine (mj_Wp.mono (x_str H0 hcb hp hR) (by decide)).imp ?_
          rintro _ ⟨_, g1, rfl, rfl, c1, c2⟩
          exact ⟨_, _, rfl, rfl, c2, c1⟩
        · obtain ⟨m1, cR⟩ := q
          exact ⟨ou, m1.1 412 (fun q => by simp only [cML, wML, List.mem_cons, List.mem_append, List.not_mem_nil, or_false] at q; omega) _ H412⟩
      · rintro g ⟨g1, ou1, ⟨m1, cR⟩, a2, hg⟩
        rw [hg]
        exact ⟨_, (rd_setn (by decide)).trans (m1.1 400 (fun q => by simp only [cML, wML, List.mem_cons, List.mem_append, List.not_mem_nil, or_false] at q; omega) _ H400)⟩
      · rintro g ⟨g1, ou1, ⟨m1, cR⟩, a2, hg⟩
        have ms : mz_mo [412] 0 0 g1 g := by rw [hg]; exact mz_mo.st (by decide) a2 rfl
        have r412 : mj_rd g 412 = some (outC (vp_updL ou1 0 (Int32.toInt64 (nI (if bb = true then 0 else K p))))) := by rw [hg]; exact rd_set (by decide) a2
        clear hg
        have m1s : mz_mo (412 :: ([381])) 0 0 h g := mo1s m1 ms
        have g400 := m1s.1 400 (fun q => by rcases List.mem_cons.mp q with q | q; (omega); (simp only [cML, wML, List.mem_cons, List.mem_append, List.not_mem_nil, or_false] at q; omega)) _ H400
        have lg := mo_le m1s
        have gL := hYL.lo w1 oEp m1s.1 (fun x q => by rcases List.mem_cons.mp q with q | q; (constructor <;> omega); (simp only [cML, wML, List.mem_cons, List.mem_append, List.not_mem_nil, or_false] at q; (constructor <;> omega)))
        have gB := gL.lb g400
        have gW := hYW.fr m1s.1 (fun x q => by rcases List.mem_cons.mp q with q | q; (omega); (simp only [cML, wML, List.mem_cons, List.mem_append, List.not_mem_nil, or_false] at q; omega))
        rw [hx1]
        refine (mj_Wp.mono (y_str gB np6 g400 hIn hIw hp (fun _ => 0) (fun _ => 0) (fun _ => false) gW (hpk.2 p hp).1) (by decide)).imp ?_
        rintro _ ⟨_, g2, rfl, rfl, y400, yW, m2⟩
        have mt : mz_mo (412 :: (([381]) ++ (400 :: wML 402))) (0 + 0) (0 + 0) h g2 := mo3 m1s m2
        have et := mt.1
        have Q412 := m2.1 412 (fun q => by simp only [cML, wML, List.mem_cons, List.mem_append, List.not_mem_nil, or_false] at q; omega) _ r412
        have hx0 : ∀ x, x ∈ 412 :: ([381] ++ 400 :: wML 402) → (own x = 0 ∧ (x = 400 ∨ x = 412 ∨ x = 381 ∨ 402 ≤ x ∧ x < 410)) := by
          intro x hx
          rcases List.mem_cons.mp hx with hx | hx
          · rw [hx]; exact ⟨w1.z (by decide), by decide⟩
          rcases List.mem_append.mp hx with q | q
          · have z : x < 414 ∧ (x = 400 ∨ x = 412 ∨ x = 381 ∨ 402 ≤ x ∧ x < 410) := by simp only [cML, wML, List.mem_cons, List.mem_append, List.not_mem_nil, or_false] at q; omega
            exact ⟨w1.z z.1, z.2⟩
          · have z : x < 414 ∧ (x = 400 ∨ x = 412 ∨ x = 381 ∨ 402 ≤ x ∧ x < 410) := by simp only [cML, wML, List.mem_cons, List.mem_append, List.not_mem_nil, or_false] at q; omega
            exact ⟨w1.z z.1, z.2⟩
        have le := mt.2.1
        have l1 := mt.2.2.1
        have l2 := mt.2.2.2
        have qo : pOu g2 := pO.f2 et (fun x hx => by have := hx0 x hx; omega) ⟨_, Q412⟩
        have nR : pRu g2 np K := ⟨s, hS.fr et (fun q => by have := hx0 _ q; omega) (fun q => by have := hx0 _ q; omega) (fun q => by have := hx0 _ q; omega), Or.inr ⟨_, z0, (cR.fr ms.1 (fun x q => by simp only [cML, wML, List.mem_cons, List.mem_append, List.not_mem_nil, or_false] at q; omega)).fr m2.1 (fun x q => by simp only [cML, wML, List.mem_cons, List.mem_append, List.not_mem_nil, or_false] at q; omega), yW, bgn_wf hp, bgn_nrm, Or.inl rfl, by decide, by decide⟩⟩
        exact ⟨_, _, rfl, rfl, ⟨_, y400⟩, ⟨_, Q412, if_pos rfl⟩, ⟨own, _, _, _, gs, pl, _, wa, nw, nx, np, K, X, rz, w1.len le, et 0 (fun q => by have := hx0 _ q; omega) _ H0, y400, pT.fr et (fun x hx => by have := hx0 x hx; omega) (fun _ q => q), pL.fr et (fun x hx => by have := hx0 x hx; omega) (fun _ q => q) (fun a q => by have := (w1 a (by omega)).2; omega) (fun _ q => q), nR, pV.fr et (fun x hx => by have := hx0 x hx; omega), pC.fr et (fun x hx => by have := hx0 x hx; omega) (fun _ q => q), pI.fr et (fun x hx => by have := hx0 x hx; omega), pS.fr et (fun x hx => by have := hx0 x hx; omega), qo, pX.fr et (fun x hx => by have := hx0 x hx; omega), pP.fr et (fun x hx => by have := hx0 x hx; omega) (fun _ q => q), pG.fr et (fun x hx => by have := hx0 x hx; omega) (fun _ q => q), by omega, by omega, by omega⟩⟩
    · have hpr : (xs (4 * j + 1)).toInt < 0 ∨ (np : Int) ≤ (xs (4 * j + 1)).toInt := Or.inr (by rw [hx1, mI_ti hpb]; omega)
      refine lr_14_1 (i := 4 * j) (A := fun g1 => mz_mo ([]) 1 6 h g1) (B := rBc 1 j) (b := nI 0) (bb := bb) hL hi hk hbb ?_ ?_ ?_ (fun g q => q.1) (fun _ _ _ _ g q => hn _ _ _ _ _ q.2)
      · refine lw_start_1 (A := fun g1 => mz_mo ([]) 1 6 h g1) ⟨_, H0⟩ ?_
        exact thrN (x_strT H0 hcb hpr) (by decide) (by omega) rfl
      · rintro g m1
        exact ⟨_, m1.1 400 (fun q => by cases q) _ H400⟩
      · rintro g m1
        have g400 := m1.1 400 (fun q => by cases q) _ H400
        have m1s := m1
        have lg := mo_le m1
        have gL := hYL.lo w1 oEp m1s.1 (fun x q => by cases q)
        have gB := gL.lb g400
        refine (mj_Wp.mono (y_strT gB np6 g400 hIn hpr) (by decide)).imp ?_
        rintro _ ⟨_, g2, rfl, rfl, y400, m2⟩
        have mt : mz_mo (([]) ++ ([400])) (1 + 0) (6 + 0) h g2 := mo2 m1 m2
        have et := mt.1
        have hx0 : ∀ x, x ∈ [] ++ [400] → (own x = 0 ∧ (x = 400)) := by
          intro x hx
          rcases List.mem_append.mp hx with q | q
          · cases q
          · have z : x < 414 ∧ (x = 400) := by simp only [cML, wML, List.mem_cons, List.mem_append, List.not_mem_nil, or_false] at q; omega
            exact ⟨w1.z z.1, z.2⟩
        have le := mt.2.1
        have l1 := mt.2.2.1
        have l2 := mt.2.2.2
        have qo : pOu g2 := pO.fr et (fun x hx => by have := hx0 x hx; omega)
        exact ⟨_, _, rfl, rfl, ⟨_, y400⟩, ⟨own, _, _, _, gs, pl, _, wa, nw, nx, np, K, X, rz, w1.len le, et 0 (fun q => by have := hx0 _ q; omega) _ H0, y400, pT.fr et (fun x hx => by have := hx0 x hx; omega) (fun _ q => q), pL.fr et (fun x hx => by have := hx0 x hx; omega) (fun _ q => q) (fun a q => by have := (w1 a (by omega)).2; omega) (fun _ q => q), pR.fr et (fun x hx => by have := hx0 x hx; omega), pV.fr et (fun x hx => by have := hx0 x hx; omega), pC.fr et (fun x hx => by have := hx0 x hx; omega) (fun _ q => q), pI.fr et (fun x hx => by have := hx0 x hx; omega), pS.fr et (fun x hx => by have := hx0 x hx; omega), qo, pX.fr et (fun x hx => by have := hx0 x hx; omega), pP.fr et (fun x hx => by have := hx0 x hx; omega) (fun _ q => q), pG.fr et (fun x hx => by have := hx0 x hx; omega) (fun _ q => q), by omega, by omega, by omega⟩⟩
theorem r_15 {L j : Nat} {xs : Nat → Int32} {h : mj_H} {l6 l7 l8 l9 : Option Value} {P : mj_H → Prop} {own : Nat → Nat} {th : Int32} {sd be : Int64} {gs pl ty wa nw nx : Value} {np : Nat} {K : Nat → Nat} {X : Nat → Nat → Nat → Nat} {rz : Nat} (w : wJ own th sd be gs pl ty wa nw nx np K X rz j h) (hL : L ≤ 2048) (hi : 4 * j + 4 ≤ L) (hk : xs (4 * j) &&& nI 63 = nI 15) (hn : ∀ (l6 l7 l8 l9 : Option Value) (g : mj_H), wI (j + 1) g → mj_lrun L xs (28, [some (.retAddr 1), some (.ref 0), some (.ref 400), some (.ref 412), some (.ref 413), some (.int (nI (4 * j + 4))), l6, l7, l8, l9], [], g) P) : mj_lrun L xs (28, [some (.retAddr 1), some (.ref 0), some (.ref 400), some (.ref 412), some (.ref 413), some (.int (nI (4 * j))), l6, l7, l8, l9], [], h) P := by
  obtain ⟨w1, H0, H400, pT, pL, pR, pV, pC, pI, pS, pO, pX, pP, pG, j5, b1, b2⟩ := id w
  have ln := w.len
  obtain ⟨⟨ou, H412⟩, od, H413⟩ := id pO
  obtain ⟨N, F, PF, Ep, hLi, hYL, hLo, oEp⟩ := id pL
  have np6 := hLi.1
  have e1 : mj_CB = 1000000 := rfl
  have hpk := hLo.pOk np6
  have hcb := hLi.lb
  have hIl : ∀ a, own a = 9 → a < h.length := fun a q => (w1 a (by omega)).2
  have hI4 : ∀ a, own a = 9 → a ≠ 400 ∧ a ≠ 401 ∧ a ≠ Ep := fun a q => by
    have z := w1 a (by omega)
    refine ⟨by omega, by omega, fun e => ?_⟩
    rw [e] at q z
    have := oEp (by omega)
    omega
  have hIn : ¬ own 400 = 9 := fun q => by have := w1 400 (by omega); omega
  have hIw : ∀ x, x ∈ wML 402 → ¬ own x = 9 := fun x hx q => by have := wML_m.mp hx; have := w1 x (by omega); omega
  obtain ⟨bb, hbb⟩ : ∃ bb : Bool, decide (xs (4 * j + 2) = 0) = !bb := ⟨!decide (xs (4 * j + 2) = 0), by rw [Bool.not_not]⟩
  rcases (by omega : ((xs (4 * j + 1)).toInt < 1 ∨ (500 : Int) < (xs (4 * j + 1)).toInt) ∨ 1 ≤ (xs (4 * j + 1)).toInt ∧ (xs (4 * j + 1)).toInt ≤ 500) with q | q
  · refine lr_15_1 (i := 4 * j) (A := fun g1 => mz_mo ([]) 1 6 h g1) (B := rBc 1 j) (b := nI 0) (bb := bb) hL hi hk hbb ?_ ?_ ?_ (fun g q => q.1) (fun _ _ _ _ g q => hn _ _ _ _ _ q.2)
    · refine lw_go_1 (A := fun g1 => mz_mo ([]) 1 6 h g1) ⟨_, H0⟩ ?_
      exact thrN (x_goT1 q) (by decide) (by omega) rfl
    · rintro g m1
      exact ⟨_, m1.1 400 (fun q => by cases q) _ H400⟩
    · rintro g m1
      have g400 := m1.1 400 (fun q => by cases q) _ H400
      have m1s := m1
      have lg := mo_le m1
      have gL := hYL.lo w1 oEp m1s.1 (fun x q => by cases q)
      have gB := gL.lb g400
      refine (mj_Wp.mono (y_goT1 gB np6 g400 hIn q) (by decide)).imp ?_
      rintro _ ⟨_, g2, rfl, rfl, y400, m2⟩
      have mt : mz_mo (([]) ++ ([400])) (1 + 0) (6 + 0) h g2 := mo2 m1 m2
      have et := mt.1
      have hx0 : ∀ x, x ∈ [] ++ [400] → (own x = 0 ∧ (x = 400)) := by
        intro x hx
        rcases List.mem_append.mp hx with q | q
        · cases q
        · have z : x < 414 ∧ (x = 400) := by simp only [cML, wML, List.mem_cons, List.mem_append, List.not_mem_nil, or_false] at q; omega
          exact ⟨w1.z z.1, z.2⟩
      have le := mt.2.1
      have l1 := mt.2.2.1
      have l2 := mt.2.2.2
      have qo : pOu g2 := pO.fr et (fun x hx => by have := hx0 x hx; omega)
      exact ⟨_, _, rfl, rfl, ⟨_, y400⟩, ⟨own, _, _, _, gs, pl, _, wa, nw, nx, np, K, X, rz, w1.len le, et 0 (fun q => by have := hx0 _ q; omega) _ H0, y400, pT.fr et (fun x hx => by have := hx0 x hx; omega) (fun _ q => q), pL.fr et (fun x hx => by have := hx0 x hx; omega) (fun _ q => q) (fun a q => by have := (w1 a (by omega)).2; omega) (fun _ q => q), pR.fr et (fun x hx => by have := hx0 x hx; omega), pV.fr et (fun x hx => by have := hx0 x hx; omega), pC.fr et (fun x hx => by have := hx0 x hx; omega) (fun _ q => q), pI.fr et (fun x hx => by have := hx0 x hx; omega), pS.fr et (fun x hx => by have := hx0 x hx; omega), qo, pX.fr et (fun x hx => by have := hx0 x hx; omega), pP.fr et (fun x hx => by have := hx0 x hx; omega) (fun _ q => q), pG.fr et (fun x hx => by have := hx0 x hx; omega) (fun _ q => q), by omega, by omega, by omega⟩⟩
  · obtain ⟨m, hmb, hx1⟩ := toI_ex (x := xs (4 * j + 1)) (by omega)
    rw [hx1, mI_ti hmb] at q
    have hm1 : 1 ≤ m := by omega
    have hm : m ≤ 500 := by omega
    obtain ⟨⟨vv, st, sk⟩, hS, ⟨hb, ⟨⟨rp, rl, rc, rw_, rcp, rcl, rcw⟩, hr⟩, cn, h402⟩ | ⟨⟨rp, rl, rc, rw_, rcp, rcl, rcw⟩, z, hr, hy, hwf, hnr, hz, hza, hzc⟩⟩ := id pR
    · refine lr_15_2 (i := 4 * j) (A := fun g1 => mz_mo ([]) 1 6 h g1) (B := rBc 2 j) (b := nI 0) (bb := bb) hL hi hk hbb ?_ ?_ ?_ (fun g q => q.1) (fun _ _ _ _ g q => hn _ _ _ _ _ q.2)
      · rw [hx1]
        refine lw_go_2 (A := fun g1 => mz_mo ([]) 1 6 h g1) ⟨_, H0⟩ ?_
        exact thrN (x_goT2 (b := 0) H0 hm1 hm hr) (by decide) (by omega) rfl
      · rintro g m1
        exact ⟨_, m1.1 400 (fun q => by cases q) _ H400⟩
      · rintro g m1
        have g400 := m1.1 400 (fun q => by cases q) _ H400
        have m1s := m1
        have lg := mo_le m1
        have gL := hYL.lo w1 oEp m1s.1 (fun x q => by cases q)
        have gB := gL.lb g400
        rw [hx1]
        refine (mj_Wp.mono (y_goT2 gB np6 g400 hIn hm1 hm (m1s.1 402 (fun q => by cases q) _ h402)) (by decide)).imp ?_
        rintro _ ⟨_, g2, rfl, rfl, y400, m2⟩
        have mt : mz_mo (([]) ++ ([400])) (1 + 0) (6 + 0) h g2 := mo2 m1 m2
        have et := mt.1
        have hx0 : ∀ x, x ∈ [] ++ [400] → (own x = 0 ∧ (x = 400)) := by
          intro x hx
          rcases List.mem_append.mp hx with q | q
          · cases q
          · have z : x < 414 ∧ (x = 400) := by simp only [cML, wML, List.mem_cons, List.mem_append, List.not_mem_nil, or_false] at q; omega
            exact ⟨w1.z z.1, z.2⟩
        have le := mt.2.1
        have l1 := mt.2.2.1
        have l2 := mt.2.2.2
        have qo : pOu g2 := pO.fr et (fun x hx => by have := hx0 x hx; omega)
        exact ⟨_, _, rfl, rfl, ⟨_, y400⟩, ⟨own, _, _, _, gs, pl, _, wa, nw, nx, np, K, X, rz, w1.len le, et 0 (fun q => by have := hx0 _ q; omega) _ H0, y400, pT.fr et (fun x hx => by have := hx0 x hx; omega) (fun _ q => q), pL.fr et (fun x hx => by have := hx0 x hx; omega) (fun _ q => q) (fun a q => by have := (w1 a (by omega)).2; omega) (fun _ q => q), pR.fr et (fun x hx => by have := hx0 x hx; omega), pV.fr et (fun x hx => by have := hx0 x hx; omega), pC.fr et (fun x hx => by have := hx0 x hx; omega) (fun _ q => q), pI.fr et (fun x hx => by have := hx0 x hx; omega), pS.fr et (fun x hx => by have := hx0 x hx; omega), qo, pX.fr et (fun x hx => by have := hx0 x hx; omega), pP.fr et (fun x hx => by have := hx0 x hx; omega) (fun _ q => q), pG.fr et (fun x hx => by have := hx0 x hx; omega) (fun _ q => q), by omega, by omega, by omega⟩⟩
    · cases bb
      · have wr := rns_wf (X := X) hpk m ((vv, st, sk), (rp, rl, rc, rw_, rcp, rcl, rcw)) hwf hnr
        have lr_ := rns_l (np := np) (K := K) (X := X) m ((vv, st, sk), (rp, rl, rc, rw_, rcp, rcl, rcw))
        refine lr_15_0 (i := 4 * j) (A := fun g => ∃ (g1 : mj_H) (ou : Nat → Int64), (mz_mo (0 :: cML 381 375) 0 0 h g1 ∧ mj_rd g1 0 = some (xC_ gs pl (sd + Int32.toInt64 (nI (rns np K X m ((vv, st, sk), (rp, rl, rc, rw_, rcp, rcl, rcw))).1)) be) ∧ cSt g1 375 (rns np K X m ((vv, st, sk), (rp, rl, rc, rw_, rcp, rcl, rcw))).2.1.1 ∧ cRn g1 381 375 (rns np K X m ((vv, st, sk), (rp, rl, rc, rw_, rcp, rcl, rcw))).2.1.2 (rns np K X m ((vv, st, sk), (rp, rl, rc, rw_, rcp, rcl, rcw))).2.2) ∧ mj_rd g1 412 = some (outC ou) ∧ g = g1.set 412 (outC (vp_updL ou 0 (Int32.toInt64 (nI (rns np K X m ((vv, st, sk), (rp, rl, rc, rw_, rcp, rcl, rcw))).1))))) (B := rB0 (nI (rns np K X m ((vv, st, sk), (rp, rl, rc, rw_, rcp, rcl, rcw))).1) j) (b := nI (rns np K X m ((vv, st, sk), (rp, rl, rc, rw_, rcp, rcl, rcw))).1) (bb := false) hL hi hk hbb ?_ ?_ ?_ (fun g q => q.h) (fun _ _ _ _ g q => hn _ _ _ _ _ q.2.2)
        · rw [hx1]
          refine lw_go_0 (A := fun g1 => mz_mo (0 :: cML 381 375) 0 0 h g1 ∧ mj_rd g1 0 = some (xC_ gs pl (sd + Int32.toInt64 (nI (rns np K X m ((vv, st, sk), (rp, rl, rc, rw_, rcp, rcl, rcw))).1)) be) ∧ cSt g1 375 (rns np K X m ((vv, st, sk), (rp, rl, rc, rw_, rcp, rcl, rcw))).2.1.1 ∧ cRn g1 381 375 (rns np K X m ((vv, st, sk), (rp, rl, rc, rw_, rcp, rcl, rcw))).2.1.2 (rns np K X m ((vv, st, sk), (rp, rl, rc, rw_, rcp, rcl, rcw))).2.2) ⟨_, H0⟩ ?_ (fun g1 q => ?_)
          · refine (mj_Wp.mono (x_go0 H0 hcb hpk hm1 hm hS hr hwf hnr) (by decide)).imp ?_
            rintro _ ⟨_, g1, rfl, rfl, c1, c2, c3, c4⟩
            exact ⟨_, _, rfl, rfl, c4, c1, c2, c3⟩
          · obtain ⟨m1, q0, cS, cR⟩ := q
            exact ⟨ou, m1.1 412 (fun q => by simp only [cML, wML, List.mem_cons, List.mem_append, List.not_mem_nil, or_false] at q; omega) _ H412⟩
        · rintro g ⟨g1, ou1, ⟨m1, q0, cS, cR⟩, a2, hg⟩
          rw [hg]
          exact ⟨_, (rd_setn (by decide)).trans (m1.1 400 (fun q => by simp only [cML, wML, List.mem_cons, List.mem_append, List.not_mem_nil, or_false] at q; omega) _ H400)⟩
        · rintro g ⟨g1, ou1, ⟨m1, q0, cS, cR⟩, a2, hg⟩
          have ms : mz_mo [412] 0 0 g1 g := by rw [hg]; exact mz_mo.st (by decide) a2 rfl
          have r412 : mj_rd g 412 = some (outC (vp_updL ou1 0 (Int32.toInt64 (nI (rns np K X m ((vv, st, sk), (rp, rl, rc, rw_, rcp, rcl, rcw))).1)))) := by rw [hg]; exact rd_set (by decide) a2
          clear hg
          have m1s : mz_mo (412 :: (0 :: cML 381 375)) 0 0 h g := mo1s m1 ms
          have g400 := m1s.1 400 (fun q => by rcases List.mem_cons.mp q with q | q; (omega); (simp only [cML, wML, List.mem_cons, List.mem_append, List.not_mem_nil, or_false] at q; omega)) _ H400
          have lg := mo_le m1s
          have gL := hYL.lo w1 oEp m1s.1 (fun x q => by rcases List.mem_cons.mp q with q | q; (constructor <;> omega); (simp only [cML, wML, List.mem_cons, List.mem_append, List.not_mem_nil, or_false] at q; (constructor <;> omega)))
          have gB := gL.lb g400
          have gW := hy.fr m1s.1 (fun x q => by rcases List.mem_cons.mp q with q | q; (omega); (simp only [cML, wML, List.mem_cons, List.mem_append, List.not_mem_nil, or_false] at q; omega))
          rw [hx1]
          refine (mj_Wp.mono (y_go0 gB np6 g400 hIn hIw hpk hm1 hm gW hwf hnr (hz.imp id (fun q => ⟨by omega, q⟩))) (by decide)).imp ?_
          rintro _ ⟨_, g2, rfl, rfl, y400, yW, m2⟩
          have mt : mz_mo (412 :: ((0 :: cML 381 375) ++ (400 :: wML 402))) (0 + 0) (0 + 0) h g2 := mo3 m1s m2
          have et := mt.1
          have Q412 := m2.1 412 (fun q => by simp only [cML, wML, List.mem_cons, List.mem_append, List.not_mem_nil, or_false] at q; omega) _ r412
          have hx0 : ∀ x, x ∈ 412 :: (0 :: cML 381 375 ++ 400 :: wML 402) → (own x = 0 ∧ (x = 400 ∨ x = 412 ∨ x = 0 ∨ 375 ≤ x ∧ x < 378 ∨ 381 ≤ x ∧ x < 387 ∨ 402 ≤ x ∧ x < 410)) := by
            intro x hx
            rcases List.mem_cons.mp hx with hx | hx
            · rw [hx]; exact ⟨w1.z (by decide), by decide⟩
            rcases List.mem_append.mp hx with q | q
            · have z : x < 414 ∧ (x = 400 ∨ x = 412 ∨ x = 0 ∨ 375 ≤ x ∧ x < 378 ∨ 381 ≤ x ∧ x < 387 ∨ 402 ≤ x ∧ x < 410) := by simp only [cML, wML, List.mem_cons, List.mem_append, List.not_mem_nil, or_false] at q; omega
              exact ⟨w1.z z.1, z.2⟩
            · have z : x < 414 ∧ (x = 400 ∨ x = 412 ∨ x = 0 ∨ 375 ≤ x ∧ x < 378 ∨ 381 ≤ x ∧ x < 387 ∨ 402 ≤ x ∧ x < 410) := by simp only [cML, wML, List.mem_cons, List.mem_append, List.not_mem_nil, or_false] at q; omega
              exact ⟨w1.z z.1, z.2⟩
          have le := mt.2.1
          have l1 := mt.2.2.1
          have l2 := mt.2.2.2
          have qo : pOu g2 := pO.f2 et (fun x hx => by have := hx0 x hx; omega) ⟨_, Q412⟩
          have nR : pRu g2 np K := ⟨(rns np K X m ((vv, st, sk), (rp, rl, rc, rw_, rcp, rcl, rcw))).2.1.1, (cS.fr ms.1 (by decide) (by decide) (by decide)).fr m2.1 (fun q => by simp only [cML, wML, List.mem_cons, List.mem_append, List.not_mem_nil, or_false] at q; omega) (fun q => by simp only [cML, wML, List.mem_cons, List.mem_append, List.not_mem_nil, or_false] at q; omega) (fun q => by simp only [cML, wML, List.mem_cons, List.mem_append, List.not_mem_nil, or_false] at q; omega), Or.inr ⟨(rns np K X m ((vv, st, sk), (rp, rl, rc, rw_, rcp, rcl, rcw))).2.1.2, (rns np K X m ((vv, st, sk), (rp, rl, rc, rw_, rcp, rcl, rcw))).2.2, (cR.fr ms.1 (fun x q => by simp only [cML, wML, List.mem_cons, List.mem_append, List.not_mem_nil, or_false] at q; omega)).fr m2.1 (fun x q => by simp only [cML, wML, List.mem_cons, List.mem_append, List.not_mem_nil, or_false] at q; omega), yW, wr.1, wr.2.1, wr.2.2.2, lr_⟩⟩
          exact ⟨_, _, rfl, rfl, ⟨_, y400⟩, ⟨_, Q412, if_pos rfl⟩, ⟨own, _, _, _, gs, pl, _, wa, nw, nx, np, K, X, rz, w1.len le, (m2.1 0 (fun q => by simp only [cML, wML, List.mem_cons, List.mem_append, List.not_mem_nil, or_false] at q; omega) _ (ms.1 0 (by decide) _ q0)), y400, pT.fr et (fun x hx => by have := hx0 x hx; omega) (fun _ q => q), pL.fr et (fun x hx => by have := hx0 x hx; omega) (fun _ q => q) (fun a q => by have := (w1 a (by omega)).2; omega) (fun _ q => q), nR, pV.fr et (fun x hx => by have := hx0 x hx; omega), pC.fr et (fun x hx => by have := hx0 x hx; omega) (fun _ q => q), pI.fr et (fun x hx => by have := hx0 x hx; omega), pS.fr et (fun x hx => by have := hx0 x hx; omega), qo, pX.fr et (fun x hx => by have := hx0 x hx; omega), pP.fr et (fun x hx => by have := hx0 x hx; omega) (fun _ q => q), pG.fr et (fun x hx => by have := hx0 x hx; omega) (fun _ q => q), by omega, by omega, by omega⟩⟩
      · have hwf2 : wfR np K (cbk K 20 (trn (rp, rl, rc, rw_, rcp, rcl, rcw))) := cbk_wf 20 _ (trn_wf hwf)
        have hnr2 : nrm K (cbk K 20 (trn (rp, rl, rc, rw_, rcp, rcl, rcw))) := cbk_nrm 20 _ hwf.2.2.1
        have wr := rns_wf (X := X) hpk m ((vv, st, sk), (cbk K 20 (trn (rp, rl, rc, rw_, rcp, rcl, rcw)))) hwf2 hnr2
        have lr_ := rns_l (np := np) (K := K) (X := X) m ((vv, st, sk), (cbk K 20 (trn (rp, rl, rc, rw_, rcp, rcl, rcw))))
        refine lr_15_0 (i := 4 * j) (A := fun g => ∃ (g1 : mj_H) (ou : Nat → Int64), (mz_mo (0 :: cML 381 375) 0 0 h g1 ∧ mj_rd g1 0 = some (xC_ gs pl (sd + Int32.toInt64 (nI (rns np K X m ((vv, st, sk), (cbk K 20 (trn (rp, rl, rc, rw_, rcp, rcl, rcw))))).1)) be) ∧ cSt g1 375 (rns np K X m ((vv, st, sk), (cbk K 20 (trn (rp, rl, rc, rw_, rcp, rcl, rcw))))).2.1.1 ∧ cRn g1 381 375 (rns np K X m ((vv, st, sk), (cbk K 20 (trn (rp, rl, rc, rw_, rcp, rcl, rcw))))).2.1.2 (rns np K X m ((vv, st, sk), (cbk K 20 (trn (rp, rl, rc, rw_, rcp, rcl, rcw))))).2.2) ∧ mj_rd g1 412 = some (outC ou) ∧ g = g1.set 412 (outC (vp_updL ou 0 (Int32.toInt64 (nI (rns np K X m ((vv, st, sk), (cbk K 20 (trn (rp, rl, rc, rw_, rcp, rcl, rcw))))).1))))) (B := rB0 (nI (rns np K X m ((vv, st, sk), (cbk K 20 (trn (rp, rl, rc, rw_, rcp, rcl, rcw))))).1) j) (b := nI (rns np K X m ((vv, st, sk), (cbk K 20 (trn (rp, rl, rc, rw_, rcp, rcl, rcw))))).1) (bb := true) hL hi hk hbb ?_ ?_ ?_ (fun g q => q.h) (fun _ _ _ _ g q => hn _ _ _ _ _ q.2.2)
        · rw [hx1]
          refine lw_go_0 (A := fun g1 => mz_mo (0 :: cML 381 375) 0 0 h g1 ∧ mj_rd g1 0 = some (xC_ gs pl (sd + Int32.toInt64 (nI (rns np K X m ((vv, st, sk), (cbk K 20 (trn (rp, rl, rc, rw_, rcp, rcl, rcw))))).1)) be) ∧ cSt g1 375 (rns np K X m ((vv, st, sk), (cbk K 20 (trn (rp, rl, rc, rw_, rcp, rcl, rcw))))).2.1.1 ∧ cRn g1 381 375 (rns np K X m ((vv, st, sk), (cbk K 20 (trn (rp, rl, rc, rw_, rcp, rcl, rcw))))).2.1.2 (rns np K X m ((vv, st, sk), (cbk K 20 (trn (rp, rl, rc, rw_, rcp, rcl, rcw))))).2.2) ⟨_, H0⟩ ?_ (fun g1 q => ?_)
          · refine (mj_Wp.mono (x_go1 H0 hcb hpk hm1 hm hS hr hwf) (by decide)).imp ?_
            rintro _ ⟨_, g1, rfl, rfl, c1, c2, c3, c4⟩
            exact ⟨_, _, rfl, rfl, c4, c1, c2, c3⟩
          · obtain ⟨m1, q0, cS, cR⟩ := q
            exact ⟨ou, m1.1 412 (fun q => by simp only [cML, wML, List.mem_cons, List.mem_append, List.not_mem_nil, or_false] at q; omega) _ H412⟩
        · rintro g ⟨g1, ou1, ⟨m1, q0, cS, cR⟩, a2, hg⟩
          rw [hg]
          exact ⟨_, (rd_setn (by decide)).trans (m1.1 400 (fun q => by simp only [cML, wML, List.mem_cons, List.mem_append, List.not_mem_nil, or_false] at q; omega) _ H400)⟩
        · rintro g ⟨g1, ou1, ⟨m1, q0, cS, cR⟩, a2, hg⟩
          have ms : mz_mo [412] 0 0 g1 g := by rw [hg]; exact mz_mo.st (by decide) a2 rfl
          have r412 : mj_rd g 412 = some (outC (vp_updL ou1 0 (Int32.toInt64 (nI (rns np K X m ((vv, st, sk), (cbk K 20 (trn (rp, rl, rc, rw_, rcp, rcl, rcw))))).1)))) := by rw [hg]; exact rd_set (by decide) a2
          clear hg
          have m1s : mz_mo (412 :: (0 :: cML 381 375)) 0 0 h g := mo1s m1 ms
          have g400 := m1s.1 400 (fun q => by rcases List.mem_cons.mp q with q | q; (omega); (simp only [cML, wML, List.mem_cons, List.mem_append, List.not_mem_nil, or_false] at q; omega)) _ H400
          have lg := mo_le m1s
          have gL := hYL.lo w1 oEp m1s.1 (fun x q => by rcases List.mem_cons.mp q with q | q; (constructor <;> omega); (simp only [cML, wML, List.mem_cons, List.mem_append, List.not_mem_nil, or_false] at q; (constructor <;> omega)))
          have gB := gL.lb g400
          have gW := hy.fr m1s.1 (fun x q => by rcases List.mem_cons.mp q with q | q; (omega); (simp only [cML, wML, List.mem_cons, List.mem_append, List.not_mem_nil, or_false] at q; omega))
          rw [hx1]
          refine (mj_Wp.mono (y_go1 gB np6 g400 hIn hIw hpk hm1 hm gW hwf) (by decide)).imp ?_
          rintro _ ⟨_, g2, rfl, rfl, y400, yW, m2⟩
          have mt : mz_mo (412 :: ((0 :: cML 381 375) ++ (400 :: wML 402))) (0 + 0) (0 + 0) h g2 := mo3 m1s m2
          have et := mt.1
          have Q412 := m2.1 412 (fun q => by simp only [cML, wML, List.mem_cons, List.mem_append, List.not_mem_nil, or_false] at q; omega) _ r412
          have hx0 : ∀ x, x ∈ 412 :: (0 :: cML 381 375 ++ 400 :: wML 402) → (own x = 0 ∧ (x = 400 ∨ x = 412 ∨ x = 0 ∨ 375 ≤ x ∧ x < 378 ∨ 381 ≤ x ∧ x < 387 ∨ 402 ≤ x ∧ x < 410)) := by
            intro x hx
            rcases List.mem_cons.mp hx with hx | hx
            · rw [hx]; exact ⟨w1.z (by decide), by decide⟩
            rcases List.mem_append.mp hx with q | q
            · have z : x < 414 ∧ (x = 400 ∨ x = 412 ∨ x = 0 ∨ 375 ≤ x ∧ x < 378 ∨ 381 ≤ x ∧ x < 387 ∨ 402 ≤ x ∧ x < 410) := by simp only [cML, wML, List.mem_cons, List.mem_append, List.not_mem_nil, or_false] at q; omega
              exact ⟨w1.z z.1, z.2⟩
            · have z : x < 414 ∧ (x = 400 ∨ x = 412 ∨ x = 0 ∨ 375 ≤ x ∧ x < 378 ∨ 381 ≤ x ∧ x < 387 ∨ 402 ≤ x ∧ x < 410) := by simp only [cML, wML, List.mem_cons, List.mem_append, List.not_mem_nil, or_false] at q; omega
              exact ⟨w1.z z.1, z.2⟩
          have le := mt.2.1
          have l1 := mt.2.2.1
          have l2 := mt.2.2.2
          have qo : pOu g2 := pO.f2 et (fun x hx => by have := hx0 x hx; omega) ⟨_, Q412⟩
          have nR : pRu g2 np K := ⟨(rns np K X m ((vv, st, sk), (cbk K 20 (trn (rp, rl, rc, rw_, rcp, rcl, rcw))))).2.1.1, (cS.fr ms.1 (by decide) (by decide) (by decide)).fr m2.1 (fun q => by simp only [cML, wML, List.mem_cons, List.mem_append, List.not_mem_nil, or_false] at q; omega) (fun q => by simp only [cML, wML, List.mem_cons, List.mem_append, List.not_mem_nil, or_false] at q; omega) (fun q => by simp only [cML, wML, List.mem_cons, List.mem_append, List.not_mem_nil, or_false] at q; omega), Or.inr ⟨(rns np K X m ((vv, st, sk), (cbk K 20 (trn (rp, rl, rc, rw_, rcp, rcl, rcw))))).2.1.2, (rns np K X m ((vv, st, sk), (cbk K 20 (trn (rp, rl, rc, rw_, rcp, rcl, rcw))))).2.2, (cR.fr ms.1 (fun x q => by simp only [cML, wML, List.mem_cons, List.mem_append, List.not_mem_nil, or_false] at q; omega)).fr m2.1 (fun x q => by simp only [cML, wML, List.mem_cons, List.mem_append, List.not_mem_nil, or_false] at q; omega), yW, wr.1, wr.2.1, wr.2.2.2, lr_⟩⟩
          exact ⟨_, _, rfl, rfl, ⟨_, y400⟩, ⟨_, Q412, if_pos rfl⟩, ⟨own, _, _, _, gs, pl, _, wa, nw, nx, np, K, X, rz, w1.len le, (m2.1 0 (fun q => by simp only [cML, wML, List.mem_cons, List.mem_append, List.not_mem_nil, or_false] at q; omega) _ (ms.1 0 (by decide) _ q0)), y400, pT.fr et (fun x hx => by have := hx0 x hx; omega) (fun _ q => q), pL.fr et (fun x hx => by have := hx0 x hx; omega) (fun _ q => q) (fun a q => by have := (w1 a (by omega)).2; omega) (fun _ q => q), nR, pV.fr et (fun x hx => by have := hx0 x hx; omega), pC.fr et (fun x hx => by have := hx0 x hx; omega) (fun _ q => q), pI.fr et (fun x hx => by have := hx0 x hx; omega), pS.fr et (fun x hx => by have := hx0 x hx; omega), qo, pX.fr et (fun x hx => by have := hx0 x hx; omega), pP.fr et (fun x hx => by have := hx0 x hx; omega) (fun _ q => q), pG.fr et (fun x hx => by have := hx0 x hx; omega) (fun _ q => q), by omega, by omega, by omega⟩⟩
theorem r_16 {L j : Nat} {xs : Nat → Int32} {h : mj_H} {l6 l7 l8 l9 : Option Value} {P : mj_H → Prop} {own : Nat → Nat} {th : Int32} {sd be : Int64} {gs pl ty wa nw nx : Value} {np : Nat} {K : Nat → Nat} {X : Nat → Nat → Nat → Nat} {rz : Nat} (w : wJ own th sd be gs pl ty wa nw nx np K X rz j h) (hL : L ≤ 2048) (hi : 4 * j + 4 ≤ L) (hk : xs (4 * j) &&& nI 63 = nI 16) (hn : ∀ (l6 l7 l8 l9 : Option Value) (g : mj_H), wI (j + 1) g → mj_lrun L xs (28, [some (.retAddr 1), some (.ref 0), some (.ref 400), some (.ref 412), some (.ref 413), some (.int (nI (4 * j + 4))), l6, l7, l8, l9], [], g) P) : mj_lrun L xs (28, [some (.retAddr 1), some (.ref 0), some (.ref 400), some (.ref 412), some (.ref 413), some (.int (nI (4 * j))), l6, l7, l8, l9], [], h) P := by
  obtain ⟨w1, H0, H400, pT, pL, pR, pV, pC, pI, pS, pO, pX, pP, pG, j5, b1, b2⟩ := id w
  have ln := w.len
  obtain ⟨⟨ou, H412⟩, od, H413⟩ := id pO
  obtain ⟨N, F, PF, Ep, hLi, hYL, hLo, oEp⟩ := id pL
  have np6 := hLi.1
  have e1 : mj_CB = 1000000 := rfl
  have hpk := hLo.pOk np6
  have hcb := hLi.lb
  have hIl : ∀ a, own a = 9 → a < h.length := fun a q => (w1 a (by omega)).2
  have hI4 : ∀ a, own a = 9 → a ≠ 400 ∧ a ≠ 401 ∧ a ≠ Ep := fun a q => by
    have z := w1 a (by omega)
    refine ⟨by omega, by omega, fun e => ?_⟩
    rw [e] at q z
    have := oEp (by omega)
    omega
  have hIn : ¬ own 400 = 9 := fun q => by have := w1 400 (by omega); omega
  have hIw : ∀ x, x ∈ wML 402 → ¬ own x = 9 := fun x hx q => by have := wML_m.mp hx; have := w1 x (by omega); omega
  obtain ⟨⟨vv, st, sk⟩, hS, ⟨hb, ⟨⟨rp, rl, rc, rw_, rcp, rcl, rcw⟩, hr⟩, cn, h402⟩ | ⟨⟨rp, rl, rc, rw_, rcp, rcl, rcw⟩, z, hr, hy, hwf, hnr, hz, hza, hzc⟩⟩ := id pR
  · refine lr_16 (i := 4 * j) (A := fun g1 => mz_mo ([]) 0 0 h g1) (B := fun g => wI (j + 1) g) (b := nI 45) hL hi hk ?_ ?_ ?_ ⟨_, H0⟩ (fun _ _ _ _ g q => hn _ _ _ _ _ q)
    · exact (mj_Wp.mono (x_sta0 (b := 0) H0 hr) (by decide)).imp (by rintro _ rfl; exact ⟨_, _, rfl, rfl, mz_mo.rf _ _ _ _⟩)
    · rintro g m1
      exact ⟨_, m1.1 400 (fun q => by cases q) _ H400⟩
    · rintro g m1
      have g400 := m1.1 400 (fun q => by cases q) _ H400
      have m1s := m1
      have lg := mo_le m1
      have gL := hYL.lo w1 oEp m1s.1 (fun x q => by cases q)
      have gB := gL.lb g400
      refine (mj_Wp.mono (y_sta0 gB np6 g400 hIn (m1s.1 402 (fun q => by cases q) _ h402)) (by decide)).imp ?_
      rintro _ ⟨_, g2, rfl, rfl, y400, m2⟩
      have mt : mz_mo (([]) ++ ([400])) (0 + 0) (0 + 0) h g2 := mo2 m1 m2
      have et := mt.1
      have hx0 : ∀ x, x ∈ [] ++ [400] → (own x = 0 ∧ (x = 400)) := by
        intro x hx
        rcases List.mem_append.mp hx with q | q
        · cases q
        · have z : x < 414 ∧ (x = 400) := by simp only [cML, wML, List.mem_cons, List.mem_append, List.not_mem_nil, or_false] at q; omega
          exact ⟨w1.z z.1, z.2⟩
      have le := mt.2.1
      have l1 := mt.2.2.1
      have l2 := mt.2.2.2
      have qo : pOu g2 := pO.fr et (fun x hx => by have := hx0 x hx; omega)
      exact ⟨_, _, rfl, rfl, ⟨own, _, _, _, gs, pl, _, wa, nw, nx, np, K, X, rz, w1.len le, et 0 (fun q => by have := hx0 _ q; omega) _ H0, y400, pT.fr et (fun x hx => by have := hx0 x hx; omega) (fun _ q => q), pL.fr et (fun x hx => by have := hx0 x hx; omega) (fun _ q => q) (fun a q => by have := (w1 a (by omega)).2; omega) (fun _ q => q), pR.fr et (fun x hx => by have := hx0 x hx; omega), pV.fr et (fun x hx => by have := hx0 x hx; omega), pC.fr et (fun x hx => by have := hx0 x hx; omega) (fun _ q => q), pI.fr et (fun x hx => by have := hx0 x hx; omega), pS.fr et (fun x hx => by have := hx0 x hx; omega), qo, pX.fr et (fun x hx => by have := hx0 x hx; omega), pP.fr et (fun x hx => by have := hx0 x hx; omega) (fun _ q => q), pG.fr et (fun x hx => by have := hx0 x hx; omega) (fun _ q => q), by omega, by omega, by omega⟩⟩
  · have hK30 : ∀ p, p < np → K p ≤ 30 := fun p hp => (hpk.2 p hp).1
    by_cases zz : 0 < z.1
    · refine lr_16 (i := 4 * j) (A := fun g1 => mz_mo ([]) 0 0 h g1) (B := fun g => wI (j + 1) g) (b := nI 98) hL hi hk ?_ ?_ ?_ ⟨_, H0⟩ (fun _ _ _ _ g q => hn _ _ _ _ _ q)
      · exact (mj_Wp.mono (x_staB (b := 0) H0 hcb hr zz) (by decide)).imp (by rintro _ rfl; exact ⟨_, _, rfl, rfl, mz_mo.rf _ _ _ _⟩)
      · rintro g m1
        exact ⟨_, m1.1 400 (fun q => by cases q) _ H400⟩
      · rintro g m1
        have g400 := m1.1 400 (fun q => by cases q) _ H400
        have m1s := m1
        have lg := mo_le m1
        have gL := hYL.lo w1 oEp m1s.1 (fun x q => by cases q)
        have gB := gL.lb g400
        have gW := hy.fr m1s.1 (fun x q => by cases q)
        refine (mj_Wp.mono (y_staB gB np6 g400 hIn gW hwf zz) (by decide)).imp ?_
        rintro _ ⟨_, g2, rfl, rfl, y400, m2⟩
        have mt : mz_mo (([]) ++ ([400])) (0 + 0) (0 + 0) h g2 := mo2 m1 m2
        have et := mt.1
        have hx0 : ∀ x, x ∈ [] ++ [400] → (own x = 0 ∧ (x = 400)) := by
          intro x hx
          rcases List.mem_append.mp hx with q | q
          · cases q
          · have z : x < 414 ∧ (x = 400) := by simp only [cML, wML, List.mem_cons, List.mem_append, List.not_mem_nil, or_false] at q; omega
            exact ⟨w1.z z.1, z.2⟩
        have le := mt.2.1
        have l1 := mt.2.2.1
        have l2 := mt.2.2.2
        have qo : pOu g2 := pO.fr et (fun x hx => by have := hx0 x hx; omega)
        exact ⟨_, _, rfl, rfl, ⟨own, _, _, _, gs, pl, _, wa, nw, nx, np, K, X, rz, w1.len le, et 0 (fun q => by have := hx0 _ q; omega) _ H0, y400, pT.fr et (fun x hx => by have := hx0 x hx; omega) (fun _ q => q), pL.fr et (fun x hx => by have := hx0 x hx; omega) (fun _ q => q) (fun a q => by have := (w1 a (by omega)).2; omega) (fun _ q => q), pR.fr et (fun x hx => by have := hx0 x hx; omega), pV.fr et (fun x hx => by have := hx0 x hx; omega), pC.fr et (fun x hx => by have := hx0 x hx; omega) (fun _ q => q), pI.fr et (fun x hx => by have := hx0 x hx; omega), pS.fr et (fun x hx => by have := hx0 x hx; omega), qo, pX.fr et (fun x hx => by have := hx0 x hx; omega), pP.fr et (fun x hx => by have := hx0 x hx; omega) (fun _ q => q), pG.fr et (fun x hx => by have := hx0 x hx; omega) (fun _ q => q), by omega, by omega, by omega⟩⟩
    · cases he : edd K (rp, rl, rc, rw_, rcp, rcl, rcw) with
      | true =>
        refine lr_16 (i := 4 * j) (A := fun g1 => mz_mo ([]) 0 0 h g1) (B := fun g => wI (j + 1) g) (b := nI 101) hL hi hk ?_ ?_ ?_ ⟨_, H0⟩ (fun _ _ _ _ g q => hn _ _ _ _ _ q)
        · exact (mj_Wp.mono (x_staE (b := 0) H0 hcb hr zz hwf hK30 he) (by decide)).imp (by rintro _ rfl; exact ⟨_, _, rfl, rfl, mz_mo.rf _ _ _ _⟩)
        · rintro g m1
          exact ⟨_, m1.1 400 (fun q => by cases q) _ H400⟩
        · rintro g m1
          have g400 := m1.1 400 (fun q => by cases q) _ H400
          have m1s := m1
          have lg := mo_le m1
          have gL := hYL.lo w1 oEp m1s.1 (fun x q => by cases q)
          have gB := gL.lb g400
          have gW := hy.fr m1s.1 (fun x q => by cases q)
          refine (mj_Wp.mono (y_staE gB np6 g400 hIn gW hwf zz hK30 he) (by decide)).imp ?_
          rintro _ ⟨_, g2, rfl, rfl, y400, m2⟩
          have mt : mz_mo (([]) ++ ([400])) (0 + 0) (0 + 0) h g2 := mo2 m1 m2
          have et := mt.1
          have hx0 : ∀ x, x ∈ [] ++ [400] → (own x = 0 ∧ (x = 400)) := by
            intro x hx
            rcases List.mem_append.mp hx with q | q
            · cases q
            · have z : x < 414 ∧ (x = 400) := by simp only [cML, wML, List.mem_cons, List.mem_append, List.not_mem_nil, or_false] at q; omega
              exact ⟨w1.z z.1, z.2⟩
          have le := mt.2.1
          have l1 := mt.2.2.1
          have l2 := mt.2.2.2
          have qo : pOu g2 := pO.fr et (fun x hx => by have := hx0 x hx; omega)
          exact ⟨_, _, rfl, rfl, ⟨own, _, _, _, gs, pl, _, wa, nw, nx, np, K, X, rz, w1.len le, et 0 (fun q => by have := hx0 _ q; omega) _ H0, y400, pT.fr et (fun x hx => by have := hx0 x hx; omega) (fun _ q => q), pL.fr et (fun x hx => by have := hx0 x hx; omega) (fun _ q => q) (fun a q => by have := (w1 a (by omega)).2; omega) (fun _ q => q), pR.fr et (fun x hx => by have := hx0 x hx; omega), pV.fr et (fun x hx => by have := hx0 x hx; omega), pC.fr et (fun x hx => by have := hx0 x hx; omega) (fun _ q => q), pI.fr et (fun x hx => by have := hx0 x hx; omega), pS.fr et (fun x hx => by have := hx0 x hx; omega), qo, pX.fr et (fun x hx => by have := hx0 x hx; omega), pP.fr et (fun x hx => by have := hx0 x hx; omega) (fun _ q => q), pG.fr et (fun x hx => by have := hx0 x hx; omega) (fun _ q => q), by omega, by omega, by omega⟩⟩
      | false =>
        refine lr_16 (i := 4 * j) (A := fun g1 => mz_mo ([]) 0 0 h g1) (B := fun g => wI (j + 1) g) (b := nI 103) hL hi hk ?_ ?_ ?_ ⟨_, H0⟩ (fun _ _ _ _ g q => hn _ _ _ _ _ q)
        · exact (mj_Wp.mono (x_staG (b := 0) H0 hcb hr zz hwf hK30 he) (by decide)).imp (by rintro _ rfl; exact ⟨_, _, rfl, rfl, mz_mo.rf _ _ _ _⟩)
        · rintro g m1
          exact ⟨_, m1.1 400 (fun q => by cases q) _ H400⟩
        · rintro g m1
          have g400 := m1.1 400 (fun q => by cases q) _ H400
          have m1s := m1
          have lg := mo_le m1
          have gL := hYL.lo w1 oEp m1s.1 (fun x q => by cases q)
          have gB := gL.lb g400
          have gW := hy.fr m1s.1 (fun x q => by cases q)
          refine (mj_Wp.mono (y_staG gB np6 g400 hIn gW hwf zz hK30 he) (by decide)).imp ?_
          rintro _ ⟨_, g2, rfl, rfl, y400, m2⟩
          have mt : mz_mo (([]) ++ ([400])) (0 + 0) (0 + 0) h g2 := mo2 m1 m2
          have et := mt.1
          have hx0 : ∀ x, x ∈ [] ++ [400] → (own x = 0 ∧ (x = 400)) := by
            intro x hx
            rcases List.mem_append.mp hx with q | q
            · cases q
            · have z : x < 414 ∧ (x = 400) := by simp only [cML, wML, List.mem_cons, List.mem_append, List.not_mem_nil, or_false] at q; omega
              exact ⟨w1.z z.1, z.2⟩
          have le := mt.2.1
          have l1 := mt.2.2.1
          have l2 := mt.2.2.2
          have qo : pOu g2 := pO.fr et (fun x hx => by have := hx0 x hx; omega)
          exact ⟨_, _, rfl, rfl, ⟨own, _, _, _, gs, pl, _, wa, nw, nx, np, K, X, rz, w1.len le, et 0 (fun q => by have := hx0 _ q; omega) _ H0, y400, pT.fr et (fun x hx => by have := hx0 x hx; omega) (fun _ q => q), pL.fr et (fun x hx => by have := hx0 x hx; omega) (fun _ q => q) (fun a q => by have := (w1 a (by omega)).2; omega) (fun _ q => q), pR.fr et (fun x hx => by have := hx0 x hx; omega), pV.fr et (fun x hx => by have := hx0 x hx; omega), pC.fr et (fun x hx => by have := hx0 x hx; omega) (fun _ q => q), pI.fr et (fun x hx => by have := hx0 x hx; omega), pS.fr et (fun x hx => by have := hx0 x hx; omega), qo, pX.fr et (fun x hx => by have := hx0 x hx; omega), pP.fr et (fun x hx => by have := hx0 x hx; omega) (fun _ q => q), pG.fr et (fun x hx => by have := hx0 x hx; omega) (fun _ q => q), by omega, by omega, by omega⟩⟩
theorem r_23 {L j : Nat} {xs : Nat → Int32} {h : mj_H} {l6 l7 l8 l9 : Option Value} {P : mj_H → Prop} {own : Nat → Nat} {th : Int32} {sd be : Int64} {gs pl ty wa nw nx : Value} {np : Nat} {K : Nat → Nat} {X : Nat → Nat → Nat → Nat} {rz : Nat} (w : wJ own th sd be gs pl ty wa nw nx np K X rz j h) (hL : L ≤ 2048) (hi : 4 * j + 4 ≤ L) (hk : xs (4 * j) &&& nI 63 = nI 23) (hn : ∀ (l6 l7 l8 l9 : Option Value) (g : mj_H), wI (j + 1) g → mj_lrun L xs (28, [some (.retAddr 1), some (.ref 0), some (.ref 400), some (.ref 412), some (.ref 413), some (.int (nI (4 * j + 4))), l6, l7, l8, l9], [], g) P) : mj_lrun L xs (28, [some (.retAddr 1), some (.ref 0), some (.ref 400), some (.ref 412), some (.ref 413), some (.int (nI (4 * j))), l6, l7, l8, l9], [], h) P := by
  obtain ⟨w1, H0, H400, pT, pL, pR, pV, pC, pI, pS, pO, pX, pP, pG, j5, b1, b2⟩ := id w
  have ln := w.len
  obtain ⟨⟨ou, H412⟩, od, H413⟩ := id pO
  obtain ⟨N, F, PF, Ep, hLi, hYL, hLo, oEp⟩ := id pL
  have np6 := hLi.1
  have e1 : mj_CB = 1000000 := rfl
  have hpk := hLo.pOk np6
  have hcb := hLi.lb
  have hIl : ∀ a, own a = 9 → a < h.length := fun a q => (w1 a (by omega)).2
  have hI4 : ∀ a, own a = 9 → a ≠ 400 ∧ a ≠ 401 ∧ a ≠ Ep := fun a q => by
    have z := w1 a (by omega)
    refine ⟨by omega, by omega, fun e => ?_⟩
    rw [e] at q z
    have := oEp (by omega)
    omega
  have hIn : ¬ own 400 = 9 := fun q => by have := w1 400 (by omega); omega
  have hIw : ∀ x, x ∈ wML 402 → ¬ own x = 9 := fun x hx q => by have := wML_m.mp hx; have := w1 x (by omega); omega
  obtain ⟨bb, hbb⟩ : ∃ bb : Bool, decide (xs (4 * j + 2) = 0) = !bb := ⟨!decide (xs (4 * j + 2) = 0), by rw [Bool.not_not]⟩
  rcases (by omega : (xs (4 * j + 1)).toInt < 0 ∨ 0 ≤ (xs (4 * j + 1)).toInt) with q | q
  · have hpr : (xs (4 * j + 1)).toInt < 0 ∨ (np : Int) ≤ (xs (4 * j + 1)).toInt := Or.inl q
    refine lr_23_1 (i := 4 * j) (A := fun g1 => mz_mo ([]) 1 6 h g1) (B := rBc 1 j) (b := nI 0) (bb := bb) hL hi hk hbb ?_ ?_ ?_ (fun g q => q.1) (fun _ _ _ _ g q => hn _ _ _ _ _ q.2)
    · refine lw_run_1 (A := fun g1 => mz_mo ([]) 1 6 h g1) ⟨_, H0⟩ ?_
      exact thrN (x_runT H0 hcb hpr) (by decide) (by omega) rfl
    · rintro g m1
      exact ⟨_, m1.1 400 (fun q => by cases q) _ H400⟩
    · rintro g m1
      have g400 := m1.1 400 (fun q => by cases q) _ H400
      have m1s := m1
      have lg := mo_le m1
      have gL := hYL.lo w1 oEp m1s.1 (fun x q => by cases q)
      have gB := gL.lb g400
      refine (mj_Wp.mono (y_runT gB np6 g400 hIn hpr) (by decide)).imp ?_
      rintro _ ⟨_, g2, rfl, rfl, y400, m2⟩
      have mt : mz_mo (([]) ++ ([400])) (1 + 0) (6 + 0) h g2 := mo2 m1 m2
      have et := mt.1
      have hx0 : ∀ x, x ∈ [] ++ [400] → (own x = 0 ∧ (x = 400)) := by
        intro x hx
        rcases List.mem_append.mp hx with q | q
        · cases q
        · have z : x < 414 ∧ (x = 400) := by simp only [cML, wML, List.mem_cons, List.mem_append, List.not_mem_nil, or_false] at q; omega
          exact ⟨w1.z z.1, z.2⟩
      have le := mt.2.1
      have l1 := mt.2.2.1
      have l2 := mt.2.2.2
      have qo : pOu g2 := pO.fr et (fun x hx => by have := hx0 x hx; omega)
      exact ⟨_, _, rfl, rfl, ⟨_, y400⟩, ⟨own, _, _, _, gs, pl, _, wa, nw, nx, np, K, X, rz, w1.len le, et 0 (fun q => by have := hx0 _ q; omega) _ H0, y400, pT.fr et (fun x hx => by have := hx0 x hx; omega) (fun _ q => q), pL.fr et (fun x hx => by have := hx0 x hx; omega) (fun _ q => q) (fun a q => by have := (w1 a (by omega)).2; omega) (fun _ q => q), pR.fr et (fun x hx => by have := hx0 x hx; omega), pV.fr et (fun x hx => by have := hx0 x hx; omega), pC.fr et (fun x hx => by have := hx0 x hx; omega) (fun _ q => q), pI.fr et (fun x hx => by have := hx0 x hx; omega), pS.fr et (fun x hx => by have := hx0 x hx; omega), qo, pX.fr et (fun x hx => by have := hx0 x hx; omega), pP.fr et (fun x hx => by have := hx0 x hx; omega) (fun _ q => q), pG.fr et (fun x hx => by have := hx0 x hx; omega) (fun _ q => q), by omega, by omega, by omega⟩⟩
  · obtain ⟨p, hpb, hx1⟩ := toI_ex q
    by_cases hp : p < np
    · obtain ⟨⟨s0, hT⟩, tb, ⟨tp, tl, tc, tw, tcp, tcl, tcw⟩, tz, hTR⟩ := id pV
      obtain ⟨⟨vv, st, sk⟩, hS, hYW, _⟩ := pR.raw
      cases he : edd K (rns np K X 500 ((vv, st, sk), bgn K p bb (fun _ => 0) (fun _ => 0) (fun _ => false))).2.1.2 with
      | true =>
        refine lr_23_0 (i := 4 * j) (A := fun g => ∃ (g1 : mj_H) (ou : Nat → Int64), (mz_mo ([0, 375, 376, 377] ++ cML 387 378) 0 0 h g1 ∧ mj_rd g1 0 = some (xC_ gs pl (sd + Int32.toInt64 (nI (rns np K X 500 ((vv, st, sk), bgn K p bb (fun _ => 0) (fun _ => 0) (fun _ => false))).1)) be) ∧ cSt g1 375 (rns np K X 500 ((vv, st, sk), bgn K p bb (fun _ => 0) (fun _ => 0) (fun _ => false))).2.1.1 ∧ (∃ s0, cSt g1 378 s0) ∧ ∃ r z, cRb g1 387 378 1 r z) ∧ mj_rd g1 412 = some (outC ou) ∧ g = g1.set 412 (outC (vp_updL ou 0 (Int32.toInt64 (nI (rns np K X 500 ((vv, st, sk), bgn K p bb (fun _ => 0) (fun _ => 0) (fun _ => false))).1))))) (B := rB0 (nI (rns np K X 500 ((vv, st, sk), bgn K p bb (fun _ => 0) (fun _ => 0) (fun _ => false))).1) j) (b := nI (rns np K X 500 ((vv, st, sk), bgn K p bb (fun _ => 0) (fun _ => 0) (fun _ => false))).1) (bb := bb) hL hi hk hbb ?_ ?_ ?_ (fun g q => q.h) (fun _ _ _ _ g q => hn _ _ _ _ _ q.2.2)
        · rw [hx1]
          refine lw_run_0 (A := fun g1 => mz_mo ([0, 375, 376, 377] ++ cML 387 378) 0 0 h g1 ∧ mj_rd g1 0 = some (xC_ gs pl (sd + Int32.toInt64 (nI (rns np K X 500 ((vv, st, sk), bgn K p bb (fun _ => 0) (fun _ => 0) (fun _ => false))).1)) be) ∧ cSt g1 375 (rns np K X 500 ((vv, st, sk), bgn K p bb (fun _ => 0) (fun _ => 0) (fun _ => false))).2.1.1 ∧ (∃ s0, cSt g1 378 s0) ∧ ∃ r z, cRb g1 387 378 1 r z) ⟨_, H0⟩ ?_ (fun g1 q => ?_)
          · refine (mj_Wp.mono (x_run H0 hcb hp hpk hS hT hTR he) (by decide)).imp ?_
            rintro _ ⟨_, g1, rfl, rfl, c1, c2, c3, c4, c5⟩
            exact ⟨_, _, rfl, rfl, c5, c1, c2, c3, c4⟩
          · obtain ⟨m1, q0, cS, ⟨s1, cT⟩, r1, z1, cR⟩ := q
            exact ⟨ou, m1.1 412 (fun q => by simp only [cML, wML, List.mem_cons, List.mem_append, List.not_mem_nil, or_false] at q; omega) _ H412⟩
        · rintro g ⟨g1, ou1, ⟨m1, q0, cS, ⟨s1, cT⟩, r1, z1, cR⟩, a2, hg⟩
          rw [hg]
          exact ⟨_, (rd_setn (by decide)).trans (m1.1 400 (fun q => by simp only [cML, wML, List.mem_cons, List.mem_append, List.not_mem_nil, or_false] at q; omega) _ H400)⟩
        · rintro g ⟨g1, ou1, ⟨m1, q0, cS, ⟨s1, cT⟩, r1, z1, cR⟩, a2, hg⟩
          have ms : mz_mo [412] 0 0 g1 g := by rw [hg]; exact mz_mo.st (by decide) a2 rfl
          have r412 : mj_rd g 412 = some (outC (vp_updL ou1 0 (Int32.toInt64 (nI (rns np K X 500 ((vv, st, sk), bgn K p bb (fun _ => 0) (fun _ => 0) (fun _ => false))).1)))) := by rw [hg]; exact rd_set (by decide) a2
          clear hg
          have m1s : mz_mo (412 :: ([0, 375, 376, 377] ++ cML 387 378)) 0 0 h g := mo1s m1 ms
          have g400 := m1s.1 400 (fun q => by rcases List.mem_cons.mp q with q | q; (omega); (simp only [cML, wML, List.mem_cons, List.mem_append, List.not_mem_nil, or_false] at q; omega)) _ H400
          have lg := mo_le m1s
          have gL := hYL.lo w1 oEp m1s.1 (fun x q => by rcases List.mem_cons.mp q with q | q; (constructor <;> omega); (simp only [cML, wML, List.mem_cons, List.mem_append, List.not_mem_nil, or_false] at q; (constructor <;> omega)))
          have gB := gL.lb g400
          have gW := hYW.fr m1s.1 (fun x q => by rcases List.mem_cons.mp q with q | q; (omega); (simp only [cML, wML, List.mem_cons, List.mem_append, List.not_mem_nil, or_false] at q; omega))
          rw [hx1]
          refine (mj_Wp.mono (y_run gB np6 g400 hIn hIw (fun a q => by have := hIl a q; omega) (by omega) (by omega) hpk hp (fun _ => 0) (fun _ => 0) (fun _ => false) gW he) (by decide)).imp ?_
          rintro _ ⟨_, g2, rfl, rfl, y400, yW, kd, m2⟩
          have mt : mz_mo (412 :: (([0, 375, 376, 377] ++ cML 387 378) ++ ([400, 402, 403, 404]))) (0 + 8) (0 + 106) h g2 := mo3 m1s m2
          have et := mt.1
          have Q412 := m2.1 412 (fun q => by simp only [cML, wML, List.mem_cons, List.mem_append, List.not_mem_nil, or_false] at q; omega) _ r412
          have hx0 : ∀ x, x ∈ 412 :: ([0, 375, 376, 377] ++ cML 387 378 ++ [400, 402, 403, 404]) → (own x = 0 ∧ (x = 400 ∨ x = 412 ∨ x = 0 ∨ 375 ≤ x ∧ x < 381 ∨ 387 ≤ x ∧ x < 393 ∨ 402 ≤ x ∧ x < 405)) := by
            intro x hx
            rcases List.mem_cons.mp hx with hx | hx
            · rw [hx]; exact ⟨w1.z (by decide), by decide⟩
            rcases List.mem_append.mp hx with q | q
            · have z : x < 414 ∧ (x = 400 ∨ x = 412 ∨ x = 0 ∨ 375 ≤ x ∧ x < 381 ∨ 387 ≤ x ∧ x < 393 ∨ 402 ≤ x ∧ x < 405) := by simp only [cML, wML, List.mem_cons, List.mem_append, List.not_mem_nil, or_false] at q; omega
              exact ⟨w1.z z.1, z.2⟩
            · have z : x < 414 ∧ (x = 400 ∨ x = 412 ∨ x = 0 ∨ 375 ≤ x ∧ x < 381 ∨ 387 ≤ x ∧ x < 393 ∨ 402 ≤ x ∧ x < 405) := by simp only [cML, wML, List.mem_cons, List.mem_append, List.not_mem_nil, or_false] at q; omega
              exact ⟨w1.z z.1, z.2⟩
          have le := mt.2.1
          have l1 := mt.2.2.1
          have l2 := mt.2.2.2
          have qo : pOu g2 := pO.f2 et (fun x hx => by have := hx0 x hx; omega) ⟨_, Q412⟩
          have nV : pTr g2 := ⟨⟨s1, (cT.fr ms.1 (by decide) (by decide) (by decide)).fr m2.1 (by decide) (by decide) (by decide)⟩, 1, r1, z1, (cR.fr ms.1 (fun x q => by simp only [cML, wML, List.mem_cons, List.mem_append, List.not_mem_nil, or_false] at q; omega)).fr m2.1 (fun x q => by simp only [cML, wML, List.mem_cons, List.mem_append, List.not_mem_nil, or_false] at q; omega)⟩
          have cS2 := (cS.fr ms.1 (by decide) (by decide) (by decide)).fr m2.1 (by decide) (by decide) (by decide)
          have nR : pRu g2 np K := pR.run et (fun x hx => by have := hx0 x hx; omega) hS cS2 yW (fun cx dx q => kd cx dx (m1s.1 402 (fun q => by rcases List.mem_cons.mp q with q | q; (omega); (simp only [cML, wML, List.mem_cons, List.mem_append, List.not_mem_nil, or_false] at q; omega)) _ q))
          exact ⟨_, _, rfl, rfl, ⟨_, y400⟩, ⟨_, Q412, if_pos rfl⟩, ⟨own, _, _, _, gs, pl, _, wa, nw, nx, np, K, X, rz, w1.len le, (m2.1 0 (by decide) _ (ms.1 0 (by decide) _ q0)), y400, pT.fr et (fun x hx => by have := hx0 x hx; omega) (fun _ q => q), pL.fr et (fun x hx => by have := hx0 x hx; omega) (fun _ q => q) (fun a q => by have := (w1 a (by omega)).2; omega) (fun _ q => q), nR, nV, pC.fr et (fun x hx => by have := hx0 x hx; omega) (fun _ q => q), pI.fr et (fun x hx => by have := hx0 x hx; omega), pS.fr et (fun x hx => by have := hx0 x hx; omega), qo, pX.fr et (fun x hx => by have := hx0 x hx; omega), pP.fr et (fun x hx => by have := hx0 x hx; omega) (fun _ q => q), pG.fr et (fun x hx => by have := hx0 x hx; omega) (fun _ q => q), by omega, by omega, by omega⟩⟩
      | false =>
        refine lr_23_2 (i := 4 * j) (A := fun g1 => mz_mo (cML 387 378) 1 6 h g1 ∧ (∃ s0, cSt g1 378 s0) ∧ ∃ r z, cRb g1 387 378 1 r z) (B := rBc 2 j) (b := nI 0) (bb := bb) hL hi hk hbb ?_ ?_ ?_ (fun g q => q.1) (fun _ _ _ _ g q => hn _ _ _ _ _ q.2)
        · rw [hx1]
          refine lw_run_2 (A := fun g1 => mz_mo (cML 387 378) 1 6 h g1 ∧ (∃ s0, cSt g1 378 s0) ∧ ∃ r z, cRb g1 387 378 1 r z) ⟨_, H0⟩ ?_
          refine (mj_Wp.mono (x_runE H0 hcb hp hpk hS hT hTR he (by omega)) (by decide)).imp ?_
          rintro _ ⟨qq, g1, rfl, c1, c2, c3, c4, c5⟩
          exact ⟨_, _, rfl, c1, c2, c5, c3, c4⟩
        · rintro g ⟨m1, ⟨s1, cT⟩, r1, z1, cR⟩
          exact ⟨_, m1.1 400 (fun q => by simp only [cML, wML, List.mem_cons, List.mem_append, List.not_mem_nil, or_false] at q; omega) _ H400⟩
        · rintro g ⟨m1, ⟨s1, cT⟩, r1, z1, cR⟩
          have g400 := m1.1 400 (fun q => by simp only [cML, wML, List.mem_cons, List.mem_append, List.not_mem_nil, or_false] at q; omega) _ H400
          have m1s := m1
          have lg := mo_le m1
          have gL := hYL.lo w1 oEp m1s.1 (fun x q => by simp only [cML, wML, List.mem_cons, List.mem_append, List.not_mem_nil, or_false] at q; (constructor <;> omega))
          have gB := gL.lb g400
          have gW := hYW.fr m1s.1 (fun x q => by simp only [cML, wML, List.mem_cons, List.mem_append, List.not_mem_nil, or_false] at q; omega)
          rw [hx1]
          refine (mj_Wp.mono (y_runE gB np6 g400 hIn hIw (fun a q => by have := hIl a q; omega) (by omega) (by omega) hpk hp (fun _ => 0) (fun _ => 0) (fun _ => false) gW he) (by decide)).imp ?_
          rintro _ ⟨_, g2, rfl, rfl, y400, m2⟩
          have mt : mz_mo ((cML 387 378) ++ ([400])) (1 + 8) (6 + 106) h g2 := mo2 m1 m2
          have et := mt.1
          have hx0 : ∀ x, x ∈ cML 387 378 ++ [400] → (own x = 0 ∧ (x = 400 ∨ 378 ≤ x ∧ x < 381 ∨ 387 ≤ x ∧ x < 393)) := by
            intro x hx
            rcases List.mem_append.mp hx with q | q
            · have z : x < 414 ∧ (x = 400 ∨ 378 ≤ x ∧ x < 381 ∨ 387 ≤ x ∧ x < 393) := by simp only [cML, wML, List.mem_cons, List.mem_append, List.not_mem_nil, or_false] at q; omega
              exact ⟨w1.z z.1, z.2⟩
            · have z : x < 414 ∧ (x = 400 ∨ 378 ≤ x ∧ x < 381 ∨ 387 ≤ x ∧ x < 393) := by simp only [cML, wML, List.mem_cons, List.mem_append, List.not_mem_nil, or_false] at q; omega
              exact ⟨w1.z z.1, z.2⟩
          have le := mt.2.1
          have l1 := mt.2.2.1
          have l2 := mt.2.2.2
          have qo : pOu g2 := pO.fr et (fun x hx => by have := hx0 x hx; omega)
          have nV : pTr g2 := ⟨⟨s1, cT.fr m2.1 (by decide) (by decide) (by decide)⟩, _, r1, z1, cR.fr m2.1 (fun x q => by simp only [cML, wML, List.mem_cons, List.mem_append, List.not_mem_nil, or_false] at q; omega)⟩
          exact ⟨_, _, rfl, rfl, ⟨_, y400⟩, ⟨own, _, _, _, gs, pl, _, wa, nw, nx, np, K, X, rz, w1.len le, et 0 (fun q => by have := hx0 _ q; omega) _ H0, y400, pT.fr et (fun x hx => by have := hx0 x hx; omega) (fun _ q => q), pL.fr et (fun x hx => by have := hx0 x hx; omega) (fun _ q => q) (fun a q => by have := (w1 a (by omega)).2; omega) (fun _ q => q), pR.fr et (fun x hx => by have := hx0 x hx; omega), nV, pC.fr et (fun x hx => by have := hx0 x hx; omega) (fun _ q => q), pI.fr et (fun x hx => by have := hx0 x hx; omega), pS.fr et (fun x hx => by have := hx0 x hx; omega), qo, pX.fr et (fun x hx => by have := hx0 x hx; omega), pP.fr et (fun x hx => by have := hx0 x hx; omega) (fun _ q => q), pG.fr et (fun x hx => by have := hx0 x hx; omega) (fun _ q => q), by omega, by omega, by omega⟩⟩
    · have hpr : (xs (4 * j + 1)).toInt < 0 ∨ (np : Int) ≤ (xs (4 * j + 1)).toInt := Or.inr (by rw [hx1, mI_ti hpb]; omega)
      refine lr_23_1 (i := 4 * j) (A := fun g1 => mz_mo ([]) 1 6 h g1) (B := rBc 1 j) (b := nI 0) (bb := bb) hL hi hk hbb ?_ ?_ ?_ (fun g q => q.1) (fun _ _ _ _ g q => hn _ _ _ _ _ q.2)
      · refine lw_run_1 (A := fun g1 => mz_mo ([]) 1 6 h g1) ⟨_, H0⟩ ?_
        exact thrN (x_runT H0 hcb hpr) (by decide) (by omega) rfl
      · rintro g m1
        exact ⟨_, m1.1 400 (fun q => by cases q) _ H400⟩
      · rintro g m1
        have g400 := m1.1 400 (fun q => by cases q) _ H400
        have m1s := m1
        have lg := mo_le m1
        have gL := hYL.lo w1 oEp m1s.1 (fun x q => by cases q)
        have gB := gL.lb g400
        refine (mj_Wp.mono (y_runT gB np6 g400 hIn hpr) (by decide)).imp ?_
        rintro _ ⟨_, g2, rfl, rfl, y400, m2⟩
        have mt : mz_mo (([]) ++ ([400])) (1 + 0) (6 + 0) h g2 := mo2 m1 m2
        have et := mt.1
        have hx0 : ∀ x, x ∈ [] ++ [400] → (own x = 0 ∧ (x = 400)) := by
          intro x hx
          rcases List.mem_append.mp hx with q | q
          · cases q
          · have z : x < 414 ∧ (x = 400) := by simp only [cML, wML, List.mem_cons, List.mem_append, List.not_mem_nil, or_false] at q; omega
            exact ⟨w1.z z.1, z.2⟩
        have le := mt.2.1
        have l1 := mt.2.2.1
        have l2 := mt.2.2.2
        have qo : pOu g2 := pO.fr et (fun x hx => by have := hx0 x hx; omega)
        exact ⟨_, _, rfl, rfl, ⟨_, y400⟩, ⟨own, _, _, _, gs, pl, _, wa, nw, nx, np, K, X, rz, w1.len le, et 0 (fun q => by have := hx0 _ q; omega) _ H0, y400, pT.fr et (fun x hx => by have := hx0 x hx; omega) (fun _ q => q), pL.fr et (fun x hx => by have := hx0 x hx; omega) (fun _ q => q) (fun a q => by have := (w1 a (by omega)).2; omega) (fun _ q => q), pR.fr et (fun x hx => by have := hx0 x hx; omega), pV.fr et (fun x hx => by have := hx0 x hx; omega), pC.fr et (fun x hx => by have := hx0 x hx; omega) (fun _ q => q), pI.fr et (fun x hx => by have := hx0 x hx; omega), pS.fr et (fun x hx => by have := hx0 x hx; omega), qo, pX.fr et (fun x hx => by have := hx0 x hx; omega), pP.fr et (fun x hx => by have := hx0 x hx; omega) (fun _ q => q), pG.fr et (fun x hx => by have := hx0 x hx; omega) (fun _ q => q), by omega, by omega, by omega⟩⟩
theorem r_26 {L j : Nat} {xs : Nat → Int32} {h : mj_H} {l6 l7 l8 l9 : Option Value} {P : mj_H → Prop} {own : Nat → Nat} {th : Int32} {sd be : Int64} {gs pl ty wa nw nx : Value} {np : Nat} {K : Nat → Nat} {X : Nat → Nat → Nat → Nat} {rz : Nat} (w : wJ own th sd be gs pl ty wa nw nx np K X rz j h) (hL : L ≤ 2048) (hi : 4 * j + 4 ≤ L) (hk : xs (4 * j) &&& nI 63 = nI 26) (hn : ∀ (l6 l7 l8 l9 : Option Value) (g : mj_H), wI (j + 1) g → mj_lrun L xs (28, [some (.retAddr 1), some (.ref 0), some (.ref 400), some (.ref 412), some (.ref 413), some (.int (nI (4 * j + 4))), l6, l7, l8, l9], [], g) P) : mj_lrun L xs (28, [some (.retAddr 1), some (.ref 0), some (.ref 400), some (.ref 412), some (.ref 413), some (.int (nI (4 * j))), l6, l7, l8, l9], [], h) P := by
  obtain ⟨w1, H0, H400, pT, pL, pR, pV, pC, pI, pS, pO, pX, pP, pG, j5, b1, b2⟩ := id w
  have ln := w.len
  obtain ⟨⟨ou, H412⟩, od, H413⟩ := id pO
  obtain ⟨N, F, PF, Ep, hLi, hYL, hLo, oEp⟩ := id pL
  have np6 := hLi.1
  have e1 : mj_CB = 1000000 := rfl
  have hpk := hLo.pOk np6
  have hcb := hLi.lb
  have hIl : ∀ a, own a = 9 → a < h.length := fun a q => (w1 a (by omega)).2
  have hI4 : ∀ a, own a = 9 → a ≠ 400 ∧ a ≠ 401 ∧ a ≠ Ep := fun a q => by
    have z := w1 a (by omega)
    refine ⟨by omega, by omega, fun e => ?_⟩
    rw [e] at q z
    have := oEp (by omega)
    omega
  have hIn : ¬ own 400 = 9 := fun q => by have := w1 400 (by omega); omega
  have hIw : ∀ x, x ∈ wML 402 → ¬ own x = 9 := fun x hx q => by have := wML_m.mp hx; have := w1 x (by omega); omega
  rcases (by omega : (xs (4 * j + 1)).toInt < 0 ∨ 0 ≤ (xs (4 * j + 1)).toInt) with q | q
  · have hpr : (xs (4 * j + 1)).toInt < 0 ∨ (np : Int) ≤ (xs (4 * j + 1)).toInt := Or.inl q
    refine lr_26_1 (i := 4 * j) (A := fun g1 => mz_mo ([]) 1 6 h g1) (B := rBc 1 j) (b := nI 0) hL hi hk ?_ ?_ ?_ (fun g q => q.1) (fun _ _ _ _ g q => hn _ _ _ _ _ q.2)
    · refine lw_image_1 (A := fun g1 => mz_mo ([]) 1 6 h g1) ⟨_, H0⟩ ?_
      exact thrN (x_imgT H0 hcb hpr) (by decide) (by omega) rfl
    · rintro g m1
      exact ⟨_, m1.1 400 (fun q => by cases q) _ H400⟩
    · rintro g m1
      have g400 := m1.1 400 (fun q => by cases q) _ H400
      have m1s := m1
      have lg := mo_le m1
      have gL := hYL.lo w1 oEp m1s.1 (fun x q => by cases q)
      have gB := gL.lb g400
      refine (mj_Wp.mono (y_imgT gB np6 g400 hIn hpr) (by decide)).imp ?_
      rintro _ ⟨_, g2, rfl, rfl, y400, m2⟩
      have mt : mz_mo (([]) ++ ([400])) (1 + 0) (6 + 0) h g2 := mo2 m1 m2
      have et := mt.1
      have hx0 : ∀ x, x ∈ [] ++ [400] → (own x = 0 ∧ (x = 400)) := by
        intro x hx
        rcases List.mem_append.mp hx with q | q
        · cases q
        · have z : x < 414 ∧ (x = 400) := by simp only [cML, wML, List.mem_cons, List.mem_append, List.not_mem_nil, or_false] at q; omega
          exact ⟨w1.z z.1, z.2⟩
      have le := mt.2.1
      have l1 := mt.2.2.1
      have l2 := mt.2.2.2
      have qo : pOu g2 := pO.fr et (fun x hx => by have := hx0 x hx; omega)
      exact ⟨_, _, rfl, rfl, ⟨_, y400⟩, ⟨own, _, _, _, gs, pl, _, wa, nw, nx, np, K, X, rz, w1.len le, et 0 (fun q => by have := hx0 _ q; omega) _ H0, y400, pT.fr et (fun x hx => by have := hx0 x hx; omega) (fun _ q => q), pL.fr et (fun x hx => by have := hx0 x hx; omega) (fun _ q => q) (fun a q => by have := (w1 a (by omega)).2; omega) (fun _ q => q), pR.fr et (fun x hx => by have := hx0 x hx; omega), pV.fr et (fun x hx => by have := hx0 x hx; omega), pC.fr et (fun x hx => by have := hx0 x hx; omega) (fun _ q => q), pI.fr et (fun x hx => by have := hx0 x hx; omega), pS.fr et (fun x hx => by have := hx0 x hx; omega), qo, pX.fr et (fun x hx => by have := hx0 x hx; omega), pP.fr et (fun x hx => by have := hx0 x hx; omega) (fun _ q => q), pG.fr et (fun x hx => by have := hx0 x hx; omega) (fun _ q => q), by omega, by omega, by omega⟩⟩
  · obtain ⟨p, hpb, hx1⟩ := toI_ex q
    by_cases hp : p < np
    · obtain ⟨ch, hch, hc⟩ := i2c_is (xs (4 * j + 2))
      replace hc : ci16 (xs (4 * j + 2)) = nI ch := hc
      rcases (by omega : (ch < 97 ∨ 104 < ch) ∨ 97 ≤ ch ∧ ch ≤ 104) with v | v
      · have hvb : vB ch = false := decide_eq_false (by omega)
        refine lr_26_2 (i := 4 * j) (A := fun g1 => mz_mo ([]) 1 6 h g1) (B := rBc 2 j) (b := nI 0) hL hi hk ?_ ?_ ?_ (fun g q => q.1) (fun _ _ _ _ g q => hn _ _ _ _ _ q.2)
        · rw [hx1, hc]
          refine lw_image_2 (A := fun g1 => mz_mo ([]) 1 6 h g1) ⟨_, H0⟩ ?_
          exact thrN (x_imgV H0 hcb hp hch hvb) (by decide) (by omega) rfl
        · rintro g m1
          exact ⟨_, m1.1 400 (fun q => by cases q) _ H400⟩
        · rintro g m1
          have g400 := m1.1 400 (fun q => by cases q) _ H400
          have m1s := m1
          have lg := mo_le m1
          have gL := hYL.lo w1 oEp m1s.1 (fun x q => by cases q)
          have gB := gL.lb g400
          rw [hx1, hc]
          refine (mj_Wp.mono (y_imgV gB np6 g400 hIn hp hch hvb) (by decide)).imp ?_
          rintro _ ⟨_, g2, rfl, rfl, y400, m2⟩
          have mt : mz_mo (([]) ++ ([400])) (1 + 0) (6 + 0) h g2 := mo2 m1 m2
          have et := mt.1
          have hx0 : ∀ x, x ∈ [] ++ [400] → (own x = 0 ∧ (x = 400)) := by
            intro x hx
            rcases List.mem_append.mp hx with q | q
            · cases q
            · have z : x < 414 ∧ (x = 400) := by simp only [cML, wML, List.mem_cons, List.mem_append, List.not_mem_nil, or_false] at q; omega
              exact ⟨w1.z z.1, z.2⟩
          have le := mt.2.1
          have l1 := mt.2.2.1
          have l2 := mt.2.2.2
          have qo : pOu g2 := pO.fr et (fun x hx => by have := hx0 x hx; omega)
          exact ⟨_, _, rfl, rfl, ⟨_, y400⟩, ⟨own, _, _, _, gs, pl, _, wa, nw, nx, np, K, X, rz, w1.len le, et 0 (fun q => by have := hx0 _ q; omega) _ H0, y400, pT.fr et (fun x hx => by have := hx0 x hx; omega) (fun _ q => q), pL.fr et (fun x hx => by have := hx0 x hx; omega) (fun _ q => q) (fun a q => by have := (w1 a (by omega)).2; omega) (fun _ q => q), pR.fr et (fun x hx => by have := hx0 x hx; omega), pV.fr et (fun x hx => by have := hx0 x hx; omega), pC.fr et (fun x hx => by have := hx0 x hx; omega) (fun _ q => q), pI.fr et (fun x hx => by have := hx0 x hx; omega), pS.fr et (fun x hx => by have := hx0 x hx; omega), qo, pX.fr et (fun x hx => by have := hx0 x hx; omega), pP.fr et (fun x hx => by have := hx0 x hx; omega) (fun _ q => q), pG.fr et (fun x hx => by have := hx0 x hx; omega) (fun _ q => q), by omega, by omega, by omega⟩⟩
      · obtain ⟨u, hu⟩ : ∃ u, ch = 97 + u := ⟨ch - 97, by omega⟩
        rw [hu] at hc
        have hu8 : u < 8 := by omega
        obtain ⟨⟨s0, hT⟩, tb, ⟨tp, tl, tc, tw, tcp, tcl, tcw⟩, tz, hTR⟩ := id pV
        obtain ⟨⟨vv, st, sk⟩, hS, hYW, _⟩ := pR.raw
        cases he : edd K (rns np K X 500 ((upd vv u (xs (4 * j + 3)), st, sk), bgn K p true (fun _ => 0) (fun _ => 0) (fun _ => false))).2.1.2 with
        | true =>
          refine lr_26_0 (i := 4 * j) (A := fun g => ∃ (g1 : mj_H) (ou : Nat → Int64), (mz_mo (cML 387 378) 0 0 h g1 ∧ (∃ s0, cSt g1 378 s0) ∧ ∃ r z, cRb g1 387 378 1 r z) ∧ mj_rd g1 412 = some (outC ou) ∧ g = g1.set 412 (outC (vp_updL ou 0 (Int32.toInt64 ((rns np K X 500 ((upd vv u (xs (4 * j + 3)), st, sk), bgn K p true (fun _ => 0) (fun _ => 0) (fun _ => false))).2.1.1.1 u))))) (B := rB0 ((rns np K X 500 ((upd vv u (xs (4 * j + 3)), st, sk), bgn K p true (fun _ => 0) (fun _ => 0) (fun _ => false))).2.1.1.1 u) j) (b := (rns np K X 500 ((upd vv u (xs (4 * j + 3)), st, sk), bgn K p true (fun _ => 0) (fun _ => 0) (fun _ => false))).2.1.1.1 u) hL hi hk ?_ ?_ ?_ (fun g q => q.h) (fun _ _ _ _ g q => hn _ _ _ _ _ q.2.2)
          · rw [hx1, hc]
            refine lw_image_0 (A := fun g1 => mz_mo (cML 387 378) 0 0 h g1 ∧ (∃ s0, cSt g1 378 s0) ∧ ∃ r z, cRb g1 387 378 1 r z) ⟨_, H0⟩ ?_ (fun g1 q => ?_)
            · refine (mj_Wp.mono (x_img H0 hcb hp hpk hS hT hTR hu8 he) (by decide)).imp ?_
              rintro _ ⟨_, g1, rfl, rfl, c3, c4, c5⟩
              exact ⟨_, _, rfl, rfl, c5, c3, c4⟩
            · obtain ⟨m1, ⟨s1, cT⟩, r1, z1, cR⟩ := q
              exact ⟨ou, m1.1 412 (fun q => by simp only [cML, wML, List.mem_cons, List.mem_append, List.not_mem_nil, or_false] at q; omega) _ H412⟩
          · rintro g ⟨g1, ou1, ⟨m1, ⟨s1, cT⟩, r1, z1, cR⟩, a2, hg⟩
            rw [hg]
            exact ⟨_, (rd_setn (by decide)).trans (m1.1 400 (fun q => by simp only [cML, wML, List.mem_cons, List.mem_append, List.not_mem_nil, or_false] at q; omega) _ H400)⟩
          · rintro g ⟨g1, ou1, ⟨m1, ⟨s1, cT⟩, r1, z1, cR⟩, a2, hg⟩
            have ms : mz_mo [412] 0 0 g1 g := by rw [hg]; exact mz_mo.st (by decide) a2 rfl
            have r412 : mj_rd g 412 = some (outC (vp_updL ou1 0 (Int32.toInt64 ((rns np K X 500 ((upd vv u (xs (4 * j + 3)), st, sk), bgn K p true (fun _ => 0) (fun _ => 0) (fun _ => false))).2.1.1.1 u)))) := by rw [hg]; exact rd_set (by decide) a2
            clear hg
            have m1s : mz_mo (412 :: (cML 387 378)) 0 0 h g := mo1s m1 ms
            have g400 := m1s.1 400 (fun q => by rcases List.mem_cons.mp q with q | q; (omega); (simp only [cML, wML, List.mem_cons, List.mem_append, List.not_mem_nil, or_false] at q; omega)) _ H400
            have lg := mo_le m1s
            have gL := hYL.lo w1 oEp m1s.1 (fun x q => by rcases List.mem_cons.mp q with q | q; (constructor <;> omega); (simp only [cML, wML, List.mem_cons, List.mem_append, List.not_mem_nil, or_false] at q; (constructor <;> omega)))
            have gB := gL.lb g400
            have gW := hYW.fr m1s.1 (fun x q => by rcases List.mem_cons.mp q with q | q; (omega); (simp only [cML, wML, List.mem_cons, List.mem_append, List.not_mem_nil, or_false] at q; omega))
            rw [hx1, hc]
            refine (mj_Wp.mono (y_img gB np6 g400 hIn hIw (fun a q => by have := hIl a q; omega) (by omega) (by omega) hpk hp hu8 (fun _ => 0) (fun _ => 0) (fun _ => false) gW he) (by decide)).imp ?_
            rintro _ ⟨_, g2, rfl, rfl, y400, m2⟩
            have mt : mz_mo (412 :: ((cML 387 378) ++ ([400]))) (0 + 8) (0 + 106) h g2 := mo3 m1s m2
            have et := mt.1
            have Q412 := m2.1 412 (fun q => by simp only [cML, wML, List.mem_cons, List.mem_append, List.not_mem_nil, or_false] at q; omega) _ r412
            have hx0 : ∀ x, x ∈ 412 :: (cML 387 378 ++ [400]) → (own x = 0 ∧ (x = 400 ∨ x = 412 ∨ 378 ≤ x ∧ x < 381 ∨ 387 ≤ x ∧ x < 393)) := by
              intro x hx
              rcases List.mem_cons.mp hx with hx | hx
              · rw [hx]; exact ⟨w1.z (by decide), by decide⟩
              rcases List.mem_append.mp hx with q | q
              · have z : x < 414 ∧ (x = 400 ∨ x = 412 ∨ 378 ≤ x ∧ x < 381 ∨ 387 ≤ x ∧ x < 393) := by simp only [cML, wML, List.mem_cons, List.mem_append, List.not_mem_nil, or_false] at q; omega
                exact ⟨w1.z z.1, z.2⟩
              · have z : x < 414 ∧ (x = 400 ∨ x = 412 ∨ 378 ≤ x ∧ x < 381 ∨ 387 ≤ x ∧ x < 393) := by simp only [cML, wML, List.mem_cons, List.mem_append, List.not_mem_nil, or_false] at q; omega
                exact ⟨w1.z z.1, z.2⟩
            have le := mt.2.1
            have l1 := mt.2.2.1
            have l2 := mt.2.2.2
            have qo : pOu g2 := pO.f2 et (fun x hx => by have := hx0 x hx; omega) ⟨_, Q412⟩
            have nV : pTr g2 := ⟨⟨s1, (cT.fr ms.1 (by decide) (by decide) (by decide)).fr m2.1 (by decide) (by decide) (by decide)⟩, _, r1, z1, (cR.fr ms.1 (fun x q => by simp only [cML, wML, List.mem_cons, List.mem_append, List.not_mem_nil, or_false] at q; omega)).fr m2.1 (fun x q => by simp only [cML, wML, List.mem_cons, List.mem_append, List.not_mem_nil, or_false] at q; omega)⟩
            exact ⟨_, _, rfl, rfl, ⟨_, y400⟩, ⟨_, Q412, if_pos rfl⟩, ⟨own, _, _, _, gs, pl, _, wa, nw, nx, np, K, X, rz, w1.len le, et 0 (fun q => by have := hx0 _ q; omega) _ H0, y400, pT.fr et (fun x hx => by have := hx0 x hx; omega) (fun _ q => q), pL.fr et (fun x hx => by have := hx0 x hx; omega) (fun _ q => q) (fun a q => by have := (w1 a (by omega)).2; omega) (fun _ q => q), pR.fr et (fun x hx => by have := hx0 x hx; omega), nV, pC.fr et (fun x hx => by have := hx0 x hx; omega) (fun _ q => q), pI.fr et (fun x hx => by have := hx0 x hx; omega), pS.fr et (fun x hx => by have := hx0 x hx; omega), qo, pX.fr et (fun x hx => by have := hx0 x hx; omega), pP.fr et (fun x hx => by have := hx0 x hx; omega) (fun _ q => q), pG.fr et (fun x hx => by have := hx0 x hx; omega) (fun _ q => q), by omega, by omega, by omega⟩⟩
        | false =>
          refine lr_26_3 (i := 4 * j) (A := fun g1 => mz_mo (cML 387 378) 1 6 h g1 ∧ (∃ s0, cSt g1 378 s0) ∧ ∃ r z, cRb g1 387 378 1 r z) (B := rBc 3 j) (b := nI 0) hL hi hk ?_ ?_ ?_ (fun g q => q.1) (fun _ _ _ _ g q => hn _ _ _ _ _ q.2)
          · rw [hx1, hc]
            refine lw_image_3 (A := fun g1 => mz_mo (cML 387 378) 1 6 h g1 ∧ (∃ s0, cSt g1 378 s0) ∧ ∃ r z, cRb g1 387 378 1 r z) ⟨_, H0⟩ ?_
            refine (mj_Wp.mono (x_imgE H0 hcb hp hpk hS hT hTR hu8 he (by omega)) (by decide)).imp ?_
            rintro _ ⟨qq, g1, rfl, c1, c2, c3, c4, c5⟩
            exact ⟨_, _, rfl, c1, c2, c5, c3, c4⟩
          · rintro g ⟨m1, ⟨s1, cT⟩, r1, z1, cR⟩
            exact ⟨_, m1.1 400 (fun q => by simp only [cML, wML, List.mem_cons, List.mem_append, List.not_mem_nil, or_false] at q; omega) _ H400⟩
          · rintro g ⟨m1, ⟨s1, cT⟩, r1, z1, cR⟩
            have g400 := m1.1 400 (fun q => by simp only [cML, wML, List.mem_cons, List.mem_append, List.not_mem_nil, or_false] at q; omega) _ H400
            have m1s := m1
            have lg := mo_le m1
            have gL := hYL.lo w1 oEp m1s.1 (fun x q => by simp only [cML, wML, List.mem_cons, List.mem_append, List.not_mem_nil, or_false] at q; (constructor <;> omega))
            have gB := gL.lb g400
            have gW := hYW.fr m1s.1 (fun x q => by simp only [cML, wML, List.mem_cons, List.mem_append, List.not_mem_nil, or_false] at q; omega)
            rw [hx1, hc]
            refine (mj_Wp.mono (y_imgE gB np6 g400 hIn hIw (fun a q => by have := hIl a q; omega) (by omega) (by omega) hpk hp hu8 (fun _ => 0) (fun _ => 0) (fun _ => false) gW he) (by decide)).imp ?_
            rintro _ ⟨_, g2, rfl, rfl, y400, m2⟩
            have mt : mz_mo ((cML 387 378) ++ ([400])) (1 + 8) (6 + 106) h g2 := mo2 m1 m2
            have et := mt.1
            have hx0 : ∀ x, x ∈ cML 387 378 ++ [400] → (own x = 0 ∧ (x = 400 ∨ 378 ≤ x ∧ x < 381 ∨ 387 ≤ x ∧ x < 393)) := by
              intro x hx
              rcases List.mem_append.mp hx with q | q
              · have z : x < 414 ∧ (x = 400 ∨ 378 ≤ x ∧ x < 381 ∨ 387 ≤ x ∧ x < 393) := by simp only [cML, wML, List.mem_cons, List.mem_append, List.not_mem_nil, or_false] at q; omega
                exact ⟨w1.z z.1, z.2⟩
              · have z : x < 414 ∧ (x = 400 ∨ 378 ≤ x ∧ x < 381 ∨ 387 ≤ x ∧ x < 393) := by simp only [cML, wML, List.mem_cons, List.mem_append, List.not_mem_nil, or_false] at q; omega
                exact ⟨w1.z z.1, z.2⟩
            have le := mt.2.1
            have l1 := mt.2.2.1
            have l2 := mt.2.2.2
            have qo : pOu g2 := pO.fr et (fun x hx => by have := hx0 x hx; omega)
            have nV : pTr g2 := ⟨⟨s1, cT.fr m2.1 (by decide) (by decide) (by decide)⟩, _, r1, z1, cR.fr m2.1 (fun x q => by simp only [cML, wML, List.mem_cons, List.mem_append, List.not_mem_nil, or_false] at q; omega)⟩
            exact ⟨_, _, rfl, rfl, ⟨_, y400⟩, ⟨own, _, _, _, gs, pl, _, wa, nw, nx, np, K, X, rz, w1.len le, et 0 (fun q => by have := hx0 _ q; omega) _ H0, y400, pT.fr et (fun x hx => by have := hx0 x hx; omega) (fun _ q => q), pL.fr et (fun x hx => by have := hx0 x hx; omega) (fun _ q => q) (fun a q => by have := (w1 a (by omega)).2; omega) (fun _ q => q), pR.fr et (fun x hx => by have := hx0 x hx; omega), nV, pC.fr et (fun x hx => by have := hx0 x hx; omega) (fun _ q => q), pI.fr et (fun x hx => by have := hx0 x hx; omega), pS.fr et (fun x hx => by have := hx0 x hx; omega), qo, pX.fr et (fun x hx => by have := hx0 x hx; omega), pP.fr et (fun x hx => by have := hx0 x hx; omega) (fun _ q => q), pG.fr et (fun x hx => by have := hx0 x hx; omega) (fun _ q => q), by omega, by omega, by omega⟩⟩
    · have hpr : (xs (4 * j + 1)).toInt < 0 ∨ (np : Int) ≤ (xs (4 * j + 1)).toInt := Or.inr (by rw [hx1, mI_ti hpb]; omega)
      refine lr_26_1 (i := 4 * j) (A := fun g1 => mz_mo ([]) 1 6 h g1) (B := rBc 1 j) (b := nI 0) hL hi hk ?_ ?_ ?_ (fun g q => q.1) (fun _ _ _ _ g q => hn _ _ _ _ _ q.2)
      · refine lw_image_1 (A := fun g1 => mz_mo ([]) 1 6 h g1) ⟨_, H0⟩ ?_
        exact thrN (x_imgT H0 hcb hpr) (by decide) (by omega) rfl
      · rintro g m1
        exact ⟨_, m1.1 400 (fun q => by cases q) _ H400⟩
      · rintro g m1
        have g400 := m1.1 400 (fun q => by cases q) _ H400
        have m1s := m1
        have lg := mo_le m1
        have gL := hYL.lo w1 oEp m1s.1 (fun x q => by cases q)
        have gB := gL.lb g400
        refine (mj_Wp.mono (y_imgT gB np6 g400 hIn hpr) (by decide)).imp ?_
        rintro _ ⟨_, g2, rfl, rfl, y400, m2⟩
        have mt : mz_mo (([]) ++ ([400])) (1 + 0) (6 + 0) h g2 := mo2 m1 m2
        have et := mt.1
        have hx0 : ∀ x, x ∈ [] ++ [400] → (own x = 0 ∧ (x = 400)) := by
          intro x hx
          rcases List.mem_append.mp hx with q | q
          · cases q
          · have z : x < 414 ∧ (x = 400) := by simp only [cML, wML, List.mem_cons, List.mem_append, List.not_mem_nil, or_false] at q; omega
            exact ⟨w1.z z.1, z.2⟩
        have le := mt.2.1
        have l1 := mt.2.2.1
        have l2 := mt.2.2.2
        have qo : pOu g2 := pO.fr et (fun x hx => by have := hx0 x hx; omega)
        exact ⟨_, _, rfl, rfl, ⟨_, y400⟩, ⟨own, _, _, _, gs, pl, _, wa, nw, nx, np, K, X, rz, w1.len le, et 0 (fun q => by have := hx0 _ q; omega) _ H0, y400, pT.fr et (fun x hx => by have := hx0 x hx; omega) (fun _ q => q), pL.fr et (fun x hx => by have := hx0 x hx; omega) (fun _ q => q) (fun a q => by have := (w1 a (by omega)).2; omega) (fun _ q => q), pR.fr et (fun x hx => by have := hx0 x hx; omega), pV.fr et (fun x hx => by have := hx0 x hx; omega), pC.fr et (fun x hx => by have := hx0 x hx; omega) (fun _ q => q), pI.fr et (fun x hx => by have := hx0 x hx; omega), pS.fr et (fun x hx => by have := hx0 x hx; omega), qo, pX.fr et (fun x hx => by have := hx0 x hx; omega), pP.fr et (fun x hx => by have := hx0 x hx; omega) (fun _ q => q), pG.fr et (fun x hx => by have := hx0 x hx; omega) (fun _ q => q), by omega, by omega, by omega⟩⟩
theorem r_27 {L j : Nat} {xs : Nat → Int32} {h : mj_H} {l6 l7 l8 l9 : Option Value} {P : mj_H → Prop} {own : Nat → Nat} {th : Int32} {sd be : Int64} {gs pl ty wa nw nx : Value} {np : Nat} {K : Nat → Nat} {X : Nat → Nat → Nat → Nat} {rz : Nat} (w : wJ own th sd be gs pl ty wa nw nx np K X rz j h) (hL : L ≤ 2048) (hi : 4 * j + 4 ≤ L) (hk : xs (4 * j) &&& nI 63 = nI 27) (hn : ∀ (l6 l7 l8 l9 : Option Value) (g : mj_H), wI (j + 1) g → mj_lrun L xs (28, [some (.retAddr 1), some (.ref 0), some (.ref 400), some (.ref 412), some (.ref 413), some (.int (nI (4 * j + 4))), l6, l7, l8, l9], [], g) P) : mj_lrun L xs (28, [some (.retAddr 1), some (.ref 0), some (.ref 400), some (.ref 412), some (.ref 413), some (.int (nI (4 * j))), l6, l7, l8, l9], [], h) P := by
  obtain ⟨w1, H0, H400, pT, pL, pR, pV, pC, pI, pS, pO, pX, pP, pG, j5, b1, b2⟩ := id w
  have ln := w.len
  obtain ⟨⟨ou, H412⟩, od, H413⟩ := id pO
  obtain ⟨N, F, PF, Ep, hLi, hYL, hLo, oEp⟩ := id pL
  have np6 := hLi.1
  have e1 : mj_CB = 1000000 := rfl
  have hpk := hLo.pOk np6
  have hcb := hLi.lb
  have hIl : ∀ a, own a = 9 → a < h.length := fun a q => (w1 a (by omega)).2
  have hI4 : ∀ a, own a = 9 → a ≠ 400 ∧ a ≠ 401 ∧ a ≠ Ep := fun a q => by
    have z := w1 a (by omega)
    refine ⟨by omega, by omega, fun e => ?_⟩
    rw [e] at q z
    have := oEp (by omega)
    omega
  have hIn : ¬ own 400 = 9 := fun q => by have := w1 400 (by omega); omega
  have hIw : ∀ x, x ∈ wML 402 → ¬ own x = 9 := fun x hx q => by have := wML_m.mp hx; have := w1 x (by omega); omega
  rcases (by omega : (xs (4 * j + 1)).toInt < 0 ∨ 0 ≤ (xs (4 * j + 1)).toInt) with q | q
  · have hpr : (xs (4 * j + 1)).toInt < 0 ∨ (np : Int) ≤ (xs (4 * j + 1)).toInt := Or.inl q
    refine lr_27_1 (i := 4 * j) (A := fun g1 => mz_mo ([]) 1 6 h g1) (B := rBc 1 j) (b := nI 0) hL hi hk ?_ ?_ ?_ (fun g q => q.1) (fun _ _ _ _ g q => hn _ _ _ _ _ q.2)
    · refine lw_works_1 (A := fun g1 => mz_mo ([]) 1 6 h g1) ⟨_, H0⟩ ?_
      exact thrN (x_wrkT H0 hcb hpr) (by decide) (by omega) rfl
    · rintro g m1
      exact ⟨_, m1.1 400 (fun q => by cases q) _ H400⟩
    · rintro g m1
      have g400 := m1.1 400 (fun q => by cases q) _ H400
      have m1s := m1
      have lg := mo_le m1
      have gL := hYL.lo w1 oEp m1s.1 (fun x q => by cases q)
      have gB := gL.lb g400
      refine (mj_Wp.mono (y_wk0 g400 (y_tblT gB np6 g400 hIn hpr)) (by decide)).imp ?_
      rintro _ ⟨_, g2, rfl, rfl, y400, m2⟩
      have mt : mz_mo (([]) ++ ([400])) (1 + 0) (6 + 0) h g2 := mo2 m1 m2
      have et := mt.1
      have hx0 : ∀ x, x ∈ [] ++ [400] → (own x = 0 ∧ (x = 400)) := by
        intro x hx
        rcases List.mem_append.mp hx with q | q
        · cases q
        · have z : x < 414 ∧ (x = 400) := by simp only [cML, wML, List.mem_cons, List.mem_append, List.not_mem_nil, or_false] at q; omega
          exact ⟨w1.z z.1, z.2⟩
      have le := mt.2.1
      have l1 := mt.2.2.1
      have l2 := mt.2.2.2
      have qo : pOu g2 := pO.fr et (fun x hx => by have := hx0 x hx; omega)
      exact ⟨_, _, rfl, rfl, ⟨_, y400⟩, ⟨own, _, _, _, gs, pl, _, wa, nw, nx, np, K, X, rz, w1.len le, et 0 (fun q => by have := hx0 _ q; omega) _ H0, y400, pT.fr et (fun x hx => by have := hx0 x hx; omega) (fun _ q => q), pL.fr et (fun x hx => by have := hx0 x hx; omega) (fun _ q => q) (fun a q => by have := (w1 a (by omega)).2; omega) (fun _ q => q), pR.fr et (fun x hx => by have := hx0 x hx; omega), pV.fr et (fun x hx => by have := hx0 x hx; omega), pC.fr et (fun x hx => by have := hx0 x hx; omega) (fun _ q => q), pI.fr et (fun x hx => by have := hx0 x hx; omega), pS.fr et (fun x hx => by have := hx0 x hx; omega), qo, pX.fr et (fun x hx => by have := hx0 x hx; omega), pP.fr et (fun x hx => by have := hx0 x hx; omega) (fun _ q => q), pG.fr et (fun x hx => by have := hx0 x hx; omega) (fun _ q => q), by omega, by omega, by omega⟩⟩
  · obtain ⟨p, hpb, hx1⟩ := toI_ex q
    by_cases hp : p < np
    · obtain ⟨ch, hch, hc⟩ := i2c_is (xs (4 * j + 2))
      replace hc : ci16 (xs (4 * j + 2)) = nI ch := hc
      rcases (by omega : (ch < 97 ∨ 104 < ch) ∨ 97 ≤ ch ∧ ch ≤ 104) with v | v
      · have hvb : vB ch = false := decide_eq_false (by omega)
        refine lr_27_2 (i := 4 * j) (A := fun g1 => mz_mo ([]) 1 6 h g1) (B := rBc 2 j) (b := nI 0) hL hi hk ?_ ?_ ?_ (fun g q => q.1) (fun _ _ _ _ g q => hn _ _ _ _ _ q.2)
        · rw [hx1, hc]
          refine lw_works_2 (A := fun g1 => mz_mo ([]) 1 6 h g1) ⟨_, H0⟩ ?_
          exact thrN (x_wrkV H0 hcb hp hch hvb) (by decide) (by omega) rfl
        · rintro g m1
          exact ⟨_, m1.1 400 (fun q => by cases q) _ H400⟩
        · rintro g m1
          have g400 := m1.1 400 (fun q => by cases q) _ H400
          have m1s := m1
          have lg := mo_le m1
          have gL := hYL.lo w1 oEp m1s.1 (fun x q => by cases q)
          have gB := gL.lb g400
          rw [hx1, hc]
          refine (mj_Wp.mono (y_wk0 g400 (y_tblV gB np6 g400 hIn hp hch hvb)) (by decide)).imp ?_
          rintro _ ⟨_, g2, rfl, rfl, y400, m2⟩
          have mt : mz_mo (([]) ++ ([400])) (1 + 0) (6 + 0) h g2 := mo2 m1 m2
          have et := mt.1
          have hx0 : ∀ x, x ∈ [] ++ [400] → (own x = 0 ∧ (x = 400)) := by
            intro x hx
            rcases List.mem_append.mp hx with q | q
            · cases q
            · have z : x < 414 ∧ (x = 400) := by simp only [cML, wML, List.mem_cons, List.mem_append, List.not_mem_nil, or_false] at q; omega
              exact ⟨w1.z z.1, z.2⟩
          have le := mt.2.1
          have l1 := mt.2.2.1
          have l2 := mt.2.2.2
          have qo : pOu g2 := pO.fr et (fun x hx => by have := hx0 x hx; omega)
          exact ⟨_, _, rfl, rfl, ⟨_, y400⟩, ⟨own, _, _, _, gs, pl, _, wa, nw, nx, np, K, X, rz, w1.len le, et 0 (fun q => by have := hx0 _ q; omega) _ H0, y400, pT.fr et (fun x hx => by have := hx0 x hx; omega) (fun _ q => q), pL.fr et (fun x hx => by have := hx0 x hx; omega) (fun _ q => q) (fun a q => by have := (w1 a (by omega)).2; omega) (fun _ q => q), pR.fr et (fun x hx => by have := hx0 x hx; omega), pV.fr et (fun x hx => by have := hx0 x hx; omega), pC.fr et (fun x hx => by have := hx0 x hx; omega) (fun _ q => q), pI.fr et (fun x hx => by have := hx0 x hx; omega), pS.fr et (fun x hx => by have := hx0 x hx; omega), qo, pX.fr et (fun x hx => by have := hx0 x hx; omega), pP.fr et (fun x hx => by have := hx0 x hx; omega) (fun _ q => q), pG.fr et (fun x hx => by have := hx0 x hx; omega) (fun _ q => q), by omega, by omega, by omega⟩⟩
      · obtain ⟨u, hu⟩ : ∃ u, ch = 97 + u := ⟨ch - 97, by omega⟩
        rw [hu] at hc
        have hu8 : u < 8 := by omega
        obtain ⟨⟨s0, hT⟩, tb, ⟨tp, tl, tc, tw, tcp, tcl, tcw⟩, tz, hTR⟩ := id pV
        obtain ⟨⟨vv, st, sk⟩, hS, hYW, _⟩ := pR.raw
        obtain ⟨⟨s1_, S1⟩, ⟨s2_, S2⟩, ⟨s3_, S3⟩, s4_, S4⟩ := id pS
        refine lr_27_0 (i := 4 * j) (A := fun g => ∃ (g1 : mj_H) (ou : Nat → Int64), (mz_mo (cML 387 378) 0 0 h g1 ∧ (∃ s0, cSt g1 378 s0) ∧ ∃ b r z, cRb g1 387 378 b r z) ∧ mj_rd g1 412 = some (outC ou) ∧ g = g1.set 412 (outC (vp_updL ou 0 (Int32.toInt64 (nI (tS (tF np K X p u vv st sk) 16).1))))) (B := rB0 (nI (tS (tF np K X p u vv st sk) 16).1) j) (b := nI (tS (tF np K X p u vv st sk) 16).1) hL hi hk ?_ ?_ ?_ (fun g q => q.h) (fun _ _ _ _ g q => hn _ _ _ _ _ q.2.2)
        · rw [hx1, hc]
          refine lw_works_0 (A := fun g1 => mz_mo (cML 387 378) 0 0 h g1 ∧ (∃ s0, cSt g1 378 s0) ∧ ∃ b r z, cRb g1 387 378 b r z) ⟨_, H0⟩ ?_ (fun g1 q => ?_)
          · refine (mj_Wp.mono (x_wrk H0 hcb hpk hp hu8 hS ⟨_, hT⟩ ⟨_, _, _, hTR⟩) (by decide)).imp ?_
            rintro _ ⟨_, g1, rfl, rfl, c3, c4, c5⟩
            exact ⟨_, _, rfl, rfl, c5, c3, c4⟩
          · obtain ⟨m1, ⟨s1, cT⟩, tb1, r1, z1, cR⟩ := q
            exact ⟨ou, m1.1 412 (fun q => by simp only [cML, wML, List.mem_cons, List.mem_append, List.not_mem_nil, or_false] at q; omega) _ H412⟩
        · rintro g ⟨g1, ou1, ⟨m1, ⟨s1, cT⟩, tb1, r1, z1, cR⟩, a2, hg⟩
          rw [hg]
          exact ⟨_, (rd_setn (by decide)).trans (m1.1 400 (fun q => by simp only [cML, wML, List.mem_cons, List.mem_append, List.not_mem_nil, or_false] at q; omega) _ H400)⟩
        · rintro g ⟨g1, ou1, ⟨m1, ⟨s1, cT⟩, tb1, r1, z1, cR⟩, a2, hg⟩
          have ms : mz_mo [412] 0 0 g1 g := by rw [hg]; exact mz_mo.st (by decide) a2 rfl
          have r412 : mj_rd g 412 = some (outC (vp_updL ou1 0 (Int32.toInt64 (nI (tS (tF np K X p u vv st sk) 16).1)))) := by rw [hg]; exact rd_set (by decide) a2
          clear hg
          have m1s : mz_mo (412 :: (cML 387 378)) 0 0 h g := mo1s m1 ms
          have g400 := m1s.1 400 (fun q => by rcases List.mem_cons.mp q with q | q; (omega); (simp only [cML, wML, List.mem_cons, List.mem_append, List.not_mem_nil, or_false] at q; omega)) _ H400
          have lg := mo_le m1s
          have gL := hYL.lo w1 oEp m1s.1 (fun x q => by rcases List.mem_cons.mp q with q | q; (constructor <;> omega); (simp only [cML, wML, List.mem_cons, List.mem_append, List.not_mem_nil, or_false] at q; (constructor <;> omega)))
          have gB := gL.lb g400
          have gW := hYW.fr m1s.1 (fun x q => by rcases List.mem_cons.mp q with q | q; (omega); (simp only [cML, wML, List.mem_cons, List.mem_append, List.not_mem_nil, or_false] at q; omega))
          rw [hx1, hc]
          refine (mj_Wp.mono ((y_wk0 g400 (y_tbl' (V := nI (tS (tF np K X p u vv st sk) 16).1) (y_tbl (l3 := false) gB np6 g400 hIn hIw (fun a q => by have := hIl a q; omega) (by omega) (by omega) hpk hp hu8 gW) (by rw [if_neg (by decide)])))) (by decide)).imp ?_
          rintro _ ⟨_, g2, rfl, rfl, y400, m2⟩
          have mt : mz_mo (412 :: ((cML 387 378) ++ ([400]))) (0 + 129) (0 + 1712) h g2 := mo3 m1s m2
          have et := mt.1
          have Q412 := m2.1 412 (fun q => by simp only [cML, wML, List.mem_cons, List.mem_append, List.not_mem_nil, or_false] at q; omega) _ r412
          have hx0 : ∀ x, x ∈ 412 :: (cML 387 378 ++ [400]) → (own x = 0 ∧ (x = 400 ∨ x = 412 ∨ 378 ≤ x ∧ x < 381 ∨ 387 ≤ x ∧ x < 393)) := by
            intro x hx
            rcases List.mem_cons.mp hx with hx | hx
            · rw [hx]; exact ⟨w1.z (by decide), by decide⟩
            rcases List.mem_append.mp hx with q | q
            · have z : x < 414 ∧ (x = 400 ∨ x = 412 ∨ 378 ≤ x ∧ x < 381 ∨ 387 ≤ x ∧ x < 393) := by simp only [cML, wML, List.mem_cons, List.mem_append, List.not_mem_nil, or_false] at q; omega
              exact ⟨w1.z z.1, z.2⟩
            · have z : x < 414 ∧ (x = 400 ∨ x = 412 ∨ 378 ≤ x ∧ x < 381 ∨ 387 ≤ x ∧ x < 393) := by simp only [cML, wML, List.mem_cons, List.mem_append, List.not_mem_nil, or_false] at q; omega
              exact ⟨w1.z z.1, z.2⟩
          have le := mt.2.1
          have l1 := mt.2.2.1
          have l2 := mt.2.2.2
          have qo : pOu g2 := pO.f2 et (fun x hx => by have := hx0 x hx; omega) ⟨_, Q412⟩
          have nV : pTr g2 := ⟨⟨s1, (cT.fr ms.1 (by decide) (by decide) (by decide)).fr m2.1 (by decide) (by decide) (by decide)⟩, _, r1, z1, (cR.fr ms.1 (fun x q => by simp only [cML, wML, List.mem_cons, List.mem_append, List.not_mem_nil, or_false] at q; omega)).fr m2.1 (fun x q => by simp only [cML, wML, List.mem_cons, List.mem_append, List.not_mem_nil, or_false] at q; omega)⟩
          exact ⟨_, _, rfl, rfl, ⟨_, y400⟩, ⟨_, Q412, if_pos rfl⟩, ⟨own, _, _, _, gs, pl, _, wa, nw, nx, np, K, X, rz, w1.len le, et 0 (fun q => by have := hx0 _ q; omega) _ H0, y400, pT.fr et (fun x hx => by have := hx0 x hx; omega) (fun _ q => q), pL.fr et (fun x hx => by have := hx0 x hx; omega) (fun _ q => q) (fun a q => by have := (w1 a (by omega)).2; omega) (fun _ q => q), pR.fr et (fun x hx => by have := hx0 x hx; omega), nV, pC.fr et (fun x hx => by have := hx0 x hx; omega) (fun _ q => q), pI.fr et (fun x hx => by have := hx0 x hx; omega), pS.fr et (fun x hx => by have := hx0 x hx; omega), qo, pX.fr et (fun x hx => by have := hx0 x hx; omega), pP.fr et (fun x hx => by have := hx0 x hx; omega) (fun _ q => q), pG.fr et (fun x hx => by have := hx0 x hx; omega) (fun _ q => q), by omega, by omega, by omega⟩⟩
    · have hpr : (xs (4 * j + 1)).toInt < 0 ∨ (np : Int) ≤ (xs (4 * j + 1)).toInt := Or.inr (by rw [hx1, mI_ti hpb]; omega)
      refine lr_27_1 (i := 4 * j) (A := fun g1 => mz_mo ([]) 1 6 h g1) (B := rBc 1 j) (b := nI 0) hL hi hk ?_ ?_ ?_ (fun g q => q.1) (fun _ _ _ _ g q => hn _ _ _ _ _ q.2)
      · refine lw_works_1 (A := fun g1 => mz_mo ([]) 1 6 h g1) ⟨_, H0⟩ ?_
        exact thrN (x_wrkT H0 hcb hpr) (by decide) (by omega) rfl
      · rintro g m1
        exact ⟨_, m1.1 400 (fun q => by cases q) _ H400⟩
      · rintro g m1
        have g400 := m1.1 400 (fun q => by cases q) _ H400
        have m1s := m1
        have lg := mo_le m1
        have gL := hYL.lo w1 oEp m1s.1 (fun x q => by cases q)
        have gB := gL.lb g400
        refine (mj_Wp.mono (y_wk0 g400 (y_tblT gB np6 g400 hIn hpr)) (by decide)).imp ?_
        rintro _ ⟨_, g2, rfl, rfl, y400, m2⟩
        have mt : mz_mo (([]) ++ ([400])) (1 + 0) (6 + 0) h g2 := mo2 m1 m2
        have et := mt.1
        have hx0 : ∀ x, x ∈ [] ++ [400] → (own x = 0 ∧ (x = 400)) := by
          intro x hx
          rcases List.mem_append.mp hx with q | q
          · cases q
          · have z : x < 414 ∧ (x = 400) := by simp only [cML, wML, List.mem_cons, List.mem_append, List.not_mem_nil, or_false] at q; omega
            exact ⟨w1.z z.1, z.2⟩
        have le := mt.2.1
        have l1 := mt.2.2.1
        have l2 := mt.2.2.2
        have qo : pOu g2 := pO.fr et (fun x hx => by have := hx0 x hx; omega)
        exact ⟨_, _, rfl, rfl, ⟨_, y400⟩, ⟨own, _, _, _, gs, pl, _, wa, nw, nx, np, K, X, rz, w1.len le, et 0 (fun q => by have := hx0 _ q; omega) _ H0, y400, pT.fr et (fun x hx => by have := hx0 x hx; omega) (fun _ q => q), pL.fr et (fun x hx => by have := hx0 x hx; omega) (fun _ q => q) (fun a q => by have := (w1 a (by omega)).2; omega) (fun _ q => q), pR.fr et (fun x hx => by have := hx0 x hx; omega), pV.fr et (fun x hx => by have := hx0 x hx; omega), pC.fr et (fun x hx => by have := hx0 x hx; omega) (fun _ q => q), pI.fr et (fun x hx => by have := hx0 x hx; omega), pS.fr et (fun x hx => by have := hx0 x hx; omega), qo, pX.fr et (fun x hx => by have := hx0 x hx; omega), pP.fr et (fun x hx => by have := hx0 x hx; omega) (fun _ q => q), pG.fr et (fun x hx => by have := hx0 x hx; omega) (fun _ q => q), by omega, by omega, by omega⟩⟩
theorem r_28 {L j : Nat} {xs : Nat → Int32} {h : mj_H} {l6 l7 l8 l9 : Option Value} {P : mj_H → Prop} {own : Nat → Nat} {th : Int32} {sd be : Int64} {gs pl ty wa nw nx : Value} {np : Nat} {K : Nat → Nat} {X : Nat → Nat → Nat → Nat} {rz : Nat} (w : wJ own th sd be gs pl ty wa nw nx np K X rz j h) (hL : L ≤ 2048) (hi : 4 * j + 4 ≤ L) (hk : xs (4 * j) &&& nI 63 = nI 28) (hn : ∀ (l6 l7 l8 l9 : Option Value) (g : mj_H), wI (j + 1) g → mj_lrun L xs (28, [some (.retAddr 1), some (.ref 0), some (.ref 400), some (.ref 412), some (.ref 413), some (.int (nI (4 * j + 4))), l6, l7, l8, l9], [], g) P) : mj_lrun L xs (28, [some (.retAddr 1), some (.ref 0), some (.ref 400), some (.ref 412), some (.ref 413), some (.int (nI (4 * j))), l6, l7, l8, l9], [], h) P := by
  obtain ⟨w1, H0, H400, pT, pL, pR, pV, pC, pI, pS, pO, pX, pP, pG, j5, b1, b2⟩ := id w
  have ln := w.len
  obtain ⟨⟨ou, H412⟩, od, H413⟩ := id pO
  obtain ⟨N, F, PF, Ep, hLi, hYL, hLo, oEp⟩ := id pL
  have np6 := hLi.1
  have e1 : mj_CB = 1000000 := rfl
  have hpk := hLo.pOk np6
  have hcb := hLi.lb
  have hIl : ∀ a, own a = 9 → a < h.length := fun a q => (w1 a (by omega)).2
  have hI4 : ∀ a, own a = 9 → a ≠ 400 ∧ a ≠ 401 ∧ a ≠ Ep := fun a q => by
    have z := w1 a (by omega)
    refine ⟨by omega, by omega, fun e => ?_⟩
    rw [e] at q z
    have := oEp (by omega)
    omega
  have hIn : ¬ own 400 = 9 := fun q => by have := w1 400 (by omega); omega
  have hIw : ∀ x, x ∈ wML 402 → ¬ own x = 9 := fun x hx q => by have := wML_m.mp hx; have := w1 x (by omega); omega
  rcases (by omega : (xs (4 * j + 1)).toInt < 0 ∨ 0 ≤ (xs (4 * j + 1)).toInt) with q | q
  · have hpr : (xs (4 * j + 1)).toInt < 0 ∨ (np : Int) ≤ (xs (4 * j + 1)).toInt := Or.inl q
    refine lr_28_1 (i := 4 * j) (A := fun g1 => mz_mo ([]) 1 6 h g1) (B := rBc 1 j) (b := nI 0) hL hi hk ?_ ?_ ?_ (fun g q => q.1) (fun _ _ _ _ g q => hn _ _ _ _ _ q.2)
    · refine lw_alike_1 (A := fun g1 => mz_mo ([]) 1 6 h g1) ⟨_, H0⟩ ?_
      exact thrN (x_alkT H0 hcb hpr) (by decide) (by omega) rfl
    · rintro g m1
      exact ⟨_, m1.1 400 (fun q => by cases q) _ H400⟩
    · rintro g m1
      have g400 := m1.1 400 (fun q => by cases q) _ H400
      have m1s := m1
      have lg := mo_le m1
      have gL := hYL.lo w1 oEp m1s.1 (fun x q => by cases q)
      have gB := gL.lb g400
      refine (mj_Wp.mono (y_wk1 g400 (y_tblT gB np6 g400 hIn hpr)) (by decide)).imp ?_
      rintro _ ⟨_, g2, rfl, rfl, y400, m2⟩
      have mt : mz_mo (([]) ++ ([400])) (1 + 0) (6 + 0) h g2 := mo2 m1 m2
      have et := mt.1
      have hx0 : ∀ x, x ∈ [] ++ [400] → (own x = 0 ∧ (x = 400)) := by
        intro x hx
        rcases List.mem_append.mp hx with q | q
        · cases q
        · have z : x < 414 ∧ (x = 400) := by simp only [cML, wML, List.mem_cons, List.mem_append, List.not_mem_nil, or_false] at q; omega
          exact ⟨w1.z z.1, z.2⟩
      have le := mt.2.1
      have l1 := mt.2.2.1
      have l2 := mt.2.2.2
      have qo : pOu g2 := pO.fr et (fun x hx => by have := hx0 x hx; omega)
      exact ⟨_, _, rfl, rfl, ⟨_, y400⟩, ⟨own, _, _, _, gs, pl, _, wa, nw, nx, np, K, X, rz, w1.len le, et 0 (fun q => by have := hx0 _ q; omega) _ H0, y400, pT.fr et (fun x hx => by have := hx0 x hx; omega) (fun _ q => q), pL.fr et (fun x hx => by have := hx0 x hx; omega) (fun _ q => q) (fun a q => by have := (w1 a (by omega)).2; omega) (fun _ q => q), pR.fr et (fun x hx => by have := hx0 x hx; omega), pV.fr et (fun x hx => by have := hx0 x hx; omega), pC.fr et (fun x hx => by have := hx0 x hx; omega) (fun _ q => q), pI.fr et (fun x hx => by have := hx0 x hx; omega), pS.fr et (fun x hx => by have := hx0 x hx; omega), qo, pX.fr et (fun x hx => by have := hx0 x hx; omega), pP.fr et (fun x hx => by have := hx0 x hx; omega) (fun _ q => q), pG.fr et (fun x hx => by have := hx0 x hx; omega) (fun _ q => q), by omega, by omega, by omega⟩⟩
  · obtain ⟨p, hpb, hx1⟩ := toI_ex q
    by_cases hp : p < np
    · obtain ⟨ch, hch, hc⟩ := i2c_is (xs (4 * j + 2))
      replace hc : ci16 (xs (4 * j + 2)) = nI ch := hc
      rcases (by omega : (ch < 97 ∨ 104 < ch) ∨ 97 ≤ ch ∧ ch ≤ 104) with v | v
      · have hvb : vB ch = false := decide_eq_false (by omega)
        refine lr_28_2 (i := 4 * j) (A := fun g1 => mz_mo ([]) 1 6 h g1) (B := rBc 2 j) (b := nI 0) hL hi hk ?_ ?_ ?_ (fun g q => q.1) (fun _ _ _ _ g q => hn _ _ _ _ _ q.2)
        · rw [hx1, hc]
          refine lw_alike_2 (A := fun g1 => mz_mo ([]) 1 6 h g1) ⟨_, H0⟩ ?_
          exact thrN (x_alkV H0 hcb hp hch hvb) (by decide) (by omega) rfl
        · rintro g m1
          exact ⟨_, m1.1 400 (fun q => by cases q) _ H400⟩
        · rintro g m1
          have g400 := m1.1 400 (fun q => by cases q) _ H400
          have m1s := m1
          have lg := mo_le m1
          have gL := hYL.lo w1 oEp m1s.1 (fun x q => by cases q)
          have gB := gL.lb g400
          rw [hx1, hc]
          refine (mj_Wp.mono (y_wk1 g400 (y_tblV gB np6 g400 hIn hp hch hvb)) (by decide)).imp ?_
          rintro _ ⟨_, g2, rfl, rfl, y400, m2⟩
          have mt : mz_mo (([]) ++ ([400])) (1 + 0) (6 + 0) h g2 := mo2 m1 m2
          have et := mt.1
          have hx0 : ∀ x, x ∈ [] ++ [400] → (own x = 0 ∧ (x = 400)) := by
            intro x hx
            rcases List.mem_append.mp hx with q | q
            · cases q
            · have z : x < 414 ∧ (x = 400) := by simp only [cML, wML, List.mem_cons, List.mem_append, List.not_mem_nil, or_false] at q; omega
              exact ⟨w1.z z.1, z.2⟩
          have le := mt.2.1
          have l1 := mt.2.2.1
          have l2 := mt.2.2.2
          have qo : pOu g2 := pO.fr et (fun x hx => by have := hx0 x hx; omega)
          exact ⟨_, _, rfl, rfl, ⟨_, y400⟩, ⟨own, _, _, _, gs, pl, _, wa, nw, nx, np, K, X, rz, w1.len le, et 0 (fun q => by have := hx0 _ q; omega) _ H0, y400, pT.fr et (fun x hx => by have := hx0 x hx; omega) (fun _ q => q), pL.fr et (fun x hx => by have := hx0 x hx; omega) (fun _ q => q) (fun a q => by have := (w1 a (by omega)).2; omega) (fun _ q => q), pR.fr et (fun x hx => by have := hx0 x hx; omega), pV.fr et (fun x hx => by have := hx0 x hx; omega), pC.fr et (fun x hx => by have := hx0 x hx; omega) (fun _ q => q), pI.fr et (fun x hx => by have := hx0 x hx; omega), pS.fr et (fun x hx => by have := hx0 x hx; omega), qo, pX.fr et (fun x hx => by have := hx0 x hx; omega), pP.fr et (fun x hx => by have := hx0 x hx; omega) (fun _ q => q), pG.fr et (fun x hx => by have := hx0 x hx; omega) (fun _ q => q), by omega, by omega, by omega⟩⟩
      · obtain ⟨u, hu⟩ : ∃ u, ch = 97 + u := ⟨ch - 97, by omega⟩
        rw [hu] at hc
        have hu8 : u < 8 := by omega
        obtain ⟨⟨s0, hT⟩, tb, ⟨tp, tl, tc, tw, tcp, tcl, tcw⟩, tz, hTR⟩ := id pV
        obtain ⟨⟨vv, st, sk⟩, hS, hYW, _⟩ := pR.raw
        obtain ⟨⟨s1_, S1⟩, ⟨s2_, S2⟩, ⟨s3_, S3⟩, s4_, S4⟩ := id pS
        refine lr_28_0 (i := 4 * j) (A := fun g => ∃ (g1 : mj_H) (ou : Nat → Int64), (mz_mo (398 :: cML 387 378) 0 0 h g1 ∧ (∃ s0, cSt g1 378 s0) ∧ (∃ b r z, cRb g1 387 378 b r z) ∧ ∃ rf : Nat → Int32, mj_rd g1 398 = some (.inl (0, (16, .inl rf)))) ∧ mj_rd g1 412 = some (outC ou) ∧ g = g1.set 412 (outC (vp_updL ou 0 (Int32.toInt64 (nI (mxA (tS (tF np K X p u vv st sk) 16).2 (tS (tF np K X p u vv st sk) 16).1 (tS (tF np K X p u vv st sk) 16).1)))))) (B := rB0 (nI (mxA (tS (tF np K X p u vv st sk) 16).2 (tS (tF np K X p u vv st sk) 16).1 (tS (tF np K X p u vv st sk) 16).1)) j) (b := nI (mxA (tS (tF np K X p u vv st sk) 16).2 (tS (tF np K X p u vv st sk) 16).1 (tS (tF np K X p u vv st sk) 16).1)) hL hi hk ?_ ?_ ?_ (fun g q => q.h) (fun _ _ _ _ g q => hn _ _ _ _ _ q.2.2)
        · rw [hx1, hc]
          refine lw_alike_0 (A := fun g1 => mz_mo (398 :: cML 387 378) 0 0 h g1 ∧ (∃ s0, cSt g1 378 s0) ∧ (∃ b r z, cRb g1 387 378 b r z) ∧ ∃ rf : Nat → Int32, mj_rd g1 398 = some (.inl (0, (16, .inl rf)))) ⟨_, H0⟩ ?_ (fun g1 q => ?_)
          · refine (mj_Wp.mono (x_alk H0 hcb hpk hp hu8 hS ⟨_, hT⟩ ⟨_, _, _, hTR⟩ S3) (by decide)).imp ?_
            rintro _ ⟨_, g1, rfl, rfl, c3, c4, c5, c6⟩
            exact ⟨_, _, rfl, rfl, c6, c3, c4, c5⟩
          · obtain ⟨m1, ⟨s1, cT⟩, ⟨tb1, r1, z1, cR⟩, rf1, q398⟩ := q
            exact ⟨ou, m1.1 412 (fun q => by simp only [cML, wML, List.mem_cons, List.mem_append, List.not_mem_nil, or_false] at q; omega) _ H412⟩
        · rintro g ⟨g1, ou1, ⟨m1, ⟨s1, cT⟩, ⟨tb1, r1, z1, cR⟩, rf1, q398⟩, a2, hg⟩
          rw [hg]
          exact ⟨_, (rd_setn (by decide)).trans (m1.1 400 (fun q => by simp only [cML, wML, List.mem_cons, List.mem_append, List.not_mem_nil, or_false] at q; omega) _ H400)⟩
        · rintro g ⟨g1, ou1, ⟨m1, ⟨s1, cT⟩, ⟨tb1, r1, z1, cR⟩, rf1, q398⟩, a2, hg⟩
          have ms : mz_mo [412] 0 0 g1 g := by rw [hg]; exact mz_mo.st (by decide) a2 rfl
          have r412 : mj_rd g 412 = some (outC (vp_updL ou1 0 (Int32.toInt64 (nI (mxA (tS (tF np K X p u vv st sk) 16).2 (tS (tF np K X p u vv st sk) 16).1 (tS (tF np K X p u vv st sk) 16).1))))) := by rw [hg]; exact rd_set (by decide) a2
          clear hg
          have m1s : mz_mo (412 :: (398 :: cML 387 378)) 0 0 h g := mo1s m1 ms
          have g400 := m1s.1 400 (fun q => by rcases List.mem_cons.mp q with q | q; (omega); (simp only [cML, wML, List.mem_cons, List.mem_append, List.not_mem_nil, or_false] at q; omega)) _ H400
          have lg := mo_le m1s
          have gL := hYL.lo w1 oEp m1s.1 (fun x q => by rcases List.mem_cons.mp q with q | q; (constructor <;> omega); (simp only [cML, wML, List.mem_cons, List.mem_append, List.not_mem_nil, or_false] at q; (constructor <;> omega)))
          have gB := gL.lb g400
          have gW := hYW.fr m1s.1 (fun x q => by rcases List.mem_cons.mp q with q | q; (omega); (simp only [cML, wML, List.mem_cons, List.mem_append, List.not_mem_nil, or_false] at q; omega))
          rw [hx1, hc]
          refine (mj_Wp.mono ((y_wk1 g400 (y_tbl' (V := nI (mxA (tS (tF np K X p u vv st sk) 16).2 (tS (tF np K X p u vv st sk) 16).1 (tS (tF np K X p u vv st sk) 16).1)) (y_tbl (l3 := true) gB np6 g400 hIn hIw (fun a q => by have := hIl a q; omega) (by omega) (by omega) hpk hp hu8 gW) (by rw [if_pos rfl, ← mx_pm])))) (by decide)).imp ?_
          rintro _ ⟨_, g2, rfl, rfl, y400, m2⟩
          have mt : mz_mo (412 :: ((398 :: cML 387 378) ++ ([400]))) (0 + 129) (0 + 1712) h g2 := mo3 m1s m2
          have et := mt.1
          have Q412 := m2.1 412 (fun q => by simp only [cML, wML, List.mem_cons, List.mem_append, List.not_mem_nil, or_false] at q; omega) _ r412
          have hx0 : ∀ x, x ∈ 412 :: (398 :: cML 387 378 ++ [400]) → (own x = 0 ∧ (x = 400 ∨ x = 412 ∨ x = 398 ∨ 378 ≤ x ∧ x < 381 ∨ 387 ≤ x ∧ x < 393)) := by
            intro x hx
            rcases List.mem_cons.mp hx with hx | hx
            · rw [hx]; exact ⟨w1.z (by decide), by decide⟩
            rcases List.mem_append.mp hx with q | q
            · have z : x < 414 ∧ (x = 400 ∨ x = 412 ∨ x = 398 ∨ 378 ≤ x ∧ x < 381 ∨ 387 ≤ x ∧ x < 393) := by simp only [cML, wML, List.mem_cons, List.mem_append, List.not_mem_nil, or_false] at q; omega
              exact ⟨w1.z z.1, z.2⟩
            · have z : x < 414 ∧ (x = 400 ∨ x = 412 ∨ x = 398 ∨ 378 ≤ x ∧ x < 381 ∨ 387 ≤ x ∧ x < 393) := by simp only [cML, wML, List.mem_cons, List.mem_append, List.not_mem_nil, or_false] at q; omega
              exact ⟨w1.z z.1, z.2⟩
          have le := mt.2.1
          have l1 := mt.2.2.1
          have l2 := mt.2.2.2
          have qo : pOu g2 := pO.f2 et (fun x hx => by have := hx0 x hx; omega) ⟨_, Q412⟩
          have nV : pTr g2 := ⟨⟨s1, (cT.fr ms.1 (by decide) (by decide) (by decide)).fr m2.1 (by decide) (by decide) (by decide)⟩, _, r1, z1, (cR.fr ms.1 (fun x q => by simp only [cML, wML, List.mem_cons, List.mem_append, List.not_mem_nil, or_false] at q; omega)).fr m2.1 (fun x q => by simp only [cML, wML, List.mem_cons, List.mem_append, List.not_mem_nil, or_false] at q; omega)⟩
          have nS : pSc g2 := ⟨⟨_, et 395 (fun q => by have := hx0 _ q; omega) _ S1⟩, ⟨_, et 396 (fun q => by have := hx0 _ q; omega) _ S2⟩, ⟨rf1, m2.1 398 (by decide) _ (ms.1 398 (by decide) _ q398)⟩, _, et 399 (fun q => by have := hx0 _ q; omega) _ S4⟩
          exact ⟨_, _, rfl, rfl, ⟨_, y400⟩, ⟨_, Q412, if_pos rfl⟩, ⟨own, _, _, _, gs, pl, _, wa, nw, nx, np, K, X, rz, w1.len le, et 0 (fun q => by have := hx0 _ q; omega) _ H0, y400, pT.fr et (fun x hx => by have := hx0 x hx; omega) (fun _ q => q), pL.fr et (fun x hx => by have := hx0 x hx; omega) (fun _ q => q) (fun a q => by have := (w1 a (by omega)).2; omega) (fun _ q => q), pR.fr et (fun x hx => by have := hx0 x hx; omega), nV, pC.fr et (fun x hx => by have := hx0 x hx; omega) (fun _ q => q), pI.fr et (fun x hx => by have := hx0 x hx; omega), nS, qo, pX.fr et (fun x hx => by have := hx0 x hx; omega), pP.fr et (fun x hx => by have := hx0 x hx; omega) (fun _ q => q), pG.fr et (fun x hx => by have := hx0 x hx; omega) (fun _ q => q), by omega, by omega, by omega⟩⟩
    · have hpr : (xs (4 * j + 1)).toInt < 0 ∨ (np : Int) ≤ (xs (4 * j + 1)).toInt := Or.inr (by rw [hx1, mI_ti hpb]; omega)
      refine lr_28_1 (i := 4 * j) (A := fun g1 => mz_mo ([]) 1 6 h g1) (B := rBc 1 j) (b := nI 0) hL hi hk ?_ ?_ ?_ (fun g q => q.1) (fun _ _ _ _ g q => hn _ _ _ _ _ q.2)
      · refine lw_alike_1 (A := fun g1 => mz_mo ([]) 1 6 h g1) ⟨_, H0⟩ ?_
        exact thrN (x_alkT H0 hcb hpr) (by decide) (by omega) rfl
      · rintro g m1
        exact ⟨_, m1.1 400 (fun q => by cases q) _ H400⟩
      · rintro g m1
        have g400 := m1.1 400 (fun q => by cases q) _ H400
        have m1s := m1
        have lg := mo_le m1
        have gL := hYL.lo w1 oEp m1s.1 (fun x q => by cases q)
        have gB := gL.lb g400
        refine (mj_Wp.mono (y_wk1 g400 (y_tblT gB np6 g400 hIn hpr)) (by decide)).imp ?_
        rintro _ ⟨_, g2, rfl, rfl, y400, m2⟩
        have mt : mz_mo (([]) ++ ([400])) (1 + 0) (6 + 0) h g2 := mo2 m1 m2
        have et := mt.1
        have hx0 : ∀ x, x ∈ [] ++ [400] → (own x = 0 ∧ (x = 400)) := by
          intro x hx
          rcases List.mem_append.mp hx with q | q
          · cases q
          · have z : x < 414 ∧ (x = 400) := by simp only [cML, wML, List.mem_cons, List.mem_append, List.not_mem_nil, or_false] at q; omega
            exact ⟨w1.z z.1, z.2⟩
        have le := mt.2.1
        have l1 := mt.2.2.1
        have l2 := mt.2.2.2
        have qo : pOu g2 := pO.fr et (fun x hx => by have := hx0 x hx; omega)
        exact ⟨_, _, rfl, rfl, ⟨_, y400⟩, ⟨own, _, _, _, gs, pl, _, wa, nw, nx, np, K, X, rz, w1.len le, et 0 (fun q => by have := hx0 _ q; omega) _ H0, y400, pT.fr et (fun x hx => by have := hx0 x hx; omega) (fun _ q => q), pL.fr et (fun x hx => by have := hx0 x hx; omega) (fun _ q => q) (fun a q => by have := (w1 a (by omega)).2; omega) (fun _ q => q), pR.fr et (fun x hx => by have := hx0 x hx; omega), pV.fr et (fun x hx => by have := hx0 x hx; omega), pC.fr et (fun x hx => by have := hx0 x hx; omega) (fun _ q => q), pI.fr et (fun x hx => by have := hx0 x hx; omega), pS.fr et (fun x hx => by have := hx0 x hx; omega), qo, pX.fr et (fun x hx => by have := hx0 x hx; omega), pP.fr et (fun x hx => by have := hx0 x hx; omega) (fun _ q => q), pG.fr et (fun x hx => by have := hx0 x hx; omega) (fun _ q => q), by omega, by omega, by omega⟩⟩
