/-! Rounds by contracts: define, invert, mean sizes, soundness. -/
theorem lOk.up {np n k : Nat} {N : Nat → Nat} {F : Nat → Nat → Nat} {K : Nat → Nat} {X : Nat → Nat → Nat → Nat} {f : Nat → Nat} {x : Nat → Nat → Nat} (l : lOk np N F K X) (hn : n ≤ 60) (hf : ∀ j, j < n → f j < 65536) (e : rAll n f = .inr (n, k, x)) : lOk (np + 1) (updN3 N np n) (updN3 F np f) (updN3 K np k) (updN3 X np x) := fun p hp => by
  by_cases q : p = np
  · rw [q, updN3_s, updN3_s, updN3_s, updN3_s]
    exact ⟨hn, hf, e⟩
  · rw [updN3_n q, updN3_n q, updN3_n q, updN3_n q]
    exact l p (by omega)
/-- colours when a procedure has come: J the cells of the procedures now, E' the array of their list -/
theorem recolP {own : Nat → Nat} {h g : mj_H} {J : Nat → Prop} {Ep E' : Nat} (w1 : wO own h) (hl : 414 ≤ h.length) (le : h.length ≤ g.length) (oE : Ep < mj_CB → own Ep = 1) (hE : E' = Ep ∨ h.length ≤ E') (bE : E' < mj_CB) (lE : E' < g.length) (hJ : ∀ a, J a → a ≠ E' ∧ (own a = 9 ∨ own a = 8 ∧ 414 ≤ a ∨ h.length ≤ a)) : ∃ own' : Nat → Nat, wO own' g ∧ (∀ a, own a = 2 ∨ own a = 3 ∨ own a = 4 → own' a = own a) ∧ (∀ a, own a = 8 → ¬ J a → own' a = 8) ∧ own' E' = 1 ∧ ∀ a, J a → a < g.length → own' a = 9 := by
  obtain ⟨o1, h1⟩ := recol (fun a => J a ∧ a < g.length) 9 own
  obtain ⟨o2, h2⟩ := recol (fun a => a = E') 1 o1
  have nE : ∀ a, own a = 2 ∨ own a = 3 ∨ own a = 4 ∨ own a = 8 → a ≠ E' := fun a ha e => by
    rcases hE with q | q
    · rw [e, q] at ha
      have := oE (by omega)
      omega
    · have := (w1 a (by omega)).2
      omega
  refine ⟨o2, fun a ha => ?_, fun a ha => ?_, fun a ha hj => ?_, (h2 E').1 rfl, fun a ha hlt => ?_⟩
  · by_cases q : a = E'
    · refine ⟨?_, by omega⟩
      rcases hE with z | z
      · have z2 := oE (by omega)
        have := w1 Ep (by omega)
        omega
      · omega
    · rw [(h2 a).2 q] at ha
      by_cases q2 : J a ∧ a < g.length
      · refine ⟨?_, q2.2⟩
        rcases (hJ a q2.1).2 with z | z | z
        · exact (w1 a (by omega)).1
        · exact z.2
        · omega
      · rw [(h1 a).2 q2] at ha
        have := w1 a ha
        omega
  · rw [(h2 a).2 (nE a (by omega))]
    refine (h1 a).2 (fun q => ?_)
    have z := (w1 a (by omega)).2
    rcases (hJ a q.1).2 with y | y | y <;> omega
  · rw [(h2 a).2 (nE a (by omega)), (h1 a).2 (fun q => hj q.1)]
    exact ha
  · rw [(h2 a).2 (hJ a ha).1]
    exact (h1 a).1 ⟨ha, hlt⟩
theorem yLi.rc {I : Nat → Prop} {own : Nat → Nat} {g : mj_H} {np Ep : Nat} {N : Nat → Nat} {F : Nat → Nat → Nat} {K : Nat → Nat} {X : Nat → Nat → Nat → Nat} {PF : Nat → Nat} (l : yLi I g np N F K X PF Ep) (hw : wO own g) (hb : g.length < mj_CB) (hI : ∀ a, I a → a < g.length → own a = 9) : yLi (fun a => own a = 9) g np N F K X PF Ep :=
  l.frm (L := []) ⟨mz_fr.rf _ _, l.2.1, fun a ha hl => ⟨List.not_mem_nil, hI a ha hl⟩⟩ List.not_mem_nil List.not_mem_nil (fun a ha => by have := (hw a (by omega)).2; omega)
theorem r_4 {L j : Nat} {xs : Nat → Int32} {h : mj_H} {l6 l7 l8 l9 : Option Value} {P : mj_H → Prop} {own : Nat → Nat} {th : Int32} {sd be : Int64} {gs pl ty wa nw nx : Value} {np : Nat} {K : Nat → Nat} {X : Nat → Nat → Nat → Nat} {rz : Nat} (w : wJ own th sd be gs pl ty wa nw nx np K X rz j h) (hL : L ≤ 2048) (hi : 4 * j + 4 ≤ L) (hk : xs (4 * j) &&& nI 63 = nI 4) (hn : ∀ (l6 l7 l8 l9 : Option Value) (g : mj_H), wI (j + 1) g → mj_lrun L xs (28, [some (.retAddr 1), some (.ref 0), some (.ref 400), some (.ref 412), some (.ref 413), some (.int (nI (4 * j + 4))), l6, l7, l8, l9], [], g) P) : mj_lrun L xs (28, [some (.retAddr 1), some (.ref 0), some (.ref 400), some (.ref 412), some (.ref 413), some (.int (nI (4 * j))), l6, l7, l8, l9], [], h) P := by
  obtain ⟨w1, H0, H400, pT, pL, pR, pV, pC, pI, pS, pO, pX, pP, pG, j5, b1, b2⟩ := id w
  have ln := w.len
  obtain ⟨⟨ou, H412⟩, od, H413⟩ := id pO
  obtain ⟨N, F, PF, Ep, hLi, hYL, hLo, oEp⟩ := id pL
  have np6 := hLi.1
  have e1 : mj_CB = 1000000 := rfl
  have hpk := hLo.pOk np6
  have hcb := hLi.lb
  have hIl : ∀ a, own a = 9 → a < h.length := fun a q => (w1 a (by omega)).2
  have hI4 : ∀ a, own a = 9 → a ≠ 400 ∧ a ≠ 401 ∧ a ≠ Ep := fun a q => by
    have z := w1 a (by omega)
    refine ⟨by omega, by omega, fun e => ?_⟩
    rw [e] at q z
    have := oEp (by omega)
    omega
  have hIn : ¬ own 400 = 9 := fun q => by have := w1 400 (by omega); omega
  have hIw : ∀ x, x ∈ wML 402 → ¬ own x = 9 := fun x hx q => by have := wML_m.mp hx; have := w1 x (by omega); omega
  obtain ⟨n, f, c, Y, rfl, hn60, hf, hPx, hY, hY0, hYo, hYB⟩ := id pT
  obtain ⟨H1, _, hX⟩ := id hPx
  have eO : 414 ≤ Ep ∧ (own Ep = 0 ∨ own Ep = 1) := by
    rcases (ls_len hYL.1).2 with z | z
    · refine ⟨by omega, Or.inl ?_⟩
      by_cases y : own Ep = 0
      · exact y
      · have := w1 Ep y; omega
    · have y := oEp (by omega)
      have := w1 Ep (by omega)
      omega
  cases hR : rAll n f with
  | inl e =>
    refine lr_4_1 (i := 4 * j) (A := fun g1 => mz_mo (cL 1) 1 6 h g1 ∧ cPx g1 1 n f) (B := rBc 1 j) (b := nI 0) hL hi hk ?_ ?_ ?_ (fun g q => q.1) (fun _ _ _ _ g q => hn _ _ _ _ _ q.2)
    · refine lw_define_1 (A := fun g1 => mz_mo (cL 1) 1 6 h g1 ∧ cPx g1 1 n f) ⟨_, H0⟩ ?_
      refine (mj_Wp.mono (x_defF H0 hPx hf hR (by omega)) (by decide)).imp ?_
      rintro _ ⟨qq, g1, rfl, c1, c2, c3, c4⟩
      exact ⟨_, _, rfl, c1, c2, c4, c3⟩
    · rintro g ⟨m1, cx⟩
      exact ⟨_, m1.1 400 (fun q => by have q2 := mem_cL.mp q; omega) _ H400⟩
    · rintro g ⟨m1, cx⟩
      have g400 := m1.1 400 (fun q => by have q2 := mem_cL.mp q; omega) _ H400
      have m1s := m1
      have lg := mo_le m1
      have gY := hY.lo (own := own) m1s.1 (fun x q => by have q2 := mem_cL.mp q; omega) hY0 hYB
      refine (mj_Wp.mono (y_defF hn60 hf gY (by omega) g400 hR) (by decide)).imp ?_
      rintro _ ⟨_, g2, rfl, rfl, y400, m2⟩
      have mt : mz_mo ((cL 1) ++ ([400])) (1 + 330) (6 + 5300) h g2 := mo2 m1 m2
      have et := mt.1
      have hx0 : ∀ x, x ∈ cL 1 ++ [400] → (own x = 0 ∧ (x = 400 ∨ 4 ≤ x ∧ x < 38)) := by
        intro x hx
        rcases List.mem_append.mp hx with q | q
        · have z : x < 414 ∧ (x = 400 ∨ 4 ≤ x ∧ x < 38) := by have q2 := mem_cL.mp q; omega
          exact ⟨w1.z z.1, z.2⟩
        · have z : x < 414 ∧ (x = 400 ∨ 4 ≤ x ∧ x < 38) := by simp only [cML, wML, List.mem_cons, List.mem_append, List.not_mem_nil, or_false] at q; omega
          exact ⟨w1.z z.1, z.2⟩
      have le := mt.2.1
      have l1 := mt.2.2.1
      have l2 := mt.2.2.2
      have qo : pOu g2 := pO.fr et (fun x hx => by have := hx0 x hx; omega)
      exact ⟨_, _, rfl, rfl, ⟨_, y400⟩, ⟨own, _, _, _, gs, pl, _, wa, nw, nx, np, K, X, rz, w1.len le, et 0 (fun q => by have := hx0 _ q; omega) _ H0, y400, pTy.mk et (fun x hx => by have := hx0 x hx; omega) (fun _ q => q) hn60 hf (cx.fr m2.1 (fun x q => by simp only [cML, wML, List.mem_cons, List.mem_append, List.not_mem_nil, or_false] at q; omega)) hY hY0 hYo hYB, pL.fr et (fun x hx => by have := hx0 x hx; omega) (fun _ q => q) (fun a q => by have := (w1 a (by omega)).2; omega) (fun _ q => q), pR.fr et (fun x hx => by have := hx0 x hx; omega), pV.fr et (fun x hx => by have := hx0 x hx; omega), pC.fr et (fun x hx => by have := hx0 x hx; omega) (fun _ q => q), pI.fr et (fun x hx => by have := hx0 x hx; omega), pS.fr et (fun x hx => by have := hx0 x hx; omega), qo, pX.fr et (fun x hx => by have := hx0 x hx; omega), pP.fr et (fun x hx => by have := hx0 x hx; omega) (fun _ q => q), pG.fr et (fun x hx => by have := hx0 x hx; omega) (fun _ q => q), by omega, by omega, by omega⟩⟩
  | inr s0 =>
    by_cases hnp : np < 6
    · refine lr_4_0 (i := 4 * j) (A := fun g => ∃ (g1 : mj_H) (ou : Nat → Int64), (mz_mo (dfL) 0 0 h g1 ∧ cLi g1 (np + 1) (updN3 N np n) (updN3 F np (lF (lsF n f))) (updN3 K np s0.2.1) (updN3 X np s0.2.2) ∧ cPx g1 1 0 (lF [])) ∧ mj_rd g1 412 = some (outC ou) ∧ g = g1.set 412 (outC (vp_updL ou 0 (Int32.toInt64 (nI np))))) (B := rB0 (nI np) j) (b := nI np) hL hi hk ?_ ?_ ?_ (fun g q => q.h) (fun _ _ _ _ g q => hn _ _ _ _ _ q.2.2)
      · refine lw_define_0 (A := fun g1 => mz_mo (dfL) 0 0 h g1 ∧ cLi g1 (np + 1) (updN3 N np n) (updN3 F np (lF (lsF n f))) (updN3 K np s0.2.1) (updN3 X np s0.2.2) ∧ cPx g1 1 0 (lF [])) ⟨_, H0⟩ ?_ (fun g1 q => ?_)
        · refine (mj_Wp.mono (x_def hLi H0 hPx hf hR hnp) (by decide)).imp ?_
          rintro _ ⟨_, g1, rfl, rfl, c1, c2, c3⟩
          exact ⟨_, _, rfl, rfl, c3, c1, c2⟩
        · obtain ⟨m1, cL_, cx⟩ := q
          exact ⟨ou, m1.1 412 (fun q => by have q2 := dfL_m.mp q; omega) _ H412⟩
      · rintro g ⟨g1, ou1, ⟨m1, cL_, cx⟩, a2, hg⟩
        rw [hg]
        exact ⟨_, (rd_setn (by decide)).trans (m1.1 400 (fun q => by have q2 := dfL_m.mp q; omega) _ H400)⟩
      · rintro g ⟨g1, ou1, ⟨m1, cL_, cx⟩, a2, hg⟩
        have ms : mz_mo [412] 0 0 g1 g := by rw [hg]; exact mz_mo.st (by decide) a2 rfl
        have r412 : mj_rd g 412 = some (outC (vp_updL ou1 0 (Int32.toInt64 (nI np)))) := by rw [hg]; exact rd_set (by decide) a2
        clear hg
        have m1s : mz_mo (412 :: (dfL)) 0 0 h g := mo1s m1 ms
        have g400 := m1s.1 400 (fun q => by rcases List.mem_cons.mp q with q | q; (omega); (have q2 := dfL_m.mp q; omega)) _ H400
        have lg := mo_le m1s
        have gY := hY.lo (own := own) m1s.1 (fun x q => by rcases List.mem_cons.mp q with q | q; (omega); (have q2 := dfL_m.mp q; omega)) hY0 hYB
        have gL := hYL.lo w1 oEp m1s.1 (fun x q => by rcases List.mem_cons.mp q with q | q; (constructor <;> omega); (have q2 := dfL_m.mp q; (constructor <;> omega)))
        refine (mj_Wp.mono (y_def hn60 hf gY (by omega) g400 gL hI4 (fun a q => by have := hIl a q; omega) hnp hR) (by decide)).imp ?_
        rintro _ ⟨_, g2, rfl, rfl, y400, D, E', yL, hE', bE', m2⟩
        have mt : mz_mo (412 :: ((dfL) ++ ([400, 401, Ep]))) (0 + 450) (0 + 8500) h g2 := mo3 m1s m2
        have et := mt.1
        have Q412 := m2.1 412 (fun q => by simp only [List.mem_cons, List.not_mem_nil, or_false] at q; omega) _ r412
        have hx0 : ∀ x, x ∈ 412 :: (dfL ++ [400, 401, Ep]) → (own x = 0 ∧ (x = 400 ∨ x = 412 ∨ 1 ≤ x ∧ x < 299 ∨ x = 401)) ∨ (414 ≤ x ∧ (own x = 0 ∨ own x = 1)) := by
          intro x hx
          rcases List.mem_cons.mp hx with hx | hx
          · rw [hx]; exact Or.inl ⟨w1.z (by decide), by decide⟩
          rcases List.mem_append.mp hx with q | q
          · have z : x < 414 ∧ (x = 400 ∨ x = 412 ∨ 1 ≤ x ∧ x < 299 ∨ x = 401) := by have q2 := dfL_m.mp q; omega
            exact Or.inl ⟨w1.z z.1, z.2⟩
          · simp only [List.mem_cons, List.not_mem_nil, or_false] at q
            rcases q with q | q | q
            · rw [q]; exact Or.inl ⟨w1.z (by decide), by decide⟩
            · rw [q]; exact Or.inl ⟨w1.z (by decide), by omega⟩
            · rw [q]; exact Or.inr eO
        have le := mt.2.1
        have l1 := mt.2.2.1
        have l2 := mt.2.2.2
        have qo : pOu g2 := pO.f2 et (fun x hx => by have := hx0 x hx; omega) ⟨_, Q412⟩
        have gYB : ∀ (C : Nat) (rs : List Value), mj_rd g Y = some (.inr (21, .ref C :: rs)) → C < mj_CB → own C = 8 ∧ 414 ≤ C := fun C rs r b => by
          obtain ⟨B0, rs0, r0⟩ := hY.rd
          have r1 := m1s.1 Y (fun q => by rcases List.mem_cons.mp q with q | q; (omega); (have q2 := dfL_m.mp q; omega)) _ r0
          have e := Value.ref.inj (List.cons.inj (Prod.mk.inj (Sum.inr.inj (Option.some.inj (r1.symm.trans r)))).2).1
          have e2 : @Eq Nat B0 C := e
          have z := hYB B0 rs0 r0
          rw [e2] at z
          exact ⟨z.2 b, z.1⟩
        have lE : E' < g2.length := by rcases (ls_len yL.1).2 with z | z <;> omega
        obtain ⟨own', w2, hk1, _, hoE, hJ9⟩ := recolP (J := fun a => dJ (fun a => own a = 9) g Y a ∧ a ≠ E') w1 ln.1 le oEp (by rcases hE' with z | z; exact Or.inl z; exact Or.inr (by omega)) bE' lE (fun a q => ⟨q.2, by
          rcases q.1 with z | z | z | z
          · exact Or.inl z
          · exact Or.inr (Or.inl ⟨by rw [z.1]; exact hYo (by omega), by omega⟩)
          · obtain ⟨⟨rs, r⟩, b⟩ := z
            exact Or.inr (Or.inl (gYB a rs r b))
          · exact Or.inr (Or.inr (by have := z.1; omega))⟩)
        have cx2 : cPx g2 1 0 (lF []) := (cx.fr ms.1 (fun x q => by simp only [cML, wML, List.mem_cons, List.mem_append, List.not_mem_nil, or_false] at q; omega)).fr m2.1 (fun x q => by simp only [List.mem_cons, List.not_mem_nil, or_false] at q; omega)
        have yL2 : yLi (fun a => own' a = 9) g2 (np + 1) (updN3 N np n) (updN3 F np (lF (lsF n f))) (updN3 K np s0.2.1) (updN3 X np s0.2.2) (updN3 PF np D) E' := (yL.rc w2 (by omega) hJ9).cgF (fun p hp i hi => by
          by_cases q : p = np
          · rw [q, updN3_s] at hi ⊢
            rw [updN3_s]
            exact (lF_ls hi).symm
          · rw [updN3_n q, updN3_n q])
        have nL : pLi own' g2 (np + 1) (updN3 K np s0.2.1) (updN3 X np s0.2.2) := ⟨_, _, _, E', (cL_.fr ms.1 (fun x q => by simp only [cML, wML, List.mem_cons, List.mem_append, List.not_mem_nil, or_false] at q; omega)).fr m2.1 (fun x q => by simp only [List.mem_cons, List.not_mem_nil, or_false] at q; omega), yL2, hLo.up hn60 (fun i hi => by rw [lF_ls hi]; exact hf i hi) ((rAll_cg (fun i hi => lF_ls hi)).trans (by rw [hR, ← (rAll_t hf hR).2.2])), fun _ => hoE⟩
        exact ⟨_, _, rfl, rfl, ⟨_, y400⟩, ⟨_, Q412, if_pos rfl⟩, ⟨own', _, _, _, gs, pl, _, wa, nw, nx, (np + 1), (updN3 K np s0.2.1), (updN3 X np s0.2.2), rz, w2, et 0 (fun q => by have := hx0 _ q; omega) _ H0, y400, pTy.mk (own := own') (mz_fr.rf [] g2) (fun x hx => by cases hx) (fun _ q => q) (show 0 ≤ 60 by omega) (fun i hi => absurd hi (Nat.not_lt_zero i)) cx2 (yStr_e (f := lF [])) (by omega) (fun q => by omega) (fun C rs r => yStr_eB r), nL, (pR.fr et (fun x hx => by have := hx0 x hx; omega)).up, pV.fr et (fun x hx => by have := hx0 x hx; omega), pC.fr et (fun x hx => by have := hx0 x hx; omega) (fun a q => (hk1 a (by omega)).trans q), pI.fr et (fun x hx => by have := hx0 x hx; omega), pS.fr et (fun x hx => by have := hx0 x hx; omega), qo, pX.fr et (fun x hx => by have := hx0 x hx; omega), pP.fr et (fun x hx => by have := hx0 x hx; omega) (fun a q => (hk1 a (by omega)).trans q), pG.fr et (fun x hx => by have := hx0 x hx; omega) (fun a q => (hk1 a (by omega)).trans q), by omega, by omega, by omega⟩⟩
    · obtain hnp : np = 6 := by omega
      refine lr_4_2 (i := 4 * j) (A := fun g1 => mz_mo (cL 1) 1 6 h g1 ∧ cPx g1 1 n f) (B := rBc 2 j) (b := nI 0) hL hi hk ?_ ?_ ?_ (fun g q => q.1) (fun _ _ _ _ g q => hn _ _ _ _ _ q.2)
      · refine lw_define_2 (A := fun g1 => mz_mo (cL 1) 1 6 h g1 ∧ cPx g1 1 n f) ⟨_, H0⟩ ?_
        refine (mj_Wp.mono (x_defU hLi H0 hPx hf hR hnp (by omega)) (by decide)).imp ?_
        rintro _ ⟨qq, g1, rfl, c1, c2, c3, c4⟩
        exact ⟨_, _, rfl, c1, c2, c4, c3⟩
      · rintro g ⟨m1, cx⟩
        exact ⟨_, m1.1 400 (fun q => by have q2 := mem_cL.mp q; omega) _ H400⟩
      · rintro g ⟨m1, cx⟩
        have g400 := m1.1 400 (fun q => by have q2 := mem_cL.mp q; omega) _ H400
        have m1s := m1
        have lg := mo_le m1
        have gY := hY.lo (own := own) m1s.1 (fun x q => by have q2 := mem_cL.mp q; omega) hY0 hYB
        have gL := hYL.lo w1 oEp m1s.1 (fun x q => by have q2 := mem_cL.mp q; (constructor <;> omega))
        refine (mj_Wp.mono (y_defU hn60 hf gY (by omega) g400 gL hnp hR) (by decide)).imp ?_
        rintro _ ⟨_, g2, rfl, rfl, y400, m2⟩
        have mt : mz_mo ((cL 1) ++ ([400])) (1 + 310) (6 + 5000) h g2 := mo2 m1 m2
        have et := mt.1
        have hx0 : ∀ x, x ∈ cL 1 ++ [400] → (own x = 0 ∧ (x = 400 ∨ 4 ≤ x ∧ x < 38)) := by
          intro x hx
          rcases List.mem_append.mp hx with q | q
          · have z : x < 414 ∧ (x = 400 ∨ 4 ≤ x ∧ x < 38) := by have q2 := mem_cL.mp q; omega
            exact ⟨w1.z z.1, z.2⟩
          · have z : x < 414 ∧ (x = 400 ∨ 4 ≤ x ∧ x < 38) := by simp only [cML, wML, List.mem_cons, List.mem_append, List.not_mem_nil, or_false] at q; omega
            exact ⟨w1.z z.1, z.2⟩
        have le := mt.2.1
        have l1 := mt.2.2.1
        have l2 := mt.2.2.2
        have qo : pOu g2 := pO.fr et (fun x hx => by have := hx0 x hx; omega)
        exact ⟨_, _, rfl, rfl, ⟨_, y400⟩, ⟨own, _, _, _, gs, pl, _, wa, nw, nx, np, K, X, rz, w1.len le, et 0 (fun q => by have := hx0 _ q; omega) _ H0, y400, pTy.mk et (fun x hx => by have := hx0 x hx; omega) (fun _ q => q) hn60 hf (cx.fr m2.1 (fun x q => by simp only [cML, wML, List.mem_cons, List.mem_append, List.not_mem_nil, or_false] at q; omega)) hY hY0 hYo hYB, pL.fr et (fun x hx => by have := hx0 x hx; omega) (fun _ q => q) (fun a q => by have := (w1 a (by omega)).2; omega) (fun _ q => q), pR.fr et (fun x hx => by have := hx0 x hx; omega), pV.fr et (fun x hx => by have := hx0 x hx; omega), pC.fr et (fun x hx => by have := hx0 x hx; omega) (fun _ q => q), pI.fr et (fun x hx => by have := hx0 x hx; omega), pS.fr et (fun x hx => by have := hx0 x hx; omega), qo, pX.fr et (fun x hx => by have := hx0 x hx; omega), pP.fr et (fun x hx => by have := hx0 x hx; omega) (fun _ q => q), pG.fr et (fun x hx => by have := hx0 x hx; omega) (fun _ q => q), by omega, by omega, by omega⟩⟩
def dfI : List Nat := (List.range 261).map (· + 38)
theorem dfI_m {x : Nat} : x ∈ dfI ↔ 38 ≤ x ∧ x < 299 := by
  unfold dfI
  rw [List.mem_map]
  constructor
  · rintro ⟨i, hi, rfl⟩
    have := List.mem_range.mp hi
    omega
  · exact fun h => ⟨x - 38, List.mem_range.mpr (by omega), by omega⟩
theorem x_inv2 {h : mj_H} {np : Nat} {N : Nat → Nat} {F : Nat → Nat → Nat} {K : Nat → Nat} {X : Nat → Nat → Nat → Nat} (hi : cLi h np N F K X) {gs pl : Value} {sd be : Int64} (h0 : mj_rd h 0 = some (xC_ gs pl sd be)) {p : Nat} (hp : p < np) (hn : np < 6) {y z : Nat → Nat → Nat} (w : wRow (X p) y 6 0 (K p) 0) (hl60 : (pFl y (K p) 0).length ≤ 60) (e2 : rAll (pFl y (K p) 0).length (lF (pFl y (K p) 0)) = .inr ((pFl y (K p) 0).length, K p, z)) : mj_Wp 101 133 (0, [some (.ref 0), some (.int (nI p)), none], [], h) (mz_V fun r g => r = .int (nI np) ∧ cLi g (np + 1) (updN3 N np (pFl y (K p) 0).length) (updN3 F np (lF (pFl y (K p) 0))) (updN3 K np (K p)) (updN3 X np z) ∧ mz_mo dfI 0 0 h g) := by
  obtain ⟨pn, pf, px⟩ := hi.2.2.2.1 np hn
  have hbp : bP np = 77 + 37 * np := rfl
  have hty := w.ty
  rw [Nat.zero_add, Nat.sub_zero] at hty
  have hf2 : ∀ j, j < (pFl y (K p) 0).length → lF (pFl y (K p) 0) j < 65536 := fun j hj => by have := lF_lt hty.lt200 hj; omega
  refine s_aldn (p' := 1) rfl rfl rfl ?_
  refine s_gf (p' := 4) rfl h0 rfl rfl ?_
  refine s_ildn (p' := 5) rfl rfl rfl ?_
  refine s_callV (p' := 8) (ls0 := [_, _]) rfl rfl rfl rfl rfl (mj_rcv_is hi.2.1) rfl (x_lhas hi.2.1 hi.1 (by have := hi.1; omega)) (by first | decide | omega) rfl ?_
  refine s_if (p' := 21) true rfl (by rw [decide_eq_true hp]; decide +kernel) rfl ?_
  refine s_aldn (p' := 22) rfl rfl rfl ?_
  refine s_gf (p' := 25) rfl h0 rfl rfl ?_
  refine s_callV (p' := 28) (ls0 := [_]) rfl rfl rfl rfl rfl (mj_rcv_is hi.2.1) rfl (x_ful0 hi hn) (by first | decide | omega) rfl ?_
  refine s_if (p' := 41) true rfl (by decide +kernel) rfl ?_
  refine s_aldn (p' := 42) rfl rfl rfl ?_
  refine s_gf (p' := 45) rfl h0 rfl rfl ?_
  refine s_callV (p' := 48) (ls0 := [_]) rfl rfl rfl rfl rfl (mj_rcv_is hi.2.1) rfl (x_lnx hi hn) (by first | decide | omega) rfl ?_
  refine s_astn (p' := 49) (ls' := [_, _, _]) rfl rfl rfl rfl ?_
  refine s_aldn (p' := 50) rfl rfl rfl ?_
  refine s_gf (p' := 53) rfl h0 rfl rfl ?_
  refine s_ildn (p' := 54) rfl rfl rfl ?_
  refine s_callV (p' := 57) (ls0 := [_, _]) rfl rfl rfl rfl rfl (mj_rcv_is hi.2.1) rfl (x_lcd hi.lb hp) (by first | decide | omega) rfl ?_
  refine s_aldn (p' := 58) rfl rfl rfl ?_
  refine s_gf (p' := 61) rfl px.1 rfl rfl ?_
  refine s_callEN (p' := 64) (ls0 := [_, _]) rfl rfl rfl rfl rfl (mj_rcv_is (hi.2.2.2.2 p hp).cd.2.1) rfl (x_wb (hi.2.2.2.2 p hp).cd (px.t (by have : mj_CB = 1000000 := rfl; omega)) w hl60) rfl rfl ?_
  rintro g2 ⟨t2, m2⟩
  have z2 := m2.1 0 (fun q => by simp only [List.mem_cons, List.not_mem_nil, or_false] at q; omega) _ h0
  have px2 := px.ct m2.1 t2
  obtain ⟨pa, pk, pp, ps, pm, prd⟩ := px2.rd
  refine s_aldn (p' := 65) rfl rfl rfl ?_
  refine s_gf (p' := 68) rfl px2.1 rfl rfl ?_
  refine s_callEV (p' := 71) (ls0 := [_]) rfl rfl rfl rfl rfl (mj_rcv_is prd) rfl (x_rdT (by omega) px2 hf2 e2 (hi.2.2.2.2 p hp).2.2.1) rfl rfl ?_
  rintro _ g3 ⟨rfl, t3, m3⟩
  have z3 := m3.1 0 (fun q => by have := mem_cL.mp q; omega) _ z2
  have m03 : mz_mo ((bP np + 1) :: (bP np + 2) :: cL (bP np)) 0 0 h g3 := mo00 (mo_L m2 (fun y hy => by simp only [List.mem_cons, List.not_mem_nil, or_false] at hy ⊢; rcases hy with rfl | rfl <;> simp)) (mo_L m3 (fun y hy => by simp only [List.mem_cons]; exact Or.inr (Or.inr hy)))
  have hL3 : ∀ y, y ∈ ((bP np + 1) :: (bP np + 2) :: cL (bP np)) → y < 38 ∨ bP np ≤ y ∧ y < bP np + 37 ∨ 299 ≤ y := fun y hy => by simp only [List.mem_cons] at hy; rcases hy with hy | hy | hy <;> first | omega | (have := mem_cL.mp hy; omega)
  refine s_sp (p' := 72) (ls' := _) rfl rfl rfl ?_
  refine s_aldn (p' := 73) rfl rfl rfl ?_
  refine s_gf (p' := 76) rfl z3 rfl rfl ?_
  refine s_callEV (p' := 79) (ls0 := [_]) rfl rfl rfl rfl rfl (mj_rcv_is (hi.fr38 m03.1 hL3).2) rfl (x_kpn (hi.fr38 m03.1 hL3)) rfl rfl ?_
  rintro _ g5 ⟨rfl, hg⟩
  have k38 := (hi.fr38 m03.1 hL3).2
  have m5 : mz_mo [38] 0 0 g3 g5 := by rw [hg]; exact mz_mo.s (mz_mo.rf _ _ _ _) (by decide) k38 rfl (Or.inl (by simp))
  have z5 : mj_rd g5 38 = some (.inr (6, [.ref 39, .ref 40, .int (nI (np + 1))])) := by rw [hg]; exact rd_set (by decide) k38
  clear hg
  have m05 : mz_mo (38 :: ((bP np + 1) :: (bP np + 2) :: cL (bP np))) 0 0 h g5 := mo00 (mo_L m03 (fun y hy => List.mem_cons_of_mem _ hy)) (mo_L m5 (fun y hy => by rw [List.mem_singleton.mp hy]; exact List.mem_cons_self))
  have hL5 : ∀ y, y ∈ (38 :: ((bP np + 1) :: (bP np + 2) :: cL (bP np))) → y < 39 ∨ bP np ≤ y ∧ y < bP np + 37 ∨ 299 ≤ y := fun y hy => by
    rcases List.mem_cons.mp hy with rfl | hy
    · exact Or.inl (by decide)
    · have := hL3 y hy; omega
  have hL6 : ∀ y, y ∈ (38 :: ((bP np + 1) :: (bP np + 2) :: cL (bP np))) → y ∈ dfI := fun y hy => by
    refine dfI_m.mpr ?_
    simp only [List.mem_cons] at hy
    rcases hy with hy | hy | hy | hy <;> first | omega | (have := mem_cL.mp hy; omega)
  refine s_iret rfl rfl ?_
  exact ⟨_, _, rfl, rfl, hi.up m05.1 hn hL5 z5 (t3.fr m5.1 (fun x hx => by rw [List.mem_singleton.mp hx]; omega)), mo_L m05 hL6⟩
theorem r_5 {L j : Nat} {xs : Nat → Int32} {h : mj_H} {l6 l7 l8 l9 : Option Value} {P : mj_H → Prop} {own : Nat → Nat} {th : Int32} {sd be : Int64} {gs pl ty wa nw nx : Value} {np : Nat} {K : Nat → Nat} {X : Nat → Nat → Nat → Nat} {rz : Nat} (w : wJ own th sd be gs pl ty wa nw nx np K X rz j h) (hL : L ≤ 2048) (hi : 4 * j + 4 ≤ L) (hk : xs (4 * j) &&& nI 63 = nI 5) (hn : ∀ (l6 l7 l8 l9 : Option Value) (g : mj_H), wI (j + 1) g → mj_lrun L xs (28, [some (.retAddr 1), some (.ref 0), some (.ref 400), some (.ref 412), some (.ref 413), some (.int (nI (4 * j + 4))), l6, l7, l8, l9], [], g) P) : mj_lrun L xs (28, [some (.retAddr 1), some (.ref 0), some (.ref 400), some (.ref 412), some (.ref 413), some (.int (nI (4 * j))), l6, l7, l8, l9], [], h) P := by
  obtain ⟨w1, H0, H400, pT, pL, pR, pV, pC, pI, pS, pO, pX, pP, pG, j5, b1, b2⟩ := id w
  have ln := w.len
  obtain ⟨⟨ou, H412⟩, od, H413⟩ := id pO
  obtain ⟨N, F, PF, Ep, hLi, hYL, hLo, oEp⟩ := id pL
  have np6 := hLi.1
  have e1 : mj_CB = 1000000 := rfl
  have hpk := hLo.pOk np6
  have hcb := hLi.lb
  have hIl : ∀ a, own a = 9 → a < h.length := fun a q => (w1 a (by omega)).2
  have hI4 : ∀ a, own a = 9 → a ≠ 400 ∧ a ≠ 401 ∧ a ≠ Ep := fun a q => by
    have z := w1 a (by omega)
    refine ⟨by omega, by omega, fun e => ?_⟩
    rw [e] at q z
    have := oEp (by omega)
    omega
  have hIn : ¬ own 400 = 9 := fun q => by have := w1 400 (by omega); omega
  have hIw : ∀ x, x ∈ wML 402 → ¬ own x = 9 := fun x hx q => by have := wML_m.mp hx; have := w1 x (by omega); omega
  have eO : 414 ≤ Ep ∧ (own Ep = 0 ∨ own Ep = 1) := by
    rcases (ls_len hYL.1).2 with z | z
    · refine ⟨by omega, Or.inl ?_⟩
      by_cases y : own Ep = 0
      · exact y
      · have := w1 Ep y; omega
    · have y := oEp (by omega)
      have := w1 Ep (by omega)
      omega
  rcases (by omega : (xs (4 * j + 1)).toInt < 0 ∨ 0 ≤ (xs (4 * j + 1)).toInt) with q | q
  · have hpr : (xs (4 * j + 1)).toInt < 0 ∨ (np : Int) ≤ (xs (4 * j + 1)).toInt := Or.inl q
    refine lr_5_1 (i := 4 * j) (A := fun g1 => mz_mo ([]) 1 6 h g1) (B := rBc 1 j) (b := nI 0) hL hi hk ?_ ?_ ?_ (fun g q => q.1) (fun _ _ _ _ g q => hn _ _ _ _ _ q.2)
    · refine lw_invert_1 (A := fun g1 => mz_mo ([]) 1 6 h g1) ⟨_, H0⟩ ?_
      exact thrN (x_invT hLi H0 hpr) (by decide) (by omega) rfl
    · rintro g m1
      exact ⟨_, m1.1 400 (fun q => by cases q) _ H400⟩
    · rintro g m1
      have g400 := m1.1 400 (fun q => by cases q) _ H400
      have m1s := m1
      have lg := mo_le m1
      have gL := hYL.lo w1 oEp m1s.1 (fun x q => by cases q)
      refine (mj_Wp.mono (y_invT gL np6 g400 hpr) (by decide)).imp ?_
      rintro _ ⟨_, g2, rfl, rfl, y400, m2⟩
      have mt : mz_mo (([]) ++ ([400])) (1 + 0) (6 + 0) h g2 := mo2 m1 m2
      have et := mt.1
      have hx0 : ∀ x, x ∈ [] ++ [400] → (own x = 0 ∧ (x = 400)) := by
        intro x hx
        rcases List.mem_append.mp hx with q | q
        · cases q
        · have z : x < 414 ∧ (x = 400) := by simp only [cML, wML, List.mem_cons, List.mem_append, List.not_mem_nil, or_false] at q; omega
          exact ⟨w1.z z.1, z.2⟩
      have le := mt.2.1
      have l1 := mt.2.2.1
      have l2 := mt.2.2.2
      have qo : pOu g2 := pO.fr et (fun x hx => by have := hx0 x hx; omega)
      exact ⟨_, _, rfl, rfl, ⟨_, y400⟩, ⟨own, _, _, _, gs, pl, _, wa, nw, nx, np, K, X, rz, w1.len le, et 0 (fun q => by have := hx0 _ q; omega) _ H0, y400, pT.fr et (fun x hx => by have := hx0 x hx; omega) (fun _ q => q), pL.fr et (fun x hx => by have := hx0 x hx; omega) (fun _ q => q) (fun a q => by have := (w1 a (by omega)).2; omega) (fun _ q => q), pR.fr et (fun x hx => by have := hx0 x hx; omega), pV.fr et (fun x hx => by have := hx0 x hx; omega), pC.fr et (fun x hx => by have := hx0 x hx; omega) (fun _ q => q), pI.fr et (fun x hx => by have := hx0 x hx; omega), pS.fr et (fun x hx => by have := hx0 x hx; omega), qo, pX.fr et (fun x hx => by have := hx0 x hx; omega), pP.fr et (fun x hx => by have := hx0 x hx; omega) (fun _ q => q), pG.fr et (fun x hx => by have := hx0 x hx; omega) (fun _ q => q), by omega, by omega, by omega⟩⟩
  · obtain ⟨p, hpb, hx1⟩ := toI_ex q
    by_cases hp : p < np
    · obtain ⟨ht, hl⟩ := hLo.t hp
      obtain ⟨y, wr⟩ := wRow.mk ht 0
      have wr : wRow (X p) y 6 0 (K p) 0 := wr
      have hty := wr.ty0
      have hl60 : (pFl y (K p) 0).length ≤ 60 := by rw [wr.ln0]; exact hl
      have hk30 := (hpk.2 p hp).1
      obtain ⟨z, ez1, ez⟩ := rAll_p hty rfl hl60 (f := lF (pFl y (K p) 0)) lF_p
      by_cases hnp : np < 6
      · refine lr_5_0 (i := 4 * j) (A := fun g => ∃ (g1 : mj_H) (ou : Nat → Int64), (mz_mo (dfI) 0 0 h g1 ∧ cLi g1 (np + 1) (updN3 N np (pFl y (K p) 0).length) (updN3 F np (lF (pFl y (K p) 0))) (updN3 K np (K p)) (updN3 X np z)) ∧ mj_rd g1 412 = some (outC ou) ∧ g = g1.set 412 (outC (vp_updL ou 0 (Int32.toInt64 (nI np))))) (B := rB0 (nI np) j) (b := nI np) hL hi hk ?_ ?_ ?_ (fun g q => q.h) (fun _ _ _ _ g q => hn _ _ _ _ _ q.2.2)
        · rw [hx1]
          refine lw_invert_0 (A := fun g1 => mz_mo (dfI) 0 0 h g1 ∧ cLi g1 (np + 1) (updN3 N np (pFl y (K p) 0).length) (updN3 F np (lF (pFl y (K p) 0))) (updN3 K np (K p)) (updN3 X np z)) ⟨_, H0⟩ ?_ (fun g1 q => ?_)
          · refine (mj_Wp.mono (x_inv2 hLi H0 hp hnp wr hl60 ez1) (by decide)).imp ?_
            rintro _ ⟨_, g1, rfl, rfl, c1, c3⟩
            exact ⟨_, _, rfl, rfl, c3, c1⟩
          · obtain ⟨m1, cL_⟩ := q
            exact ⟨ou, m1.1 412 (fun q => by have q2 := dfI_m.mp q; omega) _ H412⟩
        · rintro g ⟨g1, ou1, ⟨m1, cL_⟩, a2, hg⟩
          rw [hg]
          exact ⟨_, (rd_setn (by decide)).trans (m1.1 400 (fun q => by have q2 := dfI_m.mp q; omega) _ H400)⟩
        · rintro g ⟨g1, ou1, ⟨m1, cL_⟩, a2, hg⟩
          have ms : mz_mo [412] 0 0 g1 g := by rw [hg]; exact mz_mo.st (by decide) a2 rfl
          have r412 : mj_rd g 412 = some (outC (vp_updL ou1 0 (Int32.toInt64 (nI np)))) := by rw [hg]; exact rd_set (by decide) a2
          clear hg
          have m1s : mz_mo (412 :: (dfI)) 0 0 h g := mo1s m1 ms
          have g400 := m1s.1 400 (fun q => by rcases List.mem_cons.mp q with q | q; (omega); (have q2 := dfI_m.mp q; omega)) _ H400
          have lg := mo_le m1s
          have gL := hYL.lo w1 oEp m1s.1 (fun x q => by rcases List.mem_cons.mp q with q | q; (constructor <;> omega); (have q2 := dfI_m.mp q; (constructor <;> omega)))
          rw [hx1]
          refine (mj_Wp.mono (y_inv gL np6 g400 hp hnp hI4 (fun a q => by have := hIl a q; omega) hk30 wr hl60 ez (by omega)) (by decide)).imp ?_
          rintro _ ⟨_, g2, rfl, rfl, y400, D, E', yL, hE', bE', m2⟩
          have mt : mz_mo (412 :: ((dfI) ++ ([400, 401, Ep]))) (0 + 1500) (0 + 38000) h g2 := mo3 m1s m2
          have et := mt.1
          have Q412 := m2.1 412 (fun q => by simp only [List.mem_cons, List.not_mem_nil, or_false] at q; omega) _ r412
          have hx0 : ∀ x, x ∈ 412 :: (dfI ++ [400, 401, Ep]) → (own x = 0 ∧ (x = 400 ∨ x = 412 ∨ 38 ≤ x ∧ x < 299 ∨ x = 401)) ∨ (414 ≤ x ∧ (own x = 0 ∨ own x = 1)) := by
            intro x hx
            rcases List.mem_cons.mp hx with hx | hx
            · rw [hx]; exact Or.inl ⟨w1.z (by decide), by decide⟩
            rcases List.mem_append.mp hx with q | q
            · have z : x < 414 ∧ (x = 400 ∨ x = 412 ∨ 38 ≤ x ∧ x < 299 ∨ x = 401) := by have q2 := dfI_m.mp q; omega
              exact Or.inl ⟨w1.z z.1, z.2⟩
            · simp only [List.mem_cons, List.not_mem_nil, or_false] at q
              rcases q with q | q | q
              · rw [q]; exact Or.inl ⟨w1.z (by decide), by decide⟩
              · rw [q]; exact Or.inl ⟨w1.z (by decide), by omega⟩
              · rw [q]; exact Or.inr eO
          have le := mt.2.1
          have l1 := mt.2.2.1
          have l2 := mt.2.2.2
          have qo : pOu g2 := pO.f2 et (fun x hx => by have := hx0 x hx; omega) ⟨_, Q412⟩
          have lE : E' < g2.length := by rcases (ls_len yL.1).2 with z | z <;> omega
          obtain ⟨own', w2, hk1, hk8, hoE, hJ9⟩ := recolP (J := fun a => bI (fun a => own a = 9) g a ∧ a ≠ E') w1 ln.1 le oEp (by rcases hE' with z | z; exact Or.inl z; exact Or.inr (by omega)) bE' lE (fun a q => ⟨q.2, by
            rcases q.1 with z | z
            · exact Or.inl z
            · exact Or.inr (Or.inr (by have := z.1; omega))⟩)
          have hk9 : ∀ a, own a = 8 → own' a = 8 := fun a q => hk8 a q (fun z => by
            have := (w1 a (by omega)).2
            rcases z.1 with y | y
            · omega
            · have := y.1; omega)
          have nL : pLi own' g2 (np + 1) (updN3 K np (K p)) (updN3 X np z) := ⟨_, _, _, E', (cL_.fr ms.1 (fun x q => by simp only [cML, wML, List.mem_cons, List.mem_append, List.not_mem_nil, or_false] at q; omega)).fr m2.1 (fun x q => by simp only [List.mem_cons, List.not_mem_nil, or_false] at q; omega), yL.rc w2 (by omega) hJ9, hLo.up hl60 (fun i hi => by have := lF_lt hty.lt200 hi; omega) ez1, fun _ => hoE⟩
          exact ⟨_, _, rfl, rfl, ⟨_, y400⟩, ⟨_, Q412, if_pos rfl⟩, ⟨own', _, _, _, gs, pl, _, wa, nw, nx, (np + 1), (updN3 K np (K p)), (updN3 X np z), rz, w2, et 0 (fun q => by have := hx0 _ q; omega) _ H0, y400, pT.fr et (fun x hx => by have := hx0 x hx; omega) hk9, nL, (pR.fr et (fun x hx => by have := hx0 x hx; omega)).up, pV.fr et (fun x hx => by have := hx0 x hx; omega), pC.fr et (fun x hx => by have := hx0 x hx; omega) (fun a q => (hk1 a (by omega)).trans q), pI.fr et (fun x hx => by have := hx0 x hx; omega), pS.fr et (fun x hx => by have := hx0 x hx; omega), qo, pX.fr et (fun x hx => by have := hx0 x hx; omega), pP.fr et (fun x hx => by have := hx0 x hx; omega) (fun a q => (hk1 a (by omega)).trans q), pG.fr et (fun x hx => by have := hx0 x hx; omega) (fun a q => (hk1 a (by omega)).trans q), by omega, by omega, by omega⟩⟩
      · obtain hnp : np = 6 := by omega
        refine lr_5_2 (i := 4 * j) (A := fun g1 => mz_mo ([]) 1 6 h g1) (B := rBc 2 j) (b := nI 0) hL hi hk ?_ ?_ ?_ (fun g q => q.1) (fun _ _ _ _ g q => hn _ _ _ _ _ q.2)
        · rw [hx1]
          refine lw_invert_2 (A := fun g1 => mz_mo ([]) 1 6 h g1) ⟨_, H0⟩ ?_
          exact thrN (x_invU hLi H0 hp hnp) (by decide) (by omega) rfl
        · rintro g m1
          exact ⟨_, m1.1 400 (fun q => by cases q) _ H400⟩
        · rintro g m1
          have g400 := m1.1 400 (fun q => by cases q) _ H400
          have m1s := m1
          have lg := mo_le m1
          have gL := hYL.lo w1 oEp m1s.1 (fun x q => by cases q)
          rw [hx1]
          refine (mj_Wp.mono (y_invU gL np6 g400 hp hnp) (by decide)).imp ?_
          rintro _ ⟨_, g2, rfl, rfl, y400, m2⟩
          have mt : mz_mo (([]) ++ ([400])) (1 + 0) (6 + 0) h g2 := mo2 m1 m2
          have et := mt.1
          have hx0 : ∀ x, x ∈ [] ++ [400] → (own x = 0 ∧ (x = 400)) := by
            intro x hx
            rcases List.mem_append.mp hx with q | q
            · cases q
            · have z : x < 414 ∧ (x = 400) := by simp only [cML, wML, List.mem_cons, List.mem_append, List.not_mem_nil, or_false] at q; omega
              exact ⟨w1.z z.1, z.2⟩
          have le := mt.2.1
          have l1 := mt.2.2.1
          have l2 := mt.2.2.2
          have qo : pOu g2 := pO.fr et (fun x hx => by have := hx0 x hx; omega)
          exact ⟨_, _, rfl, rfl, ⟨_, y400⟩, ⟨own, _, _, _, gs, pl, _, wa, nw, nx, np, K, X, rz, w1.len le, et 0 (fun q => by have := hx0 _ q; omega) _ H0, y400, pT.fr et (fun x hx => by have := hx0 x hx; omega) (fun _ q => q), pL.fr et (fun x hx => by have := hx0 x hx; omega) (fun _ q => q) (fun a q => by have := (w1 a (by omega)).2; omega) (fun _ q => q), pR.fr et (fun x hx => by have := hx0 x hx; omega), pV.fr et (fun x hx => by have := hx0 x hx; omega), pC.fr et (fun x hx => by have := hx0 x hx; omega) (fun _ q => q), pI.fr et (fun x hx => by have := hx0 x hx; omega), pS.fr et (fun x hx => by have := hx0 x hx; omega), qo, pX.fr et (fun x hx => by have := hx0 x hx; omega), pP.fr et (fun x hx => by have := hx0 x hx; omega) (fun _ q => q), pG.fr et (fun x hx => by have := hx0 x hx; omega) (fun _ q => q), by omega, by omega, by omega⟩⟩
    · have hpr : (xs (4 * j + 1)).toInt < 0 ∨ (np : Int) ≤ (xs (4 * j + 1)).toInt := Or.inr (by rw [hx1, mI_ti hpb]; omega)
      refine lr_5_1 (i := 4 * j) (A := fun g1 => mz_mo ([]) 1 6 h g1) (B := rBc 1 j) (b := nI 0) hL hi hk ?_ ?_ ?_ (fun g q => q.1) (fun _ _ _ _ g q => hn _ _ _ _ _ q.2)
      · refine lw_invert_1 (A := fun g1 => mz_mo ([]) 1 6 h g1) ⟨_, H0⟩ ?_
        exact thrN (x_invT hLi H0 hpr) (by decide) (by omega) rfl
      · rintro g m1
        exact ⟨_, m1.1 400 (fun q => by cases q) _ H400⟩
      · rintro g m1
        have g400 := m1.1 400 (fun q => by cases q) _ H400
        have m1s := m1
        have lg := mo_le m1
        have gL := hYL.lo w1 oEp m1s.1 (fun x q => by cases q)
        refine (mj_Wp.mono (y_invT gL np6 g400 hpr) (by decide)).imp ?_
        rintro _ ⟨_, g2, rfl, rfl, y400, m2⟩
        have mt : mz_mo (([]) ++ ([400])) (1 + 0) (6 + 0) h g2 := mo2 m1 m2
        have et := mt.1
        have hx0 : ∀ x, x ∈ [] ++ [400] → (own x = 0 ∧ (x = 400)) := by
          intro x hx
          rcases List.mem_append.mp hx with q | q
          · cases q
          · have z : x < 414 ∧ (x = 400) := by simp only [cML, wML, List.mem_cons, List.mem_append, List.not_mem_nil, or_false] at q; omega
            exact ⟨w1.z z.1, z.2⟩
        have le := mt.2.1
        have l1 := mt.2.2.1
        have l2 := mt.2.2.2
        have qo : pOu g2 := pO.fr et (fun x hx => by have := hx0 x hx; omega)
        exact ⟨_, _, rfl, rfl, ⟨_, y400⟩, ⟨own, _, _, _, gs, pl, _, wa, nw, nx, np, K, X, rz, w1.len le, et 0 (fun q => by have := hx0 _ q; omega) _ H0, y400, pT.fr et (fun x hx => by have := hx0 x hx; omega) (fun _ q => q), pL.fr et (fun x hx => by have := hx0 x hx; omega) (fun _ q => q) (fun a q => by have := (w1 a (by omega)).2; omega) (fun _ q => q), pR.fr et (fun x hx => by have := hx0 x hx; omega), pV.fr et (fun x hx => by have := hx0 x hx; omega), pC.fr et (fun x hx => by have := hx0 x hx; omega) (fun _ q => q), pI.fr et (fun x hx => by have := hx0 x hx; omega), pS.fr et (fun x hx => by have := hx0 x hx; omega), qo, pX.fr et (fun x hx => by have := hx0 x hx; omega), pP.fr et (fun x hx => by have := hx0 x hx; omega) (fun _ q => q), pG.fr et (fun x hx => by have := hx0 x hx; omega) (fun _ q => q), by omega, by omega, by omega⟩⟩
theorem mo1d {L : List Nat} {k z : Nat} {h g1 g : mj_H} (m : mz_mo L k z h g1) (ms : mz_mo [413] 0 0 g1 g) : mz_mo (413 :: L) k z h g :=
  (m.wk (L' := 413 :: L) (fun _ q => Or.inl (List.mem_cons_of_mem _ q)) (Nat.le_refl _) (Nat.le_refl _)).tr ms (fun y q => Or.inl (by rw [List.mem_singleton.mp q]; exact List.mem_cons_self)) (Nat.le_refl _) (Nat.le_refl _)
theorem mo3d {L L2 : List Nat} {k z k2 z2 : Nat} {h g1 g : mj_H} (m : mz_mo (413 :: L) k z h g1) (m2 : mz_mo L2 k2 z2 g1 g) : mz_mo (413 :: (L ++ L2)) (k + k2) (z + z2) h g := mo2 m m2
theorem smK_0 {K : Nat → Nat} {np : Nat} (h : ∀ p, p < np → K p ≤ 30) (h6 : np ≤ 6) : smK K np ≤ 180 := by
  have := smK_le np h
  omega
theorem r_48 {L j : Nat} {xs : Nat → Int32} {h : mj_H} {l6 l7 l8 l9 : Option Value} {P : mj_H → Prop} {own : Nat → Nat} {th : Int32} {sd be : Int64} {gs pl ty wa nw nx : Value} {np : Nat} {K : Nat → Nat} {X : Nat → Nat → Nat → Nat} {rz : Nat} (w : wJ own th sd be gs pl ty wa nw nx np K X rz j h) (hL : L ≤ 2048) (hi : 4 * j + 4 ≤ L) (hk : xs (4 * j) &&& nI 63 = nI 48) (hn : ∀ (l6 l7 l8 l9 : Option Value) (g : mj_H), wI (j + 1) g → mj_lrun L xs (28, [some (.retAddr 1), some (.ref 0), some (.ref 400), some (.ref 412), some (.ref 413), some (.int (nI (4 * j + 4))), l6, l7, l8, l9], [], g) P) : mj_lrun L xs (28, [some (.retAddr 1), some (.ref 0), some (.ref 400), some (.ref 412), some (.ref 413), some (.int (nI (4 * j))), l6, l7, l8, l9], [], h) P := by
  obtain ⟨w1, H0, H400, pT, pL, pR, pV, pC, pI, pS, pO, pX, pP, pG, j5, b1, b2⟩ := id w
  have ln := w.len
  obtain ⟨⟨ou, H412⟩, od, H413⟩ := id pO
  obtain ⟨N, F, PF, Ep, hLi, hYL, hLo, oEp⟩ := id pL
  have np6 := hLi.1
  have e1 : mj_CB = 1000000 := rfl
  have hpk := hLo.pOk np6
  have hcb := hLi.lb
  have hIl : ∀ a, own a = 9 → a < h.length := fun a q => (w1 a (by omega)).2
  have hI4 : ∀ a, own a = 9 → a ≠ 400 ∧ a ≠ 401 ∧ a ≠ Ep := fun a q => by
    have z := w1 a (by omega)
    refine ⟨by omega, by omega, fun e => ?_⟩
    rw [e] at q z
    have := oEp (by omega)
    omega
  have hIn : ¬ own 400 = 9 := fun q => by have := w1 400 (by omega); omega
  have hIw : ∀ x, x ∈ wML 402 → ¬ own x = 9 := fun x hx q => by have := wML_m.mp hx; have := w1 x (by omega); omega
  have hK30 : ∀ p, p < np → K p ≤ 30 := fun p hp => (hpk.2 p hp).1
  by_cases hz : np = 0
  · refine lr_48_1 (i := 4 * j) (A := fun g1 => mz_mo ([]) 1 6 h g1) (B := rBc 1 j) (b := FP.dconst0) hL hi hk ?_ ?_ ?_ (fun g q => q.1) (fun _ _ _ _ g q => hn _ _ _ _ _ q.2)
    · refine lw_ms_1 (A := fun g1 => mz_mo ([]) 1 6 h g1) ⟨_, H0⟩ ?_
      exact (mj_Wp.mono (x_ms0 hLi H0 hz) (by decide)).imp (by rintro _ rfl; exact ⟨_, _, rfl, by omega, rd_nw (Nat.blt_eq.mpr (by omega)) rfl, mz_mo.ap [] _ _⟩)
    · rintro g m1
      exact ⟨_, m1.1 400 (fun q => by cases q) _ H400⟩
    · rintro g m1
      have g400 := m1.1 400 (fun q => by cases q) _ H400
      have m1s := m1
      have lg := mo_le m1
      have gL := hYL.lo w1 oEp m1s.1 (fun x q => by cases q)
      refine (mj_Wp.mono (y_ms1 gL np6 hI4 (fun a q => by have := hIl a q; omega) hK30 (by omega) g400 hz) (by decide)).imp ?_
      rintro _ ⟨_, g2, rfl, rfl, y400, m2⟩
      have mt : mz_mo (([]) ++ ([400])) (1 + 1) (6 + 4) h g2 := mo2 m1 m2
      have et := mt.1
      have hx0 : ∀ x, x ∈ [] ++ [400] → (own x = 0 ∧ (x = 400)) := by
        intro x hx
        rcases List.mem_append.mp hx with q | q
        · cases q
        · have z : x < 414 ∧ (x = 400) := by simp only [cML, wML, List.mem_cons, List.mem_append, List.not_mem_nil, or_false] at q; omega
          exact ⟨w1.z z.1, z.2⟩
      have le := mt.2.1
      have l1 := mt.2.2.1
      have l2 := mt.2.2.2
      have qo : pOu g2 := pO.fr et (fun x hx => by have := hx0 x hx; omega)
      exact ⟨_, _, rfl, rfl, ⟨_, y400⟩, ⟨own, _, _, _, gs, pl, _, wa, nw, nx, np, K, X, rz, w1.len le, et 0 (fun q => by have := hx0 _ q; omega) _ H0, y400, pT.fr et (fun x hx => by have := hx0 x hx; omega) (fun _ q => q), pL.fr et (fun x hx => by have := hx0 x hx; omega) (fun _ q => q) (fun a q => by have := (w1 a (by omega)).2; omega) (fun _ q => q), pR.fr et (fun x hx => by have := hx0 x hx; omega), pV.fr et (fun x hx => by have := hx0 x hx; omega), pC.fr et (fun x hx => by have := hx0 x hx; omega) (fun _ q => q), pI.fr et (fun x hx => by have := hx0 x hx; omega), pS.fr et (fun x hx => by have := hx0 x hx; omega), qo, pX.fr et (fun x hx => by have := hx0 x hx; omega), pP.fr et (fun x hx => by have := hx0 x hx; omega) (fun _ q => q), pG.fr et (fun x hx => by have := hx0 x hx; omega) (fun _ q => q), by omega, by omega, by omega⟩⟩
  · have hdq := dq_ok (smK_0 hK30 np6) (by omega : 1 ≤ np) np6
    refine lr_48_0 (i := 4 * j) (A := fun g => ∃ (g1 : mj_H) (ou : Nat → UInt64), mz_mo [] 0 0 h g1 ∧ mj_rd g1 413 = some (.inl (5, (1, .inr (.inr (.inr (.inl ou)))))) ∧ g = g1.set 413 (.inl (5, (1, .inr (.inr (.inr (.inl (vf_upd ou 0 (dq (smK K np) np))))))))) (B := fun g => (∃ rs : List Value, mj_rd g 400 = some (.inr (17, .int (nI 0) :: rs))) ∧ (∃ ou : Nat → UInt64, mj_rd g 413 = some (.inl (5, (1, .inr (.inr (.inr (.inl ou)))))) ∧ ou 0 = dq (smK K np) np) ∧ wI (j + 1) g) (b := dq (smK K np) np) hL hi hk ?_ ?_ ?_ (fun g q => ?_) hdq.2 (fun _ _ _ _ g q => hn _ _ _ _ _ q.2.2)
    · exact lw_ms_0 (A := fun g1 => mz_mo [] 0 0 h g1) ⟨_, H0⟩ ((mj_Wp.mono (x_ms hLi H0 (by omega)) (by decide)).imp (by rintro _ rfl; exact ⟨_, _, rfl, rfl, mz_mo.rf _ _ _ _⟩)) (fun g1 q => ⟨od, q.1 413 (fun q => by cases q) _ H413⟩)
    · rintro g ⟨g1, ou1, m1, a2, hg⟩
      rw [hg]
      exact ⟨_, (rd_setn (by decide)).trans (m1.1 400 (fun q => by cases q) _ H400)⟩
    · rintro g ⟨g1, ou1, m1, a2, hg⟩
      have ms : mz_mo [413] 0 0 g1 g := by rw [hg]; exact mz_mo.st (by decide) a2 rfl
      have r412 : mj_rd g 413 = some (.inl (5, (1, .inr (.inr (.inr (.inl (vf_upd ou1 0 (dq (smK K np) np)))))))) := by rw [hg]; exact rd_set (by decide) a2
      clear hg
      have m1s : mz_mo (413 :: []) 0 0 h g := mo1d m1 ms
      have g400 := m1s.1 400 (by decide) _ H400
      have lg := mo_le m1s
      have gL := hYL.lo w1 oEp m1s.1 (fun x q => by rcases List.mem_cons.mp q with q | q; (constructor <;> omega); (cases q))
      refine (mj_Wp.mono (y_ms0 gL np6 hI4 (fun a q => by have := hIl a q; omega) hK30 (by omega) g400 (by omega)) (by decide)).imp ?_
      rintro _ ⟨_, g2, rfl, rfl, y400, m2⟩
      have mt : mz_mo (413 :: (([]) ++ ([400]))) (0 + 1) (0 + 4) h g2 := mo3d m1s m2
      have et := mt.1
      have Q412 := m2.1 413 (by decide) _ r412
      have hx0 : ∀ x, x ∈ 413 :: ([] ++ [400]) → (own x = 0 ∧ (x = 400 ∨ x = 413)) := by
        intro x hx
        rcases List.mem_cons.mp hx with hx | hx
        · rw [hx]; exact ⟨w1.z (by decide), by decide⟩
        rcases List.mem_append.mp hx with q | q
        · cases q
        · have z : x < 414 ∧ (x = 400 ∨ x = 413) := by simp only [cML, wML, List.mem_cons, List.mem_append, List.not_mem_nil, or_false] at q; omega
          exact ⟨w1.z z.1, z.2⟩
      have le := mt.2.1
      have l1 := mt.2.2.1
      have l2 := mt.2.2.2
      have qo : pOu g2 := ⟨⟨ou, et 412 (by decide) _ H412⟩, _, Q412⟩
      exact ⟨_, _, rfl, rfl, ⟨_, y400⟩, ⟨_, Q412, if_pos rfl⟩, ⟨own, _, _, _, gs, pl, _, wa, nw, nx, np, K, X, rz, w1.len le, et 0 (fun q => by have := hx0 _ q; omega) _ H0, y400, pT.fr et (fun x hx => by have := hx0 x hx; omega) (fun _ q => q), pL.fr et (fun x hx => by have := hx0 x hx; omega) (fun _ q => q) (fun a q => by have := (w1 a (by omega)).2; omega) (fun _ q => q), pR.fr et (fun x hx => by have := hx0 x hx; omega), pV.fr et (fun x hx => by have := hx0 x hx; omega), pC.fr et (fun x hx => by have := hx0 x hx; omega) (fun _ q => q), pI.fr et (fun x hx => by have := hx0 x hx; omega), pS.fr et (fun x hx => by have := hx0 x hx; omega), qo, pX.fr et (fun x hx => by have := hx0 x hx; omega), pP.fr et (fun x hx => by have := hx0 x hx; omega) (fun _ q => q), pG.fr et (fun x hx => by have := hx0 x hx; omega) (fun _ q => q), by omega, by omega, by omega⟩⟩
    · obtain ⟨⟨rs, a⟩, b, _⟩ := q
      exact ⟨rs, a, b⟩
theorem r_49 {L j : Nat} {xs : Nat → Int32} {h : mj_H} {l6 l7 l8 l9 : Option Value} {P : mj_H → Prop} {own : Nat → Nat} {th : Int32} {sd be : Int64} {gs pl ty wa nw nx : Value} {np : Nat} {K : Nat → Nat} {X : Nat → Nat → Nat → Nat} {rz : Nat} (w : wJ own th sd be gs pl ty wa nw nx np K X rz j h) (hL : L ≤ 2048) (hi : 4 * j + 4 ≤ L) (hk : xs (4 * j) &&& nI 63 = nI 49) (hn : ∀ (l6 l7 l8 l9 : Option Value) (g : mj_H), wI (j + 1) g → mj_lrun L xs (28, [some (.retAddr 1), some (.ref 0), some (.ref 400), some (.ref 412), some (.ref 413), some (.int (nI (4 * j + 4))), l6, l7, l8, l9], [], g) P) : mj_lrun L xs (28, [some (.retAddr 1), some (.ref 0), some (.ref 400), some (.ref 412), some (.ref 413), some (.int (nI (4 * j))), l6, l7, l8, l9], [], h) P := by
  obtain ⟨w1, H0, H400, pT, pL, pR, pV, pC, pI, pS, pO, pX, pP, pG, j5, b1, b2⟩ := id w
  have ln := w.len
  obtain ⟨⟨ou, H412⟩, od, H413⟩ := id pO
  obtain ⟨N, F, PF, Ep, hLi, hYL, hLo, oEp⟩ := id pL
  have np6 := hLi.1
  have e1 : mj_CB = 1000000 := rfl
  have hpk := hLo.pOk np6
  have hcb := hLi.lb
  have hIl : ∀ a, own a = 9 → a < h.length := fun a q => (w1 a (by omega)).2
  have hI4 : ∀ a, own a = 9 → a ≠ 400 ∧ a ≠ 401 ∧ a ≠ Ep := fun a q => by
    have z := w1 a (by omega)
    refine ⟨by omega, by omega, fun e => ?_⟩
    rw [e] at q z
    have := oEp (by omega)
    omega
  have hIn : ¬ own 400 = 9 := fun q => by have := w1 400 (by omega); omega
  have hIw : ∀ x, x ∈ wML 402 → ¬ own x = 9 := fun x hx q => by have := wML_m.mp hx; have := w1 x (by omega); omega
  obtain ⟨n, E, G, rf, mf, hg24, H393, H394, hls, hGG, hEo⟩ := id pC
  obtain ⟨⟨s1_, S1⟩, ⟨s2_, S2⟩, ⟨s3_, S3⟩, s4_, S4⟩ := id pS
  obtain ⟨X1, X2, X3⟩ := id pX
  refine lr_49 (i := 4 * j) (A := fun g1 => mz_mo (soL ++ [393, 395, 396]) 0 0 h g1 ∧ (∃ n f, cPx g1 299 n f) ∧ (∃ n f, cPx g1 336 n f) ∧ (∃ l, cTl g1 373 374 l) ∧ cK g1 393 394 395 396 n (mkG G n)) (B := fun g => wI (j + 1) g) (b := nI 1) hL hi hk ?_ ?_ ?_ ⟨_, H0⟩ (fun _ _ _ _ g q => hn _ _ _ _ _ q)
  · refine (mj_Wp.mono (x_sou hLi H0 hLo X1 X2 X3 H393 H394 hGG hg24 S1 S2) (by decide)).imp ?_
    rintro _ ⟨_, g1, rfl, rfl, c1, c2, c3, c4, c5, c6⟩
    exact ⟨_, _, rfl, rfl, c6, c2, c3, c4, c5⟩
  · rintro g ⟨m1, ⟨n1, f1, a1⟩, ⟨n2, f2, a2⟩, ⟨l3, a3⟩, of, df, k1, k2, k3, _⟩
    exact ⟨_, m1.1 400 (fun q => by rcases List.mem_append.mp q with q | q; (have q2 := soL_m.mp q; omega); (simp only [cML, wML, List.mem_cons, List.mem_append, List.not_mem_nil, or_false] at q; omega)) _ H400⟩
  · rintro g ⟨m1, ⟨n1, f1, a1⟩, ⟨n2, f2, a2⟩, ⟨l3, a3⟩, of, df, k1, k2, k3, _⟩
    have g400 := m1.1 400 (fun q => by rcases List.mem_append.mp q with q | q; (have q2 := soL_m.mp q; omega); (simp only [cML, wML, List.mem_cons, List.mem_append, List.not_mem_nil, or_false] at q; omega)) _ H400
    have m1s := m1
    have lg := mo_le m1
    refine (mj_Wp.mono (y_sou g400) (by decide)).imp ?_
    rintro _ ⟨_, g2, rfl, rfl, y400, m2⟩
    have mt : mz_mo ((soL ++ [393, 395, 396]) ++ ([400])) (0 + 0) (0 + 0) h g2 := mo2 m1 m2
    have et := mt.1
    have hx0 : ∀ x, x ∈ soL ++ [393, 395, 396] ++ [400] → (own x = 0 ∧ (x = 400 ∨ 299 ≤ x ∧ x < 375 ∨ x = 393 ∨ x = 395 ∨ x = 396)) := by
      intro x hx
      rcases List.mem_append.mp hx with q | q
      · have z : x < 414 ∧ (x = 400 ∨ 299 ≤ x ∧ x < 375 ∨ x = 393 ∨ x = 395 ∨ x = 396) := by rcases List.mem_append.mp q with q | q; (have q2 := soL_m.mp q; omega); (simp only [cML, wML, List.mem_cons, List.mem_append, List.not_mem_nil, or_false] at q; omega)
        exact ⟨w1.z z.1, z.2⟩
      · have z : x < 414 ∧ (x = 400 ∨ 299 ≤ x ∧ x < 375 ∨ x = 393 ∨ x = 395 ∨ x = 396) := by simp only [cML, wML, List.mem_cons, List.mem_append, List.not_mem_nil, or_false] at q; omega
        exact ⟨w1.z z.1, z.2⟩
    have le := mt.2.1
    have l1 := mt.2.2.1
    have l2 := mt.2.2.2
    have qo : pOu g2 := pO.fr et (fun x hx => by have := hx0 x hx; omega)
    have nX : pSo g2 := ⟨⟨n1, f1, a1.fr m2.1 (fun x q => by simp only [cML, wML, List.mem_cons, List.mem_append, List.not_mem_nil, or_false] at q; omega)⟩, ⟨n2, f2, a2.fr m2.1 (fun x q => by simp only [cML, wML, List.mem_cons, List.mem_append, List.not_mem_nil, or_false] at q; omega)⟩, l3, a3.fr m2.1 (by decide) (by decide)⟩
    have no : ∀ i, i = 394 ∨ i = 398 ∨ i = 399 ∨ i = 410 ∨ 414 ≤ i → i ∉ (soL ++ [393, 395, 396]) ++ [400] := fun i hi hx => by have := hx0 _ hx; omega
    have nC : pCi own g2 := ⟨n, E, G, rf, _, hg24, m2.1 393 (by decide) _ k1, et 394 (no _ (by decide)) _ H394, hls.fr et (no _ (by decide)) (no _ (by have e9 := hls; rcases (ls_len e9).2 with z | z; omega; have := hEo (by omega); have := w1 E (by omega); omega)) (fun i _ => no _ (by show _ ∨ _ ∨ _ ∨ _ ∨ 414 ≤ 1000138 + G i; omega)), hGG, hEo⟩
    have nS : pSc g2 := ⟨⟨_, m2.1 395 (by decide) _ k2⟩, ⟨_, m2.1 396 (by decide) _ k3⟩, ⟨_, et 398 (no _ (by decide)) _ S3⟩, _, et 399 (no _ (by decide)) _ S4⟩
    exact ⟨_, _, rfl, rfl, ⟨own, _, _, _, gs, pl, _, wa, nw, nx, np, K, X, rz, w1.len le, et 0 (fun q => by have := hx0 _ q; omega) _ H0, y400, pT.fr et (fun x hx => by have := hx0 x hx; omega) (fun _ q => q), pL.fr et (fun x hx => by have := hx0 x hx; omega) (fun _ q => q) (fun a q => by have := (w1 a (by omega)).2; omega) (fun _ q => q), pR.fr et (fun x hx => by have := hx0 x hx; omega), pV.fr et (fun x hx => by have := hx0 x hx; omega), nC, pI.fr et (fun x hx => by have := hx0 x hx; omega), nS, qo, nX, pP.fr et (fun x hx => by have := hx0 x hx; omega) (fun _ q => q), pG.fr et (fun x hx => by have := hx0 x hx; omega) (fun _ q => q), by omega, by omega, by omega⟩⟩
