/-! Rounds by contracts, lifted. -/
def rB0 (v : Int32) (j : Nat) (g : mj_H) : Prop := (∃ rs : List Value, mj_rd g 400 = some (.inr (17, .int (nI 0) :: rs))) ∧ (∃ ou : Nat → Int64, mj_rd g 412 = some (outC ou) ∧ ou 0 = Int32.toInt64 v) ∧ wI (j + 1) g
def rBc (c j : Nat) (g : mj_H) : Prop := (∃ rs : List Value, mj_rd g 400 = some (.inr (17, .int (nI c) :: rs))) ∧ wI (j + 1) g
theorem rB0.h {v : Int32} {j : Nat} {g : mj_H} : rB0 v j g → ∃ rs : List Value, mj_rd g 400 = some (.inr (17, .int (nI 0) :: rs)) ∧ ∃ ou : Nat → Int64, mj_rd g 412 = some (outC ou) ∧ ou 0 = Int32.toInt64 v
  | ⟨⟨rs, a⟩, b, _⟩ => ⟨rs, a, b⟩
theorem mo1s {L : List Nat} {k z : Nat} {h g1 g : mj_H} (m : mz_mo L k z h g1) (ms : mz_mo [412] 0 0 g1 g) : mz_mo (412 :: L) k z h g :=
  (m.wk (L' := 412 :: L) (fun _ q => Or.inl (List.mem_cons_of_mem _ q)) (Nat.le_refl _) (Nat.le_refl _)).tr ms (fun y q => Or.inl (by rw [List.mem_singleton.mp q]; exact List.mem_cons_self)) (Nat.le_refl _) (Nat.le_refl _)
theorem mo2 {L L2 : List Nat} {k z k2 z2 : Nat} {h g1 g : mj_H} (m : mz_mo L k z h g1) (m2 : mz_mo L2 k2 z2 g1 g) : mz_mo (L ++ L2) (k + k2) (z + z2) h g :=
  (m.wk (L' := L ++ L2) (fun _ q => Or.inl (List.mem_append_left _ q)) (Nat.le_refl _) (Nat.le_refl _)).tr m2 (fun _ q => Or.inl (List.mem_append_right _ q)) (Nat.le_refl _) (Nat.le_refl _)
theorem mo3 {L L2 : List Nat} {k z k2 z2 : Nat} {h g1 g : mj_H} (m : mz_mo (412 :: L) k z h g1) (m2 : mz_mo L2 k2 z2 g1 g) : mz_mo (412 :: (L ++ L2)) (k + k2) (z + z2) h g := mo2 m m2
theorem thrN {k m c : Nat} {S : mj_S} {h : mj_H} (r : mj_run k m S (.inr h.length, h ++ [.inr (c, [])])) (hk : k ≤ 249) (hb : h.length < mj_CB) (hz : mj_cs (.inr (c, [])) = 6) : mj_Wp 249 m S (fun o => ∃ (q : Nat) (g : mj_H), o = (.inr q, g) ∧ q < mj_CB ∧ mj_rd g q = some (.inr (c, [])) ∧ mz_mo [] 1 6 h g) :=
  (mj_Wp.mono r hk).imp (by
    rintro _ rfl
    exact ⟨_, _, rfl, hb, rd_nw (Nat.blt_eq.mpr hb) rfl, by rw [← hz]; exact mz_mo.ap [] _ _⟩)
theorem retN {k m : Nat} {S : mj_S} {h : mj_H} {v : Int32} (r : mj_run k m S (.inl (some (.int v)), h)) (hk : k ≤ 249) : mj_Wp 249 m S (mz_V fun r g => r = .int v ∧ mz_mo [] 0 0 h g) :=
  (mj_Wp.mono r hk).imp (by
    rintro _ rfl
    exact ⟨_, _, rfl, rfl, mz_mo.rf _ _ _ _⟩)
theorem pTy.mk {own own' : Nat → Nat} {L : List Nat} {h g : mj_H} {n c Y : Nat} {f : Nat → Nat} (e : mz_fr L h g) (hL : ∀ x, x ∈ L → own x ≠ 8) (ho : ∀ a, own a = 8 → own' a = 8) (hn : n ≤ 60) (hf : ∀ j, j < n → f j < 65536) (cx : cPx g 1 n f) (hY : yStr h Y n c f) (hY0 : 414 ≤ Y) (hYo : Y < mj_CB → own Y = 8) (hYB : ∀ (C : Nat) (rs : List Value), mj_rd h Y = some (.inr (21, .ref C :: rs)) → 414 ≤ C ∧ (C < mj_CB → own C = 8)) : pTy own' g (.ref Y) := by
  have k := fr_cut e
  have h1 : Y ∉ L.filter (fun x => decide (x < mj_CB)) := fun q => hL Y (mem_cut q).1 (hYo (mem_cut q).2)
  have h2 : ∀ (B : Nat) (rs : List Value), mj_rd h Y = some (.inr (21, .ref B :: rs)) → B ∉ L.filter (fun x => decide (x < mj_CB)) := fun B rs r q => hL B (mem_cut q).1 ((hYB B rs r).2 (mem_cut q).2)
  obtain ⟨B0, rs0, r0⟩ := hY.rd
  refine ⟨n, f, c, Y, rfl, hn, hf, cx, hY.fr k h1 h2, hY0, fun q => ho _ (hYo q), fun C rs r => ?_⟩
  have r1 := k Y h1 _ r0
  rw [r1] at r
  have e : @Eq Nat B0 C := Value.ref.inj (List.cons.inj (Prod.mk.inj (Sum.inr.inj (Option.some.inj r))).2).1
  rw [← e]
  exact ⟨(hYB B0 rs0 r0).1, fun q => ho _ ((hYB B0 rs0 r0).2 q)⟩
theorem yStr.lo {own : Nat → Nat} {L : List Nat} {h g : mj_H} {n c Y : Nat} {f : Nat → Nat} (e : mz_fr L h g) (hL : ∀ x, x ∈ L → x < 414) (hY : yStr h Y n c f) (hY0 : 414 ≤ Y) (hYB : ∀ (C : Nat) (rs : List Value), mj_rd h Y = some (.inr (21, .ref C :: rs)) → 414 ≤ C ∧ (C < mj_CB → own C = 8)) : yStr g Y n c f :=
  hY.fr e (fun q => by have := hL _ q; omega) (fun B rs r q => by have := hL _ q; have := (hYB B rs r).1; omega)
theorem yLi.lo {own : Nat → Nat} {h g : mj_H} {L : List Nat} {np Ep : Nat} {N : Nat → Nat} {F : Nat → Nat → Nat} {K : Nat → Nat} {X : Nat → Nat → Nat → Nat} {PF : Nat → Nat} (w1 : wO own h) (l : yLi (fun a => own a = 9) h np N F K X PF Ep) (oE : Ep < mj_CB → own Ep = 1) (e : mz_fr L h g) (hL : ∀ x, x ∈ L → x < 414 ∧ x ≠ 401) : yLi (fun a => own a = 9) g np N F K X PF Ep :=
  l.frm ⟨e, l.2.1, fun a ha _ => ⟨fun q => by have := hL _ q; have := w1 a (by omega); omega, ha⟩⟩ (fun q => (hL _ q).2 rfl) (fun q => by
    have z := (hL _ q).1
    have e1 : mj_CB = 1000000 := rfl
    have o := oE (by omega)
    have := w1 Ep (by omega)
    omega) l.2.1
theorem cRn.b1 {h : mj_H} {R S : Nat} {r : SR} {z : CZ} (a : cRn h R S r z) : cRb h R S 1 r z := ⟨a.1, a.2.1, a.2.2⟩
theorem pRu.raw {h : mj_H} {np : Nat} {K : Nat → Nat} : pRu h np K → ∃ s : SV, cSt h 375 s ∧ yWb h 402 s ∧ ∃ b r z, cRb h 381 375 b r z
  | ⟨s, a, b⟩ => ⟨s, a, by
    rcases b with ⟨b1, ⟨r, b2⟩, _⟩ | ⟨r, z, b1, b2, _⟩
    · exact ⟨b1, 0, r, z0, b2⟩
    · exact ⟨b2.raw, 1, r, z, b1.b1⟩⟩
theorem brA_z {A : Nat → Nat} {a : Nat} {C D : Bool} {z : CZ} (h : brA A a C D = .inr z) : z.2.1 < 65536 ∧ z.2.2.2.1 < 65536 := by
  unfold brA brk_ at h
  repeat' split at h
  all_goals first | (cases h; exact ⟨Nat.le_of_ble_eq_true rfl, Nat.le_of_ble_eq_true rfl⟩) | cases h
theorem brB_z {A : Nat → Nat} {a : Nat} {C D : Bool} {z : CZ} (h : brB A a C D = .inr z) : z.2.1 < 65536 ∧ z.2.2.2.1 < 65536 := by
  unfold brB brk_ at h
  repeat' split at h
  all_goals first | (cases h; exact ⟨Nat.le_of_ble_eq_true rfl, Nat.le_of_ble_eq_true rfl⟩) | cases h
theorem stS_z {A : Nat → Nat} {w : Bool} {s : SV} {z : CZ} (h : stS A w s = .inr z) : z.2.1 < 65536 ∧ z.2.2.2.1 < 65536 := by
  obtain ⟨v, st, t⟩ := s
  unfold stS at h
  dsimp only at h
  repeat' split at h
  all_goals first | (cases h; exact ⟨Nat.le_of_ble_eq_true rfl, Nat.le_of_ble_eq_true rfl⟩) | cases h
theorem stp_z {np : Nat} {K : Nat → Nat} {X : Nat → Nat → Nat → Nat} {s : SS} {z : CZ} (h : stp np K X s = .inr z) : z.2.1 < 65536 ∧ z.2.2.2.1 < 65536 := by
  obtain ⟨sv, p, l, c, w, cp, cl, cw⟩ := s
  unfold stp stpA at h
  dsimp only at h
  split at h
  · split at h
    · cases h; exact ⟨Nat.le_of_ble_eq_true rfl, Nat.le_of_ble_eq_true rfl⟩
    · split at h
      · cases h; exact ⟨Nat.le_of_ble_eq_true rfl, Nat.le_of_ble_eq_true rfl⟩
      · cases h
  · split at h
    · split at h
      · cases h
      · next z' hz =>
        cases h
        split at hz
        · exact brA_z hz
        · exact brB_z hz
    · split at h
      · cases h
      · next z' hz =>
        cases h
        exact stS_z hz
theorem rns_l {np : Nat} {K : Nat → Nat} {X : Nat → Nat → Nat → Nat} : ∀ (i : Nat) (s : SS), (rns np K X i s).2.2.2.1 < 65536 ∧ (rns np K X i s).2.2.2.2.2.1 < 65536
  | 0, s => ⟨Nat.le_of_ble_eq_true rfl, Nat.le_of_ble_eq_true rfl⟩
  | i + 1, s => by
    unfold rns
    split
    · exact ⟨Nat.le_of_ble_eq_true rfl, Nat.le_of_ble_eq_true rfl⟩
    · split
      · next z hz => exact stp_z hz
      · next s' hs => exact rns_l i (s'.1, cbk K 20 s'.2)
theorem y_wk0 {h : mj_H} {p v b : Int32} {k : Nat} {fs : List Value} (h4 : mj_rd h 400 = some (.inr (17, fs))) {R : mj_H → Prop} (hc : mj_Wp k 414 (0, [some (.ref 400), some (.int p), some (.int v), some (.int (nI 0)), none, none, none, none, none, none, none], [], h) (mz_V fun r g => r = .int b ∧ R g)) : mj_Wp (k + 1) 413 (0, [some (.ref 400), some (.int p), some (.int v)], [], h) (mz_V fun r g => r = .int b ∧ R g) := by
  refine s_aldn (p' := 1) rfl rfl rfl ?_
  refine s_ildn (p' := 2) rfl rfl rfl ?_
  refine s_ildn (p' := 3) rfl rfl rfl ?_
  refine s_con (p' := 4) rfl rfl ?_
  refine s_callEV (p' := 7) (ls0 := [_, _, _, _, _, _, _, _, _, _, _]) rfl rfl rfl rfl rfl (mj_rcv_is h4) rfl hc (Nat.ble_eq.mpr (Nat.le_refl _)) rfl ?_
  rintro _ g ⟨rfl, r⟩
  refine s_iret rfl rfl ?_
  exact ⟨_, _, rfl, rfl, r⟩
theorem y_wk1 {h : mj_H} {p v b : Int32} {k : Nat} {fs : List Value} (h4 : mj_rd h 400 = some (.inr (17, fs))) {R : mj_H → Prop} (hc : mj_Wp k 414 (0, [some (.ref 400), some (.int p), some (.int v), some (.int (nI 1)), none, none, none, none, none, none, none], [], h) (mz_V fun r g => r = .int b ∧ R g)) : mj_Wp (k + 1) 415 (0, [some (.ref 400), some (.int p), some (.int v)], [], h) (mz_V fun r g => r = .int b ∧ R g) := by
  refine s_aldn (p' := 1) rfl rfl rfl ?_
  refine s_ildn (p' := 2) rfl rfl rfl ?_
  refine s_ildn (p' := 3) rfl rfl rfl ?_
  refine s_con (p' := 4) rfl rfl ?_
  refine s_callEV (p' := 7) (ls0 := [_, _, _, _, _, _, _, _, _, _, _]) rfl rfl rfl rfl rfl (mj_rcv_is h4) rfl hc (Nat.ble_eq.mpr (Nat.le_refl _)) rfl ?_
  rintro _ g ⟨rfl, r⟩
  refine s_iret rfl rfl ?_
  exact ⟨_, _, rfl, rfl, r⟩
theorem r_2 {L j : Nat} {xs : Nat → Int32} {h : mj_H} {l6 l7 l8 l9 : Option Value} {P : mj_H → Prop} {own : Nat → Nat} {th : Int32} {sd be : Int64} {gs pl ty wa nw nx : Value} {np : Nat} {K : Nat → Nat} {X : Nat → Nat → Nat → Nat} {rz : Nat} (w : wJ own th sd be gs pl ty wa nw nx np K X rz j h) (hL : L ≤ 2048) (hi : 4 * j + 4 ≤ L) (hk : xs (4 * j) &&& nI 63 = nI 2) (hn : ∀ (l6 l7 l8 l9 : Option Value) (g : mj_H), wI (j + 1) g → mj_lrun L xs (28, [some (.retAddr 1), some (.ref 0), some (.ref 400), some (.ref 412), some (.ref 413), some (.int (nI (4 * j + 4))), l6, l7, l8, l9], [], g) P) : mj_lrun L xs (28, [some (.retAddr 1), some (.ref 0), some (.ref 400), some (.ref 412), some (.ref 413), some (.int (nI (4 * j))), l6, l7, l8, l9], [], h) P := by
  obtain ⟨w1, H0, H400, pT, pL, pR, pV, pC, pI, pS, pO, pX, pP, pG, j5, b1, b2⟩ := id w
  have ln := w.len
  obtain ⟨⟨ou, H412⟩, od, H413⟩ := id pO
  obtain ⟨N, F, PF, Ep, hLi, hYL, hLo, oEp⟩ := id pL
  have np6 := hLi.1
  have e1 : mj_CB = 1000000 := rfl
  have hpk := hLo.pOk np6
  have hcb := hLi.lb
  have hIl : ∀ a, own a = 9 → a < h.length := fun a q => (w1 a (by omega)).2
  have hI4 : ∀ a, own a = 9 → a ≠ 400 ∧ a ≠ 401 ∧ a ≠ Ep := fun a q => by
    have z := w1 a (by omega)
    refine ⟨by omega, by omega, fun e => ?_⟩
    rw [e] at q z
    have := oEp (by omega)
    omega
  have hIn : ¬ own 400 = 9 := fun q => by have := w1 400 (by omega); omega
  have hIw : ∀ x, x ∈ wML 402 → ¬ own x = 9 := fun x hx q => by have := wML_m.mp hx; have := w1 x (by omega); omega
  obtain ⟨n, f, c, Y, rfl, hn60, hf, hPx, hY, hY0, hYo, hYB⟩ := id pT
  obtain ⟨H1, _, hX⟩ := id hPx
  cases hR : rAll n f with
  | inl e =>
    refine lr_2_0 (i := 4 * j) (A := fun g => ∃ (g1 : mj_H) (ou : Nat → Int64), (mz_mo (cL 1) 0 0 h g1 ∧ cX g1 1 n f) ∧ mj_rd g1 412 = some (outC ou) ∧ g = g1.set 412 (outC (vp_updL ou 0 (Int32.toInt64 (nI e.2))))) (B := rB0 (nI e.2) j) (b := nI e.2) hL hi hk ?_ ?_ ?_ (fun g q => q.h) (fun _ _ _ _ g q => hn _ _ _ _ _ q.2.2)
    · refine lw_fault_0 (A := fun g1 => mz_mo (cL 1) 0 0 h g1 ∧ cX g1 1 n f) ⟨_, H0⟩ ?_ (fun g1 q => ?_)
      · refine (mj_Wp.mono (x_fauF hn60 hf H0 H1 hX hR) (by decide)).imp ?_
        rintro _ ⟨_, g1, rfl, rfl, c1, c2⟩
        exact ⟨_, _, rfl, rfl, c2, c1⟩
      · obtain ⟨m1, cx⟩ := q
        exact ⟨ou, m1.1 412 (fun q => by have q2 := mem_cL.mp q; omega) _ H412⟩
    · rintro g ⟨g1, ou1, ⟨m1, cx⟩, a2, hg⟩
      rw [hg]
      exact ⟨_, (rd_setn (by decide)).trans (m1.1 400 (fun q => by have q2 := mem_cL.mp q; omega) _ H400)⟩
    · rintro g ⟨g1, ou1, ⟨m1, cx⟩, a2, hg⟩
      have ms : mz_mo [412] 0 0 g1 g := by rw [hg]; exact mz_mo.st (by decide) a2 rfl
      have r412 : mj_rd g 412 = some (outC (vp_updL ou1 0 (Int32.toInt64 (nI e.2)))) := by rw [hg]; exact rd_set (by decide) a2
      clear hg
      have m1s : mz_mo (412 :: (cL 1)) 0 0 h g := mo1s m1 ms
      have g400 := m1s.1 400 (fun q => by rcases List.mem_cons.mp q with q | q; (omega); (have q2 := mem_cL.mp q; omega)) _ H400
      have lg := mo_le m1s
      have gY := hY.lo (own := own) m1s.1 (fun x q => by rcases List.mem_cons.mp q with q | q; (omega); (have q2 := mem_cL.mp q; omega)) hY0 hYB
      refine (mj_Wp.mono (y_fauF hn60 hf gY (by omega) g400 hR (by omega)) (by decide)).imp ?_
      rintro _ ⟨_, g2, rfl, rfl, y400, m2⟩
      have mt : mz_mo (412 :: ((cL 1) ++ ([400]))) (0 + 330) (0 + 5300) h g2 := mo3 m1s m2
      have et := mt.1
      have Q412 := m2.1 412 (fun q => by simp only [cML, wML, List.mem_cons, List.mem_append, List.not_mem_nil, or_false] at q; omega) _ r412
      have hx0 : ∀ x, x ∈ 412 :: (cL 1 ++ [400]) → (own x = 0 ∧ (x = 400 ∨ x = 412 ∨ 4 ≤ x ∧ x < 38)) := by
        intro x hx
        rcases List.mem_cons.mp hx with hx | hx
        · rw [hx]; exact ⟨w1.z (by decide), by decide⟩
        rcases List.mem_append.mp hx with q | q
        · have z : x < 414 ∧ (x = 400 ∨ x = 412 ∨ 4 ≤ x ∧ x < 38) := by have q2 := mem_cL.mp q; omega
          exact ⟨w1.z z.1, z.2⟩
        · have z : x < 414 ∧ (x = 400 ∨ x = 412 ∨ 4 ≤ x ∧ x < 38) := by simp only [cML, wML, List.mem_cons, List.mem_append, List.not_mem_nil, or_false] at q; omega
          exact ⟨w1.z z.1, z.2⟩
      have le := mt.2.1
      have l1 := mt.2.2.1
      have l2 := mt.2.2.2
      have qo : pOu g2 := pO.f2 et (fun x hx => by have := hx0 x hx; omega) ⟨_, Q412⟩
      exact ⟨_, _, rfl, rfl, ⟨_, y400⟩, ⟨_, Q412, if_pos rfl⟩, ⟨own, _, _, _, gs, pl, _, wa, nw, nx, np, K, X, rz, w1.len le, et 0 (fun q => by have := hx0 _ q; omega) _ H0, y400, pTy.mk et (fun x hx => by have := hx0 x hx; omega) (fun _ q => q) hn60 hf ⟨et 1 (fun q => by have := hx0 _ q; omega) _ H1, hn60, (cx.fr ms.1 (fun x q => by simp only [cML, wML, List.mem_cons, List.mem_append, List.not_mem_nil, or_false] at q; omega)).fr m2.1 (fun x q => by simp only [cML, wML, List.mem_cons, List.mem_append, List.not_mem_nil, or_false] at q; omega)⟩ hY hY0 hYo hYB, pL.fr et (fun x hx => by have := hx0 x hx; omega) (fun _ q => q) (fun a q => by have := (w1 a (by omega)).2; omega) (fun _ q => q), pR.fr et (fun x hx => by have := hx0 x hx; omega), pV.fr et (fun x hx => by have := hx0 x hx; omega), pC.fr et (fun x hx => by have := hx0 x hx; omega) (fun _ q => q), pI.fr et (fun x hx => by have := hx0 x hx; omega), pS.fr et (fun x hx => by have := hx0 x hx; omega), qo, pX.fr et (fun x hx => by have := hx0 x hx; omega), pP.fr et (fun x hx => by have := hx0 x hx; omega) (fun _ q => q), pG.fr et (fun x hx => by have := hx0 x hx; omega) (fun _ q => q), by omega, by omega, by omega⟩⟩
  | inr s0 =>
    refine lr_2_1 (i := 4 * j) (A := fun g1 => mz_mo (cL 1) 1 6 h g1 ∧ cX g1 1 n f) (B := rBc 1 j) (b := nI 0) hL hi hk ?_ ?_ ?_ (fun g q => q.1) (fun _ _ _ _ g q => hn _ _ _ _ _ q.2)
    · refine lw_fault_1 (A := fun g1 => mz_mo (cL 1) 1 6 h g1 ∧ cX g1 1 n f) ⟨_, H0⟩ ?_
      refine (mj_Wp.mono (x_fauN hn60 hf H0 H1 hX (by omega) hR) (by decide)).imp ?_
      rintro _ ⟨qq, g1, rfl, c1, c2, c3, c4⟩
      exact ⟨_, _, rfl, c1, c2, c4, c3⟩
    · rintro g ⟨m1, cx⟩
      exact ⟨_, m1.1 400 (fun q => by have q2 := mem_cL.mp q; omega) _ H400⟩
    · rintro g ⟨m1, cx⟩
      have g400 := m1.1 400 (fun q => by have q2 := mem_cL.mp q; omega) _ H400
      have m1s := m1
      have lg := mo_le m1
      have gY := hY.lo (own := own) m1s.1 (fun x q => by have q2 := mem_cL.mp q; omega) hY0 hYB
      refine (mj_Wp.mono (y_fauN hn60 hf gY (by omega) g400 hR) (by decide)).imp ?_
      rintro _ ⟨_, g2, rfl, rfl, y400, m2⟩
      have mt : mz_mo ((cL 1) ++ ([400])) (1 + 330) (6 + 5300) h g2 := mo2 m1 m2
      have et := mt.1
      have hx0 : ∀ x, x ∈ cL 1 ++ [400] → (own x = 0 ∧ (x = 400 ∨ 4 ≤ x ∧ x < 38)) := by
        intro x hx
        rcases List.mem_append.mp hx with q | q
        · have z : x < 414 ∧ (x = 400 ∨ 4 ≤ x ∧ x < 38) := by have q2 := mem_cL.mp q; omega
          exact ⟨w1.z z.1, z.2⟩
        · have z : x < 414 ∧ (x = 400 ∨ 4 ≤ x ∧ x < 38) := by simp only [cML, wML, List.mem_cons, List.mem_append, List.not_mem_nil, or_false] at q; omega
          exact ⟨w1.z z.1, z.2⟩
      have le := mt.2.1
      have l1 := mt.2.2.1
      have l2 := mt.2.2.2
      have qo : pOu g2 := pO.fr et (fun x hx => by have := hx0 x hx; omega)
      exact ⟨_, _, rfl, rfl, ⟨_, y400⟩, ⟨own, _, _, _, gs, pl, _, wa, nw, nx, np, K, X, rz, w1.len le, et 0 (fun q => by have := hx0 _ q; omega) _ H0, y400, pTy.mk et (fun x hx => by have := hx0 x hx; omega) (fun _ q => q) hn60 hf ⟨et 1 (fun q => by have := hx0 _ q; omega) _ H1, hn60, cx.fr m2.1 (fun x q => by simp only [cML, wML, List.mem_cons, List.mem_append, List.not_mem_nil, or_false] at q; omega)⟩ hY hY0 hYo hYB, pL.fr et (fun x hx => by have := hx0 x hx; omega) (fun _ q => q) (fun a q => by have := (w1 a (by omega)).2; omega) (fun _ q => q), pR.fr et (fun x hx => by have := hx0 x hx; omega), pV.fr et (fun x hx => by have := hx0 x hx; omega), pC.fr et (fun x hx => by have := hx0 x hx; omega) (fun _ q => q), pI.fr et (fun x hx => by have := hx0 x hx; omega), pS.fr et (fun x hx => by have := hx0 x hx; omega), qo, pX.fr et (fun x hx => by have := hx0 x hx; omega), pP.fr et (fun x hx => by have := hx0 x hx; omega) (fun _ q => q), pG.fr et (fun x hx => by have := hx0 x hx; omega) (fun _ q => q), by omega, by omega, by omega⟩⟩
theorem r_3 {L j : Nat} {xs : Nat → Int32} {h : mj_H} {l6 l7 l8 l9 : Option Value} {P : mj_H → Prop} {own : Nat → Nat} {th : Int32} {sd be : Int64} {gs pl ty wa nw nx : Value} {np : Nat} {K : Nat → Nat} {X : Nat → Nat → Nat → Nat} {rz : Nat} (w : wJ own th sd be gs pl ty wa nw nx np K X rz j h) (hL : L ≤ 2048) (hi : 4 * j + 4 ≤ L) (hk : xs (4 * j) &&& nI 63 = nI 3) (hn : ∀ (l6 l7 l8 l9 : Option Value) (g : mj_H), wI (j + 1) g → mj_lrun L xs (28, [some (.retAddr 1), some (.ref 0), some (.ref 400), some (.ref 412), some (.ref 413), some (.int (nI (4 * j + 4))), l6, l7, l8, l9], [], g) P) : mj_lrun L xs (28, [some (.retAddr 1), some (.ref 0), some (.ref 400), some (.ref 412), some (.ref 413), some (.int (nI (4 * j))), l6, l7, l8, l9], [], h) P := by
  obtain ⟨w1, H0, H400, pT, pL, pR, pV, pC, pI, pS, pO, pX, pP, pG, j5, b1, b2⟩ := id w
  have ln := w.len
  obtain ⟨⟨ou, H412⟩, od, H413⟩ := id pO
  obtain ⟨N, F, PF, Ep, hLi, hYL, hLo, oEp⟩ := id pL
  have np6 := hLi.1
  have e1 : mj_CB = 1000000 := rfl
  have hpk := hLo.pOk np6
  have hcb := hLi.lb
  have hIl : ∀ a, own a = 9 → a < h.length := fun a q => (w1 a (by omega)).2
  have hI4 : ∀ a, own a = 9 → a ≠ 400 ∧ a ≠ 401 ∧ a ≠ Ep := fun a q => by
    have z := w1 a (by omega)
    refine ⟨by omega, by omega, fun e => ?_⟩
    rw [e] at q z
    have := oEp (by omega)
    omega
  have hIn : ¬ own 400 = 9 := fun q => by have := w1 400 (by omega); omega
  have hIw : ∀ x, x ∈ wML 402 → ¬ own x = 9 := fun x hx q => by have := wML_m.mp hx; have := w1 x (by omega); omega
  obtain ⟨n, f, c, Y, rfl, hn60, hf, hPx, hY, hY0, hYo, hYB⟩ := id pT
  obtain ⟨H1, _, hX⟩ := id hPx
  cases hR : rAll n f with
  | inl e =>
    refine lr_3_0 (i := 4 * j) (A := fun g => ∃ (g1 : mj_H) (ou : Nat → Int64), (mz_mo (cL 1) 0 0 h g1 ∧ cX g1 1 n f) ∧ mj_rd g1 412 = some (outC ou) ∧ g = g1.set 412 (outC (vp_updL ou 0 (Int32.toInt64 (nI e.1))))) (B := rB0 (nI e.1) j) (b := nI e.1) hL hi hk ?_ ?_ ?_ (fun g q => q.h) (fun _ _ _ _ g q => hn _ _ _ _ _ q.2.2)
    · refine lw_faultKind_0 (A := fun g1 => mz_mo (cL 1) 0 0 h g1 ∧ cX g1 1 n f) ⟨_, H0⟩ ?_ (fun g1 q => ?_)
      · refine (mj_Wp.mono (x_fakF hn60 hf H0 H1 hX hR) (by decide)).imp ?_
        rintro _ ⟨_, g1, rfl, rfl, c1, c2⟩
        exact ⟨_, _, rfl, rfl, c2, c1⟩
      · obtain ⟨m1, cx⟩ := q
        exact ⟨ou, m1.1 412 (fun q => by have q2 := mem_cL.mp q; omega) _ H412⟩
    · rintro g ⟨g1, ou1, ⟨m1, cx⟩, a2, hg⟩
      rw [hg]
      exact ⟨_, (rd_setn (by decide)).trans (m1.1 400 (fun q => by have q2 := mem_cL.mp q; omega) _ H400)⟩
    · rintro g ⟨g1, ou1, ⟨m1, cx⟩, a2, hg⟩
      have ms : mz_mo [412] 0 0 g1 g := by rw [hg]; exact mz_mo.st (by decide) a2 rfl
      have r412 : mj_rd g 412 = some (outC (vp_updL ou1 0 (Int32.toInt64 (nI e.1)))) := by rw [hg]; exact rd_set (by decide) a2
      clear hg
      have m1s : mz_mo (412 :: (cL 1)) 0 0 h g := mo1s m1 ms
      have g400 := m1s.1 400 (fun q => by rcases List.mem_cons.mp q with q | q; (omega); (have q2 := mem_cL.mp q; omega)) _ H400
      have lg := mo_le m1s
      have gY := hY.lo (own := own) m1s.1 (fun x q => by rcases List.mem_cons.mp q with q | q; (omega); (have q2 := mem_cL.mp q; omega)) hY0 hYB
      refine (mj_Wp.mono (y_fakF hn60 hf gY (by omega) g400 hR (by omega)) (by decide)).imp ?_
      rintro _ ⟨_, g2, rfl, rfl, y400, m2⟩
      have mt : mz_mo (412 :: ((cL 1) ++ ([400]))) (0 + 330) (0 + 5300) h g2 := mo3 m1s m2
      have et := mt.1
      have Q412 := m2.1 412 (fun q => by simp only [cML, wML, List.mem_cons, List.mem_append, List.not_mem_nil, or_false] at q; omega) _ r412
      have hx0 : ∀ x, x ∈ 412 :: (cL 1 ++ [400]) → (own x = 0 ∧ (x = 400 ∨ x = 412 ∨ 4 ≤ x ∧ x < 38)) := by
        intro x hx
        rcases List.mem_cons.mp hx with hx | hx
        · rw [hx]; exact ⟨w1.z (by decide), by decide⟩
        rcases List.mem_append.mp hx with q | q
        · have z : x < 414 ∧ (x = 400 ∨ x = 412 ∨ 4 ≤ x ∧ x < 38) := by have q2 := mem_cL.mp q; omega
          exact ⟨w1.z z.1, z.2⟩
        · have z : x < 414 ∧ (x = 400 ∨ x = 412 ∨ 4 ≤ x ∧ x < 38) := by simp only [cML, wML, List.mem_cons, List.mem_append, List.not_mem_nil, or_false] at q; omega
          exact ⟨w1.z z.1, z.2⟩
      have le := mt.2.1
      have l1 := mt.2.2.1
      have l2 := mt.2.2.2
      have qo : pOu g2 := pO.f2 et (fun x hx => by have := hx0 x hx; omega) ⟨_, Q412⟩
      exact ⟨_, _, rfl, rfl, ⟨_, y400⟩, ⟨_, Q412, if_pos rfl⟩, ⟨own, _, _, _, gs, pl, _, wa, nw, nx, np, K, X, rz, w1.len le, et 0 (fun q => by have := hx0 _ q; omega) _ H0, y400, pTy.mk et (fun x hx => by have := hx0 x hx; omega) (fun _ q => q) hn60 hf ⟨et 1 (fun q => by have := hx0 _ q; omega) _ H1, hn60, (cx.fr ms.1 (fun x q => by simp only [cML, wML, List.mem_cons, List.mem_append, List.not_mem_nil, or_false] at q; omega)).fr m2.1 (fun x q => by simp only [cML, wML, List.mem_cons, List.mem_append, List.not_mem_nil, or_false] at q; omega)⟩ hY hY0 hYo hYB, pL.fr et (fun x hx => by have := hx0 x hx; omega) (fun _ q => q) (fun a q => by have := (w1 a (by omega)).2; omega) (fun _ q => q), pR.fr et (fun x hx => by have := hx0 x hx; omega), pV.fr et (fun x hx => by have := hx0 x hx; omega), pC.fr et (fun x hx => by have := hx0 x hx; omega) (fun _ q => q), pI.fr et (fun x hx => by have := hx0 x hx; omega), pS.fr et (fun x hx => by have := hx0 x hx; omega), qo, pX.fr et (fun x hx => by have := hx0 x hx; omega), pP.fr et (fun x hx => by have := hx0 x hx; omega) (fun _ q => q), pG.fr et (fun x hx => by have := hx0 x hx; omega) (fun _ q => q), by omega, by omega, by omega⟩⟩
  | inr s0 =>
    refine lr_3_1 (i := 4 * j) (A := fun g1 => mz_mo (cL 1) 1 6 h g1 ∧ cX g1 1 n f) (B := rBc 1 j) (b := nI 0) hL hi hk ?_ ?_ ?_ (fun g q => q.1) (fun _ _ _ _ g q => hn _ _ _ _ _ q.2)
    · refine lw_faultKind_1 (A := fun g1 => mz_mo (cL 1) 1 6 h g1 ∧ cX g1 1 n f) ⟨_, H0⟩ ?_
      refine (mj_Wp.mono (x_fakN hn60 hf H0 H1 hX (by omega) hR) (by decide)).imp ?_
      rintro _ ⟨qq, g1, rfl, c1, c2, c3, c4⟩
      exact ⟨_, _, rfl, c1, c2, c4, c3⟩
    · rintro g ⟨m1, cx⟩
      exact ⟨_, m1.1 400 (fun q => by have q2 := mem_cL.mp q; omega) _ H400⟩
    · rintro g ⟨m1, cx⟩
      have g400 := m1.1 400 (fun q => by have q2 := mem_cL.mp q; omega) _ H400
      have m1s := m1
      have lg := mo_le m1
      have gY := hY.lo (own := own) m1s.1 (fun x q => by have q2 := mem_cL.mp q; omega) hY0 hYB
      refine (mj_Wp.mono (y_fakN hn60 hf gY (by omega) g400 hR) (by decide)).imp ?_
      rintro _ ⟨_, g2, rfl, rfl, y400, m2⟩
      have mt : mz_mo ((cL 1) ++ ([400])) (1 + 330) (6 + 5300) h g2 := mo2 m1 m2
      have et := mt.1
      have hx0 : ∀ x, x ∈ cL 1 ++ [400] → (own x = 0 ∧ (x = 400 ∨ 4 ≤ x ∧ x < 38)) := by
        intro x hx
        rcases List.mem_append.mp hx with q | q
        · have z : x < 414 ∧ (x = 400 ∨ 4 ≤ x ∧ x < 38) := by have q2 := mem_cL.mp q; omega
          exact ⟨w1.z z.1, z.2⟩
        · have z : x < 414 ∧ (x = 400 ∨ 4 ≤ x ∧ x < 38) := by simp only [cML, wML, List.mem_cons, List.mem_append, List.not_mem_nil, or_false] at q; omega
          exact ⟨w1.z z.1, z.2⟩
      have le := mt.2.1
      have l1 := mt.2.2.1
      have l2 := mt.2.2.2
      have qo : pOu g2 := pO.fr et (fun x hx => by have := hx0 x hx; omega)
      exact ⟨_, _, rfl, rfl, ⟨_, y400⟩, ⟨own, _, _, _, gs, pl, _, wa, nw, nx, np, K, X, rz, w1.len le, et 0 (fun q => by have := hx0 _ q; omega) _ H0, y400, pTy.mk et (fun x hx => by have := hx0 x hx; omega) (fun _ q => q) hn60 hf ⟨et 1 (fun q => by have := hx0 _ q; omega) _ H1, hn60, cx.fr m2.1 (fun x q => by simp only [cML, wML, List.mem_cons, List.mem_append, List.not_mem_nil, or_false] at q; omega)⟩ hY hY0 hYo hYB, pL.fr et (fun x hx => by have := hx0 x hx; omega) (fun _ q => q) (fun a q => by have := (w1 a (by omega)).2; omega) (fun _ q => q), pR.fr et (fun x hx => by have := hx0 x hx; omega), pV.fr et (fun x hx => by have := hx0 x hx; omega), pC.fr et (fun x hx => by have := hx0 x hx; omega) (fun _ q => q), pI.fr et (fun x hx => by have := hx0 x hx; omega), pS.fr et (fun x hx => by have := hx0 x hx; omega), qo, pX.fr et (fun x hx => by have := hx0 x hx; omega), pP.fr et (fun x hx => by have := hx0 x hx; omega) (fun _ q => q), pG.fr et (fun x hx => by have := hx0 x hx; omega) (fun _ q => q), by omega, by omega, by omega⟩⟩
theorem r_6 {L j : Nat} {xs : Nat → Int32} {h : mj_H} {l6 l7 l8 l9 : Option Value} {P : mj_H → Prop} {own : Nat → Nat} {th : Int32} {sd be : Int64} {gs pl ty wa nw nx : Value} {np : Nat} {K : Nat → Nat} {X : Nat → Nat → Nat → Nat} {rz : Nat} (w : wJ own th sd be gs pl ty wa nw nx np K X rz j h) (hL : L ≤ 2048) (hi : 4 * j + 4 ≤ L) (hk : xs (4 * j) &&& nI 63 = nI 6) (hn : ∀ (l6 l7 l8 l9 : Option Value) (g : mj_H), wI (j + 1) g → mj_lrun L xs (28, [some (.retAddr 1), some (.ref 0), some (.ref 400), some (.ref 412), some (.ref 413), some (.int (nI (4 * j + 4))), l6, l7, l8, l9], [], g) P) : mj_lrun L xs (28, [some (.retAddr 1), some (.ref 0), some (.ref 400), some (.ref 412), some (.ref 413), some (.int (nI (4 * j))), l6, l7, l8, l9], [], h) P := by
  obtain ⟨w1, H0, H400, pT, pL, pR, pV, pC, pI, pS, pO, pX, pP, pG, j5, b1, b2⟩ := id w
  have ln := w.len
  obtain ⟨⟨ou, H412⟩, od, H413⟩ := id pO
  obtain ⟨N, F, PF, Ep, hLi, hYL, hLo, oEp⟩ := id pL
  have np6 := hLi.1
  have e1 : mj_CB = 1000000 := rfl
  have hpk := hLo.pOk np6
  have hcb := hLi.lb
  have hIl : ∀ a, own a = 9 → a < h.length := fun a q => (w1 a (by omega)).2
  have hI4 : ∀ a, own a = 9 → a ≠ 400 ∧ a ≠ 401 ∧ a ≠ Ep := fun a q => by
    have z := w1 a (by omega)
    refine ⟨by omega, by omega, fun e => ?_⟩
    rw [e] at q z
    have := oEp (by omega)
    omega
  have hIn : ¬ own 400 = 9 := fun q => by have := w1 400 (by omega); omega
  have hIw : ∀ x, x ∈ wML 402 → ¬ own x = 9 := fun x hx q => by have := wML_m.mp hx; have := w1 x (by omega); omega
  rcases (by omega : (xs (4 * j + 1)).toInt < 0 ∨ 0 ≤ (xs (4 * j + 1)).toInt) with q | q
  · have hpr : (xs (4 * j + 1)).toInt < 0 ∨ (np : Int) ≤ (xs (4 * j + 1)).toInt := Or.inl q
    refine lr_6_1 (i := 4 * j) (A := fun g1 => mz_mo ([]) 1 6 h g1) (B := rBc 1 j) (b := nI 0) hL hi hk ?_ ?_ ?_ (fun g q => q.1) (fun _ _ _ _ g q => hn _ _ _ _ _ q.2)
    · refine lw_length_1 (A := fun g1 => mz_mo ([]) 1 6 h g1) ⟨_, H0⟩ ?_
      exact thrN (x_lenT hLi H0 hpr) (by decide) (by omega) rfl
    · rintro g m1
      exact ⟨_, m1.1 400 (fun q => by cases q) _ H400⟩
    · rintro g m1
      have g400 := m1.1 400 (fun q => by cases q) _ H400
      have m1s := m1
      have lg := mo_le m1
      have gL := hYL.lo w1 oEp m1s.1 (fun x q => by cases q)
      refine (mj_Wp.mono (y_lenT gL np6 g400 hpr) (by decide)).imp ?_
      rintro _ ⟨_, g2, rfl, rfl, y400, m2⟩
      have mt : mz_mo (([]) ++ ([400])) (1 + 0) (6 + 0) h g2 := mo2 m1 m2
      have et := mt.1
      have hx0 : ∀ x, x ∈ [] ++ [400] → (own x = 0 ∧ (x = 400)) := by
        intro x hx
        rcases List.mem_append.mp hx with q | q
        · cases q
        · have z : x < 414 ∧ (x = 400) := by simp only [cML, wML, List.mem_cons, List.mem_append, List.not_mem_nil, or_false] at q; omega
          exact ⟨w1.z z.1, z.2⟩
      have le := mt.2.1
      have l1 := mt.2.2.1
      have l2 := mt.2.2.2
      have qo : pOu g2 := pO.fr et (fun x hx => by have := hx0 x hx; omega)
      exact ⟨_, _, rfl, rfl, ⟨_, y400⟩, ⟨own, _, _, _, gs, pl, _, wa, nw, nx, np, K, X, rz, w1.len le, et 0 (fun q => by have := hx0 _ q; omega) _ H0, y400, pT.fr et (fun x hx => by have := hx0 x hx; omega) (fun _ q => q), pL.fr et (fun x hx => by have := hx0 x hx; omega) (fun _ q => q) (fun a q => by have := (w1 a (by omega)).2; omega) (fun _ q => q), pR.fr et (fun x hx => by have := hx0 x hx; omega), pV.fr et (fun x hx => by have := hx0 x hx; omega), pC.fr et (fun x hx => by have := hx0 x hx; omega) (fun _ q => q), pI.fr et (fun x hx => by have := hx0 x hx; omega), pS.fr et (fun x hx => by have := hx0 x hx; omega), qo, pX.fr et (fun x hx => by have := hx0 x hx; omega), pP.fr et (fun x hx => by have := hx0 x hx; omega) (fun _ q => q), pG.fr et (fun x hx => by have := hx0 x hx; omega) (fun _ q => q), by omega, by omega, by omega⟩⟩
  · obtain ⟨p, hpb, hx1⟩ := toI_ex q
    by_cases hp : p < np
    · refine lr_6_0 (i := 4 * j) (A := fun g => ∃ (g1 : mj_H) (ou : Nat → Int64), (mz_mo ([]) 0 0 h g1) ∧ mj_rd g1 412 = some (outC ou) ∧ g = g1.set 412 (outC (vp_updL ou 0 (Int32.toInt64 (nI (N p)))))) (B := rB0 (nI (N p)) j) (b := nI (N p)) hL hi hk ?_ ?_ ?_ (fun g q => q.h) (fun _ _ _ _ g q => hn _ _ _ _ _ q.2.2)
      · rw [hx1]
        refine lw_length_0 (A := fun g1 => mz_mo ([]) 0 0 h g1) ⟨_, H0⟩ ?_ (fun g1 q => ?_)
        · exact retN (x_len hLi H0 hp) (by decide)
        · have m1 := q
          exact ⟨ou, m1.1 412 (fun q => by cases q) _ H412⟩
      · rintro g ⟨g1, ou1, m1, a2, hg⟩
        rw [hg]
        exact ⟨_, (rd_setn (by decide)).trans (m1.1 400 (fun q => by cases q) _ H400)⟩
      · rintro g ⟨g1, ou1, m1, a2, hg⟩
        have ms : mz_mo [412] 0 0 g1 g := by rw [hg]; exact mz_mo.st (by decide) a2 rfl
        have r412 : mj_rd g 412 = some (outC (vp_updL ou1 0 (Int32.toInt64 (nI (N p))))) := by rw [hg]; exact rd_set (by decide) a2
        clear hg
        have m1s : mz_mo (412 :: ([])) 0 0 h g := mo1s m1 ms
        have g400 := m1s.1 400 (fun q => by rcases List.mem_cons.mp q with q | q; (omega); (cases q)) _ H400
        have lg := mo_le m1s
        have gL := hYL.lo w1 oEp m1s.1 (fun x q => by rcases List.mem_cons.mp q with q | q; (constructor <;> omega); (cases q))
        rw [hx1]
        refine (mj_Wp.mono (y_len gL np6 g400 hp hI4 (hLo p hp).1) (by decide)).imp ?_
        rintro _ ⟨_, g2, rfl, rfl, y400, m2⟩
        have mt : mz_mo (412 :: (([]) ++ ([400]))) (0 + 0) (0 + 0) h g2 := mo3 m1s m2
        have et := mt.1
        have Q412 := m2.1 412 (fun q => by simp only [cML, wML, List.mem_cons, List.mem_append, List.not_mem_nil, or_false] at q; omega) _ r412
        have hx0 : ∀ x, x ∈ 412 :: ([] ++ [400]) → (own x = 0 ∧ (x = 400 ∨ x = 412)) := by
          intro x hx
          rcases List.mem_cons.mp hx with hx | hx
          · rw [hx]; exact ⟨w1.z (by decide), by decide⟩
          rcases List.mem_append.mp hx with q | q
          · cases q
          · have z : x < 414 ∧ (x = 400 ∨ x = 412) := by simp only [cML, wML, List.mem_cons, List.mem_append, List.not_mem_nil, or_false] at q; omega
            exact ⟨w1.z z.1, z.2⟩
        have le := mt.2.1
        have l1 := mt.2.2.1
        have l2 := mt.2.2.2
        have qo : pOu g2 := pO.f2 et (fun x hx => by have := hx0 x hx; omega) ⟨_, Q412⟩
        exact ⟨_, _, rfl, rfl, ⟨_, y400⟩, ⟨_, Q412, if_pos rfl⟩, ⟨own, _, _, _, gs, pl, _, wa, nw, nx, np, K, X, rz, w1.len le, et 0 (fun q => by have := hx0 _ q; omega) _ H0, y400, pT.fr et (fun x hx => by have := hx0 x hx; omega) (fun _ q => q), pL.fr et (fun x hx => by have := hx0 x hx; omega) (fun _ q => q) (fun a q => by have := (w1 a (by omega)).2; omega) (fun _ q => q), pR.fr et (fun x hx => by have := hx0 x hx; omega), pV.fr et (fun x hx => by have := hx0 x hx; omega), pC.fr et (fun x hx => by have := hx0 x hx; omega) (fun _ q => q), pI.fr et (fun x hx => by have := hx0 x hx; omega), pS.fr et (fun x hx => by have := hx0 x hx; omega), qo, pX.fr et (fun x hx => by have := hx0 x hx; omega), pP.fr et (fun x hx => by have := hx0 x hx; omega) (fun _ q => q), pG.fr et (fun x hx => by have := hx0 x hx; omega) (fun _ q => q), by omega, by omega, by omega⟩⟩
    · have hpr : (xs (4 * j + 1)).toInt < 0 ∨ (np : Int) ≤ (xs (4 * j + 1)).toInt := Or.inr (by rw [hx1, mI_ti hpb]; omega)
      refine lr_6_1 (i := 4 * j) (A := fun g1 => mz_mo ([]) 1 6 h g1) (B := rBc 1 j) (b := nI 0) hL hi hk ?_ ?_ ?_ (fun g q => q.1) (fun _ _ _ _ g q => hn _ _ _ _ _ q.2)
      · refine lw_length_1 (A := fun g1 => mz_mo ([]) 1 6 h g1) ⟨_, H0⟩ ?_
        exact thrN (x_lenT hLi H0 hpr) (by decide) (by omega) rfl
      · rintro g m1
        exact ⟨_, m1.1 400 (fun q => by cases q) _ H400⟩
      · rintro g m1
        have g400 := m1.1 400 (fun q => by cases q) _ H400
        have m1s := m1
        have lg := mo_le m1
        have gL := hYL.lo w1 oEp m1s.1 (fun x q => by cases q)
        refine (mj_Wp.mono (y_lenT gL np6 g400 hpr) (by decide)).imp ?_
        rintro _ ⟨_, g2, rfl, rfl, y400, m2⟩
        have mt : mz_mo (([]) ++ ([400])) (1 + 0) (6 + 0) h g2 := mo2 m1 m2
        have et := mt.1
        have hx0 : ∀ x, x ∈ [] ++ [400] → (own x = 0 ∧ (x = 400)) := by
          intro x hx
          rcases List.mem_append.mp hx with q | q
          · cases q
          · have z : x < 414 ∧ (x = 400) := by simp only [cML, wML, List.mem_cons, List.mem_append, List.not_mem_nil, or_false] at q; omega
            exact ⟨w1.z z.1, z.2⟩
        have le := mt.2.1
        have l1 := mt.2.2.1
        have l2 := mt.2.2.2
        have qo : pOu g2 := pO.fr et (fun x hx => by have := hx0 x hx; omega)
        exact ⟨_, _, rfl, rfl, ⟨_, y400⟩, ⟨own, _, _, _, gs, pl, _, wa, nw, nx, np, K, X, rz, w1.len le, et 0 (fun q => by have := hx0 _ q; omega) _ H0, y400, pT.fr et (fun x hx => by have := hx0 x hx; omega) (fun _ q => q), pL.fr et (fun x hx => by have := hx0 x hx; omega) (fun _ q => q) (fun a q => by have := (w1 a (by omega)).2; omega) (fun _ q => q), pR.fr et (fun x hx => by have := hx0 x hx; omega), pV.fr et (fun x hx => by have := hx0 x hx; omega), pC.fr et (fun x hx => by have := hx0 x hx; omega) (fun _ q => q), pI.fr et (fun x hx => by have := hx0 x hx; omega), pS.fr et (fun x hx => by have := hx0 x hx; omega), qo, pX.fr et (fun x hx => by have := hx0 x hx; omega), pP.fr et (fun x hx => by have := hx0 x hx; omega) (fun _ q => q), pG.fr et (fun x hx => by have := hx0 x hx; omega) (fun _ q => q), by omega, by omega, by omega⟩⟩
theorem r_8 {L j : Nat} {xs : Nat → Int32} {h : mj_H} {l6 l7 l8 l9 : Option Value} {P : mj_H → Prop} {own : Nat → Nat} {th : Int32} {sd be : Int64} {gs pl ty wa nw nx : Value} {np : Nat} {K : Nat → Nat} {X : Nat → Nat → Nat → Nat} {rz : Nat} (w : wJ own th sd be gs pl ty wa nw nx np K X rz j h) (hL : L ≤ 2048) (hi : 4 * j + 4 ≤ L) (hk : xs (4 * j) &&& nI 63 = nI 8) (hn : ∀ (l6 l7 l8 l9 : Option Value) (g : mj_H), wI (j + 1) g → mj_lrun L xs (28, [some (.retAddr 1), some (.ref 0), some (.ref 400), some (.ref 412), some (.ref 413), some (.int (nI (4 * j + 4))), l6, l7, l8, l9], [], g) P) : mj_lrun L xs (28, [some (.retAddr 1), some (.ref 0), some (.ref 400), some (.ref 412), some (.ref 413), some (.int (nI (4 * j))), l6, l7, l8, l9], [], h) P := by
  obtain ⟨w1, H0, H400, pT, pL, pR, pV, pC, pI, pS, pO, pX, pP, pG, j5, b1, b2⟩ := id w
  have ln := w.len
  obtain ⟨⟨ou, H412⟩, od, H413⟩ := id pO
  obtain ⟨N, F, PF, Ep, hLi, hYL, hLo, oEp⟩ := id pL
  have np6 := hLi.1
  have e1 : mj_CB = 1000000 := rfl
  have hpk := hLo.pOk np6
  have hcb := hLi.lb
  have hIl : ∀ a, own a = 9 → a < h.length := fun a q => (w1 a (by omega)).2
  have hI4 : ∀ a, own a = 9 → a ≠ 400 ∧ a ≠ 401 ∧ a ≠ Ep := fun a q => by
    have z := w1 a (by omega)
    refine ⟨by omega, by omega, fun e => ?_⟩
    rw [e] at q z
    have := oEp (by omega)
    omega
  have hIn : ¬ own 400 = 9 := fun q => by have := w1 400 (by omega); omega
  have hIw : ∀ x, x ∈ wML 402 → ¬ own x = 9 := fun x hx q => by have := wML_m.mp hx; have := w1 x (by omega); omega
  rcases (by omega : (xs (4 * j + 1)).toInt < 0 ∨ 0 ≤ (xs (4 * j + 1)).toInt) with q | q
  · have hpr : (xs (4 * j + 1)).toInt < 0 ∨ (np : Int) ≤ (xs (4 * j + 1)).toInt := Or.inl q
    refine lr_8_1 (i := 4 * j) (A := fun g1 => mz_mo ([]) 1 6 h g1) (B := rBc 1 j) (b := nI 0) hL hi hk ?_ ?_ ?_ (fun g q => q.1) (fun _ _ _ _ g q => hn _ _ _ _ _ q.2)
    · refine lw_size_1 (A := fun g1 => mz_mo ([]) 1 6 h g1) ⟨_, H0⟩ ?_
      exact thrN (x_sizT hLi H0 hpr) (by decide) (by omega) rfl
    · rintro g m1
      exact ⟨_, m1.1 400 (fun q => by cases q) _ H400⟩
    · rintro g m1
      have g400 := m1.1 400 (fun q => by cases q) _ H400
      have m1s := m1
      have lg := mo_le m1
      have gL := hYL.lo w1 oEp m1s.1 (fun x q => by cases q)
      refine (mj_Wp.mono (y_sizT gL np6 g400 hpr) (by decide)).imp ?_
      rintro _ ⟨_, g2, rfl, rfl, y400, m2⟩
      have mt : mz_mo (([]) ++ ([400])) (1 + 0) (6 + 0) h g2 := mo2 m1 m2
      have et := mt.1
      have hx0 : ∀ x, x ∈ [] ++ [400] → (own x = 0 ∧ (x = 400)) := by
        intro x hx
        rcases List.mem_append.mp hx with q | q
        · cases q
        · have z : x < 414 ∧ (x = 400) := by simp only [cML, wML, List.mem_cons, List.mem_append, List.not_mem_nil, or_false] at q; omega
          exact ⟨w1.z z.1, z.2⟩
      have le := mt.2.1
      have l1 := mt.2.2.1
      have l2 := mt.2.2.2
      have qo : pOu g2 := pO.fr et (fun x hx => by have := hx0 x hx; omega)
      exact ⟨_, _, rfl, rfl, ⟨_, y400⟩, ⟨own, _, _, _, gs, pl, _, wa, nw, nx, np, K, X, rz, w1.len le, et 0 (fun q => by have := hx0 _ q; omega) _ H0, y400, pT.fr et (fun x hx => by have := hx0 x hx; omega) (fun _ q => q), pL.fr et (fun x hx => by have := hx0 x hx; omega) (fun _ q => q) (fun a q => by have := (w1 a (by omega)).2; omega) (fun _ q => q), pR.fr et (fun x hx => by have := hx0 x hx; omega), pV.fr et (fun x hx => by have := hx0 x hx; omega), pC.fr et (fun x hx => by have := hx0 x hx; omega) (fun _ q => q), pI.fr et (fun x hx => by have := hx0 x hx; omega), pS.fr et (fun x hx => by have := hx0 x hx; omega), qo, pX.fr et (fun x hx => by have := hx0 x hx; omega), pP.fr et (fun x hx => by have := hx0 x hx; omega) (fun _ q => q), pG.fr et (fun x hx => by have := hx0 x hx; omega) (fun _ q => q), by omega, by omega, by omega⟩⟩
  · obtain ⟨p, hpb, hx1⟩ := toI_ex q
    by_cases hp : p < np
    · refine lr_8_0 (i := 4 * j) (A := fun g => ∃ (g1 : mj_H) (ou : Nat → Int64), (mz_mo ([]) 0 0 h g1) ∧ mj_rd g1 412 = some (outC ou) ∧ g = g1.set 412 (outC (vp_updL ou 0 (Int32.toInt64 (nI (K p)))))) (B := rB0 (nI (K p)) j) (b := nI (K p)) hL hi hk ?_ ?_ ?_ (fun g q => q.h) (fun _ _ _ _ g q => hn _ _ _ _ _ q.2.2)
      · rw [hx1]
        refine lw_size_0 (A := fun g1 => mz_mo ([]) 0 0 h g1) ⟨_, H0⟩ ?_ (fun g1 q => ?_)
        · exact retN (x_siz hLi H0 hp) (by decide)
        · have m1 := q
          exact ⟨ou, m1.1 412 (fun q => by cases q) _ H412⟩
      · rintro g ⟨g1, ou1, m1, a2, hg⟩
        rw [hg]
        exact ⟨_, (rd_setn (by decide)).trans (m1.1 400 (fun q => by cases q) _ H400)⟩
      · rintro g ⟨g1, ou1, m1, a2, hg⟩
        have ms : mz_mo [412] 0 0 g1 g := by rw [hg]; exact mz_mo.st (by decide) a2 rfl
        have r412 : mj_rd g 412 = some (outC (vp_updL ou1 0 (Int32.toInt64 (nI (K p))))) := by rw [hg]; exact rd_set (by decide) a2
        clear hg
        have m1s : mz_mo (412 :: ([])) 0 0 h g := mo1s m1 ms
        have g400 := m1s.1 400 (fun q => by rcases List.mem_cons.mp q with q | q; (omega); (cases q)) _ H400
        have lg := mo_le m1s
        have gL := hYL.lo w1 oEp m1s.1 (fun x q => by rcases List.mem_cons.mp q with q | q; (constructor <;> omega); (cases q))
        rw [hx1]
        refine (mj_Wp.mono (y_siz_ gL np6 g400 hp hI4) (by decide)).imp ?_
        rintro _ ⟨_, g2, rfl, rfl, y400, m2⟩
        have mt : mz_mo (412 :: (([]) ++ ([400]))) (0 + 0) (0 + 0) h g2 := mo3 m1s m2
        have et := mt.1
        have Q412 := m2.1 412 (fun q => by simp only [cML, wML, List.mem_cons, List.mem_append, List.not_mem_nil, or_false] at q; omega) _ r412
        have hx0 : ∀ x, x ∈ 412 :: ([] ++ [400]) → (own x = 0 ∧ (x = 400 ∨ x = 412)) := by
          intro x hx
          rcases List.mem_cons.mp hx with hx | hx
          · rw [hx]; exact ⟨w1.z (by decide), by decide⟩
          rcases List.mem_append.mp hx with q | q
          · cases q
          · have z : x < 414 ∧ (x = 400 ∨ x = 412) := by simp only [cML, wML, List.mem_cons, List.mem_append, List.not_mem_nil, or_false] at q; omega
            exact ⟨w1.z z.1, z.2⟩
        have le := mt.2.1
        have l1 := mt.2.2.1
        have l2 := mt.2.2.2
        have qo : pOu g2 := pO.f2 et (fun x hx => by have := hx0 x hx; omega) ⟨_, Q412⟩
        exact ⟨_, _, rfl, rfl, ⟨_, y400⟩, ⟨_, Q412, if_pos rfl⟩, ⟨own, _, _, _, gs, pl, _, wa, nw, nx, np, K, X, rz, w1.len le, et 0 (fun q => by have := hx0 _ q; omega) _ H0, y400, pT.fr et (fun x hx => by have := hx0 x hx; omega) (fun _ q => q), pL.fr et (fun x hx => by have := hx0 x hx; omega) (fun _ q => q) (fun a q => by have := (w1 a (by omega)).2; omega) (fun _ q => q), pR.fr et (fun x hx => by have := hx0 x hx; omega), pV.fr et (fun x hx => by have := hx0 x hx; omega), pC.fr et (fun x hx => by have := hx0 x hx; omega) (fun _ q => q), pI.fr et (fun x hx => by have := hx0 x hx; omega), pS.fr et (fun x hx => by have := hx0 x hx; omega), qo, pX.fr et (fun x hx => by have := hx0 x hx; omega), pP.fr et (fun x hx => by have := hx0 x hx; omega) (fun _ q => q), pG.fr et (fun x hx => by have := hx0 x hx; omega) (fun _ q => q), by omega, by omega, by omega⟩⟩
    · have hpr : (xs (4 * j + 1)).toInt < 0 ∨ (np : Int) ≤ (xs (4 * j + 1)).toInt := Or.inr (by rw [hx1, mI_ti hpb]; omega)
      refine lr_8_1 (i := 4 * j) (A := fun g1 => mz_mo ([]) 1 6 h g1) (B := rBc 1 j) (b := nI 0) hL hi hk ?_ ?_ ?_ (fun g q => q.1) (fun _ _ _ _ g q => hn _ _ _ _ _ q.2)
      · refine lw_size_1 (A := fun g1 => mz_mo ([]) 1 6 h g1) ⟨_, H0⟩ ?_
        exact thrN (x_sizT hLi H0 hpr) (by decide) (by omega) rfl
      · rintro g m1
        exact ⟨_, m1.1 400 (fun q => by cases q) _ H400⟩
      · rintro g m1
        have g400 := m1.1 400 (fun q => by cases q) _ H400
        have m1s := m1
        have lg := mo_le m1
        have gL := hYL.lo w1 oEp m1s.1 (fun x q => by cases q)
        refine (mj_Wp.mono (y_sizT gL np6 g400 hpr) (by decide)).imp ?_
        rintro _ ⟨_, g2, rfl, rfl, y400, m2⟩
        have mt : mz_mo (([]) ++ ([400])) (1 + 0) (6 + 0) h g2 := mo2 m1 m2
        have et := mt.1
        have hx0 : ∀ x, x ∈ [] ++ [400] → (own x = 0 ∧ (x = 400)) := by
          intro x hx
          rcases List.mem_append.mp hx with q | q
          · cases q
          · have z : x < 414 ∧ (x = 400) := by simp only [cML, wML, List.mem_cons, List.mem_append, List.not_mem_nil, or_false] at q; omega
            exact ⟨w1.z z.1, z.2⟩
        have le := mt.2.1
        have l1 := mt.2.2.1
        have l2 := mt.2.2.2
        have qo : pOu g2 := pO.fr et (fun x hx => by have := hx0 x hx; omega)
        exact ⟨_, _, rfl, rfl, ⟨_, y400⟩, ⟨own, _, _, _, gs, pl, _, wa, nw, nx, np, K, X, rz, w1.len le, et 0 (fun q => by have := hx0 _ q; omega) _ H0, y400, pT.fr et (fun x hx => by have := hx0 x hx; omega) (fun _ q => q), pL.fr et (fun x hx => by have := hx0 x hx; omega) (fun _ q => q) (fun a q => by have := (w1 a (by omega)).2; omega) (fun _ q => q), pR.fr et (fun x hx => by have := hx0 x hx; omega), pV.fr et (fun x hx => by have := hx0 x hx; omega), pC.fr et (fun x hx => by have := hx0 x hx; omega) (fun _ q => q), pI.fr et (fun x hx => by have := hx0 x hx; omega), pS.fr et (fun x hx => by have := hx0 x hx; omega), qo, pX.fr et (fun x hx => by have := hx0 x hx; omega), pP.fr et (fun x hx => by have := hx0 x hx; omega) (fun _ q => q), pG.fr et (fun x hx => by have := hx0 x hx; omega) (fun _ q => q), by omega, by omega, by omega⟩⟩
theorem r_7 {L j : Nat} {xs : Nat → Int32} {h : mj_H} {l6 l7 l8 l9 : Option Value} {P : mj_H → Prop} {own : Nat → Nat} {th : Int32} {sd be : Int64} {gs pl ty wa nw nx : Value} {np : Nat} {K : Nat → Nat} {X : Nat → Nat → Nat → Nat} {rz : Nat} (w : wJ own th sd be gs pl ty wa nw nx np K X rz j h) (hL : L ≤ 2048) (hi : 4 * j + 4 ≤ L) (hk : xs (4 * j) &&& nI 63 = nI 7) (hn : ∀ (l6 l7 l8 l9 : Option Value) (g : mj_H), wI (j + 1) g → mj_lrun L xs (28, [some (.retAddr 1), some (.ref 0), some (.ref 400), some (.ref 412), some (.ref 413), some (.int (nI (4 * j + 4))), l6, l7, l8, l9], [], g) P) : mj_lrun L xs (28, [some (.retAddr 1), some (.ref 0), some (.ref 400), some (.ref 412), some (.ref 413), some (.int (nI (4 * j))), l6, l7, l8, l9], [], h) P := by
  obtain ⟨w1, H0, H400, pT, pL, pR, pV, pC, pI, pS, pO, pX, pP, pG, j5, b1, b2⟩ := id w
  have ln := w.len
  obtain ⟨⟨ou, H412⟩, od, H413⟩ := id pO
  obtain ⟨N, F, PF, Ep, hLi, hYL, hLo, oEp⟩ := id pL
  have np6 := hLi.1
  have e1 : mj_CB = 1000000 := rfl
  have hpk := hLo.pOk np6
  have hcb := hLi.lb
  have hIl : ∀ a, own a = 9 → a < h.length := fun a q => (w1 a (by omega)).2
  have hI4 : ∀ a, own a = 9 → a ≠ 400 ∧ a ≠ 401 ∧ a ≠ Ep := fun a q => by
    have z := w1 a (by omega)
    refine ⟨by omega, by omega, fun e => ?_⟩
    rw [e] at q z
    have := oEp (by omega)
    omega
  have hIn : ¬ own 400 = 9 := fun q => by have := w1 400 (by omega); omega
  have hIw : ∀ x, x ∈ wML 402 → ¬ own x = 9 := fun x hx q => by have := wML_m.mp hx; have := w1 x (by omega); omega
  rcases (by omega : (xs (4 * j + 1)).toInt < 0 ∨ 0 ≤ (xs (4 * j + 1)).toInt) with q | q
  · have hpr : (xs (4 * j + 1)).toInt < 0 ∨ (np : Int) ≤ (xs (4 * j + 1)).toInt := Or.inl q
    refine lr_7_1 (i := 4 * j) (A := fun g1 => mz_mo ([]) 1 6 h g1) (B := rBc 1 j) (b := nI 0) hL hi hk ?_ ?_ ?_ (fun g q => q.1) (fun _ _ _ _ g q => hn _ _ _ _ _ q.2)
    · refine lw_signAt_1 (A := fun g1 => mz_mo ([]) 1 6 h g1) ⟨_, H0⟩ ?_
      exact thrN (x_sgaT hLi H0 hpr) (by decide) (by omega) rfl
    · rintro g m1
      exact ⟨_, m1.1 400 (fun q => by cases q) _ H400⟩
    · rintro g m1
      have g400 := m1.1 400 (fun q => by cases q) _ H400
      have m1s := m1
      have lg := mo_le m1
      have gL := hYL.lo w1 oEp m1s.1 (fun x q => by cases q)
      refine (mj_Wp.mono (y_sgaT gL np6 g400 hpr) (by decide)).imp ?_
      rintro _ ⟨_, g2, rfl, rfl, y400, m2⟩
      have mt : mz_mo (([]) ++ ([400])) (1 + 0) (6 + 0) h g2 := mo2 m1 m2
      have et := mt.1
      have hx0 : ∀ x, x ∈ [] ++ [400] → (own x = 0 ∧ (x = 400)) := by
        intro x hx
        rcases List.mem_append.mp hx with q | q
        · cases q
        · have z : x < 414 ∧ (x = 400) := by simp only [cML, wML, List.mem_cons, List.mem_append, List.not_mem_nil, or_false] at q; omega
          exact ⟨w1.z z.1, z.2⟩
      have le := mt.2.1
      have l1 := mt.2.2.1
      have l2 := mt.2.2.2
      have qo : pOu g2 := pO.fr et (fun x hx => by have := hx0 x hx; omega)
      exact ⟨_, _, rfl, rfl, ⟨_, y400⟩, ⟨own, _, _, _, gs, pl, _, wa, nw, nx, np, K, X, rz, w1.len le, et 0 (fun q => by have := hx0 _ q; omega) _ H0, y400, pT.fr et (fun x hx => by have := hx0 x hx; omega) (fun _ q => q), pL.fr et (fun x hx => by have := hx0 x hx; omega) (fun _ q => q) (fun a q => by have := (w1 a (by omega)).2; omega) (fun _ q => q), pR.fr et (fun x hx => by have := hx0 x hx; omega), pV.fr et (fun x hx => by have := hx0 x hx; omega), pC.fr et (fun x hx => by have := hx0 x hx; omega) (fun _ q => q), pI.fr et (fun x hx => by have := hx0 x hx; omega), pS.fr et (fun x hx => by have := hx0 x hx; omega), qo, pX.fr et (fun x hx => by have := hx0 x hx; omega), pP.fr et (fun x hx => by have := hx0 x hx; omega) (fun _ q => q), pG.fr et (fun x hx => by have := hx0 x hx; omega) (fun _ q => q), by omega, by omega, by omega⟩⟩
  · obtain ⟨p, hpb, hx1⟩ := toI_ex q
    by_cases hp : p < np
    · have hN60 : N p ≤ 60 := (hLo p hp).1
      rcases (by omega : (xs (4 * j + 2)).toInt < 0 ∨ 0 ≤ (xs (4 * j + 2)).toInt) with q2 | q2
      · have huo : (xs (4 * j + 2)).toInt < 0 ∨ ((N p : Nat) : Int) ≤ (xs (4 * j + 2)).toInt := Or.inl q2
        refine lr_7_1 (i := 4 * j) (A := fun g1 => mz_mo ([]) 1 6 h g1) (B := rBc 1 j) (b := nI 0) hL hi hk ?_ ?_ ?_ (fun g q => q.1) (fun _ _ _ _ g q => hn _ _ _ _ _ q.2)
        · rw [hx1]
          refine lw_signAt_1 (A := fun g1 => mz_mo ([]) 1 6 h g1) ⟨_, H0⟩ ?_
          exact thrN (x_sgaO hLi H0 hp huo hN60) (by decide) (by omega) rfl
        · rintro g m1
          exact ⟨_, m1.1 400 (fun q => by cases q) _ H400⟩
        · rintro g m1
          have g400 := m1.1 400 (fun q => by cases q) _ H400
          have m1s := m1
          have lg := mo_le m1
          have gL := hYL.lo w1 oEp m1s.1 (fun x q => by cases q)
          rw [hx1]
          refine (mj_Wp.mono (y_sgaO gL np6 g400 hp hI4 hN60 huo) (by decide)).imp ?_
          rintro _ ⟨_, g2, rfl, rfl, y400, m2⟩
          have mt : mz_mo (([]) ++ ([400])) (1 + 0) (6 + 0) h g2 := mo2 m1 m2
          have et := mt.1
          have hx0 : ∀ x, x ∈ [] ++ [400] → (own x = 0 ∧ (x = 400)) := by
            intro x hx
            rcases List.mem_append.mp hx with q | q
            · cases q
            · have z : x < 414 ∧ (x = 400) := by simp only [cML, wML, List.mem_cons, List.mem_append, List.not_mem_nil, or_false] at q; omega
              exact ⟨w1.z z.1, z.2⟩
          have le := mt.2.1
          have l1 := mt.2.2.1
          have l2 := mt.2.2.2
          have qo : pOu g2 := pO.fr et (fun x hx => by have := hx0 x hx; omega)
          exact ⟨_, _, rfl, rfl, ⟨_, y400⟩, ⟨own, _, _, _, gs, pl, _, wa, nw, nx, np, K, X, rz, w1.len le, et 0 (fun q => by have := hx0 _ q; omega) _ H0, y400, pT.fr et (fun x hx => by have := hx0 x hx; omega) (fun _ q => q), pL.fr et (fun x hx => by have := hx0 x hx; omega) (fun _ q => q) (fun a q => by have := (w1 a (by omega)).2; omega) (fun _ q => q), pR.fr et (fun x hx => by have := hx0 x hx; omega), pV.fr et (fun x hx => by have := hx0 x hx; omega), pC.fr et (fun x hx => by have := hx0 x hx; omega) (fun _ q => q), pI.fr et (fun x hx => by have := hx0 x hx; omega), pS.fr et (fun x hx => by have := hx0 x hx; omega), qo, pX.fr et (fun x hx => by have := hx0 x hx; omega), pP.fr et (fun x hx => by have := hx0 x hx; omega) (fun _ q => q), pG.fr et (fun x hx => by have := hx0 x hx; omega) (fun _ q => q), by omega, by omega, by omega⟩⟩
      · obtain ⟨u, hub, hx2⟩ := toI_ex q2
        by_cases hu : u < N p
        · refine lr_7_0 (i := 4 * j) (A := fun g => ∃ (g1 : mj_H) (ou : Nat → Int64), (mz_mo ([]) 0 0 h g1) ∧ mj_rd g1 412 = some (outC ou) ∧ g = g1.set 412 (outC (vp_updL ou 0 (Int32.toInt64 (nI (F p u)))))) (B := rB0 (nI (F p u)) j) (b := nI (F p u)) hL hi hk ?_ ?_ ?_ (fun g q => q.h) (fun _ _ _ _ g q => hn _ _ _ _ _ q.2.2)
          · rw [hx1, hx2]
            refine lw_signAt_0 (A := fun g1 => mz_mo ([]) 0 0 h g1) ⟨_, H0⟩ ?_ (fun g1 q => ?_)
            · exact retN (x_sga hLi H0 hp hu hN60 ((hLo p hp).2.1 u hu)) (by decide)
            · have m1 := q
              exact ⟨ou, m1.1 412 (fun q => by cases q) _ H412⟩
          · rintro g ⟨g1, ou1, m1, a2, hg⟩
            rw [hg]
            exact ⟨_, (rd_setn (by decide)).trans (m1.1 400 (fun q => by cases q) _ H400)⟩
          · rintro g ⟨g1, ou1, m1, a2, hg⟩
            have ms : mz_mo [412] 0 0 g1 g := by rw [hg]; exact mz_mo.st (by decide) a2 rfl
            have r412 : mj_rd g 412 = some (outC (vp_updL ou1 0 (Int32.toInt64 (nI (F p u))))) := by rw [hg]; exact rd_set (by decide) a2
            clear hg
            have m1s : mz_mo (412 :: ([])) 0 0 h g := mo1s m1 ms
            have g400 := m1s.1 400 (fun q => by rcases List.mem_cons.mp q with q | q; (omega); (cases q)) _ H400
            have lg := mo_le m1s
            have gL := hYL.lo w1 oEp m1s.1 (fun x q => by rcases List.mem_cons.mp q with q | q; (constructor <;> omega); (cases q))
            rw [hx1, hx2]
            refine (mj_Wp.mono (y_sga gL np6 g400 hp hI4 hN60 hu ((hLo p hp).2.1 u hu)) (by decide)).imp ?_
            rintro _ ⟨_, g2, rfl, rfl, y400, m2⟩
            have mt : mz_mo (412 :: (([]) ++ ([400]))) (0 + 0) (0 + 0) h g2 := mo3 m1s m2
            have et := mt.1
            have Q412 := m2.1 412 (fun q => by simp only [cML, wML, List.mem_cons, List.mem_append, List.not_mem_nil, or_false] at q; omega) _ r412
            have hx0 : ∀ x, x ∈ 412 :: ([] ++ [400]) → (own x = 0 ∧ (x = 400 ∨ x = 412)) := by
              intro x hx
              rcases List.mem_cons.mp hx with hx | hx
              · rw [hx]; exact ⟨w1.z (by decide), by decide⟩
              rcases List.mem_append.mp hx with q | q
              · cases q
              · have z : x < 414 ∧ (x = 400 ∨ x = 412) := by simp only [cML, wML, List.mem_cons, List.mem_append, List.not_mem_nil, or_false] at q; omega
                exact ⟨w1.z z.1, z.2⟩
            have le := mt.2.1
            have l1 := mt.2.2.1
            have l2 := mt.2.2.2
            have qo : pOu g2 := pO.f2 et (fun x hx => by have := hx0 x hx; omega) ⟨_, Q412⟩
            exact ⟨_, _, rfl, rfl, ⟨_, y400⟩, ⟨_, Q412, if_pos rfl⟩, ⟨own, _, _, _, gs, pl, _, wa, nw, nx, np, K, X, rz, w1.len le, et 0 (fun q => by have := hx0 _ q; omega) _ H0, y400, pT.fr et (fun x hx => by have := hx0 x hx; omega) (fun _ q => q), pL.fr et (fun x hx => by have := hx0 x hx; omega) (fun _ q => q) (fun a q => by have := (w1 a (by omega)).2; omega) (fun _ q => q), pR.fr et (fun x hx => by have := hx0 x hx; omega), pV.fr et (fun x hx => by have := hx0 x hx; omega), pC.fr et (fun x hx => by have := hx0 x hx; omega) (fun _ q => q), pI.fr et (fun x hx => by have := hx0 x hx; omega), pS.fr et (fun x hx => by have := hx0 x hx; omega), qo, pX.fr et (fun x hx => by have := hx0 x hx; omega), pP.fr et (fun x hx => by have := hx0 x hx; omega) (fun _ q => q), pG.fr et (fun x hx => by have := hx0 x hx; omega) (fun _ q => q), by omega, by omega, by omega⟩⟩
        · have huo : (xs (4 * j + 2)).toInt < 0 ∨ ((N p : Nat) : Int) ≤ (xs (4 * j + 2)).toInt := Or.inr (by rw [hx2, mI_ti hub]; omega)
          refine lr_7_1 (i := 4 * j) (A := fun g1 => mz_mo ([]) 1 6 h g1) (B := rBc 1 j) (b := nI 0) hL hi hk ?_ ?_ ?_ (fun g q => q.1) (fun _ _ _ _ g q => hn _ _ _ _ _ q.2)
          · rw [hx1]
            refine lw_signAt_1 (A := fun g1 => mz_mo ([]) 1 6 h g1) ⟨_, H0⟩ ?_
            exact thrN (x_sgaO hLi H0 hp huo hN60) (by decide) (by omega) rfl
          · rintro g m1
            exact ⟨_, m1.1 400 (fun q => by cases q) _ H400⟩
          · rintro g m1
            have g400 := m1.1 400 (fun q => by cases q) _ H400
            have m1s := m1
            have lg := mo_le m1
            have gL := hYL.lo w1 oEp m1s.1 (fun x q => by cases q)
            rw [hx1]
            refine (mj_Wp.mono (y_sgaO gL np6 g400 hp hI4 hN60 huo) (by decide)).imp ?_
            rintro _ ⟨_, g2, rfl, rfl, y400, m2⟩
            have mt : mz_mo (([]) ++ ([400])) (1 + 0) (6 + 0) h g2 := mo2 m1 m2
            have et := mt.1
            have hx0 : ∀ x, x ∈ [] ++ [400] → (own x = 0 ∧ (x = 400)) := by
              intro x hx
              rcases List.mem_append.mp hx with q | q
              · cases q
              · have z : x < 414 ∧ (x = 400) := by simp only [cML, wML, List.mem_cons, List.mem_append, List.not_mem_nil, or_false] at q; omega
                exact ⟨w1.z z.1, z.2⟩
            have le := mt.2.1
            have l1 := mt.2.2.1
            have l2 := mt.2.2.2
            have qo : pOu g2 := pO.fr et (fun x hx => by have := hx0 x hx; omega)
            exact ⟨_, _, rfl, rfl, ⟨_, y400⟩, ⟨own, _, _, _, gs, pl, _, wa, nw, nx, np, K, X, rz, w1.len le, et 0 (fun q => by have := hx0 _ q; omega) _ H0, y400, pT.fr et (fun x hx => by have := hx0 x hx; omega) (fun _ q => q), pL.fr et (fun x hx => by have := hx0 x hx; omega) (fun _ q => q) (fun a q => by have := (w1 a (by omega)).2; omega) (fun _ q => q), pR.fr et (fun x hx => by have := hx0 x hx; omega), pV.fr et (fun x hx => by have := hx0 x hx; omega), pC.fr et (fun x hx => by have := hx0 x hx; omega) (fun _ q => q), pI.fr et (fun x hx => by have := hx0 x hx; omega), pS.fr et (fun x hx => by have := hx0 x hx; omega), qo, pX.fr et (fun x hx => by have := hx0 x hx; omega), pP.fr et (fun x hx => by have := hx0 x hx; omega) (fun _ q => q), pG.fr et (fun x hx => by have := hx0 x hx; omega) (fun _ q => q), by omega, by omega, by omega⟩⟩
    · have hpr : (xs (4 * j + 1)).toInt < 0 ∨ (np : Int) ≤ (xs (4 * j + 1)).toInt := Or.inr (by rw [hx1, mI_ti hpb]; omega)
      refine lr_7_1 (i := 4 * j) (A := fun g1 => mz_mo ([]) 1 6 h g1) (B := rBc 1 j) (b := nI 0) hL hi hk ?_ ?_ ?_ (fun g q => q.1) (fun _ _ _ _ g q => hn _ _ _ _ _ q.2)
      · refine lw_signAt_1 (A := fun g1 => mz_mo ([]) 1 6 h g1) ⟨_, H0⟩ ?_
        exact thrN (x_sgaT hLi H0 hpr) (by decide) (by omega) rfl
      · rintro g m1
        exact ⟨_, m1.1 400 (fun q => by cases q) _ H400⟩
      · rintro g m1
        have g400 := m1.1 400 (fun q => by cases q) _ H400
        have m1s := m1
        have lg := mo_le m1
        have gL := hYL.lo w1 oEp m1s.1 (fun x q => by cases q)
        refine (mj_Wp.mono (y_sgaT gL np6 g400 hpr) (by decide)).imp ?_
        rintro _ ⟨_, g2, rfl, rfl, y400, m2⟩
        have mt : mz_mo (([]) ++ ([400])) (1 + 0) (6 + 0) h g2 := mo2 m1 m2
        have et := mt.1
        have hx0 : ∀ x, x ∈ [] ++ [400] → (own x = 0 ∧ (x = 400)) := by
          intro x hx
          rcases List.mem_append.mp hx with q | q
          · cases q
          · have z : x < 414 ∧ (x = 400) := by simp only [cML, wML, List.mem_cons, List.mem_append, List.not_mem_nil, or_false] at q; omega
            exact ⟨w1.z z.1, z.2⟩
        have le := mt.2.1
        have l1 := mt.2.2.1
        have l2 := mt.2.2.2
        have qo : pOu g2 := pO.fr et (fun x hx => by have := hx0 x hx; omega)
        exact ⟨_, _, rfl, rfl, ⟨_, y400⟩, ⟨own, _, _, _, gs, pl, _, wa, nw, nx, np, K, X, rz, w1.len le, et 0 (fun q => by have := hx0 _ q; omega) _ H0, y400, pT.fr et (fun x hx => by have := hx0 x hx; omega) (fun _ q => q), pL.fr et (fun x hx => by have := hx0 x hx; omega) (fun _ q => q) (fun a q => by have := (w1 a (by omega)).2; omega) (fun _ q => q), pR.fr et (fun x hx => by have := hx0 x hx; omega), pV.fr et (fun x hx => by have := hx0 x hx; omega), pC.fr et (fun x hx => by have := hx0 x hx; omega) (fun _ q => q), pI.fr et (fun x hx => by have := hx0 x hx; omega), pS.fr et (fun x hx => by have := hx0 x hx; omega), qo, pX.fr et (fun x hx => by have := hx0 x hx; omega), pP.fr et (fun x hx => by have := hx0 x hx; omega) (fun _ q => q), pG.fr et (fun x hx => by have := hx0 x hx; omega) (fun _ q => q), by omega, by omega, by omega⟩⟩
theorem r_9 {L j : Nat} {xs : Nat → Int32} {h : mj_H} {l6 l7 l8 l9 : Option Value} {P : mj_H → Prop} {own : Nat → Nat} {th : Int32} {sd be : Int64} {gs pl ty wa nw nx : Value} {np : Nat} {K : Nat → Nat} {X : Nat → Nat → Nat → Nat} {rz : Nat} (w : wJ own th sd be gs pl ty wa nw nx np K X rz j h) (hL : L ≤ 2048) (hi : 4 * j + 4 ≤ L) (hk : xs (4 * j) &&& nI 63 = nI 9) (hn : ∀ (l6 l7 l8 l9 : Option Value) (g : mj_H), wI (j + 1) g → mj_lrun L xs (28, [some (.retAddr 1), some (.ref 0), some (.ref 400), some (.ref 412), some (.ref 413), some (.int (nI (4 * j + 4))), l6, l7, l8, l9], [], g) P) : mj_lrun L xs (28, [some (.retAddr 1), some (.ref 0), some (.ref 400), some (.ref 412), some (.ref 413), some (.int (nI (4 * j))), l6, l7, l8, l9], [], h) P := by
  obtain ⟨w1, H0, H400, pT, pL, pR, pV, pC, pI, pS, pO, pX, pP, pG, j5, b1, b2⟩ := id w
  have ln := w.len
  obtain ⟨⟨ou, H412⟩, od, H413⟩ := id pO
  obtain ⟨N, F, PF, Ep, hLi, hYL, hLo, oEp⟩ := id pL
  have np6 := hLi.1
  have e1 : mj_CB = 1000000 := rfl
  have hpk := hLo.pOk np6
  have hcb := hLi.lb
  have hIl : ∀ a, own a = 9 → a < h.length := fun a q => (w1 a (by omega)).2
  have hI4 : ∀ a, own a = 9 → a ≠ 400 ∧ a ≠ 401 ∧ a ≠ Ep := fun a q => by
    have z := w1 a (by omega)
    refine ⟨by omega, by omega, fun e => ?_⟩
    rw [e] at q z
    have := oEp (by omega)
    omega
  have hIn : ¬ own 400 = 9 := fun q => by have := w1 400 (by omega); omega
  have hIw : ∀ x, x ∈ wML 402 → ¬ own x = 9 := fun x hx q => by have := wML_m.mp hx; have := w1 x (by omega); omega
  rcases (by omega : (xs (4 * j + 1)).toInt < 0 ∨ 0 ≤ (xs (4 * j + 1)).toInt) with q | q
  · have hpr : (xs (4 * j + 1)).toInt < 0 ∨ (np : Int) ≤ (xs (4 * j + 1)).toInt := Or.inl q
    refine lr_9_1 (i := 4 * j) (A := fun g1 => mz_mo ([]) 1 6 h g1) (B := rBc 1 j) (b := nI 0) hL hi hk ?_ ?_ ?_ (fun g q => q.1) (fun _ _ _ _ g q => hn _ _ _ _ _ q.2)
    · refine lw_instruction_1 (A := fun g1 => mz_mo ([]) 1 6 h g1) ⟨_, H0⟩ ?_
      exact thrN (x_iatT hLi H0 hpr) (by decide) (by omega) rfl
    · rintro g m1
      exact ⟨_, m1.1 400 (fun q => by cases q) _ H400⟩
    · rintro g m1
      have g400 := m1.1 400 (fun q => by cases q) _ H400
      have m1s := m1
      have lg := mo_le m1
      have gL := hYL.lo w1 oEp m1s.1 (fun x q => by cases q)
      refine (mj_Wp.mono (y_iatT gL np6 g400 hpr) (by decide)).imp ?_
      rintro _ ⟨_, g2, rfl, rfl, y400, m2⟩
      have mt : mz_mo (([]) ++ ([400])) (1 + 0) (6 + 0) h g2 := mo2 m1 m2
      have et := mt.1
      have hx0 : ∀ x, x ∈ [] ++ [400] → (own x = 0 ∧ (x = 400)) := by
        intro x hx
        rcases List.mem_append.mp hx with q | q
        · cases q
        · have z : x < 414 ∧ (x = 400) := by simp only [cML, wML, List.mem_cons, List.mem_append, List.not_mem_nil, or_false] at q; omega
          exact ⟨w1.z z.1, z.2⟩
      have le := mt.2.1
      have l1 := mt.2.2.1
      have l2 := mt.2.2.2
      have qo : pOu g2 := pO.fr et (fun x hx => by have := hx0 x hx; omega)
      exact ⟨_, _, rfl, rfl, ⟨_, y400⟩, ⟨own, _, _, _, gs, pl, _, wa, nw, nx, np, K, X, rz, w1.len le, et 0 (fun q => by have := hx0 _ q; omega) _ H0, y400, pT.fr et (fun x hx => by have := hx0 x hx; omega) (fun _ q => q), pL.fr et (fun x hx => by have := hx0 x hx; omega) (fun _ q => q) (fun a q => by have := (w1 a (by omega)).2; omega) (fun _ q => q), pR.fr et (fun x hx => by have := hx0 x hx; omega), pV.fr et (fun x hx => by have := hx0 x hx; omega), pC.fr et (fun x hx => by have := hx0 x hx; omega) (fun _ q => q), pI.fr et (fun x hx => by have := hx0 x hx; omega), pS.fr et (fun x hx => by have := hx0 x hx; omega), qo, pX.fr et (fun x hx => by have := hx0 x hx; omega), pP.fr et (fun x hx => by have := hx0 x hx; omega) (fun _ q => q), pG.fr et (fun x hx => by have := hx0 x hx; omega) (fun _ q => q), by omega, by omega, by omega⟩⟩
  · obtain ⟨p, hpb, hx1⟩ := toI_ex q
    by_cases hp : p < np
    · have hN60 : K p ≤ 60 := by have := (hpk.2 p hp).1; omega
      rcases (by omega : (xs (4 * j + 2)).toInt < 0 ∨ 0 ≤ (xs (4 * j + 2)).toInt) with q2 | q2
      · have huo : (xs (4 * j + 2)).toInt < 0 ∨ ((K p : Nat) : Int) ≤ (xs (4 * j + 2)).toInt := Or.inl q2
        refine lr_9_1 (i := 4 * j) (A := fun g1 => mz_mo ([]) 1 6 h g1) (B := rBc 1 j) (b := nI 0) hL hi hk ?_ ?_ ?_ (fun g q => q.1) (fun _ _ _ _ g q => hn _ _ _ _ _ q.2)
        · rw [hx1]
          refine lw_instruction_1 (A := fun g1 => mz_mo ([]) 1 6 h g1) ⟨_, H0⟩ ?_
          exact thrN (x_iatO hLi H0 hp huo hN60) (by decide) (by omega) rfl
        · rintro g m1
          exact ⟨_, m1.1 400 (fun q => by cases q) _ H400⟩
        · rintro g m1
          have g400 := m1.1 400 (fun q => by cases q) _ H400
          have m1s := m1
          have lg := mo_le m1
          have gL := hYL.lo w1 oEp m1s.1 (fun x q => by cases q)
          rw [hx1]
          refine (mj_Wp.mono (y_iatO gL np6 g400 hp hI4 (hpk.2 p hp).1 huo) (by decide)).imp ?_
          rintro _ ⟨_, g2, rfl, rfl, y400, m2⟩
          have mt : mz_mo (([]) ++ ([400])) (1 + 0) (6 + 0) h g2 := mo2 m1 m2
          have et := mt.1
          have hx0 : ∀ x, x ∈ [] ++ [400] → (own x = 0 ∧ (x = 400)) := by
            intro x hx
            rcases List.mem_append.mp hx with q | q
            · cases q
            · have z : x < 414 ∧ (x = 400) := by simp only [cML, wML, List.mem_cons, List.mem_append, List.not_mem_nil, or_false] at q; omega
              exact ⟨w1.z z.1, z.2⟩
          have le := mt.2.1
          have l1 := mt.2.2.1
          have l2 := mt.2.2.2
          have qo : pOu g2 := pO.fr et (fun x hx => by have := hx0 x hx; omega)
          exact ⟨_, _, rfl, rfl, ⟨_, y400⟩, ⟨own, _, _, _, gs, pl, _, wa, nw, nx, np, K, X, rz, w1.len le, et 0 (fun q => by have := hx0 _ q; omega) _ H0, y400, pT.fr et (fun x hx => by have := hx0 x hx; omega) (fun _ q => q), pL.fr et (fun x hx => by have := hx0 x hx; omega) (fun _ q => q) (fun a q => by have := (w1 a (by omega)).2; omega) (fun _ q => q), pR.fr et (fun x hx => by have := hx0 x hx; omega), pV.fr et (fun x hx => by have := hx0 x hx; omega), pC.fr et (fun x hx => by have := hx0 x hx; omega) (fun _ q => q), pI.fr et (fun x hx => by have := hx0 x hx; omega), pS.fr et (fun x hx => by have := hx0 x hx; omega), qo, pX.fr et (fun x hx => by have := hx0 x hx; omega), pP.fr et (fun x hx => by have := hx0 x hx; omega) (fun _ q => q), pG.fr et (fun x hx => by have := hx0 x hx; omega) (fun _ q => q), by omega, by omega, by omega⟩⟩
      · obtain ⟨u, hub, hx2⟩ := toI_ex q2
        by_cases hu : u < K p
        · have hc0 : X p u 0 < 65536 := by have := aOk_0 ((hpk.2 p hp).2 u hu); omega
          refine lr_9_0 (i := 4 * j) (A := fun g => ∃ (g1 : mj_H) (ou : Nat → Int64), (mz_mo ([]) 0 0 h g1) ∧ mj_rd g1 412 = some (outC ou) ∧ g = g1.set 412 (outC (vp_updL ou 0 (Int32.toInt64 (nI (X p u 0)))))) (B := rB0 (nI (X p u 0)) j) (b := nI (X p u 0)) hL hi hk ?_ ?_ ?_ (fun g q => q.h) (fun _ _ _ _ g q => hn _ _ _ _ _ q.2.2)
          · rw [hx1, hx2]
            refine lw_instruction_0 (A := fun g1 => mz_mo ([]) 0 0 h g1) ⟨_, H0⟩ ?_ (fun g1 q => ?_)
            · exact retN (x_iat hLi H0 hp hu hN60 hc0) (by decide)
            · have m1 := q
              exact ⟨ou, m1.1 412 (fun q => by cases q) _ H412⟩
          · rintro g ⟨g1, ou1, m1, a2, hg⟩
            rw [hg]
            exact ⟨_, (rd_setn (by decide)).trans (m1.1 400 (fun q => by cases q) _ H400)⟩
          · rintro g ⟨g1, ou1, m1, a2, hg⟩
            have ms : mz_mo [412] 0 0 g1 g := by rw [hg]; exact mz_mo.st (by decide) a2 rfl
            have r412 : mj_rd g 412 = some (outC (vp_updL ou1 0 (Int32.toInt64 (nI (X p u 0))))) := by rw [hg]; exact rd_set (by decide) a2
            clear hg
            have m1s : mz_mo (412 :: ([])) 0 0 h g := mo1s m1 ms
            have g400 := m1s.1 400 (fun q => by rcases List.mem_cons.mp q with q | q; (omega); (cases q)) _ H400
            have lg := mo_le m1s
            have gL := hYL.lo w1 oEp m1s.1 (fun x q => by rcases List.mem_cons.mp q with q | q; (constructor <;> omega); (cases q))
            rw [hx1, hx2]
            refine (mj_Wp.mono (y_iat gL np6 g400 hp hI4 (hpk.2 p hp).1 hu hc0) (by decide)).imp ?_
            rintro _ ⟨_, g2, rfl, rfl, y400, m2⟩
            have mt : mz_mo (412 :: (([]) ++ ([400]))) (0 + 0) (0 + 0) h g2 := mo3 m1s m2
            have et := mt.1
            have Q412 := m2.1 412 (fun q => by simp only [cML, wML, List.mem_cons, List.mem_append, List.not_mem_nil, or_false] at q; omega) _ r412
            have hx0 : ∀ x, x ∈ 412 :: ([] ++ [400]) → (own x = 0 ∧ (x = 400 ∨ x = 412)) := by
              intro x hx
              rcases List.mem_cons.mp hx with hx | hx
              · rw [hx]; exact ⟨w1.z (by decide), by decide⟩
              rcases List.mem_append.mp hx with q | q
              · cases q
              · have z : x < 414 ∧ (x = 400 ∨ x = 412) := by simp only [cML, wML, List.mem_cons, List.mem_append, List.not_mem_nil, or_false] at q; omega
                exact ⟨w1.z z.1, z.2⟩
            have le := mt.2.1
            have l1 := mt.2.2.1
            have l2 := mt.2.2.2
            have qo : pOu g2 := pO.f2 et (fun x hx => by have := hx0 x hx; omega) ⟨_, Q412⟩
            exact ⟨_, _, rfl, rfl, ⟨_, y400⟩, ⟨_, Q412, if_pos rfl⟩, ⟨own, _, _, _, gs, pl, _, wa, nw, nx, np, K, X, rz, w1.len le, et 0 (fun q => by have := hx0 _ q; omega) _ H0, y400, pT.fr et (fun x hx => by have := hx0 x hx; omega) (fun _ q => q), pL.fr et (fun x hx => by have := hx0 x hx; omega) (fun _ q => q) (fun a q => by have := (w1 a (by omega)).2; omega) (fun _ q => q), pR.fr et (fun x hx => by have := hx0 x hx; omega), pV.fr et (fun x hx => by have := hx0 x hx; omega), pC.fr et (fun x hx => by have := hx0 x hx; omega) (fun _ q => q), pI.fr et (fun x hx => by have := hx0 x hx; omega), pS.fr et (fun x hx => by have := hx0 x hx; omega), qo, pX.fr et (fun x hx => by have := hx0 x hx; omega), pP.fr et (fun x hx => by have := hx0 x hx; omega) (fun _ q => q), pG.fr et (fun x hx => by have := hx0 x hx; omega) (fun _ q => q), by omega, by omega, by omega⟩⟩
        · have huo : (xs (4 * j + 2)).toInt < 0 ∨ ((K p : Nat) : Int) ≤ (xs (4 * j + 2)).toInt := Or.inr (by rw [hx2, mI_ti hub]; omega)
          refine lr_9_1 (i := 4 * j) (A := fun g1 => mz_mo ([]) 1 6 h g1) (B := rBc 1 j) (b := nI 0) hL hi hk ?_ ?_ ?_ (fun g q => q.1) (fun _ _ _ _ g q => hn _ _ _ _ _ q.2)
          · rw [hx1]
            refine lw_instruction_1 (A := fun g1 => mz_mo ([]) 1 6 h g1) ⟨_, H0⟩ ?_
            exact thrN (x_iatO hLi H0 hp huo hN60) (by decide) (by omega) rfl
          · rintro g m1
            exact ⟨_, m1.1 400 (fun q => by cases q) _ H400⟩
          · rintro g m1
            have g400 := m1.1 400 (fun q => by cases q) _ H400
            have m1s := m1
            have lg := mo_le m1
            have gL := hYL.lo w1 oEp m1s.1 (fun x q => by cases q)
            rw [hx1]
            refine (mj_Wp.mono (y_iatO gL np6 g400 hp hI4 (hpk.2 p hp).1 huo) (by decide)).imp ?_
            rintro _ ⟨_, g2, rfl, rfl, y400, m2⟩
            have mt : mz_mo (([]) ++ ([400])) (1 + 0) (6 + 0) h g2 := mo2 m1 m2
            have et := mt.1
            have hx0 : ∀ x, x ∈ [] ++ [400] → (own x = 0 ∧ (x = 400)) := by
              intro x hx
              rcases List.mem_append.mp hx with q | q
              · cases q
              · have z : x < 414 ∧ (x = 400) := by simp only [cML, wML, List.mem_cons, List.mem_append, List.not_mem_nil, or_false] at q; omega
                exact ⟨w1.z z.1, z.2⟩
            have le := mt.2.1
            have l1 := mt.2.2.1
            have l2 := mt.2.2.2
            have qo : pOu g2 := pO.fr et (fun x hx => by have := hx0 x hx; omega)
            exact ⟨_, _, rfl, rfl, ⟨_, y400⟩, ⟨own, _, _, _, gs, pl, _, wa, nw, nx, np, K, X, rz, w1.len le, et 0 (fun q => by have := hx0 _ q; omega) _ H0, y400, pT.fr et (fun x hx => by have := hx0 x hx; omega) (fun _ q => q), pL.fr et (fun x hx => by have := hx0 x hx; omega) (fun _ q => q) (fun a q => by have := (w1 a (by omega)).2; omega) (fun _ q => q), pR.fr et (fun x hx => by have := hx0 x hx; omega), pV.fr et (fun x hx => by have := hx0 x hx; omega), pC.fr et (fun x hx => by have := hx0 x hx; omega) (fun _ q => q), pI.fr et (fun x hx => by have := hx0 x hx; omega), pS.fr et (fun x hx => by have := hx0 x hx; omega), qo, pX.fr et (fun x hx => by have := hx0 x hx; omega), pP.fr et (fun x hx => by have := hx0 x hx; omega) (fun _ q => q), pG.fr et (fun x hx => by have := hx0 x hx; omega) (fun _ q => q), by omega, by omega, by omega⟩⟩
    · have hpr : (xs (4 * j + 1)).toInt < 0 ∨ (np : Int) ≤ (xs (4 * j + 1)).toInt := Or.inr (by rw [hx1, mI_ti hpb]; omega)
      refine lr_9_1 (i := 4 * j) (A := fun g1 => mz_mo ([]) 1 6 h g1) (B := rBc 1 j) (b := nI 0) hL hi hk ?_ ?_ ?_ (fun g q => q.1) (fun _ _ _ _ g q => hn _ _ _ _ _ q.2)
      · refine lw_instruction_1 (A := fun g1 => mz_mo ([]) 1 6 h g1) ⟨_, H0⟩ ?_
        exact thrN (x_iatT hLi H0 hpr) (by decide) (by omega) rfl
      · rintro g m1
        exact ⟨_, m1.1 400 (fun q => by cases q) _ H400⟩
      · rintro g m1
        have g400 := m1.1 400 (fun q => by cases q) _ H400
        have m1s := m1
        have lg := mo_le m1
        have gL := hYL.lo w1 oEp m1s.1 (fun x q => by cases q)
        refine (mj_Wp.mono (y_iatT gL np6 g400 hpr) (by decide)).imp ?_
        rintro _ ⟨_, g2, rfl, rfl, y400, m2⟩
        have mt : mz_mo (([]) ++ ([400])) (1 + 0) (6 + 0) h g2 := mo2 m1 m2
        have et := mt.1
        have hx0 : ∀ x, x ∈ [] ++ [400] → (own x = 0 ∧ (x = 400)) := by
          intro x hx
          rcases List.mem_append.mp hx with q | q
          · cases q
          · have z : x < 414 ∧ (x = 400) := by simp only [cML, wML, List.mem_cons, List.mem_append, List.not_mem_nil, or_false] at q; omega
            exact ⟨w1.z z.1, z.2⟩
        have le := mt.2.1
        have l1 := mt.2.2.1
        have l2 := mt.2.2.2
        have qo : pOu g2 := pO.fr et (fun x hx => by have := hx0 x hx; omega)
        exact ⟨_, _, rfl, rfl, ⟨_, y400⟩, ⟨own, _, _, _, gs, pl, _, wa, nw, nx, np, K, X, rz, w1.len le, et 0 (fun q => by have := hx0 _ q; omega) _ H0, y400, pT.fr et (fun x hx => by have := hx0 x hx; omega) (fun _ q => q), pL.fr et (fun x hx => by have := hx0 x hx; omega) (fun _ q => q) (fun a q => by have := (w1 a (by omega)).2; omega) (fun _ q => q), pR.fr et (fun x hx => by have := hx0 x hx; omega), pV.fr et (fun x hx => by have := hx0 x hx; omega), pC.fr et (fun x hx => by have := hx0 x hx; omega) (fun _ q => q), pI.fr et (fun x hx => by have := hx0 x hx; omega), pS.fr et (fun x hx => by have := hx0 x hx; omega), qo, pX.fr et (fun x hx => by have := hx0 x hx; omega), pP.fr et (fun x hx => by have := hx0 x hx; omega) (fun _ q => q), pG.fr et (fun x hx => by have := hx0 x hx; omega) (fun _ q => q), by omega, by omega, by omega⟩⟩
