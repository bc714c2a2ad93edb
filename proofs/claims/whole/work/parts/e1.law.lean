/-! The law to its end. -/
theorem w_step {L j : Nat} {xs : Nat → Int32} {h : mj_H} {l6 l7 l8 l9 : Option Value} {P : mj_H → Prop} (w : wI j h) (hL : L ≤ 2048) (hi : 4 * j + 4 ≤ L) (hn : ∀ (l6 l7 l8 l9 : Option Value) (g : mj_H), wI (j + 1) g → mj_lrun L xs (28, [some (.retAddr 1), some (.ref 0), some (.ref 400), some (.ref 412), some (.ref 413), some (.int (nI (4 * j + 4))), l6, l7, l8, l9], [], g) P) : mj_lrun L xs (28, [some (.retAddr 1), some (.ref 0), some (.ref 400), some (.ref 412), some (.ref 413), some (.int (nI (4 * j))), l6, l7, l8, l9], [], h) P := by
  obtain ⟨own, th, sd, be, gs, pl, ty, wa, nw, nx, np, K, X, rz, w⟩ := w
  have same : wI (j + 1) h := by
    obtain ⟨w1, H0, H400, pT, pL, pR, pV, pC, pI, pS, pO, _⟩ := id w
    exact w.q (mz_fr.rf [] h) (fun x hx => absurd hx List.not_mem_nil) H400 pO (by omega) (by omega) (by omega)
  obtain ⟨k, hk, e⟩ := and63 (xs (4 * j))
  rcases (by omega : k = 0 ∨ k = 1 ∨ k = 2 ∨ k = 3 ∨ k = 4 ∨ k = 5 ∨ k = 6 ∨ k = 7 ∨ k = 8 ∨ k = 9 ∨ k = 10 ∨ k = 11 ∨ k = 12 ∨ k = 13 ∨ k = 14 ∨ k = 15 ∨ k = 16 ∨ k = 17 ∨ k = 18 ∨ k = 19 ∨ k = 20 ∨ k = 21 ∨ k = 22 ∨ k = 23 ∨ k = 24 ∨ k = 25 ∨ k = 26 ∨ k = 27 ∨ k = 28 ∨ k = 29 ∨ k = 30 ∨ k = 31 ∨ k = 32 ∨ k = 33 ∨ k = 34 ∨ k = 35 ∨ k = 36 ∨ k = 37 ∨ k = 38 ∨ k = 39 ∨ k = 40 ∨ k = 41 ∨ k = 42 ∨ k = 43 ∨ k = 44 ∨ k = 45 ∨ k = 46 ∨ k = 47 ∨ k = 48 ∨ k = 49 ∨ k = 50 ∨ k = 51 ∨ k = 52 ∨ k = 53 ∨ k = 54 ∨ k = 55 ∨ k = 56 ∨ k = 57 ∨ k = 58 ∨ k = 59 ∨ k = 60 ∨ k = 61 ∨ k = 62 ∨ k = 63) with rfl | rfl | rfl | rfl | rfl | rfl | rfl | rfl | rfl | rfl | rfl | rfl | rfl | rfl | rfl | rfl | rfl | rfl | rfl | rfl | rfl | rfl | rfl | rfl | rfl | rfl | rfl | rfl | rfl | rfl | rfl | rfl | rfl | rfl | rfl | rfl | rfl | rfl | rfl | rfl | rfl | rfl | rfl | rfl | rfl | rfl | rfl | rfl | rfl | rfl | rfl | rfl | rfl | rfl | rfl | rfl | rfl | rfl | rfl | rfl | rfl | rfl | rfl | rfl
  · exact r_0 w hL hi e hn
  · exact r_1 w hL hi e hn
  · exact r_2 w hL hi e hn
  · exact r_3 w hL hi e hn
  · exact r_4 w hL hi e hn
  · exact r_5 w hL hi e hn
  · exact r_6 w hL hi e hn
  · exact r_7 w hL hi e hn
  · exact r_8 w hL hi e hn
  · exact r_9 w hL hi e hn
  · exact r_10 w hL hi e hn
  · exact r_11 w hL hi e hn
  · exact r_12 w hL hi e hn
  · exact r_13 w hL hi e hn
  · exact r_14 w hL hi e hn
  · exact r_15 w hL hi e hn
  · exact r_16 w hL hi e hn
  · exact r_17 w hL hi e hn
  · exact r_18 w hL hi e hn
  · exact r_19 w hL hi e hn
  · exact r_20 w hL hi e hn
  · exact r_21 w hL hi e hn
  · exact r_22 w hL hi e hn
  · exact r_23 w hL hi e hn
  · exact r_24 w hL hi e hn
  · exact r_25 w hL hi e hn
  · exact r_26 w hL hi e hn
  · exact r_27 w hL hi e hn
  · exact r_28 w hL hi e hn
  · exact r_29 w hL hi e hn
  · exact r_30 w hL hi e hn
  · exact r_31 w hL hi e hn
  · exact r_32 w hL hi e hn
  · exact r_33 w hL hi e hn
  · exact r_34 w hL hi e hn
  · exact r_35 w hL hi e hn
  · exact r_36 w hL hi e hn
  · exact r_37 w hL hi e hn
  · exact r_38 w hL hi e hn
  · exact r_39 w hL hi e hn
  · exact r_40 w hL hi e hn
  · exact r_41 w hL hi e hn
  · exact r_42 w hL hi e hn
  · exact r_43 w hL hi e hn
  · exact r_44 w hL hi e hn
  · exact r_45 w hL hi e hn
  · exact r_46 w hL hi e hn
  · exact r_47 w hL hi e hn
  · exact r_48 w hL hi e hn
  · exact r_49 w hL hi e hn
  · exact lr_50 hL hi e (hn _ _ _ _ h same)
  · exact lr_51 hL hi e (hn _ _ _ _ h same)
  · exact lr_52 hL hi e (hn _ _ _ _ h same)
  · exact lr_53 hL hi e (hn _ _ _ _ h same)
  · exact lr_54 hL hi e (hn _ _ _ _ h same)
  · exact lr_55 hL hi e (hn _ _ _ _ h same)
  · exact lr_56 hL hi e (hn _ _ _ _ h same)
  · exact lr_57 hL hi e (hn _ _ _ _ h same)
  · exact lr_58 hL hi e (hn _ _ _ _ h same)
  · exact lr_59 hL hi e (hn _ _ _ _ h same)
  · exact lr_60 hL hi e (hn _ _ _ _ h same)
  · exact lr_61 hL hi e (hn _ _ _ _ h same)
  · exact lr_62 hL hi e (hn _ _ _ _ h same)
  · exact lr_63 hL hi e (hn _ _ _ _ h same)
theorem w_all {L : Nat} {xs : Nat → Int32} (hL : L ≤ 2048) : ∀ (m j : Nat) (h : mj_H) (l6 l7 l8 l9 : Option Value), L < 4 * j + 4 + 4 * m → 4 * j ≤ 2048 → wI j h → mj_lrun L xs (28, [some (.retAddr 1), some (.ref 0), some (.ref 400), some (.ref 412), some (.ref 413), some (.int (nI (4 * j))), l6, l7, l8, l9], [], h) (fun h' => h'.length ≤ 601024 ∧ mj_sz h' ≤ 7293034) := by
  intro m
  induction m with
  | zero =>
    intro j h l6 l7 l8 l9 h1 h2 w
    obtain ⟨own, th, sd, be, gs, pl, ty, wa, nw, nx, np, K, X, rz, w1, H0, H400, pT, pL, pR, pV, pC, pI, pS, pO, pX, pP, pG, j5, b1, b2⟩ := w
    exact l_stop hL (by omega) h2 ⟨by omega, by omega⟩
  | succ m ih =>
    intro j h l6 l7 l8 l9 h1 h2 w
    by_cases z : 4 * j + 4 ≤ L
    · exact w_step w hL z (fun l6 l7 l8 l9 g wg => ih (j + 1) g l6 l7 l8 l9 (by omega) (by omega) wg)
    · obtain ⟨own, th, sd, be, gs, pl, ty, wa, nw, nx, np, K, X, rz, w1, H0, H400, pT, pL, pR, pV, pC, pI, pS, pO, pX, pP, pG, j5, b1, b2⟩ := w
      exact l_stop hL (by omega) h2 ⟨by omega, by omega⟩
theorem w_fin {L : Nat} (hL : L ≤ 2048) (xs : Nat → Int32) : ∃ n d k h', d ≤ 1000 ∧ mj_lwE mj_Gg L xs n d k (0, mj_entry 10 [.retAddr 1], [], []) = some h' ∧ h'.length ≤ 601024 ∧ mj_sz h' ≤ 7293034 := by
  have h := w_all hL 600 0 mc_h0 none none none none (xs := xs) (by omega) (by omega) wI_0
  obtain ⟨n, k, h', h1, h2⟩ := mj_law0 h
  exact ⟨n, 300, k, h', by omega, h2 300 (Nat.le_refl _), h1⟩
theorem whole_start {p : Program} {e : Env} {s : State} {m : MethodId} {below : List Frame} {meth : Method} {c : Code} (l : Launch) (hflags : l.flags = flags0) {b L : Nat} {xs : Nat → Int32} (hL : L ≤ 2048) (C0 : lw_At p s m meth c b L xs) : W p l e room_1 s m #[Value.ref b] below meth c s.heap [] 0 0 (lw_Z below #[Value.ref b] s) (entryFrame m ([Value.ref b] : List Value).toArray 10) := by
  obtain ⟨n, d, k, h', hd, h0, h1, h2⟩ := w_fin hL xs
  exact mj_whole l hflags hd h0 h1 h2 C0
