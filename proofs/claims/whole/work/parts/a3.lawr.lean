/-! Rounds of the law by contracts. -/
abbrev ci16 (x : Int32) : Int32 := (x.toUInt32 % 65536).toInt32
abbrev outC (f : Nat → Int64) : mj_C := .inl (4, (1, .inr (.inl f)))
theorem ci_sf (x : Int32) : mj_ci .eq x x = true := (cg_eq rfl).trans (decide_eq_true rfl)
theorem bl_t {x : Int32} (h : decide (x = 0) = !false) : mj_ci .eq x 0 = true := h
theorem bl_f {x : Int32} (h : decide (x = 0) = !true) : mj_ci .eq x 0 = false := h
theorem lr_2_0 {L i : Nat} {xs : Nat → Int32} {h : mj_H} {l6 l7 l8 l9 : Option Value} {P A B : mj_H → Prop} {b : Int32} (hL : L ≤ 2048) (hi : i + 4 ≤ L) (hk : xs i &&& nI 63 = nI 2) (hw : mj_Wp 250 118 (0, [some (.ref 0), some (.ref 412), none], [], h) (mz_V fun r g => r = .int (nI 0) ∧ A g)) (hA : ∀ g, A g → ∃ fs : List Value, mj_rd g 400 = some (.inr (17, fs))) (hm : ∀ g, A g → mj_Wp 250 299 (0, [some (.ref 400), none], [], g) (mz_V fun r g2 => r = .int b ∧ B g2)) (hB : ∀ g, B g → ∃ rs : List Value, mj_rd g 400 = some (.inr (17, .int (nI 0) :: rs)) ∧ ∃ ou : Nat → Int64, mj_rd g 412 = some (.inl (4, (1, .inr (.inl ou)))) ∧ ou 0 = Int32.toInt64 b) (hn : ∀ (l6 l7 l8 l9 : Option Value) (g : mj_H), B g → mj_lrun L xs (28, [some (.retAddr 1), some (.ref 0), some (.ref 400), some (.ref 412), some (.ref 413), some (.int (nI (i + 4))), l6, l7, l8, l9], [], g) P) : mj_lrun L xs (28, [some (.retAddr 1), some (.ref 0), some (.ref 400), some (.ref 412), some (.ref 413), some (.int (nI i)), l6, l7, l8, l9], [], h) P := by
  refine l_ild (p' := 30) rfl rfl rfl rfl ?_
  refine l_alds (p' := 31) rfl rfl rfl rfl ?_
  refine l_lens (p' := 32) rfl rfl rfl ?_
  refine l_con (p' := 33) rfl rfl rfl ?_
  refine l_bz (p' := 34) (z := (nI (L - 4))) rfl rfl rfl rfl rfl (mI_sub (by omega)) ?_
  refine l_icmp (p' := 37) false rfl rfl ((ci_gt (by omega) (by omega)).trans (decide_eq_false (by omega))) rfl ?_
  refine l_alds (p' := 38) rfl rfl rfl rfl ?_
  refine l_ild (p' := 40) rfl rfl rfl rfl ?_
  refine l_ialz (p' := 41) (m := i) (z := (xs i)) rfl rfl (inb_nI (by omega) (by omega)) (mI_cl (by omega)) rfl rfl ?_
  refine l_bip (p' := 43) rfl rfl rfl ?_
  refine l_bz (p' := 44) (z := (nI 2)) rfl rfl rfl rfl rfl hk ?_
  refine l_sp (p' := 331) (ls' := _) rfl rfl rfl rfl rfl ?_
  refine l_aldn (p' := 332) rfl rfl rfl rfl ?_
  refine l_aldn (p' := 333) rfl rfl rfl rfl ?_
  refine l_call (p' := 336) (kc := 250) (ls0 := [_, _, _]) rfl rfl rfl rfl rfl rfl rfl rfl rfl rfl ?_
  refine hw.imp ?_
  rintro _ ⟨_, h1, rfl, rfl, hA1⟩
  show mj_lrun _ _ (336, _, _, _) _
  try dsimp only
  refine l_ist (p' := 338) (ls' := [_, _, _, _, _, _, _, _, _, _]) rfl rfl rfl rfl rfl ?_
  refine l_aldn (p' := 339) rfl rfl rfl rfl ?_
  obtain ⟨fs4, q4⟩ := hA _ hA1
  refine l_call (p' := 342) (kc := 250) (ls0 := [_, _]) rfl rfl rfl rfl rfl rfl (mj_rcv_is q4) rfl rfl rfl ?_
  refine (hm h1 hA1).imp ?_
  rintro _ ⟨_, h2, rfl, rfl, hB1⟩
  show mj_lrun _ _ (342, _, _, _) _
  try dsimp only
  obtain ⟨rs5, q5, ou, q6, q7⟩ := hB _ hB1
  refine l_ist (p' := 344) (ls' := [_, _, _, _, _, _, _, _, _, _]) rfl rfl rfl rfl rfl ?_
  refine l_aldn (p' := 345) rfl rfl rfl rfl ?_
  refine l_call (p' := 348) (kc := 99) (ls0 := [_]) rfl rfl rfl rfl rfl rfl (mj_rcv_is q5) rfl rfl rfl ?_
  refine s_aldn (p' := 1) rfl rfl rfl ?_
  refine s_gf (p' := 4) rfl q5 rfl rfl ?_
  refine k_iret rfl rfl ?_
  refine l_ild (p' := 350) rfl rfl rfl rfl ?_
  refine l_icmp (p' := 355) true rfl rfl (ci_sf _) rfl ?_
  refine l_ild (p' := 357) rfl rfl rfl rfl ?_
  refine l_if (p' := 360) false rfl rfl (by decide +kernel) rfl ?_
  refine l_aldn (p' := 361) rfl rfl rfl rfl ?_
  refine l_con (p' := 362) rfl rfl rfl ?_
  refine l_lalz (p' := 363) (m := 0) (v := Int32.toInt64 b) rfl rfl q6 (by decide) rfl q7 rfl ?_
  refine l_ild (p' := 365) rfl rfl rfl rfl ?_
  refine l_bzL (p' := 366) (z := Int32.toInt64 b) rfl rfl rfl rfl rfl rfl ?_
  refine l_bz (p' := 367) (z := nI 0) rfl rfl rfl rfl rfl (lcmp_self _) ?_
  refine l_if (p' := 372) true rfl rfl (by decide +kernel) rfl ?_
  refine l_goto (p' := 2541) rfl rfl rfl ?_
  refine l_incz (p' := 2544) (w := (nI (i + 4))) (ls' := [_, _, _, _, _, _, _, _, _, _]) rfl rfl rfl rfl (mI_add _ _) rfl rfl ?_
  refine l_goto (p' := 28) rfl rfl rfl ?_
  exact hn _ _ _ _ _ hB1
theorem lr_2_1 {L i : Nat} {xs : Nat → Int32} {h : mj_H} {l6 l7 l8 l9 : Option Value} {P A B : mj_H → Prop} {b : Int32} (hL : L ≤ 2048) (hi : i + 4 ≤ L) (hk : xs i &&& nI 63 = nI 2) (hw : mj_Wp 250 118 (0, [some (.ref 0), some (.ref 412), none], [], h) (mz_V fun r g => r = .int (nI 1) ∧ A g)) (hA : ∀ g, A g → ∃ fs : List Value, mj_rd g 400 = some (.inr (17, fs))) (hm : ∀ g, A g → mj_Wp 250 299 (0, [some (.ref 400), none], [], g) (mz_V fun r g2 => r = .int b ∧ B g2)) (hB : ∀ g, B g → ∃ rs : List Value, mj_rd g 400 = some (.inr (17, .int (nI 1) :: rs))) (hn : ∀ (l6 l7 l8 l9 : Option Value) (g : mj_H), B g → mj_lrun L xs (28, [some (.retAddr 1), some (.ref 0), some (.ref 400), some (.ref 412), some (.ref 413), some (.int (nI (i + 4))), l6, l7, l8, l9], [], g) P) : mj_lrun L xs (28, [some (.retAddr 1), some (.ref 0), some (.ref 400), some (.ref 412), some (.ref 413), some (.int (nI i)), l6, l7, l8, l9], [], h) P := by
  refine l_ild (p' := 30) rfl rfl rfl rfl ?_
  refine l_alds (p' := 31) rfl rfl rfl rfl ?_
  refine l_lens (p' := 32) rfl rfl rfl ?_
  refine l_con (p' := 33) rfl rfl rfl ?_
  refine l_bz (p' := 34) (z := (nI (L - 4))) rfl rfl rfl rfl rfl (mI_sub (by omega)) ?_
  refine l_icmp (p' := 37) false rfl rfl ((ci_gt (by omega) (by omega)).trans (decide_eq_false (by omega))) rfl ?_
  refine l_alds (p' := 38) rfl rfl rfl rfl ?_
  refine l_ild (p' := 40) rfl rfl rfl rfl ?_
  refine l_ialz (p' := 41) (m := i) (z := (xs i)) rfl rfl (inb_nI (by omega) (by omega)) (mI_cl (by omega)) rfl rfl ?_
  refine l_bip (p' := 43) rfl rfl rfl ?_
  refine l_bz (p' := 44) (z := (nI 2)) rfl rfl rfl rfl rfl hk ?_
  refine l_sp (p' := 331) (ls' := _) rfl rfl rfl rfl rfl ?_
  refine l_aldn (p' := 332) rfl rfl rfl rfl ?_
  refine l_aldn (p' := 333) rfl rfl rfl rfl ?_
  refine l_call (p' := 336) (kc := 250) (ls0 := [_, _, _]) rfl rfl rfl rfl rfl rfl rfl rfl rfl rfl ?_
  refine hw.imp ?_
  rintro _ ⟨_, h1, rfl, rfl, hA1⟩
  show mj_lrun _ _ (336, _, _, _) _
  try dsimp only
  refine l_ist (p' := 338) (ls' := [_, _, _, _, _, _, _, _, _, _]) rfl rfl rfl rfl rfl ?_
  refine l_aldn (p' := 339) rfl rfl rfl rfl ?_
  obtain ⟨fs4, q4⟩ := hA _ hA1
  refine l_call (p' := 342) (kc := 250) (ls0 := [_, _]) rfl rfl rfl rfl rfl rfl (mj_rcv_is q4) rfl rfl rfl ?_
  refine (hm h1 hA1).imp ?_
  rintro _ ⟨_, h2, rfl, rfl, hB1⟩
  show mj_lrun _ _ (342, _, _, _) _
  try dsimp only
  obtain ⟨rs5, q5⟩ := hB _ hB1
  refine l_ist (p' := 344) (ls' := [_, _, _, _, _, _, _, _, _, _]) rfl rfl rfl rfl rfl ?_
  refine l_aldn (p' := 345) rfl rfl rfl rfl ?_
  refine l_call (p' := 348) (kc := 99) (ls0 := [_]) rfl rfl rfl rfl rfl rfl (mj_rcv_is q5) rfl rfl rfl ?_
  refine s_aldn (p' := 1) rfl rfl rfl ?_
  refine s_gf (p' := 4) rfl q5 rfl rfl ?_
  refine k_iret rfl rfl ?_
  refine l_ild (p' := 350) rfl rfl rfl rfl ?_
  refine l_icmp (p' := 355) true rfl rfl (ci_sf _) rfl ?_
  refine l_ild (p' := 357) rfl rfl rfl rfl ?_
  refine l_if (p' := 372) true rfl rfl (by decide +kernel) rfl ?_
  refine l_goto (p' := 2541) rfl rfl rfl ?_
  refine l_incz (p' := 2544) (w := (nI (i + 4))) (ls' := [_, _, _, _, _, _, _, _, _, _]) rfl rfl rfl rfl (mI_add _ _) rfl rfl ?_
  refine l_goto (p' := 28) rfl rfl rfl ?_
  exact hn _ _ _ _ _ hB1
theorem lr_3_0 {L i : Nat} {xs : Nat → Int32} {h : mj_H} {l6 l7 l8 l9 : Option Value} {P A B : mj_H → Prop} {b : Int32} (hL : L ≤ 2048) (hi : i + 4 ≤ L) (hk : xs i &&& nI 63 = nI 3) (hw : mj_Wp 250 122 (0, [some (.ref 0), some (.ref 412), none], [], h) (mz_V fun r g => r = .int (nI 0) ∧ A g)) (hA : ∀ g, A g → ∃ fs : List Value, mj_rd g 400 = some (.inr (17, fs))) (hm : ∀ g, A g → mj_Wp 250 343 (0, [some (.ref 400), none], [], g) (mz_V fun r g2 => r = .int b ∧ B g2)) (hB : ∀ g, B g → ∃ rs : List Value, mj_rd g 400 = some (.inr (17, .int (nI 0) :: rs)) ∧ ∃ ou : Nat → Int64, mj_rd g 412 = some (.inl (4, (1, .inr (.inl ou)))) ∧ ou 0 = Int32.toInt64 b) (hn : ∀ (l6 l7 l8 l9 : Option Value) (g : mj_H), B g → mj_lrun L xs (28, [some (.retAddr 1), some (.ref 0), some (.ref 400), some (.ref 412), some (.ref 413), some (.int (nI (i + 4))), l6, l7, l8, l9], [], g) P) : mj_lrun L xs (28, [some (.retAddr 1), some (.ref 0), some (.ref 400), some (.ref 412), some (.ref 413), some (.int (nI i)), l6, l7, l8, l9], [], h) P := by
  refine l_ild (p' := 30) rfl rfl rfl rfl ?_
  refine l_alds (p' := 31) rfl rfl rfl rfl ?_
  refine l_lens (p' := 32) rfl rfl rfl ?_
  refine l_con (p' := 33) rfl rfl rfl ?_
  refine l_bz (p' := 34) (z := (nI (L - 4))) rfl rfl rfl rfl rfl (mI_sub (by omega)) ?_
  refine l_icmp (p' := 37) false rfl rfl ((ci_gt (by omega) (by omega)).trans (decide_eq_false (by omega))) rfl ?_
  refine l_alds (p' := 38) rfl rfl rfl rfl ?_
  refine l_ild (p' := 40) rfl rfl rfl rfl ?_
  refine l_ialz (p' := 41) (m := i) (z := (xs i)) rfl rfl (inb_nI (by omega) (by omega)) (mI_cl (by omega)) rfl rfl ?_
  refine l_bip (p' := 43) rfl rfl rfl ?_
  refine l_bz (p' := 44) (z := (nI 3)) rfl rfl rfl rfl rfl hk ?_
  refine l_sp (p' := 375) (ls' := _) rfl rfl rfl rfl rfl ?_
  refine l_aldn (p' := 376) rfl rfl rfl rfl ?_
  refine l_aldn (p' := 377) rfl rfl rfl rfl ?_
  refine l_call (p' := 380) (kc := 250) (ls0 := [_, _, _]) rfl rfl rfl rfl rfl rfl rfl rfl rfl rfl ?_
  refine hw.imp ?_
  rintro _ ⟨_, h1, rfl, rfl, hA1⟩
  show mj_lrun _ _ (380, _, _, _) _
  try dsimp only
  refine l_ist (p' := 382) (ls' := [_, _, _, _, _, _, _, _, _, _]) rfl rfl rfl rfl rfl ?_
  refine l_aldn (p' := 383) rfl rfl rfl rfl ?_
  obtain ⟨fs4, q4⟩ := hA _ hA1
  refine l_call (p' := 386) (kc := 250) (ls0 := [_, _]) rfl rfl rfl rfl rfl rfl (mj_rcv_is q4) rfl rfl rfl ?_
  refine (hm h1 hA1).imp ?_
  rintro _ ⟨_, h2, rfl, rfl, hB1⟩
  show mj_lrun _ _ (386, _, _, _) _
  try dsimp only
  obtain ⟨rs5, q5, ou, q6, q7⟩ := hB _ hB1
  refine l_ist (p' := 388) (ls' := [_, _, _, _, _, _, _, _, _, _]) rfl rfl rfl rfl rfl ?_
  refine l_aldn (p' := 389) rfl rfl rfl rfl ?_
  refine l_call (p' := 392) (kc := 99) (ls0 := [_]) rfl rfl rfl rfl rfl rfl (mj_rcv_is q5) rfl rfl rfl ?_
  refine s_aldn (p' := 1) rfl rfl rfl ?_
  refine s_gf (p' := 4) rfl q5 rfl rfl ?_
  refine k_iret rfl rfl ?_
  refine l_ild (p' := 394) rfl rfl rfl rfl ?_
  refine l_icmp (p' := 399) true rfl rfl (ci_sf _) rfl ?_
  refine l_ild (p' := 401) rfl rfl rfl rfl ?_
  refine l_if (p' := 404) false rfl rfl (by decide +kernel) rfl ?_
  refine l_aldn (p' := 405) rfl rfl rfl rfl ?_
  refine l_con (p' := 406) rfl rfl rfl ?_
  refine l_lalz (p' := 407) (m := 0) (v := Int32.toInt64 b) rfl rfl q6 (by decide) rfl q7 rfl ?_
  refine l_ild (p' := 409) rfl rfl rfl rfl ?_
  refine l_bzL (p' := 410) (z := Int32.toInt64 b) rfl rfl rfl rfl rfl rfl ?_
  refine l_bz (p' := 411) (z := nI 0) rfl rfl rfl rfl rfl (lcmp_self _) ?_
  refine l_if (p' := 416) true rfl rfl (by decide +kernel) rfl ?_
  refine l_goto (p' := 2541) rfl rfl rfl ?_
  refine l_incz (p' := 2544) (w := (nI (i + 4))) (ls' := [_, _, _, _, _, _, _, _, _, _]) rfl rfl rfl rfl (mI_add _ _) rfl rfl ?_
  refine l_goto (p' := 28) rfl rfl rfl ?_
  exact hn _ _ _ _ _ hB1
theorem lr_3_1 {L i : Nat} {xs : Nat → Int32} {h : mj_H} {l6 l7 l8 l9 : Option Value} {P A B : mj_H → Prop} {b : Int32} (hL : L ≤ 2048) (hi : i + 4 ≤ L) (hk : xs i &&& nI 63 = nI 3) (hw : mj_Wp 250 122 (0, [some (.ref 0), some (.ref 412), none], [], h) (mz_V fun r g => r = .int (nI 1) ∧ A g)) (hA : ∀ g, A g → ∃ fs : List Value, mj_rd g 400 = some (.inr (17, fs))) (hm : ∀ g, A g → mj_Wp 250 343 (0, [some (.ref 400), none], [], g) (mz_V fun r g2 => r = .int b ∧ B g2)) (hB : ∀ g, B g → ∃ rs : List Value, mj_rd g 400 = some (.inr (17, .int (nI 1) :: rs))) (hn : ∀ (l6 l7 l8 l9 : Option Value) (g : mj_H), B g → mj_lrun L xs (28, [some (.retAddr 1), some (.ref 0), some (.ref 400), some (.ref 412), some (.ref 413), some (.int (nI (i + 4))), l6, l7, l8, l9], [], g) P) : mj_lrun L xs (28, [some (.retAddr 1), some (.ref 0), some (.ref 400), some (.ref 412), some (.ref 413), some (.int (nI i)), l6, l7, l8, l9], [], h) P := by
  refine l_ild (p' := 30) rfl rfl rfl rfl ?_
  refine l_alds (p' := 31) rfl rfl rfl rfl ?_
  refine l_lens (p' := 32) rfl rfl rfl ?_
  refine l_con (p' := 33) rfl rfl rfl ?_
  refine l_bz (p' := 34) (z := (nI (L - 4))) rfl rfl rfl rfl rfl (mI_sub (by omega)) ?_
  refine l_icmp (p' := 37) false rfl rfl ((ci_gt (by omega) (by omega)).trans (decide_eq_false (by omega))) rfl ?_
  refine l_alds (p' := 38) rfl rfl rfl rfl ?_
  refine l_ild (p' := 40) rfl rfl rfl rfl ?_
  refine l_ialz (p' := 41) (m := i) (z := (xs i)) rfl rfl (inb_nI (by omega) (by omega)) (mI_cl (by omega)) rfl rfl ?_
  refine l_bip (p' := 43) rfl rfl rfl ?_
  refine l_bz (p' := 44) (z := (nI 3)) rfl rfl rfl rfl rfl hk ?_
  refine l_sp (p' := 375) (ls' := _) rfl rfl rfl rfl rfl ?_
  refine l_aldn (p' := 376) rfl rfl rfl rfl ?_
  refine l_aldn (p' := 377) rfl rfl rfl rfl ?_
  refine l_call (p' := 380) (kc := 250) (ls0 := [_, _, _]) rfl rfl rfl rfl rfl rfl rfl rfl rfl rfl ?_
  refine hw.imp ?_
  rintro _ ⟨_, h1, rfl, rfl, hA1⟩
  show mj_lrun _ _ (380, _, _, _) _
  try dsimp only
  refine l_ist (p' := 382) (ls' := [_, _, _, _, _, _, _, _, _, _]) rfl rfl rfl rfl rfl ?_
  refine l_aldn (p' := 383) rfl rfl rfl rfl ?_
  obtain ⟨fs4, q4⟩ := hA _ hA1
  refine l_call (p' := 386) (kc := 250) (ls0 := [_, _]) rfl rfl rfl rfl rfl rfl (mj_rcv_is q4) rfl rfl rfl ?_
  refine (hm h1 hA1).imp ?_
  rintro _ ⟨_, h2, rfl, rfl, hB1⟩
  show mj_lrun _ _ (386, _, _, _) _
  try dsimp only
  obtain ⟨rs5, q5⟩ := hB _ hB1
  refine l_ist (p' := 388) (ls' := [_, _, _, _, _, _, _, _, _, _]) rfl rfl rfl rfl rfl ?_
  refine l_aldn (p' := 389) rfl rfl rfl rfl ?_
  refine l_call (p' := 392) (kc := 99) (ls0 := [_]) rfl rfl rfl rfl rfl rfl (mj_rcv_is q5) rfl rfl rfl ?_
  refine s_aldn (p' := 1) rfl rfl rfl ?_
  refine s_gf (p' := 4) rfl q5 rfl rfl ?_
  refine k_iret rfl rfl ?_
  refine l_ild (p' := 394) rfl rfl rfl rfl ?_
  refine l_icmp (p' := 399) true rfl rfl (ci_sf _) rfl ?_
  refine l_ild (p' := 401) rfl rfl rfl rfl ?_
  refine l_if (p' := 416) true rfl rfl (by decide +kernel) rfl ?_
  refine l_goto (p' := 2541) rfl rfl rfl ?_
  refine l_incz (p' := 2544) (w := (nI (i + 4))) (ls' := [_, _, _, _, _, _, _, _, _, _]) rfl rfl rfl rfl (mI_add _ _) rfl rfl ?_
  refine l_goto (p' := 28) rfl rfl rfl ?_
  exact hn _ _ _ _ _ hB1
theorem lr_4_0 {L i : Nat} {xs : Nat → Int32} {h : mj_H} {l6 l7 l8 l9 : Option Value} {P A B : mj_H → Prop} {b : Int32} (hL : L ≤ 2048) (hi : i + 4 ≤ L) (hk : xs i &&& nI 63 = nI 4) (hw : mj_Wp 250 125 (0, [some (.ref 0), some (.ref 412), none], [], h) (mz_V fun r g => r = .int (nI 0) ∧ A g)) (hA : ∀ g, A g → ∃ fs : List Value, mj_rd g 400 = some (.inr (17, fs))) (hm : ∀ g, A g → mj_Wp 250 344 (0, [some (.ref 400), none], [], g) (mz_V fun r g2 => r = .int b ∧ B g2)) (hB : ∀ g, B g → ∃ rs : List Value, mj_rd g 400 = some (.inr (17, .int (nI 0) :: rs)) ∧ ∃ ou : Nat → Int64, mj_rd g 412 = some (.inl (4, (1, .inr (.inl ou)))) ∧ ou 0 = Int32.toInt64 b) (hn : ∀ (l6 l7 l8 l9 : Option Value) (g : mj_H), B g → mj_lrun L xs (28, [some (.retAddr 1), some (.ref 0), some (.ref 400), some (.ref 412), some (.ref 413), some (.int (nI (i + 4))), l6, l7, l8, l9], [], g) P) : mj_lrun L xs (28, [some (.retAddr 1), some (.ref 0), some (.ref 400), some (.ref 412), some (.ref 413), some (.int (nI i)), l6, l7, l8, l9], [], h) P := by
  refine l_ild (p' := 30) rfl rfl rfl rfl ?_
  refine l_alds (p' := 31) rfl rfl rfl rfl ?_
  refine l_lens (p' := 32) rfl rfl rfl ?_
  refine l_con (p' := 33) rfl rfl rfl ?_
  refine l_bz (p' := 34) (z := (nI (L - 4))) rfl rfl rfl rfl rfl (mI_sub (by omega)) ?_
  refine l_icmp (p' := 37) false rfl rfl ((ci_gt (by omega) (by omega)).trans (decide_eq_false (by omega))) rfl ?_
  refine l_alds (p' := 38) rfl rfl rfl rfl ?_
  refine l_ild (p' := 40) rfl rfl rfl rfl ?_
  refine l_ialz (p' := 41) (m := i) (z := (xs i)) rfl rfl (inb_nI (by omega) (by omega)) (mI_cl (by omega)) rfl rfl ?_
  refine l_bip (p' := 43) rfl rfl rfl ?_
  refine l_bz (p' := 44) (z := (nI 4)) rfl rfl rfl rfl rfl hk ?_
  refine l_sp (p' := 419) (ls' := _) rfl rfl rfl rfl rfl ?_
  refine l_aldn (p' := 420) rfl rfl rfl rfl ?_
  refine l_aldn (p' := 421) rfl rfl rfl rfl ?_
  refine l_call (p' := 424) (kc := 250) (ls0 := [_, _, _]) rfl rfl rfl rfl rfl rfl rfl rfl rfl rfl ?_
  refine hw.imp ?_
  rintro _ ⟨_, h1, rfl, rfl, hA1⟩
  show mj_lrun _ _ (424, _, _, _) _
  try dsimp only
  refine l_ist (p' := 426) (ls' := [_, _, _, _, _, _, _, _, _, _]) rfl rfl rfl rfl rfl ?_
  refine l_aldn (p' := 427) rfl rfl rfl rfl ?_
  obtain ⟨fs4, q4⟩ := hA _ hA1
  refine l_call (p' := 430) (kc := 250) (ls0 := [_, _]) rfl rfl rfl rfl rfl rfl (mj_rcv_is q4) rfl rfl rfl ?_
  refine (hm h1 hA1).imp ?_
  rintro _ ⟨_, h2, rfl, rfl, hB1⟩
  show mj_lrun _ _ (430, _, _, _) _
  try dsimp only
  obtain ⟨rs5, q5, ou, q6, q7⟩ := hB _ hB1
  refine l_ist (p' := 432) (ls' := [_, _, _, _, _, _, _, _, _, _]) rfl rfl rfl rfl rfl ?_
  refine l_aldn (p' := 433) rfl rfl rfl rfl ?_
  refine l_call (p' := 436) (kc := 99) (ls0 := [_]) rfl rfl rfl rfl rfl rfl (mj_rcv_is q5) rfl rfl rfl ?_
  refine s_aldn (p' := 1) rfl rfl rfl ?_
  refine s_gf (p' := 4) rfl q5 rfl rfl ?_
  refine k_iret rfl rfl ?_
  refine l_ild (p' := 438) rfl rfl rfl rfl ?_
  refine l_icmp (p' := 443) true rfl rfl (ci_sf _) rfl ?_
  refine l_ild (p' := 445) rfl rfl rfl rfl ?_
  refine l_if (p' := 448) false rfl rfl (by decide +kernel) rfl ?_
  refine l_aldn (p' := 449) rfl rfl rfl rfl ?_
  refine l_con (p' := 450) rfl rfl rfl ?_
  refine l_lalz (p' := 451) (m := 0) (v := Int32.toInt64 b) rfl rfl q6 (by decide) rfl q7 rfl ?_
  refine l_ild (p' := 453) rfl rfl rfl rfl ?_
  refine l_bzL (p' := 454) (z := Int32.toInt64 b) rfl rfl rfl rfl rfl rfl ?_
  refine l_bz (p' := 455) (z := nI 0) rfl rfl rfl rfl rfl (lcmp_self _) ?_
  refine l_if (p' := 460) true rfl rfl (by decide +kernel) rfl ?_
  refine l_goto (p' := 2541) rfl rfl rfl ?_
  refine l_incz (p' := 2544) (w := (nI (i + 4))) (ls' := [_, _, _, _, _, _, _, _, _, _]) rfl rfl rfl rfl (mI_add _ _) rfl rfl ?_
  refine l_goto (p' := 28) rfl rfl rfl ?_
  exact hn _ _ _ _ _ hB1
theorem lr_4_1 {L i : Nat} {xs : Nat → Int32} {h : mj_H} {l6 l7 l8 l9 : Option Value} {P A B : mj_H → Prop} {b : Int32} (hL : L ≤ 2048) (hi : i + 4 ≤ L) (hk : xs i &&& nI 63 = nI 4) (hw : mj_Wp 250 125 (0, [some (.ref 0), some (.ref 412), none], [], h) (mz_V fun r g => r = .int (nI 1) ∧ A g)) (hA : ∀ g, A g → ∃ fs : List Value, mj_rd g 400 = some (.inr (17, fs))) (hm : ∀ g, A g → mj_Wp 250 344 (0, [some (.ref 400), none], [], g) (mz_V fun r g2 => r = .int b ∧ B g2)) (hB : ∀ g, B g → ∃ rs : List Value, mj_rd g 400 = some (.inr (17, .int (nI 1) :: rs))) (hn : ∀ (l6 l7 l8 l9 : Option Value) (g : mj_H), B g → mj_lrun L xs (28, [some (.retAddr 1), some (.ref 0), some (.ref 400), some (.ref 412), some (.ref 413), some (.int (nI (i + 4))), l6, l7, l8, l9], [], g) P) : mj_lrun L xs (28, [some (.retAddr 1), some (.ref 0), some (.ref 400), some (.ref 412), some (.ref 413), some (.int (nI i)), l6, l7, l8, l9], [], h) P := by
  refine l_ild (p' := 30) rfl rfl rfl rfl ?_
  refine l_alds (p' := 31) rfl rfl rfl rfl ?_
  refine l_lens (p' := 32) rfl rfl rfl ?_
  refine l_con (p' := 33) rfl rfl rfl ?_
  refine l_bz (p' := 34) (z := (nI (L - 4))) rfl rfl rfl rfl rfl (mI_sub (by omega)) ?_
  refine l_icmp (p' := 37) false rfl rfl ((ci_gt (by omega) (by omega)).trans (decide_eq_false (by omega))) rfl ?_
  refine l_alds (p' := 38) rfl rfl rfl rfl ?_
  refine l_ild (p' := 40) rfl rfl rfl rfl ?_
  refine l_ialz (p' := 41) (m := i) (z := (xs i)) rfl rfl (inb_nI (by omega) (by omega)) (mI_cl (by omega)) rfl rfl ?_
  refine l_bip (p' := 43) rfl rfl rfl ?_
  refine l_bz (p' := 44) (z := (nI 4)) rfl rfl rfl rfl rfl hk ?_
  refine l_sp (p' := 419) (ls' := _) rfl rfl rfl rfl rfl ?_
  refine l_aldn (p' := 420) rfl rfl rfl rfl ?_
  refine l_aldn (p' := 421) rfl rfl rfl rfl ?_
  refine l_call (p' := 424) (kc := 250) (ls0 := [_, _, _]) rfl rfl rfl rfl rfl rfl rfl rfl rfl rfl ?_
  refine hw.imp ?_
  rintro _ ⟨_, h1, rfl, rfl, hA1⟩
  show mj_lrun _ _ (424, _, _, _) _
  try dsimp only
  refine l_ist (p' := 426) (ls' := [_, _, _, _, _, _, _, _, _, _]) rfl rfl rfl rfl rfl ?_
  refine l_aldn (p' := 427) rfl rfl rfl rfl ?_
  obtain ⟨fs4, q4⟩ := hA _ hA1
  refine l_call (p' := 430) (kc := 250) (ls0 := [_, _]) rfl rfl rfl rfl rfl rfl (mj_rcv_is q4) rfl rfl rfl ?_
  refine (hm h1 hA1).imp ?_
  rintro _ ⟨_, h2, rfl, rfl, hB1⟩
  show mj_lrun _ _ (430, _, _, _) _
  try dsimp only
  obtain ⟨rs5, q5⟩ := hB _ hB1
  refine l_ist (p' := 432) (ls' := [_, _, _, _, _, _, _, _, _, _]) rfl rfl rfl rfl rfl ?_
  refine l_aldn (p' := 433) rfl rfl rfl rfl ?_
  refine l_call (p' := 436) (kc := 99) (ls0 := [_]) rfl rfl rfl rfl rfl rfl (mj_rcv_is q5) rfl rfl rfl ?_
  refine s_aldn (p' := 1) rfl rfl rfl ?_
  refine s_gf (p' := 4) rfl q5 rfl rfl ?_
  refine k_iret rfl rfl ?_
  refine l_ild (p' := 438) rfl rfl rfl rfl ?_
  refine l_icmp (p' := 443) true rfl rfl (ci_sf _) rfl ?_
  refine l_ild (p' := 445) rfl rfl rfl rfl ?_
  refine l_if (p' := 460) true rfl rfl (by decide +kernel) rfl ?_
  refine l_goto (p' := 2541) rfl rfl rfl ?_
  refine l_incz (p' := 2544) (w := (nI (i + 4))) (ls' := [_, _, _, _, _, _, _, _, _, _]) rfl rfl rfl rfl (mI_add _ _) rfl rfl ?_
  refine l_goto (p' := 28) rfl rfl rfl ?_
  exact hn _ _ _ _ _ hB1
theorem lr_4_2 {L i : Nat} {xs : Nat → Int32} {h : mj_H} {l6 l7 l8 l9 : Option Value} {P A B : mj_H → Prop} {b : Int32} (hL : L ≤ 2048) (hi : i + 4 ≤ L) (hk : xs i &&& nI 63 = nI 4) (hw : mj_Wp 250 125 (0, [some (.ref 0), some (.ref 412), none], [], h) (mz_V fun r g => r = .int (nI 2) ∧ A g)) (hA : ∀ g, A g → ∃ fs : List Value, mj_rd g 400 = some (.inr (17, fs))) (hm : ∀ g, A g → mj_Wp 250 344 (0, [some (.ref 400), none], [], g) (mz_V fun r g2 => r = .int b ∧ B g2)) (hB : ∀ g, B g → ∃ rs : List Value, mj_rd g 400 = some (.inr (17, .int (nI 2) :: rs))) (hn : ∀ (l6 l7 l8 l9 : Option Value) (g : mj_H), B g → mj_lrun L xs (28, [some (.retAddr 1), some (.ref 0), some (.ref 400), some (.ref 412), some (.ref 413), some (.int (nI (i + 4))), l6, l7, l8, l9], [], g) P) : mj_lrun L xs (28, [some (.retAddr 1), some (.ref 0), some (.ref 400), some (.ref 412), some (.ref 413), some (.int (nI i)), l6, l7, l8, l9], [], h) P := by
  refine l_ild (p' := 30) rfl rfl rfl rfl ?_
  refine l_alds (p' := 31) rfl rfl rfl rfl ?_
  refine l_lens (p' := 32) rfl rfl rfl ?_
  refine l_con (p' := 33) rfl rfl rfl ?_
  refine l_bz (p' := 34) (z := (nI (L - 4))) rfl rfl rfl rfl rfl (mI_sub (by omega)) ?_
  refine l_icmp (p' := 37) false rfl rfl ((ci_gt (by omega) (by omega)).trans (decide_eq_false (by omega))) rfl ?_
  refine l_alds (p' := 38) rfl rfl rfl rfl ?_
  refine l_ild (p' := 40) rfl rfl rfl rfl ?_
  refine l_ialz (p' := 41) (m := i) (z := (xs i)) rfl rfl (inb_nI (by omega) (by omega)) (mI_cl (by omega)) rfl rfl ?_
  refine l_bip (p' := 43) rfl rfl rfl ?_
  refine l_bz (p' := 44) (z := (nI 4)) rfl rfl rfl rfl rfl hk ?_
  refine l_sp (p' := 419) (ls' := _) rfl rfl rfl rfl rfl ?_
  refine l_aldn (p' := 420) rfl rfl rfl rfl ?_
  refine l_aldn (p' := 421) rfl rfl rfl rfl ?_
  refine l_call (p' := 424) (kc := 250) (ls0 := [_, _, _]) rfl rfl rfl rfl rfl rfl rfl rfl rfl rfl ?_
  refine hw.imp ?_
  rintro _ ⟨_, h1, rfl, rfl, hA1⟩
  show mj_lrun _ _ (424, _, _, _) _
  try dsimp only
  refine l_ist (p' := 426) (ls' := [_, _, _, _, _, _, _, _, _, _]) rfl rfl rfl rfl rfl ?_
  refine l_aldn (p' := 427) rfl rfl rfl rfl ?_
  obtain ⟨fs4, q4⟩ := hA _ hA1
  refine l_call (p' := 430) (kc := 250) (ls0 := [_, _]) rfl rfl rfl rfl rfl rfl (mj_rcv_is q4) rfl rfl rfl ?_
  refine (hm h1 hA1).imp ?_
  rintro _ ⟨_, h2, rfl, rfl, hB1⟩
  show mj_lrun _ _ (430, _, _, _) _
  try dsimp only
  obtain ⟨rs5, q5⟩ := hB _ hB1
  refine l_ist (p' := 432) (ls' := [_, _, _, _, _, _, _, _, _, _]) rfl rfl rfl rfl rfl ?_
  refine l_aldn (p' := 433) rfl rfl rfl rfl ?_
  refine l_call (p' := 436) (kc := 99) (ls0 := [_]) rfl rfl rfl rfl rfl rfl (mj_rcv_is q5) rfl rfl rfl ?_
  refine s_aldn (p' := 1) rfl rfl rfl ?_
  refine s_gf (p' := 4) rfl q5 rfl rfl ?_
  refine k_iret rfl rfl ?_
  refine l_ild (p' := 438) rfl rfl rfl rfl ?_
  refine l_icmp (p' := 443) true rfl rfl (ci_sf _) rfl ?_
  refine l_ild (p' := 445) rfl rfl rfl rfl ?_
  refine l_if (p' := 460) true rfl rfl (by decide +kernel) rfl ?_
  refine l_goto (p' := 2541) rfl rfl rfl ?_
  refine l_incz (p' := 2544) (w := (nI (i + 4))) (ls' := [_, _, _, _, _, _, _, _, _, _]) rfl rfl rfl rfl (mI_add _ _) rfl rfl ?_
  refine l_goto (p' := 28) rfl rfl rfl ?_
  exact hn _ _ _ _ _ hB1
theorem lr_5_0 {L i : Nat} {xs : Nat → Int32} {h : mj_H} {l6 l7 l8 l9 : Option Value} {P A B : mj_H → Prop} {b : Int32} (hL : L ≤ 2048) (hi : i + 4 ≤ L) (hk : xs i &&& nI 63 = nI 5) (hw : mj_Wp 250 132 (0, [some (.ref 0), some (.int (xs (i + 1))), some (.ref 412), none], [], h) (mz_V fun r g => r = .int (nI 0) ∧ A g)) (hA : ∀ g, A g → ∃ fs : List Value, mj_rd g 400 = some (.inr (17, fs))) (hm : ∀ g, A g → mj_Wp 250 356 (0, [some (.ref 400), some (.int (xs (i + 1))), none], [], g) (mz_V fun r g2 => r = .int b ∧ B g2)) (hB : ∀ g, B g → ∃ rs : List Value, mj_rd g 400 = some (.inr (17, .int (nI 0) :: rs)) ∧ ∃ ou : Nat → Int64, mj_rd g 412 = some (.inl (4, (1, .inr (.inl ou)))) ∧ ou 0 = Int32.toInt64 b) (hn : ∀ (l6 l7 l8 l9 : Option Value) (g : mj_H), B g → mj_lrun L xs (28, [some (.retAddr 1), some (.ref 0), some (.ref 400), some (.ref 412), some (.ref 413), some (.int (nI (i + 4))), l6, l7, l8, l9], [], g) P) : mj_lrun L xs (28, [some (.retAddr 1), some (.ref 0), some (.ref 400), some (.ref 412), some (.ref 413), some (.int (nI i)), l6, l7, l8, l9], [], h) P := by
  refine l_ild (p' := 30) rfl rfl rfl rfl ?_
  refine l_alds (p' := 31) rfl rfl rfl rfl ?_
  refine l_lens (p' := 32) rfl rfl rfl ?_
  refine l_con (p' := 33) rfl rfl rfl ?_
  refine l_bz (p' := 34) (z := (nI (L - 4))) rfl rfl rfl rfl rfl (mI_sub (by omega)) ?_
  refine l_icmp (p' := 37) false rfl rfl ((ci_gt (by omega) (by omega)).trans (decide_eq_false (by omega))) rfl ?_
  refine l_alds (p' := 38) rfl rfl rfl rfl ?_
  refine l_ild (p' := 40) rfl rfl rfl rfl ?_
  refine l_ialz (p' := 41) (m := i) (z := (xs i)) rfl rfl (inb_nI (by omega) (by omega)) (mI_cl (by omega)) rfl rfl ?_
  refine l_bip (p' := 43) rfl rfl rfl ?_
  refine l_bz (p' := 44) (z := (nI 5)) rfl rfl rfl rfl rfl hk ?_
  refine l_sp (p' := 463) (ls' := _) rfl rfl rfl rfl rfl ?_
  refine l_aldn (p' := 464) rfl rfl rfl rfl ?_
  refine l_alds (p' := 465) rfl rfl rfl rfl ?_
  refine l_ild (p' := 467) rfl rfl rfl rfl ?_
  refine l_con (p' := 468) rfl rfl rfl ?_
  refine l_bz (p' := 469) (z := (nI (i + 1))) rfl rfl rfl rfl rfl (mI_add _ _) ?_
  refine l_ialz (p' := 470) (m := i + 1) (z := (xs (i + 1))) rfl rfl (inb_nI (by omega) (by omega)) (mI_cl (by omega)) rfl rfl ?_
  refine l_aldn (p' := 471) rfl rfl rfl rfl ?_
  refine l_call (p' := 474) (kc := 250) (ls0 := [_, _, _, _]) rfl rfl rfl rfl rfl rfl rfl rfl rfl rfl ?_
  refine hw.imp ?_
  rintro _ ⟨_, h1, rfl, rfl, hA1⟩
  show mj_lrun _ _ (474, _, _, _) _
  try dsimp only
  refine l_ist (p' := 476) (ls' := [_, _, _, _, _, _, _, _, _, _]) rfl rfl rfl rfl rfl ?_
  refine l_aldn (p' := 477) rfl rfl rfl rfl ?_
  refine l_alds (p' := 478) rfl rfl rfl rfl ?_
  refine l_ild (p' := 480) rfl rfl rfl rfl ?_
  refine l_con (p' := 481) rfl rfl rfl ?_
  refine l_bz (p' := 482) (z := (nI (i + 1))) rfl rfl rfl rfl rfl (mI_add _ _) ?_
  refine l_ialz (p' := 483) (m := i + 1) (z := (xs (i + 1))) rfl rfl (inb_nI (by omega) (by omega)) (mI_cl (by omega)) rfl rfl ?_
  obtain ⟨fs4, q4⟩ := hA _ hA1
  refine l_call (p' := 486) (kc := 250) (ls0 := [_, _, _]) rfl rfl rfl rfl rfl rfl (mj_rcv_is q4) rfl rfl rfl ?_
  refine (hm h1 hA1).imp ?_
  rintro _ ⟨_, h2, rfl, rfl, hB1⟩
  show mj_lrun _ _ (486, _, _, _) _
  try dsimp only
  obtain ⟨rs5, q5, ou, q6, q7⟩ := hB _ hB1
  refine l_ist (p' := 488) (ls' := [_, _, _, _, _, _, _, _, _, _]) rfl rfl rfl rfl rfl ?_
  refine l_aldn (p' := 489) rfl rfl rfl rfl ?_
  refine l_call (p' := 492) (kc := 99) (ls0 := [_]) rfl rfl rfl rfl rfl rfl (mj_rcv_is q5) rfl rfl rfl ?_
  refine s_aldn (p' := 1) rfl rfl rfl ?_
  refine s_gf (p' := 4) rfl q5 rfl rfl ?_
  refine k_iret rfl rfl ?_
  refine l_ild (p' := 494) rfl rfl rfl rfl ?_
  refine l_icmp (p' := 499) true rfl rfl (ci_sf _) rfl ?_
  refine l_ild (p' := 501) rfl rfl rfl rfl ?_
  refine l_if (p' := 504) false rfl rfl (by decide +kernel) rfl ?_
  refine l_aldn (p' := 505) rfl rfl rfl rfl ?_
  refine l_con (p' := 506) rfl rfl rfl ?_
  refine l_lalz (p' := 507) (m := 0) (v := Int32.toInt64 b) rfl rfl q6 (by decide) rfl q7 rfl ?_
  refine l_ild (p' := 509) rfl rfl rfl rfl ?_
  refine l_bzL (p' := 510) (z := Int32.toInt64 b) rfl rfl rfl rfl rfl rfl ?_
  refine l_bz (p' := 511) (z := nI 0) rfl rfl rfl rfl rfl (lcmp_self _) ?_
  refine l_if (p' := 516) true rfl rfl (by decide +kernel) rfl ?_
  refine l_goto (p' := 2541) rfl rfl rfl ?_
  refine l_incz (p' := 2544) (w := (nI (i + 4))) (ls' := [_, _, _, _, _, _, _, _, _, _]) rfl rfl rfl rfl (mI_add _ _) rfl rfl ?_
  refine l_goto (p' := 28) rfl rfl rfl ?_
  exact hn _ _ _ _ _ hB1
theorem lr_5_1 {L i : Nat} {xs : Nat → Int32} {h : mj_H} {l6 l7 l8 l9 : Option Value} {P A B : mj_H → Prop} {b : Int32} (hL : L ≤ 2048) (hi : i + 4 ≤ L) (hk : xs i &&& nI 63 = nI 5) (hw : mj_Wp 250 132 (0, [some (.ref 0), some (.int (xs (i + 1))), some (.ref 412), none], [], h) (mz_V fun r g => r = .int (nI 1) ∧ A g)) (hA : ∀ g, A g → ∃ fs : List Value, mj_rd g 400 = some (.inr (17, fs))) (hm : ∀ g, A g → mj_Wp 250 356 (0, [some (.ref 400), some (.int (xs (i + 1))), none], [], g) (mz_V fun r g2 => r = .int b ∧ B g2)) (hB : ∀ g, B g → ∃ rs : List Value, mj_rd g 400 = some (.inr (17, .int (nI 1) :: rs))) (hn : ∀ (l6 l7 l8 l9 : Option Value) (g : mj_H), B g → mj_lrun L xs (28, [some (.retAddr 1), some (.ref 0), some (.ref 400), some (.ref 412), some (.ref 413), some (.int (nI (i + 4))), l6, l7, l8, l9], [], g) P) : mj_lrun L xs (28, [some (.retAddr 1), some (.ref 0), some (.ref 400), some (.ref 412), some (.ref 413), some (.int (nI i)), l6, l7, l8, l9], [], h) P := by
  refine l_ild (p' := 30) rfl rfl rfl rfl ?_
  refine l_alds (p' := 31) rfl rfl rfl rfl ?_
  refine l_lens (p' := 32) rfl rfl rfl ?_
  refine l_con (p' := 33) rfl rfl rfl ?_
  refine l_bz (p' := 34) (z := (nI (L - 4))) rfl rfl rfl rfl rfl (mI_sub (by omega)) ?_
  refine l_icmp (p' := 37) false rfl rfl ((ci_gt (by omega) (by omega)).trans (decide_eq_false (by omega))) rfl ?_
  refine l_alds (p' := 38) rfl rfl rfl rfl ?_
  refine l_ild (p' := 40) rfl rfl rfl rfl ?_
  refine l_ialz (p' := 41) (m := i) (z := (xs i)) rfl rfl (inb_nI (by omega) (by omega)) (mI_cl (by omega)) rfl rfl ?_
  refine l_bip (p' := 43) rfl rfl rfl ?_
  refine l_bz (p' := 44) (z := (nI 5)) rfl rfl rfl rfl rfl hk ?_
  refine l_sp (p' := 463) (ls' := _) rfl rfl rfl rfl rfl ?_
  refine l_aldn (p' := 464) rfl rfl rfl rfl ?_
  refine l_alds (p' := 465) rfl rfl rfl rfl ?_
  refine l_ild (p' := 467) rfl rfl rfl rfl ?_
  refine l_con (p' := 468) rfl rfl rfl ?_
  refine l_bz (p' := 469) (z := (nI (i + 1))) rfl rfl rfl rfl rfl (mI_add _ _) ?_
  refine l_ialz (p' := 470) (m := i + 1) (z := (xs (i + 1))) rfl rfl (inb_nI (by omega) (by omega)) (mI_cl (by omega)) rfl rfl ?_
  refine l_aldn (p' := 471) rfl rfl rfl rfl ?_
  refine l_call (p' := 474) (kc := 250) (ls0 := [_, _, _, _]) rfl rfl rfl rfl rfl rfl rfl rfl rfl rfl ?_
  refine hw.imp ?_
  rintro _ ⟨_, h1, rfl, rfl, hA1⟩
  show mj_lrun _ _ (474, _, _, _) _
  try dsimp only
  refine l_ist (p' := 476) (ls' := [_, _, _, _, _, _, _, _, _, _]) rfl rfl rfl rfl rfl ?_
  refine l_aldn (p' := 477) rfl rfl rfl rfl ?_
  refine l_alds (p' := 478) rfl rfl rfl rfl ?_
  refine l_ild (p' := 480) rfl rfl rfl rfl ?_
  refine l_con (p' := 481) rfl rfl rfl ?_
  refine l_bz (p' := 482) (z := (nI (i + 1))) rfl rfl rfl rfl rfl (mI_add _ _) ?_
  refine l_ialz (p' := 483) (m := i + 1) (z := (xs (i + 1))) rfl rfl (inb_nI (by omega) (by omega)) (mI_cl (by omega)) rfl rfl ?_
  obtain ⟨fs4, q4⟩ := hA _ hA1
  refine l_call (p' := 486) (kc := 250) (ls0 := [_, _, _]) rfl rfl rfl rfl rfl rfl (mj_rcv_is q4) rfl rfl rfl ?_
  refine (hm h1 hA1).imp ?_
  rintro _ ⟨_, h2, rfl, rfl, hB1⟩
  show mj_lrun _ _ (486, _, _, _) _
  try dsimp only
  obtain ⟨rs5, q5⟩ := hB _ hB1
  refine l_ist (p' := 488) (ls' := [_, _, _, _, _, _, _, _, _, _]) rfl rfl rfl rfl rfl ?_
  refine l_aldn (p' := 489) rfl rfl rfl rfl ?_
  refine l_call (p' := 492) (kc := 99) (ls0 := [_]) rfl rfl rfl rfl rfl rfl (mj_rcv_is q5) rfl rfl rfl ?_
  refine s_aldn (p' := 1) rfl rfl rfl ?_
  refine s_gf (p' := 4) rfl q5 rfl rfl ?_
  refine k_iret rfl rfl ?_
  refine l_ild (p' := 494) rfl rfl rfl rfl ?_
  refine l_icmp (p' := 499) true rfl rfl (ci_sf _) rfl ?_
  refine l_ild (p' := 501) rfl rfl rfl rfl ?_
  refine l_if (p' := 516) true rfl rfl (by decide +kernel) rfl ?_
  refine l_goto (p' := 2541) rfl rfl rfl ?_
  refine l_incz (p' := 2544) (w := (nI (i + 4))) (ls' := [_, _, _, _, _, _, _, _, _, _]) rfl rfl rfl rfl (mI_add _ _) rfl rfl ?_
  refine l_goto (p' := 28) rfl rfl rfl ?_
  exact hn _ _ _ _ _ hB1
theorem lr_5_2 {L i : Nat} {xs : Nat → Int32} {h : mj_H} {l6 l7 l8 l9 : Option Value} {P A B : mj_H → Prop} {b : Int32} (hL : L ≤ 2048) (hi : i + 4 ≤ L) (hk : xs i &&& nI 63 = nI 5) (hw : mj_Wp 250 132 (0, [some (.ref 0), some (.int (xs (i + 1))), some (.ref 412), none], [], h) (mz_V fun r g => r = .int (nI 2) ∧ A g)) (hA : ∀ g, A g → ∃ fs : List Value, mj_rd g 400 = some (.inr (17, fs))) (hm : ∀ g, A g → mj_Wp 250 356 (0, [some (.ref 400), some (.int (xs (i + 1))), none], [], g) (mz_V fun r g2 => r = .int b ∧ B g2)) (hB : ∀ g, B g → ∃ rs : List Value, mj_rd g 400 = some (.inr (17, .int (nI 2) :: rs))) (hn : ∀ (l6 l7 l8 l9 : Option Value) (g : mj_H), B g → mj_lrun L xs (28, [some (.retAddr 1), some (.ref 0), some (.ref 400), some (.ref 412), some (.ref 413), some (.int (nI (i + 4))), l6, l7, l8, l9], [], g) P) : mj_lrun L xs (28, [some (.retAddr 1), some (.ref 0), some (.ref 400), some (.ref 412), some (.ref 413), some (.int (nI i)), l6, l7, l8, l9], [], h) P := by
  refine l_ild (p' := 30) rfl rfl rfl rfl ?_
  refine l_alds (p' := 31) rfl rfl rfl rfl ?_
  refine l_lens (p' := 32) rfl rfl rfl ?_
  refine l_con (p' := 33) rfl rfl rfl ?_
  refine l_bz (p' := 34) (z := (nI (L - 4))) rfl rfl rfl rfl rfl (mI_sub (by omega)) ?_
  refine l_icmp (p' := 37) false rfl rfl ((ci_gt (by omega) (by omega)).trans (decide_eq_false (by omega))) rfl ?_
  refine l_alds (p' := 38) rfl rfl rfl rfl ?_
  refine l_ild (p' := 40) rfl rfl rfl rfl ?_
  refine l_ialz (p' := 41) (m := i) (z := (xs i)) rfl rfl (inb_nI (by omega) (by omega)) (mI_cl (by omega)) rfl rfl ?_
  refine l_bip (p' := 43) rfl rfl rfl ?_
  refine l_bz (p' := 44) (z := (nI 5)) rfl rfl rfl rfl rfl hk ?_
  refine l_sp (p' := 463) (ls' := _) rfl rfl rfl rfl rfl ?_
  refine l_aldn (p' := 464) rfl rfl rfl rfl ?_
  refine l_alds (p' := 465) rfl rfl rfl rfl ?_
  refine l_ild (p' := 467) rfl rfl rfl rfl ?_
  refine l_con (p' := 468) rfl rfl rfl ?_
  refine l_bz (p' := 469) (z := (nI (i + 1))) rfl rfl rfl rfl rfl (mI_add _ _) ?_
  refine l_ialz (p' := 470) (m := i + 1) (z := (xs (i + 1))) rfl rfl (inb_nI (by omega) (by omega)) (mI_cl (by omega)) rfl rfl ?_
  refine l_aldn (p' := 471) rfl rfl rfl rfl ?_
  refine l_call (p' := 474) (kc := 250) (ls0 := [_, _, _, _]) rfl rfl rfl rfl rfl rfl rfl rfl rfl rfl ?_
  refine hw.imp ?_
  rintro _ ⟨_, h1, rfl, rfl, hA1⟩
  show mj_lrun _ _ (474, _, _, _) _
  try dsimp only
  refine l_ist (p' := 476) (ls' := [_, _, _, _, _, _, _, _, _, _]) rfl rfl rfl rfl rfl ?_
  refine l_aldn (p' := 477) rfl rfl rfl rfl ?_
  refine l_alds (p' := 478) rfl rfl rfl rfl ?_
  refine l_ild (p' := 480) rfl rfl rfl rfl ?_
  refine l_con (p' := 481) rfl rfl rfl ?_
  refine l_bz (p' := 482) (z := (nI (i + 1))) rfl rfl rfl rfl rfl (mI_add _ _) ?_
  refine l_ialz (p' := 483) (m := i + 1) (z := (xs (i + 1))) rfl rfl (inb_nI (by omega) (by omega)) (mI_cl (by omega)) rfl rfl ?_
  obtain ⟨fs4, q4⟩ := hA _ hA1
  refine l_call (p' := 486) (kc := 250) (ls0 := [_, _, _]) rfl rfl rfl rfl rfl rfl (mj_rcv_is q4) rfl rfl rfl ?_
  refine (hm h1 hA1).imp ?_
  rintro _ ⟨_, h2, rfl, rfl, hB1⟩
  show mj_lrun _ _ (486, _, _, _) _
  try dsimp only
  obtain ⟨rs5, q5⟩ := hB _ hB1
  refine l_ist (p' := 488) (ls' := [_, _, _, _, _, _, _, _, _, _]) rfl rfl rfl rfl rfl ?_
  refine l_aldn (p' := 489) rfl rfl rfl rfl ?_
  refine l_call (p' := 492) (kc := 99) (ls0 := [_]) rfl rfl rfl rfl rfl rfl (mj_rcv_is q5) rfl rfl rfl ?_
  refine s_aldn (p' := 1) rfl rfl rfl ?_
  refine s_gf (p' := 4) rfl q5 rfl rfl ?_
  refine k_iret rfl rfl ?_
  refine l_ild (p' := 494) rfl rfl rfl rfl ?_
  refine l_icmp (p' := 499) true rfl rfl (ci_sf _) rfl ?_
  refine l_ild (p' := 501) rfl rfl rfl rfl ?_
  refine l_if (p' := 516) true rfl rfl (by decide +kernel) rfl ?_
  refine l_goto (p' := 2541) rfl rfl rfl ?_
  refine l_incz (p' := 2544) (w := (nI (i + 4))) (ls' := [_, _, _, _, _, _, _, _, _, _]) rfl rfl rfl rfl (mI_add _ _) rfl rfl ?_
  refine l_goto (p' := 28) rfl rfl rfl ?_
  exact hn _ _ _ _ _ hB1
theorem lr_7_0 {L i : Nat} {xs : Nat → Int32} {h : mj_H} {l6 l7 l8 l9 : Option Value} {P A B : mj_H → Prop} {b : Int32} (hL : L ≤ 2048) (hi : i + 4 ≤ L) (hk : xs i &&& nI 63 = nI 7) (hw : mj_Wp 250 139 (0, [some (.ref 0), some (.int (xs (i + 1))), some (.int (xs (i + 2))), some (.ref 412), none], [], h) (mz_V fun r g => r = .int (nI 0) ∧ A g)) (hA : ∀ g, A g → ∃ fs : List Value, mj_rd g 400 = some (.inr (17, fs))) (hm : ∀ g, A g → mj_Wp 250 369 (0, [some (.ref 400), some (.int (xs (i + 1))), some (.int (xs (i + 2)))], [], g) (mz_V fun r g2 => r = .int b ∧ B g2)) (hB : ∀ g, B g → ∃ rs : List Value, mj_rd g 400 = some (.inr (17, .int (nI 0) :: rs)) ∧ ∃ ou : Nat → Int64, mj_rd g 412 = some (.inl (4, (1, .inr (.inl ou)))) ∧ ou 0 = Int32.toInt64 b) (hn : ∀ (l6 l7 l8 l9 : Option Value) (g : mj_H), B g → mj_lrun L xs (28, [some (.retAddr 1), some (.ref 0), some (.ref 400), some (.ref 412), some (.ref 413), some (.int (nI (i + 4))), l6, l7, l8, l9], [], g) P) : mj_lrun L xs (28, [some (.retAddr 1), some (.ref 0), some (.ref 400), some (.ref 412), some (.ref 413), some (.int (nI i)), l6, l7, l8, l9], [], h) P := by
  refine l_ild (p' := 30) rfl rfl rfl rfl ?_
  refine l_alds (p' := 31) rfl rfl rfl rfl ?_
  refine l_lens (p' := 32) rfl rfl rfl ?_
  refine l_con (p' := 33) rfl rfl rfl ?_
  refine l_bz (p' := 34) (z := (nI (L - 4))) rfl rfl rfl rfl rfl (mI_sub (by omega)) ?_
  refine l_icmp (p' := 37) false rfl rfl ((ci_gt (by omega) (by omega)).trans (decide_eq_false (by omega))) rfl ?_
  refine l_alds (p' := 38) rfl rfl rfl rfl ?_
  refine l_ild (p' := 40) rfl rfl rfl rfl ?_
  refine l_ialz (p' := 41) (m := i) (z := (xs i)) rfl rfl (inb_nI (by omega) (by omega)) (mI_cl (by omega)) rfl rfl ?_
  refine l_bip (p' := 43) rfl rfl rfl ?_
  refine l_bz (p' := 44) (z := (nI 7)) rfl rfl rfl rfl rfl hk ?_
  refine l_sp (p' := 575) (ls' := _) rfl rfl rfl rfl rfl ?_
  refine l_aldn (p' := 576) rfl rfl rfl rfl ?_
  refine l_alds (p' := 577) rfl rfl rfl rfl ?_
  refine l_ild (p' := 579) rfl rfl rfl rfl ?_
  refine l_con (p' := 580) rfl rfl rfl ?_
  refine l_bz (p' := 581) (z := (nI (i + 1))) rfl rfl rfl rfl rfl (mI_add _ _) ?_
  refine l_ialz (p' := 582) (m := i + 1) (z := (xs (i + 1))) rfl rfl (inb_nI (by omega) (by omega)) (mI_cl (by omega)) rfl rfl ?_
  refine l_alds (p' := 583) rfl rfl rfl rfl ?_
  refine l_ild (p' := 585) rfl rfl rfl rfl ?_
  refine l_con (p' := 586) rfl rfl rfl ?_
  refine l_bz (p' := 587) (z := (nI (i + 2))) rfl rfl rfl rfl rfl (mI_add _ _) ?_
  refine l_ialz (p' := 588) (m := i + 2) (z := (xs (i + 2))) rfl rfl (inb_nI (by omega) (by omega)) (mI_cl (by omega)) rfl rfl ?_
  refine l_aldn (p' := 589) rfl rfl rfl rfl ?_
  refine l_call (p' := 592) (kc := 250) (ls0 := [_, _, _, _, _]) rfl rfl rfl rfl rfl rfl rfl rfl rfl rfl ?_
  refine hw.imp ?_
  rintro _ ⟨_, h1, rfl, rfl, hA1⟩
  show mj_lrun _ _ (592, _, _, _) _
  try dsimp only
  refine l_ist (p' := 594) (ls' := [_, _, _, _, _, _, _, _, _, _]) rfl rfl rfl rfl rfl ?_
  refine l_aldn (p' := 595) rfl rfl rfl rfl ?_
  refine l_alds (p' := 596) rfl rfl rfl rfl ?_
  refine l_ild (p' := 598) rfl rfl rfl rfl ?_
  refine l_con (p' := 599) rfl rfl rfl ?_
  refine l_bz (p' := 600) (z := (nI (i + 1))) rfl rfl rfl rfl rfl (mI_add _ _) ?_
  refine l_ialz (p' := 601) (m := i + 1) (z := (xs (i + 1))) rfl rfl (inb_nI (by omega) (by omega)) (mI_cl (by omega)) rfl rfl ?_
  refine l_alds (p' := 602) rfl rfl rfl rfl ?_
  refine l_ild (p' := 604) rfl rfl rfl rfl ?_
  refine l_con (p' := 605) rfl rfl rfl ?_
  refine l_bz (p' := 606) (z := (nI (i + 2))) rfl rfl rfl rfl rfl (mI_add _ _) ?_
  refine l_ialz (p' := 607) (m := i + 2) (z := (xs (i + 2))) rfl rfl (inb_nI (by omega) (by omega)) (mI_cl (by omega)) rfl rfl ?_
  obtain ⟨fs4, q4⟩ := hA _ hA1
  refine l_call (p' := 610) (kc := 250) (ls0 := [_, _, _]) rfl rfl rfl rfl rfl rfl (mj_rcv_is q4) rfl rfl rfl ?_
  refine (hm h1 hA1).imp ?_
  rintro _ ⟨_, h2, rfl, rfl, hB1⟩
  show mj_lrun _ _ (610, _, _, _) _
  try dsimp only
  obtain ⟨rs5, q5, ou, q6, q7⟩ := hB _ hB1
  refine l_ist (p' := 612) (ls' := [_, _, _, _, _, _, _, _, _, _]) rfl rfl rfl rfl rfl ?_
  refine l_aldn (p' := 613) rfl rfl rfl rfl ?_
  refine l_call (p' := 616) (kc := 99) (ls0 := [_]) rfl rfl rfl rfl rfl rfl (mj_rcv_is q5) rfl rfl rfl ?_
  refine s_aldn (p' := 1) rfl rfl rfl ?_
  refine s_gf (p' := 4) rfl q5 rfl rfl ?_
  refine k_iret rfl rfl ?_
  refine l_ild (p' := 618) rfl rfl rfl rfl ?_
  refine l_icmp (p' := 623) true rfl rfl (ci_sf _) rfl ?_
  refine l_ild (p' := 625) rfl rfl rfl rfl ?_
  refine l_if (p' := 628) false rfl rfl (by decide +kernel) rfl ?_
  refine l_aldn (p' := 629) rfl rfl rfl rfl ?_
  refine l_con (p' := 630) rfl rfl rfl ?_
  refine l_lalz (p' := 631) (m := 0) (v := Int32.toInt64 b) rfl rfl q6 (by decide) rfl q7 rfl ?_
  refine l_ild (p' := 633) rfl rfl rfl rfl ?_
  refine l_bzL (p' := 634) (z := Int32.toInt64 b) rfl rfl rfl rfl rfl rfl ?_
  refine l_bz (p' := 635) (z := nI 0) rfl rfl rfl rfl rfl (lcmp_self _) ?_
  refine l_if (p' := 640) true rfl rfl (by decide +kernel) rfl ?_
  refine l_goto (p' := 2541) rfl rfl rfl ?_
  refine l_incz (p' := 2544) (w := (nI (i + 4))) (ls' := [_, _, _, _, _, _, _, _, _, _]) rfl rfl rfl rfl (mI_add _ _) rfl rfl ?_
  refine l_goto (p' := 28) rfl rfl rfl ?_
  exact hn _ _ _ _ _ hB1
theorem lr_7_1 {L i : Nat} {xs : Nat → Int32} {h : mj_H} {l6 l7 l8 l9 : Option Value} {P A B : mj_H → Prop} {b : Int32} (hL : L ≤ 2048) (hi : i + 4 ≤ L) (hk : xs i &&& nI 63 = nI 7) (hw : mj_Wp 250 139 (0, [some (.ref 0), some (.int (xs (i + 1))), some (.int (xs (i + 2))), some (.ref 412), none], [], h) (mz_V fun r g => r = .int (nI 1) ∧ A g)) (hA : ∀ g, A g → ∃ fs : List Value, mj_rd g 400 = some (.inr (17, fs))) (hm : ∀ g, A g → mj_Wp 250 369 (0, [some (.ref 400), some (.int (xs (i + 1))), some (.int (xs (i + 2)))], [], g) (mz_V fun r g2 => r = .int b ∧ B g2)) (hB : ∀ g, B g → ∃ rs : List Value, mj_rd g 400 = some (.inr (17, .int (nI 1) :: rs))) (hn : ∀ (l6 l7 l8 l9 : Option Value) (g : mj_H), B g → mj_lrun L xs (28, [some (.retAddr 1), some (.ref 0), some (.ref 400), some (.ref 412), some (.ref 413), some (.int (nI (i + 4))), l6, l7, l8, l9], [], g) P) : mj_lrun L xs (28, [some (.retAddr 1), some (.ref 0), some (.ref 400), some (.ref 412), some (.ref 413), some (.int (nI i)), l6, l7, l8, l9], [], h) P := by
  refine l_ild (p' := 30) rfl rfl rfl rfl ?_
  refine l_alds (p' := 31) rfl rfl rfl rfl ?_
  refine l_lens (p' := 32) rfl rfl rfl ?_
  refine l_con (p' := 33) rfl rfl rfl ?_
  refine l_bz (p' := 34) (z := (nI (L - 4))) rfl rfl rfl rfl rfl (mI_sub (by omega)) ?_
  refine l_icmp (p' := 37) false rfl rfl ((ci_gt (by omega) (by omega)).trans (decide_eq_false (by omega))) rfl ?_
  refine l_alds (p' := 38) rfl rfl rfl rfl ?_
  refine l_ild (p' := 40) rfl rfl rfl rfl ?_
  refine l_ialz (p' := 41) (m := i) (z := (xs i)) rfl rfl (inb_nI (by omega) (by omega)) (mI_cl (by omega)) rfl rfl ?_
  refine l_bip (p' := 43) rfl rfl rfl ?_
  refine l_bz (p' := 44) (z := (nI 7)) rfl rfl rfl rfl rfl hk ?_
  refine l_sp (p' := 575) (ls' := _) rfl rfl rfl rfl rfl ?_
  refine l_aldn (p' := 576) rfl rfl rfl rfl ?_
  refine l_alds (p' := 577) rfl rfl rfl rfl ?_
  refine l_ild (p' := 579) rfl rfl rfl rfl ?_
  refine l_con (p' := 580) rfl rfl rfl ?_
  refine l_bz (p' := 581) (z := (nI (i + 1))) rfl rfl rfl rfl rfl (mI_add _ _) ?_
  refine l_ialz (p' := 582) (m := i + 1) (z := (xs (i + 1))) rfl rfl (inb_nI (by omega) (by omega)) (mI_cl (by omega)) rfl rfl ?_
  refine l_alds (p' := 583) rfl rfl rfl rfl ?_
  refine l_ild (p' := 585) rfl rfl rfl rfl ?_
  refine l_con (p' := 586) rfl rfl rfl ?_
  refine l_bz (p' := 587) (z := (nI (i + 2))) rfl rfl rfl rfl rfl (mI_add _ _) ?_
  refine l_ialz (p' := 588) (m := i + 2) (z := (xs (i + 2))) rfl rfl (inb_nI (by omega) (by omega)) (mI_cl (by omega)) rfl rfl ?_
  refine l_aldn (p' := 589) rfl rfl rfl rfl ?_
  refine l_call (p' := 592) (kc := 250) (ls0 := [_, _, _, _, _]) rfl rfl rfl rfl rfl rfl rfl rfl rfl rfl ?_
  refine hw.imp ?_
  rintro _ ⟨_, h1, rfl, rfl, hA1⟩
  show mj_lrun _ _ (592, _, _, _) _
  try dsimp only
  refine l_ist (p' := 594) (ls' := [_, _, _, _, _, _, _, _, _, _]) rfl rfl rfl rfl rfl ?_
  refine l_aldn (p' := 595) rfl rfl rfl rfl ?_
  refine l_alds (p' := 596) rfl rfl rfl rfl ?_
  refine l_ild (p' := 598) rfl rfl rfl rfl ?_
  refine l_con (p' := 599) rfl rfl rfl ?_
  refine l_bz (p' := 600) (z := (nI (i + 1))) rfl rfl rfl rfl rfl (mI_add _ _) ?_
  refine l_ialz (p' := 601) (m := i + 1) (z := (xs (i + 1))) rfl rfl (inb_nI (by omega) (by omega)) (mI_cl (by omega)) rfl rfl ?_
  refine l_alds (p' := 602) rfl rfl rfl rfl ?_
  refine l_ild (p' := 604) rfl rfl rfl rfl ?_
  refine l_con (p' := 605) rfl rfl rfl ?_
  refine l_bz (p' := 606) (z := (nI (i + 2))) rfl rfl rfl rfl rfl (mI_add _ _) ?_
  refine l_ialz (p' := 607) (m := i + 2) (z := (xs (i + 2))) rfl rfl (inb_nI (by omega) (by omega)) (mI_cl (by omega)) rfl rfl ?_
  obtain ⟨fs4, q4⟩ := hA _ hA1
  refine l_call (p' := 610) (kc := 250) (ls0 := [_, _, _]) rfl rfl rfl rfl rfl rfl (mj_rcv_is q4) rfl rfl rfl ?_
  refine (hm h1 hA1).imp ?_
  rintro _ ⟨_, h2, rfl, rfl, hB1⟩
  show mj_lrun _ _ (610, _, _, _) _
  try dsimp only
  obtain ⟨rs5, q5⟩ := hB _ hB1
  refine l_ist (p' := 612) (ls' := [_, _, _, _, _, _, _, _, _, _]) rfl rfl rfl rfl rfl ?_
  refine l_aldn (p' := 613) rfl rfl rfl rfl ?_
  refine l_call (p' := 616) (kc := 99) (ls0 := [_]) rfl rfl rfl rfl rfl rfl (mj_rcv_is q5) rfl rfl rfl ?_
  refine s_aldn (p' := 1) rfl rfl rfl ?_
  refine s_gf (p' := 4) rfl q5 rfl rfl ?_
  refine k_iret rfl rfl ?_
  refine l_ild (p' := 618) rfl rfl rfl rfl ?_
  refine l_icmp (p' := 623) true rfl rfl (ci_sf _) rfl ?_
  refine l_ild (p' := 625) rfl rfl rfl rfl ?_
  refine l_if (p' := 640) true rfl rfl (by decide +kernel) rfl ?_
  refine l_goto (p' := 2541) rfl rfl rfl ?_
  refine l_incz (p' := 2544) (w := (nI (i + 4))) (ls' := [_, _, _, _, _, _, _, _, _, _]) rfl rfl rfl rfl (mI_add _ _) rfl rfl ?_
  refine l_goto (p' := 28) rfl rfl rfl ?_
  exact hn _ _ _ _ _ hB1
theorem lr_9_0 {L i : Nat} {xs : Nat → Int32} {h : mj_H} {l6 l7 l8 l9 : Option Value} {P A B : mj_H → Prop} {b : Int32} (hL : L ≤ 2048) (hi : i + 4 ≤ L) (hk : xs i &&& nI 63 = nI 9) (hw : mj_Wp 250 143 (0, [some (.ref 0), some (.int (xs (i + 1))), some (.int (xs (i + 2))), some (.ref 412), none], [], h) (mz_V fun r g => r = .int (nI 0) ∧ A g)) (hA : ∀ g, A g → ∃ fs : List Value, mj_rd g 400 = some (.inr (17, fs))) (hm : ∀ g, A g → mj_Wp 250 371 (0, [some (.ref 400), some (.int (xs (i + 1))), some (.int (xs (i + 2)))], [], g) (mz_V fun r g2 => r = .int b ∧ B g2)) (hB : ∀ g, B g → ∃ rs : List Value, mj_rd g 400 = some (.inr (17, .int (nI 0) :: rs)) ∧ ∃ ou : Nat → Int64, mj_rd g 412 = some (.inl (4, (1, .inr (.inl ou)))) ∧ ou 0 = Int32.toInt64 b) (hn : ∀ (l6 l7 l8 l9 : Option Value) (g : mj_H), B g → mj_lrun L xs (28, [some (.retAddr 1), some (.ref 0), some (.ref 400), some (.ref 412), some (.ref 413), some (.int (nI (i + 4))), l6, l7, l8, l9], [], g) P) : mj_lrun L xs (28, [some (.retAddr 1), some (.ref 0), some (.ref 400), some (.ref 412), some (.ref 413), some (.int (nI i)), l6, l7, l8, l9], [], h) P := by
  refine l_ild (p' := 30) rfl rfl rfl rfl ?_
  refine l_alds (p' := 31) rfl rfl rfl rfl ?_
  refine l_lens (p' := 32) rfl rfl rfl ?_
  refine l_con (p' := 33) rfl rfl rfl ?_
  refine l_bz (p' := 34) (z := (nI (L - 4))) rfl rfl rfl rfl rfl (mI_sub (by omega)) ?_
  refine l_icmp (p' := 37) false rfl rfl ((ci_gt (by omega) (by omega)).trans (decide_eq_false (by omega))) rfl ?_
  refine l_alds (p' := 38) rfl rfl rfl rfl ?_
  refine l_ild (p' := 40) rfl rfl rfl rfl ?_
  refine l_ialz (p' := 41) (m := i) (z := (xs i)) rfl rfl (inb_nI (by omega) (by omega)) (mI_cl (by omega)) rfl rfl ?_
  refine l_bip (p' := 43) rfl rfl rfl ?_
  refine l_bz (p' := 44) (z := (nI 9)) rfl rfl rfl rfl rfl hk ?_
  refine l_sp (p' := 699) (ls' := _) rfl rfl rfl rfl rfl ?_
  refine l_aldn (p' := 700) rfl rfl rfl rfl ?_
  refine l_alds (p' := 701) rfl rfl rfl rfl ?_
  refine l_ild (p' := 703) rfl rfl rfl rfl ?_
  refine l_con (p' := 704) rfl rfl rfl ?_
  refine l_bz (p' := 705) (z := (nI (i + 1))) rfl rfl rfl rfl rfl (mI_add _ _) ?_
  refine l_ialz (p' := 706) (m := i + 1) (z := (xs (i + 1))) rfl rfl (inb_nI (by omega) (by omega)) (mI_cl (by omega)) rfl rfl ?_
  refine l_alds (p' := 707) rfl rfl rfl rfl ?_
  refine l_ild (p' := 709) rfl rfl rfl rfl ?_
  refine l_con (p' := 710) rfl rfl rfl ?_
  refine l_bz (p' := 711) (z := (nI (i + 2))) rfl rfl rfl rfl rfl (mI_add _ _) ?_
  refine l_ialz (p' := 712) (m := i + 2) (z := (xs (i + 2))) rfl rfl (inb_nI (by omega) (by omega)) (mI_cl (by omega)) rfl rfl ?_
  refine l_aldn (p' := 713) rfl rfl rfl rfl ?_
  refine l_call (p' := 716) (kc := 250) (ls0 := [_, _, _, _, _]) rfl rfl rfl rfl rfl rfl rfl rfl rfl rfl ?_
  refine hw.imp ?_
  rintro _ ⟨_, h1, rfl, rfl, hA1⟩
  show mj_lrun _ _ (716, _, _, _) _
  try dsimp only
  refine l_ist (p' := 718) (ls' := [_, _, _, _, _, _, _, _, _, _]) rfl rfl rfl rfl rfl ?_
  refine l_aldn (p' := 719) rfl rfl rfl rfl ?_
  refine l_alds (p' := 720) rfl rfl rfl rfl ?_
  refine l_ild (p' := 722) rfl rfl rfl rfl ?_
  refine l_con (p' := 723) rfl rfl rfl ?_
  refine l_bz (p' := 724) (z := (nI (i + 1))) rfl rfl rfl rfl rfl (mI_add _ _) ?_
  refine l_ialz (p' := 725) (m := i + 1) (z := (xs (i + 1))) rfl rfl (inb_nI (by omega) (by omega)) (mI_cl (by omega)) rfl rfl ?_
  refine l_alds (p' := 726) rfl rfl rfl rfl ?_
  refine l_ild (p' := 728) rfl rfl rfl rfl ?_
  refine l_con (p' := 729) rfl rfl rfl ?_
  refine l_bz (p' := 730) (z := (nI (i + 2))) rfl rfl rfl rfl rfl (mI_add _ _) ?_
  refine l_ialz (p' := 731) (m := i + 2) (z := (xs (i + 2))) rfl rfl (inb_nI (by omega) (by omega)) (mI_cl (by omega)) rfl rfl ?_
  obtain ⟨fs4, q4⟩ := hA _ hA1
  refine l_call (p' := 734) (kc := 250) (ls0 := [_, _, _]) rfl rfl rfl rfl rfl rfl (mj_rcv_is q4) rfl rfl rfl ?_
  refine (hm h1 hA1).imp ?_
  rintro _ ⟨_, h2, rfl, rfl, hB1⟩
  show mj_lrun _ _ (734, _, _, _) _
  try dsimp only
  obtain ⟨rs5, q5, ou, q6, q7⟩ := hB _ hB1
  refine l_ist (p' := 736) (ls' := [_, _, _, _, _, _, _, _, _, _]) rfl rfl rfl rfl rfl ?_
  refine l_aldn (p' := 737) rfl rfl rfl rfl ?_
  refine l_call (p' := 740) (kc := 99) (ls0 := [_]) rfl rfl rfl rfl rfl rfl (mj_rcv_is q5) rfl rfl rfl ?_
  refine s_aldn (p' := 1) rfl rfl rfl ?_
  refine s_gf (p' := 4) rfl q5 rfl rfl ?_
  refine k_iret rfl rfl ?_
  refine l_ild (p' := 742) rfl rfl rfl rfl ?_
  refine l_icmp (p' := 747) true rfl rfl (ci_sf _) rfl ?_
  refine l_ild (p' := 749) rfl rfl rfl rfl ?_
  refine l_if (p' := 752) false rfl rfl (by decide +kernel) rfl ?_
  refine l_aldn (p' := 753) rfl rfl rfl rfl ?_
  refine l_con (p' := 754) rfl rfl rfl ?_
  refine l_lalz (p' := 755) (m := 0) (v := Int32.toInt64 b) rfl rfl q6 (by decide) rfl q7 rfl ?_
  refine l_ild (p' := 757) rfl rfl rfl rfl ?_
  refine l_bzL (p' := 758) (z := Int32.toInt64 b) rfl rfl rfl rfl rfl rfl ?_
  refine l_bz (p' := 759) (z := nI 0) rfl rfl rfl rfl rfl (lcmp_self _) ?_
  refine l_if (p' := 764) true rfl rfl (by decide +kernel) rfl ?_
  refine l_goto (p' := 2541) rfl rfl rfl ?_
  refine l_incz (p' := 2544) (w := (nI (i + 4))) (ls' := [_, _, _, _, _, _, _, _, _, _]) rfl rfl rfl rfl (mI_add _ _) rfl rfl ?_
  refine l_goto (p' := 28) rfl rfl rfl ?_
  exact hn _ _ _ _ _ hB1
theorem lr_9_1 {L i : Nat} {xs : Nat → Int32} {h : mj_H} {l6 l7 l8 l9 : Option Value} {P A B : mj_H → Prop} {b : Int32} (hL : L ≤ 2048) (hi : i + 4 ≤ L) (hk : xs i &&& nI 63 = nI 9) (hw : mj_Wp 250 143 (0, [some (.ref 0), some (.int (xs (i + 1))), some (.int (xs (i + 2))), some (.ref 412), none], [], h) (mz_V fun r g => r = .int (nI 1) ∧ A g)) (hA : ∀ g, A g → ∃ fs : List Value, mj_rd g 400 = some (.inr (17, fs))) (hm : ∀ g, A g → mj_Wp 250 371 (0, [some (.ref 400), some (.int (xs (i + 1))), some (.int (xs (i + 2)))], [], g) (mz_V fun r g2 => r = .int b ∧ B g2)) (hB : ∀ g, B g → ∃ rs : List Value, mj_rd g 400 = some (.inr (17, .int (nI 1) :: rs))) (hn : ∀ (l6 l7 l8 l9 : Option Value) (g : mj_H), B g → mj_lrun L xs (28, [some (.retAddr 1), some (.ref 0), some (.ref 400), some (.ref 412), some (.ref 413), some (.int (nI (i + 4))), l6, l7, l8, l9], [], g) P) : mj_lrun L xs (28, [some (.retAddr 1), some (.ref 0), some (.ref 400), some (.ref 412), some (.ref 413), some (.int (nI i)), l6, l7, l8, l9], [], h) P := by
  refine l_ild (p' := 30) rfl rfl rfl rfl ?_
  refine l_alds (p' := 31) rfl rfl rfl rfl ?_
  refine l_lens (p' := 32) rfl rfl rfl ?_
  refine l_con (p' := 33) rfl rfl rfl ?_
  refine l_bz (p' := 34) (z := (nI (L - 4))) rfl rfl rfl rfl rfl (mI_sub (by omega)) ?_
  refine l_icmp (p' := 37) false rfl rfl ((ci_gt (by omega) (by omega)).trans (decide_eq_false (by omega))) rfl ?_
  refine l_alds (p' := 38) rfl rfl rfl rfl ?_
  refine l_ild (p' := 40) rfl rfl rfl rfl ?_
  refine l_ialz (p' := 41) (m := i) (z := (xs i)) rfl rfl (inb_nI (by omega) (by omega)) (mI_cl (by omega)) rfl rfl ?_
  refine l_bip (p' := 43) rfl rfl rfl ?_
  refine l_bz (p' := 44) (z := (nI 9)) rfl rfl rfl rfl rfl hk ?_
  refine l_sp (p' := 699) (ls' := _) rfl rfl rfl rfl rfl ?_
  refine l_aldn (p' := 700) rfl rfl rfl rfl ?_
  refine l_alds (p' := 701) rfl rfl rfl rfl ?_
  refine l_ild (p' := 703) rfl rfl rfl rfl ?_
  refine l_con (p' := 704) rfl rfl rfl ?_
  refine l_bz (p' := 705) (z := (nI (i + 1))) rfl rfl rfl rfl rfl (mI_add _ _) ?_
  refine l_ialz (p' := 706) (m := i + 1) (z := (xs (i + 1))) rfl rfl (inb_nI (by omega) (by omega)) (mI_cl (by omega)) rfl rfl ?_
  refine l_alds (p' := 707) rfl rfl rfl rfl ?_
  refine l_ild (p' := 709) rfl rfl rfl rfl ?_
  refine l_con (p' := 710) rfl rfl rfl ?_
  refine l_bz (p' := 711) (z := (nI (i + 2))) rfl rfl rfl rfl rfl (mI_add _ _) ?_
  refine l_ialz (p' := 712) (m := i + 2) (z := (xs (i + 2))) rfl rfl (inb_nI (by omega) (by omega)) (mI_cl (by omega)) rfl rfl ?_
  refine l_aldn (p' := 713) rfl rfl rfl rfl ?_
  refine l_call (p' := 716) (kc := 250) (ls0 := [_, _, _, _, _]) rfl rfl rfl rfl rfl rfl rfl rfl rfl rfl ?_
  refine hw.imp ?_
  rintro _ ⟨_, h1, rfl, rfl, hA1⟩
  show mj_lrun _ _ (716, _, _, _) _
  try dsimp only
  refine l_ist (p' := 718) (ls' := [_, _, _, _, _, _, _, _, _, _]) rfl rfl rfl rfl rfl ?_
  refine l_aldn (p' := 719) rfl rfl rfl rfl ?_
  refine l_alds (p' := 720) rfl rfl rfl rfl ?_
  refine l_ild (p' := 722) rfl rfl rfl rfl ?_
  refine l_con (p' := 723) rfl rfl rfl ?_
  refine l_bz (p' := 724) (z := (nI (i + 1))) rfl rfl rfl rfl rfl (mI_add _ _) ?_
  refine l_ialz (p' := 725) (m := i + 1) (z := (xs (i + 1))) rfl rfl (inb_nI (by omega) (by omega)) (mI_cl (by omega)) rfl rfl ?_
  refine l_alds (p' := 726) rfl rfl rfl rfl ?_
  refine l_ild (p' := 728) rfl rfl rfl rfl ?_
  refine l_con (p' := 729) rfl rfl rfl ?_
  refine l_bz (p' := 730) (z := (nI (i + 2))) rfl rfl rfl rfl rfl (mI_add _ _) ?_
  refine l_ialz (p' := 731) (m := i + 2) (z := (xs (i + 2))) rfl rfl (inb_nI (by omega) (by omega)) (mI_cl (by omega)) rfl rfl ?_
  obtain ⟨fs4, q4⟩ := hA _ hA1
  refine l_call (p' := 734) (kc := 250) (ls0 := [_, _, _]) rfl rfl rfl rfl rfl rfl (mj_rcv_is q4) rfl rfl rfl ?_
  refine (hm h1 hA1).imp ?_
  rintro _ ⟨_, h2, rfl, rfl, hB1⟩
  show mj_lrun _ _ (734, _, _, _) _
  try dsimp only
  obtain ⟨rs5, q5⟩ := hB _ hB1
  refine l_ist (p' := 736) (ls' := [_, _, _, _, _, _, _, _, _, _]) rfl rfl rfl rfl rfl ?_
  refine l_aldn (p' := 737) rfl rfl rfl rfl ?_
  refine l_call (p' := 740) (kc := 99) (ls0 := [_]) rfl rfl rfl rfl rfl rfl (mj_rcv_is q5) rfl rfl rfl ?_
  refine s_aldn (p' := 1) rfl rfl rfl ?_
  refine s_gf (p' := 4) rfl q5 rfl rfl ?_
  refine k_iret rfl rfl ?_
  refine l_ild (p' := 742) rfl rfl rfl rfl ?_
  refine l_icmp (p' := 747) true rfl rfl (ci_sf _) rfl ?_
  refine l_ild (p' := 749) rfl rfl rfl rfl ?_
  refine l_if (p' := 764) true rfl rfl (by decide +kernel) rfl ?_
  refine l_goto (p' := 2541) rfl rfl rfl ?_
  refine l_incz (p' := 2544) (w := (nI (i + 4))) (ls' := [_, _, _, _, _, _, _, _, _, _]) rfl rfl rfl rfl (mI_add _ _) rfl rfl ?_
  refine l_goto (p' := 28) rfl rfl rfl ?_
  exact hn _ _ _ _ _ hB1
theorem lr_14_0 {L i : Nat} {xs : Nat → Int32} {h : mj_H} {l6 l7 l8 l9 : Option Value} {P A B : mj_H → Prop} {b : Int32} (hL : L ≤ 2048) (hi : i + 4 ≤ L) (hk : xs i &&& nI 63 = nI 14) {bb : Bool} (hbb : decide (xs (i + 2) = 0) = !bb) (hw : mj_Wp 250 153 (0, [some (.ref 0), some (.int (xs (i + 1))), some (.int (nI (bN bb))), some (.ref 412), none], [], h) (mz_V fun r g => r = .int (nI 0) ∧ A g)) (hA : ∀ g, A g → ∃ fs : List Value, mj_rd g 400 = some (.inr (17, fs))) (hm : ∀ g, A g → mj_Wp 250 377 (0, [some (.ref 400), some (.int (xs (i + 1))), some (.int (nI (bN bb)))], [], g) (mz_V fun r g2 => r = .int b ∧ B g2)) (hB : ∀ g, B g → ∃ rs : List Value, mj_rd g 400 = some (.inr (17, .int (nI 0) :: rs)) ∧ ∃ ou : Nat → Int64, mj_rd g 412 = some (.inl (4, (1, .inr (.inl ou)))) ∧ ou 0 = Int32.toInt64 b) (hn : ∀ (l6 l7 l8 l9 : Option Value) (g : mj_H), B g → mj_lrun L xs (28, [some (.retAddr 1), some (.ref 0), some (.ref 400), some (.ref 412), some (.ref 413), some (.int (nI (i + 4))), l6, l7, l8, l9], [], g) P) : mj_lrun L xs (28, [some (.retAddr 1), some (.ref 0), some (.ref 400), some (.ref 412), some (.ref 413), some (.int (nI i)), l6, l7, l8, l9], [], h) P := by
  cases bb with
  | true =>
    refine l_ild (p' := 30) rfl rfl rfl rfl ?_
    refine l_alds (p' := 31) rfl rfl rfl rfl ?_
    refine l_lens (p' := 32) rfl rfl rfl ?_
    refine l_con (p' := 33) rfl rfl rfl ?_
    refine l_bz (p' := 34) (z := (nI (L - 4))) rfl rfl rfl rfl rfl (mI_sub (by omega)) ?_
    refine l_icmp (p' := 37) false rfl rfl ((ci_gt (by omega) (by omega)).trans (decide_eq_false (by omega))) rfl ?_
    refine l_alds (p' := 38) rfl rfl rfl rfl ?_
    refine l_ild (p' := 40) rfl rfl rfl rfl ?_
    refine l_ialz (p' := 41) (m := i) (z := (xs i)) rfl rfl (inb_nI (by omega) (by omega)) (mI_cl (by omega)) rfl rfl ?_
    refine l_bip (p' := 43) rfl rfl rfl ?_
    refine l_bz (p' := 44) (z := (nI 14)) rfl rfl rfl rfl rfl hk ?_
    refine l_sp (p' := 964) (ls' := _) rfl rfl rfl rfl rfl ?_
    refine l_aldn (p' := 965) rfl rfl rfl rfl ?_
    refine l_alds (p' := 966) rfl rfl rfl rfl ?_
    refine l_ild (p' := 968) rfl rfl rfl rfl ?_
    refine l_con (p' := 969) rfl rfl rfl ?_
    refine l_bz (p' := 970) (z := (nI (i + 1))) rfl rfl rfl rfl rfl (mI_add _ _) ?_
    refine l_ialz (p' := 971) (m := i + 1) (z := (xs (i + 1))) rfl rfl (inb_nI (by omega) (by omega)) (mI_cl (by omega)) rfl rfl ?_
    refine l_alds (p' := 972) rfl rfl rfl rfl ?_
    refine l_ild (p' := 974) rfl rfl rfl rfl ?_
    refine l_con (p' := 975) rfl rfl rfl ?_
    refine l_bz (p' := 976) (z := (nI (i + 2))) rfl rfl rfl rfl rfl (mI_add _ _) ?_
    refine l_ialz (p' := 977) (m := i + 2) (z := (xs (i + 2))) rfl rfl (inb_nI (by omega) (by omega)) (mI_cl (by omega)) rfl rfl ?_
    refine l_if (p' := 980) false rfl rfl (bl_f hbb) rfl ?_
    refine l_con (p' := 981) rfl rfl rfl ?_
    refine l_goto (p' := 985) rfl rfl rfl ?_
    refine l_aldn (p' := 986) rfl rfl rfl rfl ?_
    refine l_call (p' := 989) (kc := 250) (ls0 := [_, _, _, _, _]) rfl rfl rfl rfl rfl rfl rfl rfl rfl rfl ?_
    refine hw.imp ?_
    rintro _ ⟨_, h1, rfl, rfl, hA1⟩
    show mj_lrun _ _ (989, _, _, _) _
    try dsimp only
    refine l_ist (p' := 991) (ls' := [_, _, _, _, _, _, _, _, _, _]) rfl rfl rfl rfl rfl ?_
    refine l_aldn (p' := 992) rfl rfl rfl rfl ?_
    refine l_alds (p' := 993) rfl rfl rfl rfl ?_
    refine l_ild (p' := 995) rfl rfl rfl rfl ?_
    refine l_con (p' := 996) rfl rfl rfl ?_
    refine l_bz (p' := 997) (z := (nI (i + 1))) rfl rfl rfl rfl rfl (mI_add _ _) ?_
    refine l_ialz (p' := 998) (m := i + 1) (z := (xs (i + 1))) rfl rfl (inb_nI (by omega) (by omega)) (mI_cl (by omega)) rfl rfl ?_
    refine l_alds (p' := 999) rfl rfl rfl rfl ?_
    refine l_ild (p' := 1001) rfl rfl rfl rfl ?_
    refine l_con (p' := 1002) rfl rfl rfl ?_
    refine l_bz (p' := 1003) (z := (nI (i + 2))) rfl rfl rfl rfl rfl (mI_add _ _) ?_
    refine l_ialz (p' := 1004) (m := i + 2) (z := (xs (i + 2))) rfl rfl (inb_nI (by omega) (by omega)) (mI_cl (by omega)) rfl rfl ?_
    refine l_if (p' := 1007) false rfl rfl (bl_f hbb) rfl ?_
    refine l_con (p' := 1008) rfl rfl rfl ?_
    refine l_goto (p' := 1012) rfl rfl rfl ?_
    obtain ⟨fs4, q4⟩ := hA _ hA1
    refine l_call (p' := 1015) (kc := 250) (ls0 := [_, _, _]) rfl rfl rfl rfl rfl rfl (mj_rcv_is q4) rfl rfl rfl ?_
    refine (hm h1 hA1).imp ?_
    rintro _ ⟨_, h2, rfl, rfl, hB1⟩
    show mj_lrun _ _ (1015, _, _, _) _
    try dsimp only
    obtain ⟨rs5, q5, ou, q6, q7⟩ := hB _ hB1
    refine l_ist (p' := 1017) (ls' := [_, _, _, _, _, _, _, _, _, _]) rfl rfl rfl rfl rfl ?_
    refine l_aldn (p' := 1018) rfl rfl rfl rfl ?_
    refine l_call (p' := 1021) (kc := 99) (ls0 := [_]) rfl rfl rfl rfl rfl rfl (mj_rcv_is q5) rfl rfl rfl ?_
    refine s_aldn (p' := 1) rfl rfl rfl ?_
    refine s_gf (p' := 4) rfl q5 rfl rfl ?_
    refine k_iret rfl rfl ?_
    refine l_ild (p' := 1023) rfl rfl rfl rfl ?_
    refine l_icmp (p' := 1028) true rfl rfl (ci_sf _) rfl ?_
    refine l_ild (p' := 1030) rfl rfl rfl rfl ?_
    refine l_if (p' := 1033) false rfl rfl (by decide +kernel) rfl ?_
    refine l_aldn (p' := 1034) rfl rfl rfl rfl ?_
    refine l_con (p' := 1035) rfl rfl rfl ?_
    refine l_lalz (p' := 1036) (m := 0) (v := Int32.toInt64 b) rfl rfl q6 (by decide) rfl q7 rfl ?_
    refine l_ild (p' := 1038) rfl rfl rfl rfl ?_
    refine l_bzL (p' := 1039) (z := Int32.toInt64 b) rfl rfl rfl rfl rfl rfl ?_
    refine l_bz (p' := 1040) (z := nI 0) rfl rfl rfl rfl rfl (lcmp_self _) ?_
    refine l_if (p' := 1045) true rfl rfl (by decide +kernel) rfl ?_
    refine l_goto (p' := 2541) rfl rfl rfl ?_
    refine l_incz (p' := 2544) (w := (nI (i + 4))) (ls' := [_, _, _, _, _, _, _, _, _, _]) rfl rfl rfl rfl (mI_add _ _) rfl rfl ?_
    refine l_goto (p' := 28) rfl rfl rfl ?_
    exact hn _ _ _ _ _ hB1
  | false =>
    refine l_ild (p' := 30) rfl rfl rfl rfl ?_
    refine l_alds (p' := 31) rfl rfl rfl rfl ?_
    refine l_lens (p' := 32) rfl rfl rfl ?_
    refine l_con (p' := 33) rfl rfl rfl ?_
    refine l_bz (p' := 34) (z := (nI (L - 4))) rfl rfl rfl rfl rfl (mI_sub (by omega)) ?_
    refine l_icmp (p' := 37) false rfl rfl ((ci_gt (by omega) (by omega)).trans (decide_eq_false (by omega))) rfl ?_
    refine l_alds (p' := 38) rfl rfl rfl rfl ?_
    refine l_ild (p' := 40) rfl rfl rfl rfl ?_
    refine l_ialz (p' := 41) (m := i) (z := (xs i)) rfl rfl (inb_nI (by omega) (by omega)) (mI_cl (by omega)) rfl rfl ?_
    refine l_bip (p' := 43) rfl rfl rfl ?_
    refine l_bz (p' := 44) (z := (nI 14)) rfl rfl rfl rfl rfl hk ?_
    refine l_sp (p' := 964) (ls' := _) rfl rfl rfl rfl rfl ?_
    refine l_aldn (p' := 965) rfl rfl rfl rfl ?_
    refine l_alds (p' := 966) rfl rfl rfl rfl ?_
    refine l_ild (p' := 968) rfl rfl rfl rfl ?_
    refine l_con (p' := 969) rfl rfl rfl ?_
    refine l_bz (p' := 970) (z := (nI (i + 1))) rfl rfl rfl rfl rfl (mI_add _ _) ?_
    refine l_ialz (p' := 971) (m := i + 1) (z := (xs (i + 1))) rfl rfl (inb_nI (by omega) (by omega)) (mI_cl (by omega)) rfl rfl ?_
    refine l_alds (p' := 972) rfl rfl rfl rfl ?_
    refine l_ild (p' := 974) rfl rfl rfl rfl ?_
    refine l_con (p' := 975) rfl rfl rfl ?_
    refine l_bz (p' := 976) (z := (nI (i + 2))) rfl rfl rfl rfl rfl (mI_add _ _) ?_
    refine l_ialz (p' := 977) (m := i + 2) (z := (xs (i + 2))) rfl rfl (inb_nI (by omega) (by omega)) (mI_cl (by omega)) rfl rfl ?_
    refine l_if (p' := 984) true rfl rfl (bl_t hbb) rfl ?_
    refine l_con (p' := 985) rfl rfl rfl ?_
    refine l_aldn (p' := 986) rfl rfl rfl rfl ?_
    refine l_call (p' := 989) (kc := 250) (ls0 := [_, _, _, _, _]) rfl rfl rfl rfl rfl rfl rfl rfl rfl rfl ?_
    refine hw.imp ?_
    rintro _ ⟨_, h1, rfl, rfl, hA1⟩
    show mj_lrun _ _ (989, _, _, _) _
    try dsimp only
    refine l_ist (p' := 991) (ls' := [_, _, _, _, _, _, _, _, _, _]) rfl rfl rfl rfl rfl ?_
    refine l_aldn (p' := 992) rfl rfl rfl rfl ?_
    refine l_alds (p' := 993) rfl rfl rfl rfl ?_
    refine l_ild (p' := 995) rfl rfl rfl rfl ?_
    refine l_con (p' := 996) rfl rfl rfl ?_
    refine l_bz (p' := 997) (z := (nI (i + 1))) rfl rfl rfl rfl rfl (mI_add _ _) ?_
    refine l_ialz (p' := 998) (m := i + 1) (z := (xs (i + 1))) rfl rfl (inb_nI (by omega) (by omega)) (mI_cl (by omega)) rfl rfl ?_
    refine l_alds (p' := 999) rfl rfl rfl rfl ?_
    refine l_ild (p' := 1001) rfl rfl rfl rfl ?_
    refine l_con (p' := 1002) rfl rfl rfl ?_
    refine l_bz (p' := 1003) (z := (nI (i + 2))) rfl rfl rfl rfl rfl (mI_add _ _) ?_
    refine l_ialz (p' := 1004) (m := i + 2) (z := (xs (i + 2))) rfl rfl (inb_nI (by omega) (by omega)) (mI_cl (by omega)) rfl rfl ?_
    refine l_if (p' := 1011) true rfl rfl (bl_t hbb) rfl ?_
    refine l_con (p' := 1012) rfl rfl rfl ?_
    obtain ⟨fs4, q4⟩ := hA _ hA1
    refine l_call (p' := 1015) (kc := 250) (ls0 := [_, _, _]) rfl rfl rfl rfl rfl rfl (mj_rcv_is q4) rfl rfl rfl ?_
    refine (hm h1 hA1).imp ?_
    rintro _ ⟨_, h2, rfl, rfl, hB1⟩
    show mj_lrun _ _ (1015, _, _, _) _
    try dsimp only
    obtain ⟨rs5, q5, ou, q6, q7⟩ := hB _ hB1
    refine l_ist (p' := 1017) (ls' := [_, _, _, _, _, _, _, _, _, _]) rfl rfl rfl rfl rfl ?_
    refine l_aldn (p' := 1018) rfl rfl rfl rfl ?_
    refine l_call (p' := 1021) (kc := 99) (ls0 := [_]) rfl rfl rfl rfl rfl rfl (mj_rcv_is q5) rfl rfl rfl ?_
    refine s_aldn (p' := 1) rfl rfl rfl ?_
    refine s_gf (p' := 4) rfl q5 rfl rfl ?_
    refine k_iret rfl rfl ?_
    refine l_ild (p' := 1023) rfl rfl rfl rfl ?_
    refine l_icmp (p' := 1028) true rfl rfl (ci_sf _) rfl ?_
    refine l_ild (p' := 1030) rfl rfl rfl rfl ?_
    refine l_if (p' := 1033) false rfl rfl (by decide +kernel) rfl ?_
    refine l_aldn (p' := 1034) rfl rfl rfl rfl ?_
    refine l_con (p' := 1035) rfl rfl rfl ?_
    refine l_lalz (p' := 1036) (m := 0) (v := Int32.toInt64 b) rfl rfl q6 (by decide) rfl q7 rfl ?_
    refine l_ild (p' := 1038) rfl rfl rfl rfl ?_
    refine l_bzL (p' := 1039) (z := Int32.toInt64 b) rfl rfl rfl rfl rfl rfl ?_
    refine l_bz (p' := 1040) (z := nI 0) rfl rfl rfl rfl rfl (lcmp_self _) ?_
    refine l_if (p' := 1045) true rfl rfl (by decide +kernel) rfl ?_
    refine l_goto (p' := 2541) rfl rfl rfl ?_
    refine l_incz (p' := 2544) (w := (nI (i + 4))) (ls' := [_, _, _, _, _, _, _, _, _, _]) rfl rfl rfl rfl (mI_add _ _) rfl rfl ?_
    refine l_goto (p' := 28) rfl rfl rfl ?_
    exact hn _ _ _ _ _ hB1
theorem lr_14_1 {L i : Nat} {xs : Nat → Int32} {h : mj_H} {l6 l7 l8 l9 : Option Value} {P A B : mj_H → Prop} {b : Int32} (hL : L ≤ 2048) (hi : i + 4 ≤ L) (hk : xs i &&& nI 63 = nI 14) {bb : Bool} (hbb : decide (xs (i + 2) = 0) = !bb) (hw : mj_Wp 250 153 (0, [some (.ref 0), some (.int (xs (i + 1))), some (.int (nI (bN bb))), some (.ref 412), none], [], h) (mz_V fun r g => r = .int (nI 1) ∧ A g)) (hA : ∀ g, A g → ∃ fs : List Value, mj_rd g 400 = some (.inr (17, fs))) (hm : ∀ g, A g → mj_Wp 250 377 (0, [some (.ref 400), some (.int (xs (i + 1))), some (.int (nI (bN bb)))], [], g) (mz_V fun r g2 => r = .int b ∧ B g2)) (hB : ∀ g, B g → ∃ rs : List Value, mj_rd g 400 = some (.inr (17, .int (nI 1) :: rs))) (hn : ∀ (l6 l7 l8 l9 : Option Value) (g : mj_H), B g → mj_lrun L xs (28, [some (.retAddr 1), some (.ref 0), some (.ref 400), some (.ref 412), some (.ref 413), some (.int (nI (i + 4))), l6, l7, l8, l9], [], g) P) : mj_lrun L xs (28, [some (.retAddr 1), some (.ref 0), some (.ref 400), some (.ref 412), some (.ref 413), some (.int (nI i)), l6, l7, l8, l9], [], h) P := by
  cases bb with
  | true =>
    refine l_ild (p' := 30) rfl rfl rfl rfl ?_
    refine l_alds (p' := 31) rfl rfl rfl rfl ?_
    refine l_lens (p' := 32) rfl rfl rfl ?_
    refine l_con (p' := 33) rfl rfl rfl ?_
    refine l_bz (p' := 34) (z := (nI (L - 4))) rfl rfl rfl rfl rfl (mI_sub (by omega)) ?_
    refine l_icmp (p' := 37) false rfl rfl ((ci_gt (by omega) (by omega)).trans (decide_eq_false (by omega))) rfl ?_
    refine l_alds (p' := 38) rfl rfl rfl rfl ?_
    refine l_ild (p' := 40) rfl rfl rfl rfl ?_
    refine l_ialz (p' := 41) (m := i) (z := (xs i)) rfl rfl (inb_nI (by omega) (by omega)) (mI_cl (by omega)) rfl rfl ?_
    refine l_bip (p' := 43) rfl rfl rfl ?_
    refine l_bz (p' := 44) (z := (nI 14)) rfl rfl rfl rfl rfl hk ?_
    refine l_sp (p' := 964) (ls' := _) rfl rfl rfl rfl rfl ?_
    refine l_aldn (p' := 965) rfl rfl rfl rfl ?_
    refine l_alds (p' := 966) rfl rfl rfl rfl ?_
    refine l_ild (p' := 968) rfl rfl rfl rfl ?_
    refine l_con (p' := 969) rfl rfl rfl ?_
    refine l_bz (p' := 970) (z := (nI (i + 1))) rfl rfl rfl rfl rfl (mI_add _ _) ?_
    refine l_ialz (p' := 971) (m := i + 1) (z := (xs (i + 1))) rfl rfl (inb_nI (by omega) (by omega)) (mI_cl (by omega)) rfl rfl ?_
    refine l_alds (p' := 972) rfl rfl rfl rfl ?_
    refine l_ild (p' := 974) rfl rfl rfl rfl ?_
    refine l_con (p' := 975) rfl rfl rfl ?_
    refine l_bz (p' := 976) (z := (nI (i + 2))) rfl rfl rfl rfl rfl (mI_add _ _) ?_
    refine l_ialz (p' := 977) (m := i + 2) (z := (xs (i + 2))) rfl rfl (inb_nI (by omega) (by omega)) (mI_cl (by omega)) rfl rfl ?_
    refine l_if (p' := 980) false rfl rfl (bl_f hbb) rfl ?_
    refine l_con (p' := 981) rfl rfl rfl ?_
    refine l_goto (p' := 985) rfl rfl rfl ?_
    refine l_aldn (p' := 986) rfl rfl rfl rfl ?_
    refine l_call (p' := 989) (kc := 250) (ls0 := [_, _, _, _, _]) rfl rfl rfl rfl rfl rfl rfl rfl rfl rfl ?_
    refine hw.imp ?_
    rintro _ ⟨_, h1, rfl, rfl, hA1⟩
    show mj_lrun _ _ (989, _, _, _) _
    try dsimp only
    refine l_ist (p' := 991) (ls' := [_, _, _, _, _, _, _, _, _, _]) rfl rfl rfl rfl rfl ?_
    refine l_aldn (p' := 992) rfl rfl rfl rfl ?_
    refine l_alds (p' := 993) rfl rfl rfl rfl ?_
    refine l_ild (p' := 995) rfl rfl rfl rfl ?_
    refine l_con (p' := 996) rfl rfl rfl ?_
    refine l_bz (p' := 997) (z := (nI (i + 1))) rfl rfl rfl rfl rfl (mI_add _ _) ?_
    refine l_ialz (p' := 998) (m := i + 1) (z := (xs (i + 1))) rfl rfl (inb_nI (by omega) (by omega)) (mI_cl (by omega)) rfl rfl ?_
    refine l_alds (p' := 999) rfl rfl rfl rfl ?_
    refine l_ild (p' := 1001) rfl rfl rfl rfl ?_
    refine l_con (p' := 1002) rfl rfl rfl ?_
    refine l_bz (p' := 1003) (z := (nI (i + 2))) rfl rfl rfl rfl rfl (mI_add _ _) ?_
    refine l_ialz (p' := 1004) (m := i + 2) (z := (xs (i + 2))) rfl rfl (inb_nI (by omega) (by omega)) (mI_cl (by omega)) rfl rfl ?_
    refine l_if (p' := 1007) false rfl rfl (bl_f hbb) rfl ?_
    refine l_con (p' := 1008) rfl rfl rfl ?_
    refine l_goto (p' := 1012) rfl rfl rfl ?_
    obtain ⟨fs4, q4⟩ := hA _ hA1
    refine l_call (p' := 1015) (kc := 250) (ls0 := [_, _, _]) rfl rfl rfl rfl rfl rfl (mj_rcv_is q4) rfl rfl rfl ?_
    refine (hm h1 hA1).imp ?_
    rintro _ ⟨_, h2, rfl, rfl, hB1⟩
    show mj_lrun _ _ (1015, _, _, _) _
    try dsimp only
    obtain ⟨rs5, q5⟩ := hB _ hB1
    refine l_ist (p' := 1017) (ls' := [_, _, _, _, _, _, _, _, _, _]) rfl rfl rfl rfl rfl ?_
    refine l_aldn (p' := 1018) rfl rfl rfl rfl ?_
    refine l_call (p' := 1021) (kc := 99) (ls0 := [_]) rfl rfl rfl rfl rfl rfl (mj_rcv_is q5) rfl rfl rfl ?_
    refine s_aldn (p' := 1) rfl rfl rfl ?_
    refine s_gf (p' := 4) rfl q5 rfl rfl ?_
    refine k_iret rfl rfl ?_
    refine l_ild (p' := 1023) rfl rfl rfl rfl ?_
    refine l_icmp (p' := 1028) true rfl rfl (ci_sf _) rfl ?_
    refine l_ild (p' := 1030) rfl rfl rfl rfl ?_
    refine l_if (p' := 1045) true rfl rfl (by decide +kernel) rfl ?_
    refine l_goto (p' := 2541) rfl rfl rfl ?_
    refine l_incz (p' := 2544) (w := (nI (i + 4))) (ls' := [_, _, _, _, _, _, _, _, _, _]) rfl rfl rfl rfl (mI_add _ _) rfl rfl ?_
    refine l_goto (p' := 28) rfl rfl rfl ?_
    exact hn _ _ _ _ _ hB1
  | false =>
    refine l_ild (p' := 30) rfl rfl rfl rfl ?_
    refine l_alds (p' := 31) rfl rfl rfl rfl ?_
    refine l_lens (p' := 32) rfl rfl rfl ?_
    refine l_con (p' := 33) rfl rfl rfl ?_
    refine l_bz (p' := 34) (z := (nI (L - 4))) rfl rfl rfl rfl rfl (mI_sub (by omega)) ?_
    refine l_icmp (p' := 37) false rfl rfl ((ci_gt (by omega) (by omega)).trans (decide_eq_false (by omega))) rfl ?_
    refine l_alds (p' := 38) rfl rfl rfl rfl ?_
    refine l_ild (p' := 40) rfl rfl rfl rfl ?_
    refine l_ialz (p' := 41) (m := i) (z := (xs i)) rfl rfl (inb_nI (by omega) (by omega)) (mI_cl (by omega)) rfl rfl ?_
    refine l_bip (p' := 43) rfl rfl rfl ?_
    refine l_bz (p' := 44) (z := (nI 14)) rfl rfl rfl rfl rfl hk ?_
    refine l_sp (p' := 964) (ls' := _) rfl rfl rfl rfl rfl ?_
    refine l_aldn (p' := 965) rfl rfl rfl rfl ?_
    refine l_alds (p' := 966) rfl rfl rfl rfl ?_
    refine l_ild (p' := 968) rfl rfl rfl rfl ?_
    refine l_con (p' := 969) rfl rfl rfl ?_
    refine l_bz (p' := 970) (z := (nI (i + 1))) rfl rfl rfl rfl rfl (mI_add _ _) ?_
    refine l_ialz (p' := 971) (m := i + 1) (z := (xs (i + 1))) rfl rfl (inb_nI (by omega) (by omega)) (mI_cl (by omega)) rfl rfl ?_
    refine l_alds (p' := 972) rfl rfl rfl rfl ?_
    refine l_ild (p' := 974) rfl rfl rfl rfl ?_
    refine l_con (p' := 975) rfl rfl rfl ?_
    refine l_bz (p' := 976) (z := (nI (i + 2))) rfl rfl rfl rfl rfl (mI_add _ _) ?_
    refine l_ialz (p' := 977) (m := i + 2) (z := (xs (i + 2))) rfl rfl (inb_nI (by omega) (by omega)) (mI_cl (by omega)) rfl rfl ?_
    refine l_if (p' := 984) true rfl rfl (bl_t hbb) rfl ?_
    refine l_con (p' := 985) rfl rfl rfl ?_
    refine l_aldn (p' := 986) rfl rfl rfl rfl ?_
    refine l_call (p' := 989) (kc := 250) (ls0 := [_, _, _, _, _]) rfl rfl rfl rfl rfl rfl rfl rfl rfl rfl ?_
    refine hw.imp ?_
    rintro _ ⟨_, h1, rfl, rfl, hA1⟩
    show mj_lrun _ _ (989, _, _, _) _
    try dsimp only
    refine l_ist (p' := 991) (ls' := [_, _, _, _, _, _, _, _, _, _]) rfl rfl rfl rfl rfl ?_
    refine l_aldn (p' := 992) rfl rfl rfl rfl ?_
    refine l_alds (p' := 993) rfl rfl rfl rfl ?_
    refine l_ild (p' := 995) rfl rfl rfl rfl ?_
    refine l_con (p' := 996) rfl rfl rfl ?_
    refine l_bz (p' := 997) (z := (nI (i + 1))) rfl rfl rfl rfl rfl (mI_add _ _) ?_
    refine l_ialz (p' := 998) (m := i + 1) (z := (xs (i + 1))) rfl rfl (inb_nI (by omega) (by omega)) (mI_cl (by omega)) rfl rfl ?_
    refine l_alds (p' := 999) rfl rfl rfl rfl ?_
    refine l_ild (p' := 1001) rfl rfl rfl rfl ?_
    refine l_con (p' := 1002) rfl rfl rfl ?_
    refine l_bz (p' := 1003) (z := (nI (i + 2))) rfl rfl rfl rfl rfl (mI_add _ _) ?_
    refine l_ialz (p' := 1004) (m := i + 2) (z := (xs (i + 2))) rfl rfl (inb_nI (by omega) (by omega)) (mI_cl (by omega)) rfl rfl ?_
    refine l_if (p' := 1011) true rfl rfl (bl_t hbb) rfl ?_
    refine l_con (p' := 1012) rfl rfl rfl ?_
    obtain ⟨fs4, q4⟩ := hA _ hA1
    refine l_call (p' := 1015) (kc := 250) (ls0 := [_, _, _]) rfl rfl rfl rfl rfl rfl (mj_rcv_is q4) rfl rfl rfl ?_
    refine (hm h1 hA1).imp ?_
    rintro _ ⟨_, h2, rfl, rfl, hB1⟩
    show mj_lrun _ _ (1015, _, _, _) _
    try dsimp only
    obtain ⟨rs5, q5⟩ := hB _ hB1
    refine l_ist (p' := 1017) (ls' := [_, _, _, _, _, _, _, _, _, _]) rfl rfl rfl rfl rfl ?_
    refine l_aldn (p' := 1018) rfl rfl rfl rfl ?_
    refine l_call (p' := 1021) (kc := 99) (ls0 := [_]) rfl rfl rfl rfl rfl rfl (mj_rcv_is q5) rfl rfl rfl ?_
    refine s_aldn (p' := 1) rfl rfl rfl ?_
    refine s_gf (p' := 4) rfl q5 rfl rfl ?_
    refine k_iret rfl rfl ?_
    refine l_ild (p' := 1023) rfl rfl rfl rfl ?_
    refine l_icmp (p' := 1028) true rfl rfl (ci_sf _) rfl ?_
    refine l_ild (p' := 1030) rfl rfl rfl rfl ?_
    refine l_if (p' := 1045) true rfl rfl (by decide +kernel) rfl ?_
    refine l_goto (p' := 2541) rfl rfl rfl ?_
    refine l_incz (p' := 2544) (w := (nI (i + 4))) (ls' := [_, _, _, _, _, _, _, _, _, _]) rfl rfl rfl rfl (mI_add _ _) rfl rfl ?_
    refine l_goto (p' := 28) rfl rfl rfl ?_
    exact hn _ _ _ _ _ hB1
theorem lr_15_0 {L i : Nat} {xs : Nat → Int32} {h : mj_H} {l6 l7 l8 l9 : Option Value} {P A B : mj_H → Prop} {b : Int32} (hL : L ≤ 2048) (hi : i + 4 ≤ L) (hk : xs i &&& nI 63 = nI 15) {bb : Bool} (hbb : decide (xs (i + 2) = 0) = !bb) (hw : mj_Wp 250 157 (0, [some (.ref 0), some (.int (xs (i + 1))), some (.int (nI (bN bb))), some (.ref 412), none], [], h) (mz_V fun r g => r = .int (nI 0) ∧ A g)) (hA : ∀ g, A g → ∃ fs : List Value, mj_rd g 400 = some (.inr (17, fs))) (hm : ∀ g, A g → mj_Wp 250 379 (0, [some (.ref 400), some (.int (xs (i + 1))), some (.int (nI (bN bb))), none], [], g) (mz_V fun r g2 => r = .int b ∧ B g2)) (hB : ∀ g, B g → ∃ rs : List Value, mj_rd g 400 = some (.inr (17, .int (nI 0) :: rs)) ∧ ∃ ou : Nat → Int64, mj_rd g 412 = some (.inl (4, (1, .inr (.inl ou)))) ∧ ou 0 = Int32.toInt64 b) (hn : ∀ (l6 l7 l8 l9 : Option Value) (g : mj_H), B g → mj_lrun L xs (28, [some (.retAddr 1), some (.ref 0), some (.ref 400), some (.ref 412), some (.ref 413), some (.int (nI (i + 4))), l6, l7, l8, l9], [], g) P) : mj_lrun L xs (28, [some (.retAddr 1), some (.ref 0), some (.ref 400), some (.ref 412), some (.ref 413), some (.int (nI i)), l6, l7, l8, l9], [], h) P := by
  cases bb with
  | true =>
    refine l_ild (p' := 30) rfl rfl rfl rfl ?_
    refine l_alds (p' := 31) rfl rfl rfl rfl ?_
    refine l_lens (p' := 32) rfl rfl rfl ?_
    refine l_con (p' := 33) rfl rfl rfl ?_
    refine l_bz (p' := 34) (z := (nI (L - 4))) rfl rfl rfl rfl rfl (mI_sub (by omega)) ?_
    refine l_icmp (p' := 37) false rfl rfl ((ci_gt (by omega) (by omega)).trans (decide_eq_false (by omega))) rfl ?_
    refine l_alds (p' := 38) rfl rfl rfl rfl ?_
    refine l_ild (p' := 40) rfl rfl rfl rfl ?_
    refine l_ialz (p' := 41) (m := i) (z := (xs i)) rfl rfl (inb_nI (by omega) (by omega)) (mI_cl (by omega)) rfl rfl ?_
    refine l_bip (p' := 43) rfl rfl rfl ?_
    refine l_bz (p' := 44) (z := (nI 15)) rfl rfl rfl rfl rfl hk ?_
    refine l_sp (p' := 1048) (ls' := _) rfl rfl rfl rfl rfl ?_
    refine l_aldn (p' := 1049) rfl rfl rfl rfl ?_
    refine l_alds (p' := 1050) rfl rfl rfl rfl ?_
    refine l_ild (p' := 1052) rfl rfl rfl rfl ?_
    refine l_con (p' := 1053) rfl rfl rfl ?_
    refine l_bz (p' := 1054) (z := (nI (i + 1))) rfl rfl rfl rfl rfl (mI_add _ _) ?_
    refine l_ialz (p' := 1055) (m := i + 1) (z := (xs (i + 1))) rfl rfl (inb_nI (by omega) (by omega)) (mI_cl (by omega)) rfl rfl ?_
    refine l_alds (p' := 1056) rfl rfl rfl rfl ?_
    refine l_ild (p' := 1058) rfl rfl rfl rfl ?_
    refine l_con (p' := 1059) rfl rfl rfl ?_
    refine l_bz (p' := 1060) (z := (nI (i + 2))) rfl rfl rfl rfl rfl (mI_add _ _) ?_
    refine l_ialz (p' := 1061) (m := i + 2) (z := (xs (i + 2))) rfl rfl (inb_nI (by omega) (by omega)) (mI_cl (by omega)) rfl rfl ?_
    refine l_if (p' := 1064) false rfl rfl (bl_f hbb) rfl ?_
    refine l_con (p' := 1065) rfl rfl rfl ?_
    refine l_goto (p' := 1069) rfl rfl rfl ?_
    refine l_aldn (p' := 1070) rfl rfl rfl rfl ?_
    refine l_call (p' := 1073) (kc := 250) (ls0 := [_, _, _, _, _]) rfl rfl rfl rfl rfl rfl rfl rfl rfl rfl ?_
    refine hw.imp ?_
    rintro _ ⟨_, h1, rfl, rfl, hA1⟩
    show mj_lrun _ _ (1073, _, _, _) _
    try dsimp only
    refine l_ist (p' := 1075) (ls' := [_, _, _, _, _, _, _, _, _, _]) rfl rfl rfl rfl rfl ?_
    refine l_aldn (p' := 1076) rfl rfl rfl rfl ?_
    refine l_alds (p' := 1077) rfl rfl rfl rfl ?_
    refine l_ild (p' := 1079) rfl rfl rfl rfl ?_
    refine l_con (p' := 1080) rfl rfl rfl ?_
    refine l_bz (p' := 1081) (z := (nI (i + 1))) rfl rfl rfl rfl rfl (mI_add _ _) ?_
    refine l_ialz (p' := 1082) (m := i + 1) (z := (xs (i + 1))) rfl rfl (inb_nI (by omega) (by omega)) (mI_cl (by omega)) rfl rfl ?_
    refine l_alds (p' := 1083) rfl rfl rfl rfl ?_
    refine l_ild (p' := 1085) rfl rfl rfl rfl ?_
    refine l_con (p' := 1086) rfl rfl rfl ?_
    refine l_bz (p' := 1087) (z := (nI (i + 2))) rfl rfl rfl rfl rfl (mI_add _ _) ?_
    refine l_ialz (p' := 1088) (m := i + 2) (z := (xs (i + 2))) rfl rfl (inb_nI (by omega) (by omega)) (mI_cl (by omega)) rfl rfl ?_
    refine l_if (p' := 1091) false rfl rfl (bl_f hbb) rfl ?_
    refine l_con (p' := 1092) rfl rfl rfl ?_
    refine l_goto (p' := 1096) rfl rfl rfl ?_
    obtain ⟨fs4, q4⟩ := hA _ hA1
    refine l_call (p' := 1099) (kc := 250) (ls0 := [_, _, _, _]) rfl rfl rfl rfl rfl rfl (mj_rcv_is q4) rfl rfl rfl ?_
    refine (hm h1 hA1).imp ?_
    rintro _ ⟨_, h2, rfl, rfl, hB1⟩
    show mj_lrun _ _ (1099, _, _, _) _
    try dsimp only
    obtain ⟨rs5, q5, ou, q6, q7⟩ := hB _ hB1
    refine l_ist (p' := 1101) (ls' := [_, _, _, _, _, _, _, _, _, _]) rfl rfl rfl rfl rfl ?_
    refine l_aldn (p' := 1102) rfl rfl rfl rfl ?_
    refine l_call (p' := 1105) (kc := 99) (ls0 := [_]) rfl rfl rfl rfl rfl rfl (mj_rcv_is q5) rfl rfl rfl ?_
    refine s_aldn (p' := 1) rfl rfl rfl ?_
    refine s_gf (p' := 4) rfl q5 rfl rfl ?_
    refine k_iret rfl rfl ?_
    refine l_ild (p' := 1107) rfl rfl rfl rfl ?_
    refine l_icmp (p' := 1112) true rfl rfl (ci_sf _) rfl ?_
    refine l_ild (p' := 1114) rfl rfl rfl rfl ?_
    refine l_if (p' := 1117) false rfl rfl (by decide +kernel) rfl ?_
    refine l_aldn (p' := 1118) rfl rfl rfl rfl ?_
    refine l_con (p' := 1119) rfl rfl rfl ?_
    refine l_lalz (p' := 1120) (m := 0) (v := Int32.toInt64 b) rfl rfl q6 (by decide) rfl q7 rfl ?_
    refine l_ild (p' := 1122) rfl rfl rfl rfl ?_
    refine l_bzL (p' := 1123) (z := Int32.toInt64 b) rfl rfl rfl rfl rfl rfl ?_
    refine l_bz (p' := 1124) (z := nI 0) rfl rfl rfl rfl rfl (lcmp_self _) ?_
    refine l_if (p' := 1129) true rfl rfl (by decide +kernel) rfl ?_
    refine l_goto (p' := 2541) rfl rfl rfl ?_
    refine l_incz (p' := 2544) (w := (nI (i + 4))) (ls' := [_, _, _, _, _, _, _, _, _, _]) rfl rfl rfl rfl (mI_add _ _) rfl rfl ?_
    refine l_goto (p' := 28) rfl rfl rfl ?_
    exact hn _ _ _ _ _ hB1
  | false =>
    refine l_ild (p' := 30) rfl rfl rfl rfl ?_
    refine l_alds (p' := 31) rfl rfl rfl rfl ?_
    refine l_lens (p' := 32) rfl rfl rfl ?_
    refine l_con (p' := 33) rfl rfl rfl ?_
    refine l_bz (p' := 34) (z := (nI (L - 4))) rfl rfl rfl rfl rfl (mI_sub (by omega)) ?_
    refine l_icmp (p' := 37) false rfl rfl ((ci_gt (by omega) (by omega)).trans (decide_eq_false (by omega))) rfl ?_
    refine l_alds (p' := 38) rfl rfl rfl rfl ?_
    refine l_ild (p' := 40) rfl rfl rfl rfl ?_
    refine l_ialz (p' := 41) (m := i) (z := (xs i)) rfl rfl (inb_nI (by omega) (by omega)) (mI_cl (by omega)) rfl rfl ?_
    refine l_bip (p' := 43) rfl rfl rfl ?_
    refine l_bz (p' := 44) (z := (nI 15)) rfl rfl rfl rfl rfl hk ?_
    refine l_sp (p' := 1048) (ls' := _) rfl rfl rfl rfl rfl ?_
    refine l_aldn (p' := 1049) rfl rfl rfl rfl ?_
    refine l_alds (p' := 1050) rfl rfl rfl rfl ?_
    refine l_ild (p' := 1052) rfl rfl rfl rfl ?_
    refine l_con (p' := 1053) rfl rfl rfl ?_
    refine l_bz (p' := 1054) (z := (nI (i + 1))) rfl rfl rfl rfl rfl (mI_add _ _) ?_
    refine l_ialz (p' := 1055) (m := i + 1) (z := (xs (i + 1))) rfl rfl (inb_nI (by omega) (by omega)) (mI_cl (by omega)) rfl rfl ?_
    refine l_alds (p' := 1056) rfl rfl rfl rfl ?_
    refine l_ild (p' := 1058) rfl rfl rfl rfl ?_
    refine l_con (p' := 1059) rfl rfl rfl ?_
    refine l_bz (p' := 1060) (z := (nI (i + 2))) rfl rfl rfl rfl rfl (mI_add _ _) ?_
    refine l_ialz (p' := 1061) (m := i + 2) (z := (xs (i + 2))) rfl rfl (inb_nI (by omega) (by omega)) (mI_cl (by omega)) rfl rfl ?_
    refine l_if (p' := 1068) true rfl rfl (bl_t hbb) rfl ?_
    refine l_con (p' := 1069) rfl rfl rfl ?_
    refine l_aldn (p' := 1070) rfl rfl rfl rfl ?_
    refine l_call (p' := 1073) (kc := 250) (ls0 := [_, _, _, _, _]) rfl rfl rfl rfl rfl rfl rfl rfl rfl rfl ?_
    refine hw.imp ?_
    rintro _ ⟨_, h1, rfl, rfl, hA1⟩
    show mj_lrun _ _ (1073, _, _, _) _
    try dsimp only
    refine l_ist (p' := 1075) (ls' := [_, _, _, _, _, _, _, _, _, _]) rfl rfl rfl rfl rfl ?_
    refine l_aldn (p' := 1076) rfl rfl rfl rfl ?_
    refine l_alds (p' := 1077) rfl rfl rfl rfl ?_
    refine l_ild (p' := 1079) rfl rfl rfl rfl ?_
    refine l_con (p' := 1080) rfl rfl rfl ?_
    refine l_bz (p' := 1081) (z := (nI (i + 1))) rfl rfl rfl rfl rfl (mI_add _ _) ?_
    refine l_ialz (p' := 1082) (m := i + 1) (z := (xs (i + 1))) rfl rfl (inb_nI (by omega) (by omega)) (mI_cl (by omega)) rfl rfl ?_
    refine l_alds (p' := 1083) rfl rfl rfl rfl ?_
    refine l_ild (p' := 1085) rfl rfl rfl rfl ?_
    refine l_con (p' := 1086) rfl rfl rfl ?_
    refine l_bz (p' := 1087) (z := (nI (i + 2))) rfl rfl rfl rfl rfl (mI_add _ _) ?_
    refine l_ialz (p' := 1088) (m := i + 2) (z := (xs (i + 2))) rfl rfl (inb_nI (by omega) (by omega)) (mI_cl (by omega)) rfl rfl ?_
    refine l_if (p' := 1095) true rfl rfl (bl_t hbb) rfl ?_
    refine l_con (p' := 1096) rfl rfl rfl ?_
    obtain ⟨fs4, q4⟩ := hA _ hA1
    refine l_call (p' := 1099) (kc := 250) (ls0 := [_, _, _, _]) rfl rfl rfl rfl rfl rfl (mj_rcv_is q4) rfl rfl rfl ?_
    refine (hm h1 hA1).imp ?_
    rintro _ ⟨_, h2, rfl, rfl, hB1⟩
    show mj_lrun _ _ (1099, _, _, _) _
    try dsimp only
    obtain ⟨rs5, q5, ou, q6, q7⟩ := hB _ hB1
    refine l_ist (p' := 1101) (ls' := [_, _, _, _, _, _, _, _, _, _]) rfl rfl rfl rfl rfl ?_
    refine l_aldn (p' := 1102) rfl rfl rfl rfl ?_
    refine l_call (p' := 1105) (kc := 99) (ls0 := [_]) rfl rfl rfl rfl rfl rfl (mj_rcv_is q5) rfl rfl rfl ?_
    refine s_aldn (p' := 1) rfl rfl rfl ?_
    refine s_gf (p' := 4) rfl q5 rfl rfl ?_
    refine k_iret rfl rfl ?_
    refine l_ild (p' := 1107) rfl rfl rfl rfl ?_
    refine l_icmp (p' := 1112) true rfl rfl (ci_sf _) rfl ?_
    refine l_ild (p' := 1114) rfl rfl rfl rfl ?_
    refine l_if (p' := 1117) false rfl rfl (by decide +kernel) rfl ?_
    refine l_aldn (p' := 1118) rfl rfl rfl rfl ?_
    refine l_con (p' := 1119) rfl rfl rfl ?_
    refine l_lalz (p' := 1120) (m := 0) (v := Int32.toInt64 b) rfl rfl q6 (by decide) rfl q7 rfl ?_
    refine l_ild (p' := 1122) rfl rfl rfl rfl ?_
    refine l_bzL (p' := 1123) (z := Int32.toInt64 b) rfl rfl rfl rfl rfl rfl ?_
    refine l_bz (p' := 1124) (z := nI 0) rfl rfl rfl rfl rfl (lcmp_self _) ?_
    refine l_if (p' := 1129) true rfl rfl (by decide +kernel) rfl ?_
    refine l_goto (p' := 2541) rfl rfl rfl ?_
    refine l_incz (p' := 2544) (w := (nI (i + 4))) (ls' := [_, _, _, _, _, _, _, _, _, _]) rfl rfl rfl rfl (mI_add _ _) rfl rfl ?_
    refine l_goto (p' := 28) rfl rfl rfl ?_
    exact hn _ _ _ _ _ hB1
theorem lr_15_1 {L i : Nat} {xs : Nat → Int32} {h : mj_H} {l6 l7 l8 l9 : Option Value} {P A B : mj_H → Prop} {b : Int32} (hL : L ≤ 2048) (hi : i + 4 ≤ L) (hk : xs i &&& nI 63 = nI 15) {bb : Bool} (hbb : decide (xs (i + 2) = 0) = !bb) (hw : mj_Wp 250 157 (0, [some (.ref 0), some (.int (xs (i + 1))), some (.int (nI (bN bb))), some (.ref 412), none], [], h) (mz_V fun r g => r = .int (nI 1) ∧ A g)) (hA : ∀ g, A g → ∃ fs : List Value, mj_rd g 400 = some (.inr (17, fs))) (hm : ∀ g, A g → mj_Wp 250 379 (0, [some (.ref 400), some (.int (xs (i + 1))), some (.int (nI (bN bb))), none], [], g) (mz_V fun r g2 => r = .int b ∧ B g2)) (hB : ∀ g, B g → ∃ rs : List Value, mj_rd g 400 = some (.inr (17, .int (nI 1) :: rs))) (hn : ∀ (l6 l7 l8 l9 : Option Value) (g : mj_H), B g → mj_lrun L xs (28, [some (.retAddr 1), some (.ref 0), some (.ref 400), some (.ref 412), some (.ref 413), some (.int (nI (i + 4))), l6, l7, l8, l9], [], g) P) : mj_lrun L xs (28, [some (.retAddr 1), some (.ref 0), some (.ref 400), some (.ref 412), some (.ref 413), some (.int (nI i)), l6, l7, l8, l9], [], h) P := by
  cases bb with
  | true =>
    refine l_ild (p' := 30) rfl rfl rfl rfl ?_
    refine l_alds (p' := 31) rfl rfl rfl rfl ?_
    refine l_lens (p' := 32) rfl rfl rfl ?_
    refine l_con (p' := 33) rfl rfl rfl ?_
    refine l_bz (p' := 34) (z := (nI (L - 4))) rfl rfl rfl rfl rfl (mI_sub (by omega)) ?_
    refine l_icmp (p' := 37) false rfl rfl ((ci_gt (by omega) (by omega)).trans (decide_eq_false (by omega))) rfl ?_
    refine l_alds (p' := 38) rfl rfl rfl rfl ?_
    refine l_ild (p' := 40) rfl rfl rfl rfl ?_
    refine l_ialz (p' := 41) (m := i) (z := (xs i)) rfl rfl (inb_nI (by omega) (by omega)) (mI_cl (by omega)) rfl rfl ?_
    refine l_bip (p' := 43) rfl rfl rfl ?_
    refine l_bz (p' := 44) (z := (nI 15)) rfl rfl rfl rfl rfl hk ?_
    refine l_sp (p' := 1048) (ls' := _) rfl rfl rfl rfl rfl ?_
    refine l_aldn (p' := 1049) rfl rfl rfl rfl ?_
    refine l_alds (p' := 1050) rfl rfl rfl rfl ?_
    refine l_ild (p' := 1052) rfl rfl rfl rfl ?_
    refine l_con (p' := 1053) rfl rfl rfl ?_
    refine l_bz (p' := 1054) (z := (nI (i + 1))) rfl rfl rfl rfl rfl (mI_add _ _) ?_
    refine l_ialz (p' := 1055) (m := i + 1) (z := (xs (i + 1))) rfl rfl (inb_nI (by omega) (by omega)) (mI_cl (by omega)) rfl rfl ?_
    refine l_alds (p' := 1056) rfl rfl rfl rfl ?_
    refine l_ild (p' := 1058) rfl rfl rfl rfl ?_
    refine l_con (p' := 1059) rfl rfl rfl ?_
    refine l_bz (p' := 1060) (z := (nI (i + 2))) rfl rfl rfl rfl rfl (mI_add _ _) ?_
    refine l_ialz (p' := 1061) (m := i + 2) (z := (xs (i + 2))) rfl rfl (inb_nI (by omega) (by omega)) (mI_cl (by omega)) rfl rfl ?_
    refine l_if (p' := 1064) false rfl rfl (bl_f hbb) rfl ?_
    refine l_con (p' := 1065) rfl rfl rfl ?_
    refine l_goto (p' := 1069) rfl rfl rfl ?_
    refine l_aldn (p' := 1070) rfl rfl rfl rfl ?_
    refine l_call (p' := 1073) (kc := 250) (ls0 := [_, _, _, _, _]) rfl rfl rfl rfl rfl rfl rfl rfl rfl rfl ?_
    refine hw.imp ?_
    rintro _ ⟨_, h1, rfl, rfl, hA1⟩
    show mj_lrun _ _ (1073, _, _, _) _
    try dsimp only
    refine l_ist (p' := 1075) (ls' := [_, _, _, _, _, _, _, _, _, _]) rfl rfl rfl rfl rfl ?_
    refine l_aldn (p' := 1076) rfl rfl rfl rfl ?_
    refine l_alds (p' := 1077) rfl rfl rfl rfl ?_
    refine l_ild (p' := 1079) rfl rfl rfl rfl ?_
    refine l_con (p' := 1080) rfl rfl rfl ?_
    refine l_bz (p' := 1081) (z := (nI (i + 1))) rfl rfl rfl rfl rfl (mI_add _ _) ?_
    refine l_ialz (p' := 1082) (m := i + 1) (z := (xs (i + 1))) rfl rfl (inb_nI (by omega) (by omega)) (mI_cl (by omega)) rfl rfl ?_
    refine l_alds (p' := 1083) rfl rfl rfl rfl ?_
    refine l_ild (p' := 1085) rfl rfl rfl rfl ?_
    refine l_con (p' := 1086) rfl rfl rfl ?_
    refine l_bz (p' := 1087) (z := (nI (i + 2))) rfl rfl rfl rfl rfl (mI_add _ _) ?_
    refine l_ialz (p' := 1088) (m := i + 2) (z := (xs (i + 2))) rfl rfl (inb_nI (by omega) (by omega)) (mI_cl (by omega)) rfl rfl ?_
    refine l_if (p' := 1091) false rfl rfl (bl_f hbb) rfl ?_
    refine l_con (p' := 1092) rfl rfl rfl ?_
    refine l_goto (p' := 1096) rfl rfl rfl ?_
    obtain ⟨fs4, q4⟩ := hA _ hA1
    refine l_call (p' := 1099) (kc := 250) (ls0 := [_, _, _, _]) rfl rfl rfl rfl rfl rfl (mj_rcv_is q4) rfl rfl rfl ?_
    refine (hm h1 hA1).imp ?_
    rintro _ ⟨_, h2, rfl, rfl, hB1⟩
    show mj_lrun _ _ (1099, _, _, _) _
    try dsimp only
    obtain ⟨rs5, q5⟩ := hB _ hB1
    refine l_ist (p' := 1101) (ls' := [_, _, _, _, _, _, _, _, _, _]) rfl rfl rfl rfl rfl ?_
    refine l_aldn (p' := 1102) rfl rfl rfl rfl ?_
    refine l_call (p' := 1105) (kc := 99) (ls0 := [_]) rfl rfl rfl rfl rfl rfl (mj_rcv_is q5) rfl rfl rfl ?_
    refine s_aldn (p' := 1) rfl rfl rfl ?_
    refine s_gf (p' := 4) rfl q5 rfl rfl ?_
    refine k_iret rfl rfl ?_
    refine l_ild (p' := 1107) rfl rfl rfl rfl ?_
    refine l_icmp (p' := 1112) true rfl rfl (ci_sf _) rfl ?_
    refine l_ild (p' := 1114) rfl rfl rfl rfl ?_
    refine l_if (p' := 1129) true rfl rfl (by decide +kernel) rfl ?_
    refine l_goto (p' := 2541) rfl rfl rfl ?_
    refine l_incz (p' := 2544) (w := (nI (i + 4))) (ls' := [_, _, _, _, _, _, _, _, _, _]) rfl rfl rfl rfl (mI_add _ _) rfl rfl ?_
    refine l_goto (p' := 28) rfl rfl rfl ?_
    exact hn _ _ _ _ _ hB1
  | false =>
    refine l_ild (p' := 30) rfl rfl rfl rfl ?_
    refine l_alds (p' := 31) rfl rfl rfl rfl ?_
    refine l_lens (p' := 32) rfl rfl rfl ?_
    refine l_con (p' := 33) rfl rfl rfl ?_
    refine l_bz (p' := 34) (z := (nI (L - 4))) rfl rfl rfl rfl rfl (mI_sub (by omega)) ?_
    refine l_icmp (p' := 37) false rfl rfl ((ci_gt (by omega) (by omega)).trans (decide_eq_false (by omega))) rfl ?_
    refine l_alds (p' := 38) rfl rfl rfl rfl ?_
    refine l_ild (p' := 40) rfl rfl rfl rfl ?_
    refine l_ialz (p' := 41) (m := i) (z := (xs i)) rfl rfl (inb_nI (by omega) (by omega)) (mI_cl (by omega)) rfl rfl ?_
    refine l_bip (p' := 43) rfl rfl rfl ?_
    refine l_bz (p' := 44) (z := (nI 15)) rfl rfl rfl rfl rfl hk ?_
    refine l_sp (p' := 1048) (ls' := _) rfl rfl rfl rfl rfl ?_
    refine l_aldn (p' := 1049) rfl rfl rfl rfl ?_
    refine l_alds (p' := 1050) rfl rfl rfl rfl ?_
    refine l_ild (p' := 1052) rfl rfl rfl rfl ?_
    refine l_con (p' := 1053) rfl rfl rfl ?_
    refine l_bz (p' := 1054) (z := (nI (i + 1))) rfl rfl rfl rfl rfl (mI_add _ _) ?_
    refine l_ialz (p' := 1055) (m := i + 1) (z := (xs (i + 1))) rfl rfl (inb_nI (by omega) (by omega)) (mI_cl (by omega)) rfl rfl ?_
    refine l_alds (p' := 1056) rfl rfl rfl rfl ?_
    refine l_ild (p' := 1058) rfl rfl rfl rfl ?_
    refine l_con (p' := 1059) rfl rfl rfl ?_
    refine l_bz (p' := 1060) (z := (nI (i + 2))) rfl rfl rfl rfl rfl (mI_add _ _) ?_
    refine l_ialz (p' := 1061) (m := i + 2) (z := (xs (i + 2))) rfl rfl (inb_nI (by omega) (by omega)) (mI_cl (by omega)) rfl rfl ?_
    refine l_if (p' := 1068) true rfl rfl (bl_t hbb) rfl ?_
    refine l_con (p' := 1069) rfl rfl rfl ?_
    refine l_aldn (p' := 1070) rfl rfl rfl rfl ?_
    refine l_call (p' := 1073) (kc := 250) (ls0 := [_, _, _, _, _]) rfl rfl rfl rfl rfl rfl rfl rfl rfl rfl ?_
    refine hw.imp ?_
    rintro _ ⟨_, h1, rfl, rfl, hA1⟩
    show mj_lrun _ _ (1073, _, _, _) _
    try dsimp only
    refine l_ist (p' := 1075) (ls' := [_, _, _, _, _, _, _, _, _, _]) rfl rfl rfl rfl rfl ?_
    refine l_aldn (p' := 1076) rfl rfl rfl rfl ?_
    refine l_alds (p' := 1077) rfl rfl rfl rfl ?_
    refine l_ild (p' := 1079) rfl rfl rfl rfl ?_
    refine l_con (p' := 1080) rfl rfl rfl ?_
    refine l_bz (p' := 1081) (z := (nI (i + 1))) rfl rfl rfl rfl rfl (mI_add _ _) ?_
    refine l_ialz (p' := 1082) (m := i + 1) (z := (xs (i + 1))) rfl rfl (inb_nI (by omega) (by omega)) (mI_cl (by omega)) rfl rfl ?_
    refine l_alds (p' := 1083) rfl rfl rfl rfl ?_
    refine l_ild (p' := 1085) rfl rfl rfl rfl ?_
    refine l_con (p' := 1086) rfl rfl rfl ?_
    refine l_bz (p' := 1087) (z := (nI (i + 2))) rfl rfl rfl rfl rfl (mI_add _ _) ?_
    refine l_ialz (p' := 1088) (m := i + 2) (z := (xs (i + 2))) rfl rfl (inb_nI (by omega) (by omega)) (mI_cl (by omega)) rfl rfl ?_
    refine l_if (p' := 1095) true rfl rfl (bl_t hbb) rfl ?_
    refine l_con (p' := 1096) rfl rfl rfl ?_
    obtain ⟨fs4, q4⟩ := hA _ hA1
    refine l_call (p' := 1099) (kc := 250) (ls0 := [_, _, _, _]) rfl rfl rfl rfl rfl rfl (mj_rcv_is q4) rfl rfl rfl ?_
    refine (hm h1 hA1).imp ?_
    rintro _ ⟨_, h2, rfl, rfl, hB1⟩
    show mj_lrun _ _ (1099, _, _, _) _
    try dsimp only
    obtain ⟨rs5, q5⟩ := hB _ hB1
    refine l_ist (p' := 1101) (ls' := [_, _, _, _, _, _, _, _, _, _]) rfl rfl rfl rfl rfl ?_
    refine l_aldn (p' := 1102) rfl rfl rfl rfl ?_
    refine l_call (p' := 1105) (kc := 99) (ls0 := [_]) rfl rfl rfl rfl rfl rfl (mj_rcv_is q5) rfl rfl rfl ?_
    refine s_aldn (p' := 1) rfl rfl rfl ?_
    refine s_gf (p' := 4) rfl q5 rfl rfl ?_
    refine k_iret rfl rfl ?_
    refine l_ild (p' := 1107) rfl rfl rfl rfl ?_
    refine l_icmp (p' := 1112) true rfl rfl (ci_sf _) rfl ?_
    refine l_ild (p' := 1114) rfl rfl rfl rfl ?_
    refine l_if (p' := 1129) true rfl rfl (by decide +kernel) rfl ?_
    refine l_goto (p' := 2541) rfl rfl rfl ?_
    refine l_incz (p' := 2544) (w := (nI (i + 4))) (ls' := [_, _, _, _, _, _, _, _, _, _]) rfl rfl rfl rfl (mI_add _ _) rfl rfl ?_
    refine l_goto (p' := 28) rfl rfl rfl ?_
    exact hn _ _ _ _ _ hB1
theorem lr_15_2 {L i : Nat} {xs : Nat → Int32} {h : mj_H} {l6 l7 l8 l9 : Option Value} {P A B : mj_H → Prop} {b : Int32} (hL : L ≤ 2048) (hi : i + 4 ≤ L) (hk : xs i &&& nI 63 = nI 15) {bb : Bool} (hbb : decide (xs (i + 2) = 0) = !bb) (hw : mj_Wp 250 157 (0, [some (.ref 0), some (.int (xs (i + 1))), some (.int (nI (bN bb))), some (.ref 412), none], [], h) (mz_V fun r g => r = .int (nI 2) ∧ A g)) (hA : ∀ g, A g → ∃ fs : List Value, mj_rd g 400 = some (.inr (17, fs))) (hm : ∀ g, A g → mj_Wp 250 379 (0, [some (.ref 400), some (.int (xs (i + 1))), some (.int (nI (bN bb))), none], [], g) (mz_V fun r g2 => r = .int b ∧ B g2)) (hB : ∀ g, B g → ∃ rs : List Value, mj_rd g 400 = some (.inr (17, .int (nI 2) :: rs))) (hn : ∀ (l6 l7 l8 l9 : Option Value) (g : mj_H), B g → mj_lrun L xs (28, [some (.retAddr 1), some (.ref 0), some (.ref 400), some (.ref 412), some (.ref 413), some (.int (nI (i + 4))), l6, l7, l8, l9], [], g) P) : mj_lrun L xs (28, [some (.retAddr 1), some (.ref 0), some (.ref 400), some (.ref 412), some (.ref 413), some (.int (nI i)), l6, l7, l8, l9], [], h) P := by
  cases bb with
  | true =>
    refine l_ild (p' := 30) rfl rfl rfl rfl ?_
    refine l_alds (p' := 31) rfl rfl rfl rfl ?_
    refine l_lens (p' := 32) rfl rfl rfl ?_
    refine l_con (p' := 33) rfl rfl rfl ?_
    refine l_bz (p' := 34) (z := (nI (L - 4))) rfl rfl rfl rfl rfl (mI_sub (by omega)) ?_
    refine l_icmp (p' := 37) false rfl rfl ((ci_gt (by omega) (by omega)).trans (decide_eq_false (by omega))) rfl ?_
    refine l_alds (p' := 38) rfl rfl rfl rfl ?_
    refine l_ild (p' := 40) rfl rfl rfl rfl ?_
    refine l_ialz (p' := 41) (m := i) (z := (xs i)) rfl rfl (inb_nI (by omega) (by omega)) (mI_cl (by omega)) rfl rfl ?_
    refine l_bip (p' := 43) rfl rfl rfl ?_
    refine l_bz (p' := 44) (z := (nI 15)) rfl rfl rfl rfl rfl hk ?_
    refine l_sp (p' := 1048) (ls' := _) rfl rfl rfl rfl rfl ?_
    refine l_aldn (p' := 1049) rfl rfl rfl rfl ?_
    refine l_alds (p' := 1050) rfl rfl rfl rfl ?_
    refine l_ild (p' := 1052) rfl rfl rfl rfl ?_
    refine l_con (p' := 1053) rfl rfl rfl ?_
    refine l_bz (p' := 1054) (z := (nI (i + 1))) rfl rfl rfl rfl rfl (mI_add _ _) ?_
    refine l_ialz (p' := 1055) (m := i + 1) (z := (xs (i + 1))) rfl rfl (inb_nI (by omega) (by omega)) (mI_cl (by omega)) rfl rfl ?_
    refine l_alds (p' := 1056) rfl rfl rfl rfl ?_
    refine l_ild (p' := 1058) rfl rfl rfl rfl ?_
    refine l_con (p' := 1059) rfl rfl rfl ?_
    refine l_bz (p' := 1060) (z := (nI (i + 2))) rfl rfl rfl rfl rfl (mI_add _ _) ?_
    refine l_ialz (p' := 1061) (m := i + 2) (z := (xs (i + 2))) rfl rfl (inb_nI (by omega) (by omega)) (mI_cl (by omega)) rfl rfl ?_
    refine l_if (p' := 1064) false rfl rfl (bl_f hbb) rfl ?_
    refine l_con (p' := 1065) rfl rfl rfl ?_
    refine l_goto (p' := 1069) rfl rfl rfl ?_
    refine l_aldn (p' := 1070) rfl rfl rfl rfl ?_
    refine l_call (p' := 1073) (kc := 250) (ls0 := [_, _, _, _, _]) rfl rfl rfl rfl rfl rfl rfl rfl rfl rfl ?_
    refine hw.imp ?_
    rintro _ ⟨_, h1, rfl, rfl, hA1⟩
    show mj_lrun _ _ (1073, _, _, _) _
    try dsimp only
    refine l_ist (p' := 1075) (ls' := [_, _, _, _, _, _, _, _, _, _]) rfl rfl rfl rfl rfl ?_
    refine l_aldn (p' := 1076) rfl rfl rfl rfl ?_
    refine l_alds (p' := 1077) rfl rfl rfl rfl ?_
    refine l_ild (p' := 1079) rfl rfl rfl rfl ?_
    refine l_con (p' := 1080) rfl rfl rfl ?_
    refine l_bz (p' := 1081) (z := (nI (i + 1))) rfl rfl rfl rfl rfl (mI_add _ _) ?_
    refine l_ialz (p' := 1082) (m := i + 1) (z := (xs (i + 1))) rfl rfl (inb_nI (by omega) (by omega)) (mI_cl (by omega)) rfl rfl ?_
    refine l_alds (p' := 1083) rfl rfl rfl rfl ?_
    refine l_ild (p' := 1085) rfl rfl rfl rfl ?_
    refine l_con (p' := 1086) rfl rfl rfl ?_
    refine l_bz (p' := 1087) (z := (nI (i + 2))) rfl rfl rfl rfl rfl (mI_add _ _) ?_
    refine l_ialz (p' := 1088) (m := i + 2) (z := (xs (i + 2))) rfl rfl (inb_nI (by omega) (by omega)) (mI_cl (by omega)) rfl rfl ?_
    refine l_if (p' := 1091) false rfl rfl (bl_f hbb) rfl ?_
    refine l_con (p' := 1092) rfl rfl rfl ?_
    refine l_goto (p' := 1096) rfl rfl rfl ?_
    obtain ⟨fs4, q4⟩ := hA _ hA1
    refine l_call (p' := 1099) (kc := 250) (ls0 := [_, _, _, _]) rfl rfl rfl rfl rfl rfl (mj_rcv_is q4) rfl rfl rfl ?_
    refine (hm h1 hA1).imp ?_
    rintro _ ⟨_, h2, rfl, rfl, hB1⟩
    show mj_lrun _ _ (1099, _, _, _) _
    try dsimp only
    obtain ⟨rs5, q5⟩ := hB _ hB1
    refine l_ist (p' := 1101) (ls' := [_, _, _, _, _, _, _, _, _, _]) rfl rfl rfl rfl rfl ?_
    refine l_aldn (p' := 1102) rfl rfl rfl rfl ?_
    refine l_call (p' := 1105) (kc := 99) (ls0 := [_]) rfl rfl rfl rfl rfl rfl (mj_rcv_is q5) rfl rfl rfl ?_
    refine s_aldn (p' := 1) rfl rfl rfl ?_
    refine s_gf (p' := 4) rfl q5 rfl rfl ?_
    refine k_iret rfl rfl ?_
    refine l_ild (p' := 1107) rfl rfl rfl rfl ?_
    refine l_icmp (p' := 1112) true rfl rfl (ci_sf _) rfl ?_
    refine l_ild (p' := 1114) rfl rfl rfl rfl ?_
    refine l_if (p' := 1129) true rfl rfl (by decide +kernel) rfl ?_
    refine l_goto (p' := 2541) rfl rfl rfl ?_
    refine l_incz (p' := 2544) (w := (nI (i + 4))) (ls' := [_, _, _, _, _, _, _, _, _, _]) rfl rfl rfl rfl (mI_add _ _) rfl rfl ?_
    refine l_goto (p' := 28) rfl rfl rfl ?_
    exact hn _ _ _ _ _ hB1
  | false =>
    refine l_ild (p' := 30) rfl rfl rfl rfl ?_
    refine l_alds (p' := 31) rfl rfl rfl rfl ?_
    refine l_lens (p' := 32) rfl rfl rfl ?_
    refine l_con (p' := 33) rfl rfl rfl ?_
    refine l_bz (p' := 34) (z := (nI (L - 4))) rfl rfl rfl rfl rfl (mI_sub (by omega)) ?_
    refine l_icmp (p' := 37) false rfl rfl ((ci_gt (by omega) (by omega)).trans (decide_eq_false (by omega))) rfl ?_
    refine l_alds (p' := 38) rfl rfl rfl rfl ?_
    refine l_ild (p' := 40) rfl rfl rfl rfl ?_
    refine l_ialz (p' := 41) (m := i) (z := (xs i)) rfl rfl (inb_nI (by omega) (by omega)) (mI_cl (by omega)) rfl rfl ?_
    refine l_bip (p' := 43) rfl rfl rfl ?_
    refine l_bz (p' := 44) (z := (nI 15)) rfl rfl rfl rfl rfl hk ?_
    refine l_sp (p' := 1048) (ls' := _) rfl rfl rfl rfl rfl ?_
    refine l_aldn (p' := 1049) rfl rfl rfl rfl ?_
    refine l_alds (p' := 1050) rfl rfl rfl rfl ?_
    refine l_ild (p' := 1052) rfl rfl rfl rfl ?_
    refine l_con (p' := 1053) rfl rfl rfl ?_
    refine l_bz (p' := 1054) (z := (nI (i + 1))) rfl rfl rfl rfl rfl (mI_add _ _) ?_
    refine l_ialz (p' := 1055) (m := i + 1) (z := (xs (i + 1))) rfl rfl (inb_nI (by omega) (by omega)) (mI_cl (by omega)) rfl rfl ?_
    refine l_alds (p' := 1056) rfl rfl rfl rfl ?_
    refine l_ild (p' := 1058) rfl rfl rfl rfl ?_
    refine l_con (p' := 1059) rfl rfl rfl ?_
    refine l_bz (p' := 1060) (z := (nI (i + 2))) rfl rfl rfl rfl rfl (mI_add _ _) ?_
    refine l_ialz (p' := 1061) (m := i + 2) (z := (xs (i + 2))) rfl rfl (inb_nI (by omega) (by omega)) (mI_cl (by omega)) rfl rfl ?_
    refine l_if (p' := 1068) true rfl rfl (bl_t hbb) rfl ?_
    refine l_con (p' := 1069) rfl rfl rfl ?_
    refine l_aldn (p' := 1070) rfl rfl rfl rfl ?_
    refine l_call (p' := 1073) (kc := 250) (ls0 := [_, _, _, _, _]) rfl rfl rfl rfl rfl rfl rfl rfl rfl rfl ?_
    refine hw.imp ?_
    rintro _ ⟨_, h1, rfl, rfl, hA1⟩
    show mj_lrun _ _ (1073, _, _, _) _
    try dsimp only
    refine l_ist (p' := 1075) (ls' := [_, _, _, _, _, _, _, _, _, _]) rfl rfl rfl rfl rfl ?_
    refine l_aldn (p' := 1076) rfl rfl rfl rfl ?_
    refine l_alds (p' := 1077) rfl rfl rfl rfl ?_
    refine l_ild (p' := 1079) rfl rfl rfl rfl ?_
    refine l_con (p' := 1080) rfl rfl rfl ?_
    refine l_bz (p' := 1081) (z := (nI (i + 1))) rfl rfl rfl rfl rfl (mI_add _ _) ?_
    refine l_ialz (p' := 1082) (m := i + 1) (z := (xs (i + 1))) rfl rfl (inb_nI (by omega) (by omega)) (mI_cl (by omega)) rfl rfl ?_
    refine l_alds (p' := 1083) rfl rfl rfl rfl ?_
    refine l_ild (p' := 1085) rfl rfl rfl rfl ?_
    refine l_con (p' := 1086) rfl rfl rfl ?_
    refine l_bz (p' := 1087) (z := (nI (i + 2))) rfl rfl rfl rfl rfl (mI_add _ _) ?_
    refine l_ialz (p' := 1088) (m := i + 2) (z := (xs (i + 2))) rfl rfl (inb_nI (by omega) (by omega)) (mI_cl (by omega)) rfl rfl ?_
    refine l_if (p' := 1095) true rfl rfl (bl_t hbb) rfl ?_
    refine l_con (p' := 1096) rfl rfl rfl ?_
    obtain ⟨fs4, q4⟩ := hA _ hA1
    refine l_call (p' := 1099) (kc := 250) (ls0 := [_, _, _, _]) rfl rfl rfl rfl rfl rfl (mj_rcv_is q4) rfl rfl rfl ?_
    refine (hm h1 hA1).imp ?_
    rintro _ ⟨_, h2, rfl, rfl, hB1⟩
    show mj_lrun _ _ (1099, _, _, _) _
    try dsimp only
    obtain ⟨rs5, q5⟩ := hB _ hB1
    refine l_ist (p' := 1101) (ls' := [_, _, _, _, _, _, _, _, _, _]) rfl rfl rfl rfl rfl ?_
    refine l_aldn (p' := 1102) rfl rfl rfl rfl ?_
    refine l_call (p' := 1105) (kc := 99) (ls0 := [_]) rfl rfl rfl rfl rfl rfl (mj_rcv_is q5) rfl rfl rfl ?_
    refine s_aldn (p' := 1) rfl rfl rfl ?_
    refine s_gf (p' := 4) rfl q5 rfl rfl ?_
    refine k_iret rfl rfl ?_
    refine l_ild (p' := 1107) rfl rfl rfl rfl ?_
    refine l_icmp (p' := 1112) true rfl rfl (ci_sf _) rfl ?_
    refine l_ild (p' := 1114) rfl rfl rfl rfl ?_
    refine l_if (p' := 1129) true rfl rfl (by decide +kernel) rfl ?_
    refine l_goto (p' := 2541) rfl rfl rfl ?_
    refine l_incz (p' := 2544) (w := (nI (i + 4))) (ls' := [_, _, _, _, _, _, _, _, _, _]) rfl rfl rfl rfl (mI_add _ _) rfl rfl ?_
    refine l_goto (p' := 28) rfl rfl rfl ?_
    exact hn _ _ _ _ _ hB1
theorem lr_23_0 {L i : Nat} {xs : Nat → Int32} {h : mj_H} {l6 l7 l8 l9 : Option Value} {P A B : mj_H → Prop} {b : Int32} (hL : L ≤ 2048) (hi : i + 4 ≤ L) (hk : xs i &&& nI 63 = nI 23) {bb : Bool} (hbb : decide (xs (i + 2) = 0) = !bb) (hw : mj_Wp 250 192 (0, [some (.ref 0), some (.int (xs (i + 1))), some (.int (nI (bN bb))), some (.ref 412), none], [], h) (mz_V fun r g => r = .int (nI 0) ∧ A g)) (hA : ∀ g, A g → ∃ fs : List Value, mj_rd g 400 = some (.inr (17, fs))) (hm : ∀ g, A g → mj_Wp 250 406 (0, [some (.ref 400), some (.int (xs (i + 1))), some (.int (nI (bN bb))), none, none], [], g) (mz_V fun r g2 => r = .int b ∧ B g2)) (hB : ∀ g, B g → ∃ rs : List Value, mj_rd g 400 = some (.inr (17, .int (nI 0) :: rs)) ∧ ∃ ou : Nat → Int64, mj_rd g 412 = some (.inl (4, (1, .inr (.inl ou)))) ∧ ou 0 = Int32.toInt64 b) (hn : ∀ (l6 l7 l8 l9 : Option Value) (g : mj_H), B g → mj_lrun L xs (28, [some (.retAddr 1), some (.ref 0), some (.ref 400), some (.ref 412), some (.ref 413), some (.int (nI (i + 4))), l6, l7, l8, l9], [], g) P) : mj_lrun L xs (28, [some (.retAddr 1), some (.ref 0), some (.ref 400), some (.ref 412), some (.ref 413), some (.int (nI i)), l6, l7, l8, l9], [], h) P := by
  cases bb with
  | true =>
    refine l_ild (p' := 30) rfl rfl rfl rfl ?_
    refine l_alds (p' := 31) rfl rfl rfl rfl ?_
    refine l_lens (p' := 32) rfl rfl rfl ?_
    refine l_con (p' := 33) rfl rfl rfl ?_
    refine l_bz (p' := 34) (z := (nI (L - 4))) rfl rfl rfl rfl rfl (mI_sub (by omega)) ?_
    refine l_icmp (p' := 37) false rfl rfl ((ci_gt (by omega) (by omega)).trans (decide_eq_false (by omega))) rfl ?_
    refine l_alds (p' := 38) rfl rfl rfl rfl ?_
    refine l_ild (p' := 40) rfl rfl rfl rfl ?_
    refine l_ialz (p' := 41) (m := i) (z := (xs i)) rfl rfl (inb_nI (by omega) (by omega)) (mI_cl (by omega)) rfl rfl ?_
    refine l_bip (p' := 43) rfl rfl rfl ?_
    refine l_bz (p' := 44) (z := (nI 23)) rfl rfl rfl rfl rfl hk ?_
    refine l_sp (p' := 1440) (ls' := _) rfl rfl rfl rfl rfl ?_
    refine l_aldn (p' := 1441) rfl rfl rfl rfl ?_
    refine l_alds (p' := 1442) rfl rfl rfl rfl ?_
    refine l_ild (p' := 1444) rfl rfl rfl rfl ?_
    refine l_con (p' := 1445) rfl rfl rfl ?_
    refine l_bz (p' := 1446) (z := (nI (i + 1))) rfl rfl rfl rfl rfl (mI_add _ _) ?_
    refine l_ialz (p' := 1447) (m := i + 1) (z := (xs (i + 1))) rfl rfl (inb_nI (by omega) (by omega)) (mI_cl (by omega)) rfl rfl ?_
    refine l_alds (p' := 1448) rfl rfl rfl rfl ?_
    refine l_ild (p' := 1450) rfl rfl rfl rfl ?_
    refine l_con (p' := 1451) rfl rfl rfl ?_
    refine l_bz (p' := 1452) (z := (nI (i + 2))) rfl rfl rfl rfl rfl (mI_add _ _) ?_
    refine l_ialz (p' := 1453) (m := i + 2) (z := (xs (i + 2))) rfl rfl (inb_nI (by omega) (by omega)) (mI_cl (by omega)) rfl rfl ?_
    refine l_if (p' := 1456) false rfl rfl (bl_f hbb) rfl ?_
    refine l_con (p' := 1457) rfl rfl rfl ?_
    refine l_goto (p' := 1461) rfl rfl rfl ?_
    refine l_aldn (p' := 1462) rfl rfl rfl rfl ?_
    refine l_call (p' := 1465) (kc := 250) (ls0 := [_, _, _, _, _]) rfl rfl rfl rfl rfl rfl rfl rfl rfl rfl ?_
    refine hw.imp ?_
    rintro _ ⟨_, h1, rfl, rfl, hA1⟩
    show mj_lrun _ _ (1465, _, _, _) _
    try dsimp only
    refine l_ist (p' := 1467) (ls' := [_, _, _, _, _, _, _, _, _, _]) rfl rfl rfl rfl rfl ?_
    refine l_aldn (p' := 1468) rfl rfl rfl rfl ?_
    refine l_alds (p' := 1469) rfl rfl rfl rfl ?_
    refine l_ild (p' := 1471) rfl rfl rfl rfl ?_
    refine l_con (p' := 1472) rfl rfl rfl ?_
    refine l_bz (p' := 1473) (z := (nI (i + 1))) rfl rfl rfl rfl rfl (mI_add _ _) ?_
    refine l_ialz (p' := 1474) (m := i + 1) (z := (xs (i + 1))) rfl rfl (inb_nI (by omega) (by omega)) (mI_cl (by omega)) rfl rfl ?_
    refine l_alds (p' := 1475) rfl rfl rfl rfl ?_
    refine l_ild (p' := 1477) rfl rfl rfl rfl ?_
    refine l_con (p' := 1478) rfl rfl rfl ?_
    refine l_bz (p' := 1479) (z := (nI (i + 2))) rfl rfl rfl rfl rfl (mI_add _ _) ?_
    refine l_ialz (p' := 1480) (m := i + 2) (z := (xs (i + 2))) rfl rfl (inb_nI (by omega) (by omega)) (mI_cl (by omega)) rfl rfl ?_
    refine l_if (p' := 1483) false rfl rfl (bl_f hbb) rfl ?_
    refine l_con (p' := 1484) rfl rfl rfl ?_
    refine l_goto (p' := 1488) rfl rfl rfl ?_
    obtain ⟨fs4, q4⟩ := hA _ hA1
    refine l_call (p' := 1491) (kc := 250) (ls0 := [_, _, _, _, _]) rfl rfl rfl rfl rfl rfl (mj_rcv_is q4) rfl rfl rfl ?_
    refine (hm h1 hA1).imp ?_
    rintro _ ⟨_, h2, rfl, rfl, hB1⟩
    show mj_lrun _ _ (1491, _, _, _) _
    try dsimp only
    obtain ⟨rs5, q5, ou, q6, q7⟩ := hB _ hB1
    refine l_ist (p' := 1493) (ls' := [_, _, _, _, _, _, _, _, _, _]) rfl rfl rfl rfl rfl ?_
    refine l_aldn (p' := 1494) rfl rfl rfl rfl ?_
    refine l_call (p' := 1497) (kc := 99) (ls0 := [_]) rfl rfl rfl rfl rfl rfl (mj_rcv_is q5) rfl rfl rfl ?_
    refine s_aldn (p' := 1) rfl rfl rfl ?_
    refine s_gf (p' := 4) rfl q5 rfl rfl ?_
    refine k_iret rfl rfl ?_
    refine l_ild (p' := 1499) rfl rfl rfl rfl ?_
    refine l_icmp (p' := 1504) true rfl rfl (ci_sf _) rfl ?_
    refine l_ild (p' := 1506) rfl rfl rfl rfl ?_
    refine l_if (p' := 1509) false rfl rfl (by decide +kernel) rfl ?_
    refine l_aldn (p' := 1510) rfl rfl rfl rfl ?_
    refine l_con (p' := 1511) rfl rfl rfl ?_
    refine l_lalz (p' := 1512) (m := 0) (v := Int32.toInt64 b) rfl rfl q6 (by decide) rfl q7 rfl ?_
    refine l_ild (p' := 1514) rfl rfl rfl rfl ?_
    refine l_bzL (p' := 1515) (z := Int32.toInt64 b) rfl rfl rfl rfl rfl rfl ?_
    refine l_bz (p' := 1516) (z := nI 0) rfl rfl rfl rfl rfl (lcmp_self _) ?_
    refine l_if (p' := 1521) true rfl rfl (by decide +kernel) rfl ?_
    refine l_goto (p' := 2541) rfl rfl rfl ?_
    refine l_incz (p' := 2544) (w := (nI (i + 4))) (ls' := [_, _, _, _, _, _, _, _, _, _]) rfl rfl rfl rfl (mI_add _ _) rfl rfl ?_
    refine l_goto (p' := 28) rfl rfl rfl ?_
    exact hn _ _ _ _ _ hB1
  | false =>
    refine l_ild (p' := 30) rfl rfl rfl rfl ?_
    refine l_alds (p' := 31) rfl rfl rfl rfl ?_
    refine l_lens (p' := 32) rfl rfl rfl ?_
    refine l_con (p' := 33) rfl rfl rfl ?_
    refine l_bz (p' := 34) (z := (nI (L - 4))) rfl rfl rfl rfl rfl (mI_sub (by omega)) ?_
    refine l_icmp (p' := 37) false rfl rfl ((ci_gt (by omega) (by omega)).trans (decide_eq_false (by omega))) rfl ?_
    refine l_alds (p' := 38) rfl rfl rfl rfl ?_
    refine l_ild (p' := 40) rfl rfl rfl rfl ?_
    refine l_ialz (p' := 41) (m := i) (z := (xs i)) rfl rfl (inb_nI (by omega) (by omega)) (mI_cl (by omega)) rfl rfl ?_
    refine l_bip (p' := 43) rfl rfl rfl ?_
    refine l_bz (p' := 44) (z := (nI 23)) rfl rfl rfl rfl rfl hk ?_
    refine l_sp (p' := 1440) (ls' := _) rfl rfl rfl rfl rfl ?_
    refine l_aldn (p' := 1441) rfl rfl rfl rfl ?_
    refine l_alds (p' := 1442) rfl rfl rfl rfl ?_
    refine l_ild (p' := 1444) rfl rfl rfl rfl ?_
    refine l_con (p' := 1445) rfl rfl rfl ?_
    refine l_bz (p' := 1446) (z := (nI (i + 1))) rfl rfl rfl rfl rfl (mI_add _ _) ?_
    refine l_ialz (p' := 1447) (m := i + 1) (z := (xs (i + 1))) rfl rfl (inb_nI (by omega) (by omega)) (mI_cl (by omega)) rfl rfl ?_
    refine l_alds (p' := 1448) rfl rfl rfl rfl ?_
    refine l_ild (p' := 1450) rfl rfl rfl rfl ?_
    refine l_con (p' := 1451) rfl rfl rfl ?_
    refine l_bz (p' := 1452) (z := (nI (i + 2))) rfl rfl rfl rfl rfl (mI_add _ _) ?_
    refine l_ialz (p' := 1453) (m := i + 2) (z := (xs (i + 2))) rfl rfl (inb_nI (by omega) (by omega)) (mI_cl (by omega)) rfl rfl ?_
    refine l_if (p' := 1460) true rfl rfl (bl_t hbb) rfl ?_
    refine l_con (p' := 1461) rfl rfl rfl ?_
    refine l_aldn (p' := 1462) rfl rfl rfl rfl ?_
    refine l_call (p' := 1465) (kc := 250) (ls0 := [_, _, _, _, _]) rfl rfl rfl rfl rfl rfl rfl rfl rfl rfl ?_
    refine hw.imp ?_
    rintro _ ⟨_, h1, rfl, rfl, hA1⟩
    show mj_lrun _ _ (1465, _, _, _) _
    try dsimp only
    refine l_ist (p' := 1467) (ls' := [_, _, _, _, _, _, _, _, _, _]) rfl rfl rfl rfl rfl ?_
    refine l_aldn (p' := 1468) rfl rfl rfl rfl ?_
    refine l_alds (p' := 1469) rfl rfl rfl rfl ?_
    refine l_ild (p' := 1471) rfl rfl rfl rfl ?_
    refine l_con (p' := 1472) rfl rfl rfl ?_
    refine l_bz (p' := 1473) (z := (nI (i + 1))) rfl rfl rfl rfl rfl (mI_add _ _) ?_
    refine l_ialz (p' := 1474) (m := i + 1) (z := (xs (i + 1))) rfl rfl (inb_nI (by omega) (by omega)) (mI_cl (by omega)) rfl rfl ?_
    refine l_alds (p' := 1475) rfl rfl rfl rfl ?_
    refine l_ild (p' := 1477) rfl rfl rfl rfl ?_
    refine l_con (p' := 1478) rfl rfl rfl ?_
    refine l_bz (p' := 1479) (z := (nI (i + 2))) rfl rfl rfl rfl rfl (mI_add _ _) ?_
    refine l_ialz (p' := 1480) (m := i + 2) (z := (xs (i + 2))) rfl rfl (inb_nI (by omega) (by omega)) (mI_cl (by omega)) rfl rfl ?_
    refine l_if (p' := 1487) true rfl rfl (bl_t hbb) rfl ?_
    refine l_con (p' := 1488) rfl rfl rfl ?_
    obtain ⟨fs4, q4⟩ := hA _ hA1
    refine l_call (p' := 1491) (kc := 250) (ls0 := [_, _, _, _, _]) rfl rfl rfl rfl rfl rfl (mj_rcv_is q4) rfl rfl rfl ?_
    refine (hm h1 hA1).imp ?_
    rintro _ ⟨_, h2, rfl, rfl, hB1⟩
    show mj_lrun _ _ (1491, _, _, _) _
    try dsimp only
    obtain ⟨rs5, q5, ou, q6, q7⟩ := hB _ hB1
    refine l_ist (p' := 1493) (ls' := [_, _, _, _, _, _, _, _, _, _]) rfl rfl rfl rfl rfl ?_
    refine l_aldn (p' := 1494) rfl rfl rfl rfl ?_
    refine l_call (p' := 1497) (kc := 99) (ls0 := [_]) rfl rfl rfl rfl rfl rfl (mj_rcv_is q5) rfl rfl rfl ?_
    refine s_aldn (p' := 1) rfl rfl rfl ?_
    refine s_gf (p' := 4) rfl q5 rfl rfl ?_
    refine k_iret rfl rfl ?_
    refine l_ild (p' := 1499) rfl rfl rfl rfl ?_
    refine l_icmp (p' := 1504) true rfl rfl (ci_sf _) rfl ?_
    refine l_ild (p' := 1506) rfl rfl rfl rfl ?_
    refine l_if (p' := 1509) false rfl rfl (by decide +kernel) rfl ?_
    refine l_aldn (p' := 1510) rfl rfl rfl rfl ?_
    refine l_con (p' := 1511) rfl rfl rfl ?_
    refine l_lalz (p' := 1512) (m := 0) (v := Int32.toInt64 b) rfl rfl q6 (by decide) rfl q7 rfl ?_
    refine l_ild (p' := 1514) rfl rfl rfl rfl ?_
    refine l_bzL (p' := 1515) (z := Int32.toInt64 b) rfl rfl rfl rfl rfl rfl ?_
    refine l_bz (p' := 1516) (z := nI 0) rfl rfl rfl rfl rfl (lcmp_self _) ?_
    refine l_if (p' := 1521) true rfl rfl (by decide +kernel) rfl ?_
    refine l_goto (p' := 2541) rfl rfl rfl ?_
    refine l_incz (p' := 2544) (w := (nI (i + 4))) (ls' := [_, _, _, _, _, _, _, _, _, _]) rfl rfl rfl rfl (mI_add _ _) rfl rfl ?_
    refine l_goto (p' := 28) rfl rfl rfl ?_
    exact hn _ _ _ _ _ hB1
theorem lr_23_1 {L i : Nat} {xs : Nat → Int32} {h : mj_H} {l6 l7 l8 l9 : Option Value} {P A B : mj_H → Prop} {b : Int32} (hL : L ≤ 2048) (hi : i + 4 ≤ L) (hk : xs i &&& nI 63 = nI 23) {bb : Bool} (hbb : decide (xs (i + 2) = 0) = !bb) (hw : mj_Wp 250 192 (0, [some (.ref 0), some (.int (xs (i + 1))), some (.int (nI (bN bb))), some (.ref 412), none], [], h) (mz_V fun r g => r = .int (nI 1) ∧ A g)) (hA : ∀ g, A g → ∃ fs : List Value, mj_rd g 400 = some (.inr (17, fs))) (hm : ∀ g, A g → mj_Wp 250 406 (0, [some (.ref 400), some (.int (xs (i + 1))), some (.int (nI (bN bb))), none, none], [], g) (mz_V fun r g2 => r = .int b ∧ B g2)) (hB : ∀ g, B g → ∃ rs : List Value, mj_rd g 400 = some (.inr (17, .int (nI 1) :: rs))) (hn : ∀ (l6 l7 l8 l9 : Option Value) (g : mj_H), B g → mj_lrun L xs (28, [some (.retAddr 1), some (.ref 0), some (.ref 400), some (.ref 412), some (.ref 413), some (.int (nI (i + 4))), l6, l7, l8, l9], [], g) P) : mj_lrun L xs (28, [some (.retAddr 1), some (.ref 0), some (.ref 400), some (.ref 412), some (.ref 413), some (.int (nI i)), l6, l7, l8, l9], [], h) P := by
  cases bb with
  | true =>
    refine l_ild (p' := 30) rfl rfl rfl rfl ?_
    refine l_alds (p' := 31) rfl rfl rfl rfl ?_
    refine l_lens (p' := 32) rfl rfl rfl ?_
    refine l_con (p' := 33) rfl rfl rfl ?_
    refine l_bz (p' := 34) (z := (nI (L - 4))) rfl rfl rfl rfl rfl (mI_sub (by omega)) ?_
    refine l_icmp (p' := 37) false rfl rfl ((ci_gt (by omega) (by omega)).trans (decide_eq_false (by omega))) rfl ?_
    refine l_alds (p' := 38) rfl rfl rfl rfl ?_
    refine l_ild (p' := 40) rfl rfl rfl rfl ?_
    refine l_ialz (p' := 41) (m := i) (z := (xs i)) rfl rfl (inb_nI (by omega) (by omega)) (mI_cl (by omega)) rfl rfl ?_
    refine l_bip (p' := 43) rfl rfl rfl ?_
    refine l_bz (p' := 44) (z := (nI 23)) rfl rfl rfl rfl rfl hk ?_
    refine l_sp (p' := 1440) (ls' := _) rfl rfl rfl rfl rfl ?_
    refine l_aldn (p' := 1441) rfl rfl rfl rfl ?_
    refine l_alds (p' := 1442) rfl rfl rfl rfl ?_
    refine l_ild (p' := 1444) rfl rfl rfl rfl ?_
    refine l_con (p' := 1445) rfl rfl rfl ?_
    refine l_bz (p' := 1446) (z := (nI (i + 1))) rfl rfl rfl rfl rfl (mI_add _ _) ?_
    refine l_ialz (p' := 1447) (m := i + 1) (z := (xs (i + 1))) rfl rfl (inb_nI (by omega) (by omega)) (mI_cl (by omega)) rfl rfl ?_
    refine l_alds (p' := 1448) rfl rfl rfl rfl ?_
    refine l_ild (p' := 1450) rfl rfl rfl rfl ?_
    refine l_con (p' := 1451) rfl rfl rfl ?_
    refine l_bz (p' := 1452) (z := (nI (i + 2))) rfl rfl rfl rfl rfl (mI_add _ _) ?_
    refine l_ialz (p' := 1453) (m := i + 2) (z := (xs (i + 2))) rfl rfl (inb_nI (by omega) (by omega)) (mI_cl (by omega)) rfl rfl ?_
    refine l_if (p' := 1456) false rfl rfl (bl_f hbb) rfl ?_
    refine l_con (p' := 1457) rfl rfl rfl ?_
    refine l_goto (p' := 1461) rfl rfl rfl ?_
    refine l_aldn (p' := 1462) rfl rfl rfl rfl ?_
    refine l_call (p' := 1465) (kc := 250) (ls0 := [_, _, _, _, _]) rfl rfl rfl rfl rfl rfl rfl rfl rfl rfl ?_
    refine hw.imp ?_
    rintro _ ⟨_, h1, rfl, rfl, hA1⟩
    show mj_lrun _ _ (1465, _, _, _) _
    try dsimp only
    refine l_ist (p' := 1467) (ls' := [_, _, _, _, _, _, _, _, _, _]) rfl rfl rfl rfl rfl ?_
    refine l_aldn (p' := 1468) rfl rfl rfl rfl ?_
    refine l_alds (p' := 1469) rfl rfl rfl rfl ?_
    refine l_ild (p' := 1471) rfl rfl rfl rfl ?_
    refine l_con (p' := 1472) rfl rfl rfl ?_
    refine l_bz (p' := 1473) (z := (nI (i + 1))) rfl rfl rfl rfl rfl (mI_add _ _) ?_
    refine l_ialz (p' := 1474) (m := i + 1) (z := (xs (i + 1))) rfl rfl (inb_nI (by omega) (by omega)) (mI_cl (by omega)) rfl rfl ?_
    refine l_alds (p' := 1475) rfl rfl rfl rfl ?_
    refine l_ild (p' := 1477) rfl rfl rfl rfl ?_
    refine l_con (p' := 1478) rfl rfl rfl ?_
    refine l_bz (p' := 1479) (z := (nI (i + 2))) rfl rfl rfl rfl rfl (mI_add _ _) ?_
    refine l_ialz (p' := 1480) (m := i + 2) (z := (xs (i + 2))) rfl rfl (inb_nI (by omega) (by omega)) (mI_cl (by omega)) rfl rfl ?_
    refine l_if (p' := 1483) false rfl rfl (bl_f hbb) rfl ?_
    refine l_con (p' := 1484) rfl rfl rfl ?_
    refine l_goto (p' := 1488) rfl rfl rfl ?_
    obtain ⟨fs4, q4⟩ := hA _ hA1
    refine l_call (p' := 1491) (kc := 250) (ls0 := [_, _, _, _, _]) rfl rfl rfl rfl rfl rfl (mj_rcv_is q4) rfl rfl rfl ?_
    refine (hm h1 hA1).imp ?_
    rintro _ ⟨_, h2, rfl, rfl, hB1⟩
    show mj_lrun _ _ (1491, _, _, _) _
    try dsimp only
    obtain ⟨rs5, q5⟩ := hB _ hB1
    refine l_ist (p' := 1493) (ls' := [_, _, _, _, _, _, _, _, _, _]) rfl rfl rfl rfl rfl ?_
    refine l_aldn (p' := 1494) rfl rfl rfl rfl ?_
    refine l_call (p' := 1497) (kc := 99) (ls0 := [_]) rfl rfl rfl rfl rfl rfl (mj_rcv_is q5) rfl rfl rfl ?_
    refine s_aldn (p' := 1) rfl rfl rfl ?_
    refine s_gf (p' := 4) rfl q5 rfl rfl ?_
    refine k_iret rfl rfl ?_
    refine l_ild (p' := 1499) rfl rfl rfl rfl ?_
    refine l_icmp (p' := 1504) true rfl rfl (ci_sf _) rfl ?_
    refine l_ild (p' := 1506) rfl rfl rfl rfl ?_
    refine l_if (p' := 1521) true rfl rfl (by decide +kernel) rfl ?_
    refine l_goto (p' := 2541) rfl rfl rfl ?_
    refine l_incz (p' := 2544) (w := (nI (i + 4))) (ls' := [_, _, _, _, _, _, _, _, _, _]) rfl rfl rfl rfl (mI_add _ _) rfl rfl ?_
    refine l_goto (p' := 28) rfl rfl rfl ?_
    exact hn _ _ _ _ _ hB1
  | false =>
    refine l_ild (p' := 30) rfl rfl rfl rfl ?_
    refine l_alds (p' := 31) rfl rfl rfl rfl ?_
    refine l_lens (p' := 32) rfl rfl rfl ?_
    refine l_con (p' := 33) rfl rfl rfl ?_
    refine l_bz (p' := 34) (z := (nI (L - 4))) rfl rfl rfl rfl rfl (mI_sub (by omega)) ?_
    refine l_icmp (p' := 37) false rfl rfl ((ci_gt (by omega) (by omega)).trans (decide_eq_false (by omega))) rfl ?_
    refine l_alds (p' := 38) rfl rfl rfl rfl ?_
    refine l_ild (p' := 40) rfl rfl rfl rfl ?_
    refine l_ialz (p' := 41) (m := i) (z := (xs i)) rfl rfl (inb_nI (by omega) (by omega)) (mI_cl (by omega)) rfl rfl ?_
    refine l_bip (p' := 43) rfl rfl rfl ?_
    refine l_bz (p' := 44) (z := (nI 23)) rfl rfl rfl rfl rfl hk ?_
    refine l_sp (p' := 1440) (ls' := _) rfl rfl rfl rfl rfl ?_
    refine l_aldn (p' := 1441) rfl rfl rfl rfl ?_
    refine l_alds (p' := 1442) rfl rfl rfl rfl ?_
    refine l_ild (p' := 1444) rfl rfl rfl rfl ?_
    refine l_con (p' := 1445) rfl rfl rfl ?_
    refine l_bz (p' := 1446) (z := (nI (i + 1))) rfl rfl rfl rfl rfl (mI_add _ _) ?_
    refine l_ialz (p' := 1447) (m := i + 1) (z := (xs (i + 1))) rfl rfl (inb_nI (by omega) (by omega)) (mI_cl (by omega)) rfl rfl ?_
    refine l_alds (p' := 1448) rfl rfl rfl rfl ?_
    refine l_ild (p' := 1450) rfl rfl rfl rfl ?_
    refine l_con (p' := 1451) rfl rfl rfl ?_
    refine l_bz (p' := 1452) (z := (nI (i + 2))) rfl rfl rfl rfl rfl (mI_add _ _) ?_
    refine l_ialz (p' := 1453) (m := i + 2) (z := (xs (i + 2))) rfl rfl (inb_nI (by omega) (by omega)) (mI_cl (by omega)) rfl rfl ?_
    refine l_if (p' := 1460) true rfl rfl (bl_t hbb) rfl ?_
    refine l_con (p' := 1461) rfl rfl rfl ?_
    refine l_aldn (p' := 1462) rfl rfl rfl rfl ?_
    refine l_call (p' := 1465) (kc := 250) (ls0 := [_, _, _, _, _]) rfl rfl rfl rfl rfl rfl rfl rfl rfl rfl ?_
    refine hw.imp ?_
    rintro _ ⟨_, h1, rfl, rfl, hA1⟩
    show mj_lrun _ _ (1465, _, _, _) _
    try dsimp only
    refine l_ist (p' := 1467) (ls' := [_, _, _, _, _, _, _, _, _, _]) rfl rfl rfl rfl rfl ?_
    refine l_aldn (p' := 1468) rfl rfl rfl rfl ?_
    refine l_alds (p' := 1469) rfl rfl rfl rfl ?_
    refine l_ild (p' := 1471) rfl rfl rfl rfl ?_
    refine l_con (p' := 1472) rfl rfl rfl ?_
    refine l_bz (p' := 1473) (z := (nI (i + 1))) rfl rfl rfl rfl rfl (mI_add _ _) ?_
    refine l_ialz (p' := 1474) (m := i + 1) (z := (xs (i + 1))) rfl rfl (inb_nI (by omega) (by omega)) (mI_cl (by omega)) rfl rfl ?_
    refine l_alds (p' := 1475) rfl rfl rfl rfl ?_
    refine l_ild (p' := 1477) rfl rfl rfl rfl ?_
    refine l_con (p' := 1478) rfl rfl rfl ?_
    refine l_bz (p' := 1479) (z := (nI (i + 2))) rfl rfl rfl rfl rfl (mI_add _ _) ?_
    refine l_ialz (p' := 1480) (m := i + 2) (z := (xs (i + 2))) rfl rfl (inb_nI (by omega) (by omega)) (mI_cl (by omega)) rfl rfl ?_
    refine l_if (p' := 1487) true rfl rfl (bl_t hbb) rfl ?_
    refine l_con (p' := 1488) rfl rfl rfl ?_
    obtain ⟨fs4, q4⟩ := hA _ hA1
    refine l_call (p' := 1491) (kc := 250) (ls0 := [_, _, _, _, _]) rfl rfl rfl rfl rfl rfl (mj_rcv_is q4) rfl rfl rfl ?_
    refine (hm h1 hA1).imp ?_
    rintro _ ⟨_, h2, rfl, rfl, hB1⟩
    show mj_lrun _ _ (1491, _, _, _) _
    try dsimp only
    obtain ⟨rs5, q5⟩ := hB _ hB1
    refine l_ist (p' := 1493) (ls' := [_, _, _, _, _, _, _, _, _, _]) rfl rfl rfl rfl rfl ?_
    refine l_aldn (p' := 1494) rfl rfl rfl rfl ?_
    refine l_call (p' := 1497) (kc := 99) (ls0 := [_]) rfl rfl rfl rfl rfl rfl (mj_rcv_is q5) rfl rfl rfl ?_
    refine s_aldn (p' := 1) rfl rfl rfl ?_
    refine s_gf (p' := 4) rfl q5 rfl rfl ?_
    refine k_iret rfl rfl ?_
    refine l_ild (p' := 1499) rfl rfl rfl rfl ?_
    refine l_icmp (p' := 1504) true rfl rfl (ci_sf _) rfl ?_
    refine l_ild (p' := 1506) rfl rfl rfl rfl ?_
    refine l_if (p' := 1521) true rfl rfl (by decide +kernel) rfl ?_
    refine l_goto (p' := 2541) rfl rfl rfl ?_
    refine l_incz (p' := 2544) (w := (nI (i + 4))) (ls' := [_, _, _, _, _, _, _, _, _, _]) rfl rfl rfl rfl (mI_add _ _) rfl rfl ?_
    refine l_goto (p' := 28) rfl rfl rfl ?_
    exact hn _ _ _ _ _ hB1
theorem lr_23_2 {L i : Nat} {xs : Nat → Int32} {h : mj_H} {l6 l7 l8 l9 : Option Value} {P A B : mj_H → Prop} {b : Int32} (hL : L ≤ 2048) (hi : i + 4 ≤ L) (hk : xs i &&& nI 63 = nI 23) {bb : Bool} (hbb : decide (xs (i + 2) = 0) = !bb) (hw : mj_Wp 250 192 (0, [some (.ref 0), some (.int (xs (i + 1))), some (.int (nI (bN bb))), some (.ref 412), none], [], h) (mz_V fun r g => r = .int (nI 2) ∧ A g)) (hA : ∀ g, A g → ∃ fs : List Value, mj_rd g 400 = some (.inr (17, fs))) (hm : ∀ g, A g → mj_Wp 250 406 (0, [some (.ref 400), some (.int (xs (i + 1))), some (.int (nI (bN bb))), none, none], [], g) (mz_V fun r g2 => r = .int b ∧ B g2)) (hB : ∀ g, B g → ∃ rs : List Value, mj_rd g 400 = some (.inr (17, .int (nI 2) :: rs))) (hn : ∀ (l6 l7 l8 l9 : Option Value) (g : mj_H), B g → mj_lrun L xs (28, [some (.retAddr 1), some (.ref 0), some (.ref 400), some (.ref 412), some (.ref 413), some (.int (nI (i + 4))), l6, l7, l8, l9], [], g) P) : mj_lrun L xs (28, [some (.retAddr 1), some (.ref 0), some (.ref 400), some (.ref 412), some (.ref 413), some (.int (nI i)), l6, l7, l8, l9], [], h) P := by
  cases bb with
  | true =>
    refine l_ild (p' := 30) rfl rfl rfl rfl ?_
    refine l_alds (p' := 31) rfl rfl rfl rfl ?_
    refine l_lens (p' := 32) rfl rfl rfl ?_
    refine l_con (p' := 33) rfl rfl rfl ?_
    refine l_bz (p' := 34) (z := (nI (L - 4))) rfl rfl rfl rfl rfl (mI_sub (by omega)) ?_
    refine l_icmp (p' := 37) false rfl rfl ((ci_gt (by omega) (by omega)).trans (decide_eq_false (by omega))) rfl ?_
    refine l_alds (p' := 38) rfl rfl rfl rfl ?_
    refine l_ild (p' := 40) rfl rfl rfl rfl ?_
    refine l_ialz (p' := 41) (m := i) (z := (xs i)) rfl rfl (inb_nI (by omega) (by omega)) (mI_cl (by omega)) rfl rfl ?_
    refine l_bip (p' := 43) rfl rfl rfl ?_
    refine l_bz (p' := 44) (z := (nI 23)) rfl rfl rfl rfl rfl hk ?_
    refine l_sp (p' := 1440) (ls' := _) rfl rfl rfl rfl rfl ?_
    refine l_aldn (p' := 1441) rfl rfl rfl rfl ?_
    refine l_alds (p' := 1442) rfl rfl rfl rfl ?_
    refine l_ild (p' := 1444) rfl rfl rfl rfl ?_
    refine l_con (p' := 1445) rfl rfl rfl ?_
    refine l_bz (p' := 1446) (z := (nI (i + 1))) rfl rfl rfl rfl rfl (mI_add _ _) ?_
    refine l_ialz (p' := 1447) (m := i + 1) (z := (xs (i + 1))) rfl rfl (inb_nI (by omega) (by omega)) (mI_cl (by omega)) rfl rfl ?_
    refine l_alds (p' := 1448) rfl rfl rfl rfl ?_
    refine l_ild (p' := 1450) rfl rfl rfl rfl ?_
    refine l_con (p' := 1451) rfl rfl rfl ?_
    refine l_bz (p' := 1452) (z := (nI (i + 2))) rfl rfl rfl rfl rfl (mI_add _ _) ?_
    refine l_ialz (p' := 1453) (m := i + 2) (z := (xs (i + 2))) rfl rfl (inb_nI (by omega) (by omega)) (mI_cl (by omega)) rfl rfl ?_
    refine l_if (p' := 1456) false rfl rfl (bl_f hbb) rfl ?_
    refine l_con (p' := 1457) rfl rfl rfl ?_
    refine l_goto (p' := 1461) rfl rfl rfl ?_
    refine l_aldn (p' := 1462) rfl rfl rfl rfl ?_
    refine l_call (p' := 1465) (kc := 250) (ls0 := [_, _, _, _, _]) rfl rfl rfl rfl rfl rfl rfl rfl rfl rfl ?_
    refine hw.imp ?_
    rintro _ ⟨_, h1, rfl, rfl, hA1⟩
    show mj_lrun _ _ (1465, _, _, _) _
    try dsimp only
    refine l_ist (p' := 1467) (ls' := [_, _, _, _, _, _, _, _, _, _]) rfl rfl rfl rfl rfl ?_
    refine l_aldn (p' := 1468) rfl rfl rfl rfl ?_
    refine l_alds (p' := 1469) rfl rfl rfl rfl ?_
    refine l_ild (p' := 1471) rfl rfl rfl rfl ?_
    refine l_con (p' := 1472) rfl rfl rfl ?_
    refine l_bz (p' := 1473) (z := (nI (i + 1))) rfl rfl rfl rfl rfl (mI_add _ _) ?_
    refine l_ialz (p' := 1474) (m := i + 1) (z := (xs (i + 1))) rfl rfl (inb_nI (by omega) (by omega)) (mI_cl (by omega)) rfl rfl ?_
    refine l_alds (p' := 1475) rfl rfl rfl rfl ?_
    refine l_ild (p' := 1477) rfl rfl rfl rfl ?_
    refine l_con (p' := 1478) rfl rfl rfl ?_
    refine l_bz (p' := 1479) (z := (nI (i + 2))) rfl rfl rfl rfl rfl (mI_add _ _) ?_
    refine l_ialz (p' := 1480) (m := i + 2) (z := (xs (i + 2))) rfl rfl (inb_nI (by omega) (by omega)) (mI_cl (by omega)) rfl rfl ?_
    refine l_if (p' := 1483) false rfl rfl (bl_f hbb) rfl ?_
    refine l_con (p' := 1484) rfl rfl rfl ?_
    refine l_goto (p' := 1488) rfl rfl rfl ?_
    obtain ⟨fs4, q4⟩ := hA _ hA1
    refine l_call (p' := 1491) (kc := 250) (ls0 := [_, _, _, _, _]) rfl rfl rfl rfl rfl rfl (mj_rcv_is q4) rfl rfl rfl ?_
    refine (hm h1 hA1).imp ?_
    rintro _ ⟨_, h2, rfl, rfl, hB1⟩
    show mj_lrun _ _ (1491, _, _, _) _
    try dsimp only
    obtain ⟨rs5, q5⟩ := hB _ hB1
    refine l_ist (p' := 1493) (ls' := [_, _, _, _, _, _, _, _, _, _]) rfl rfl rfl rfl rfl ?_
    refine l_aldn (p' := 1494) rfl rfl rfl rfl ?_
    refine l_call (p' := 1497) (kc := 99) (ls0 := [_]) rfl rfl rfl rfl rfl rfl (mj_rcv_is q5) rfl rfl rfl ?_
    refine s_aldn (p' := 1) rfl rfl rfl ?_
    refine s_gf (p' := 4) rfl q5 rfl rfl ?_
    refine k_iret rfl rfl ?_
    refine l_ild (p' := 1499) rfl rfl rfl rfl ?_
    refine l_icmp (p' := 1504) true rfl rfl (ci_sf _) rfl ?_
    refine l_ild (p' := 1506) rfl rfl rfl rfl ?_
    refine l_if (p' := 1521) true rfl rfl (by decide +kernel) rfl ?_
    refine l_goto (p' := 2541) rfl rfl rfl ?_
    refine l_incz (p' := 2544) (w := (nI (i + 4))) (ls' := [_, _, _, _, _, _, _, _, _, _]) rfl rfl rfl rfl (mI_add _ _) rfl rfl ?_
    refine l_goto (p' := 28) rfl rfl rfl ?_
    exact hn _ _ _ _ _ hB1
  | false =>
    refine l_ild (p' := 30) rfl rfl rfl rfl ?_
    refine l_alds (p' := 31) rfl rfl rfl rfl ?_
    refine l_lens (p' := 32) rfl rfl rfl ?_
    refine l_con (p' := 33) rfl rfl rfl ?_
    refine l_bz (p' := 34) (z := (nI (L - 4))) rfl rfl rfl rfl rfl (mI_sub (by omega)) ?_
    refine l_icmp (p' := 37) false rfl rfl ((ci_gt (by omega) (by omega)).trans (decide_eq_false (by omega))) rfl ?_
    refine l_alds (p' := 38) rfl rfl rfl rfl ?_
    refine l_ild (p' := 40) rfl rfl rfl rfl ?_
    refine l_ialz (p' := 41) (m := i) (z := (xs i)) rfl rfl (inb_nI (by omega) (by omega)) (mI_cl (by omega)) rfl rfl ?_
    refine l_bip (p' := 43) rfl rfl rfl ?_
    refine l_bz (p' := 44) (z := (nI 23)) rfl rfl rfl rfl rfl hk ?_
    refine l_sp (p' := 1440) (ls' := _) rfl rfl rfl rfl rfl ?_
    refine l_aldn (p' := 1441) rfl rfl rfl rfl ?_
    refine l_alds (p' := 1442) rfl rfl rfl rfl ?_
    refine l_ild (p' := 1444) rfl rfl rfl rfl ?_
    refine l_con (p' := 1445) rfl rfl rfl ?_
    refine l_bz (p' := 1446) (z := (nI (i + 1))) rfl rfl rfl rfl rfl (mI_add _ _) ?_
    refine l_ialz (p' := 1447) (m := i + 1) (z := (xs (i + 1))) rfl rfl (inb_nI (by omega) (by omega)) (mI_cl (by omega)) rfl rfl ?_
    refine l_alds (p' := 1448) rfl rfl rfl rfl ?_
    refine l_ild (p' := 1450) rfl rfl rfl rfl ?_
    refine l_con (p' := 1451) rfl rfl rfl ?_
    refine l_bz (p' := 1452) (z := (nI (i + 2))) rfl rfl rfl rfl rfl (mI_add _ _) ?_
    refine l_ialz (p' := 1453) (m := i + 2) (z := (xs (i + 2))) rfl rfl (inb_nI (by omega) (by omega)) (mI_cl (by omega)) rfl rfl ?_
    refine l_if (p' := 1460) true rfl rfl (bl_t hbb) rfl ?_
    refine l_con (p' := 1461) rfl rfl rfl ?_
    refine l_aldn (p' := 1462) rfl rfl rfl rfl ?_
    refine l_call (p' := 1465) (kc := 250) (ls0 := [_, _, _, _, _]) rfl rfl rfl rfl rfl rfl rfl rfl rfl rfl ?_
    refine hw.imp ?_
    rintro _ ⟨_, h1, rfl, rfl, hA1⟩
    show mj_lrun _ _ (1465, _, _, _) _
    try dsimp only
    refine l_ist (p' := 1467) (ls' := [_, _, _, _, _, _, _, _, _, _]) rfl rfl rfl rfl rfl ?_
    refine l_aldn (p' := 1468) rfl rfl rfl rfl ?_
    refine l_alds (p' := 1469) rfl rfl rfl rfl ?_
    refine l_ild (p' := 1471) rfl rfl rfl rfl ?_
    refine l_con (p' := 1472) rfl rfl rfl ?_
    refine l_bz (p' := 1473) (z := (nI (i + 1))) rfl rfl rfl rfl rfl (mI_add _ _) ?_
    refine l_ialz (p' := 1474) (m := i + 1) (z := (xs (i + 1))) rfl rfl (inb_nI (by omega) (by omega)) (mI_cl (by omega)) rfl rfl ?_
    refine l_alds (p' := 1475) rfl rfl rfl rfl ?_
    refine l_ild (p' := 1477) rfl rfl rfl rfl ?_
    refine l_con (p' := 1478) rfl rfl rfl ?_
    refine l_bz (p' := 1479) (z := (nI (i + 2))) rfl rfl rfl rfl rfl (mI_add _ _) ?_
    refine l_ialz (p' := 1480) (m := i + 2) (z := (xs (i + 2))) rfl rfl (inb_nI (by omega) (by omega)) (mI_cl (by omega)) rfl rfl ?_
    refine l_if (p' := 1487) true rfl rfl (bl_t hbb) rfl ?_
    refine l_con (p' := 1488) rfl rfl rfl ?_
    obtain ⟨fs4, q4⟩ := hA _ hA1
    refine l_call (p' := 1491) (kc := 250) (ls0 := [_, _, _, _, _]) rfl rfl rfl rfl rfl rfl (mj_rcv_is q4) rfl rfl rfl ?_
    refine (hm h1 hA1).imp ?_
    rintro _ ⟨_, h2, rfl, rfl, hB1⟩
    show mj_lrun _ _ (1491, _, _, _) _
    try dsimp only
    obtain ⟨rs5, q5⟩ := hB _ hB1
    refine l_ist (p' := 1493) (ls' := [_, _, _, _, _, _, _, _, _, _]) rfl rfl rfl rfl rfl ?_
    refine l_aldn (p' := 1494) rfl rfl rfl rfl ?_
    refine l_call (p' := 1497) (kc := 99) (ls0 := [_]) rfl rfl rfl rfl rfl rfl (mj_rcv_is q5) rfl rfl rfl ?_
    refine s_aldn (p' := 1) rfl rfl rfl ?_
    refine s_gf (p' := 4) rfl q5 rfl rfl ?_
    refine k_iret rfl rfl ?_
    refine l_ild (p' := 1499) rfl rfl rfl rfl ?_
    refine l_icmp (p' := 1504) true rfl rfl (ci_sf _) rfl ?_
    refine l_ild (p' := 1506) rfl rfl rfl rfl ?_
    refine l_if (p' := 1521) true rfl rfl (by decide +kernel) rfl ?_
    refine l_goto (p' := 2541) rfl rfl rfl ?_
    refine l_incz (p' := 2544) (w := (nI (i + 4))) (ls' := [_, _, _, _, _, _, _, _, _, _]) rfl rfl rfl rfl (mI_add _ _) rfl rfl ?_
    refine l_goto (p' := 28) rfl rfl rfl ?_
    exact hn _ _ _ _ _ hB1
theorem lr_26_0 {L i : Nat} {xs : Nat → Int32} {h : mj_H} {l6 l7 l8 l9 : Option Value} {P A B : mj_H → Prop} {b : Int32} (hL : L ≤ 2048) (hi : i + 4 ≤ L) (hk : xs i &&& nI 63 = nI 26) (hw : mj_Wp 250 199 (0, [some (.ref 0), some (.int (xs (i + 1))), some (.int (ci16 (xs (i + 2)))), some (.int (xs (i + 3))), some (.ref 412), none], [], h) (mz_V fun r g => r = .int (nI 0) ∧ A g)) (hA : ∀ g, A g → ∃ fs : List Value, mj_rd g 400 = some (.inr (17, fs))) (hm : ∀ g, A g → mj_Wp 250 412 (0, [some (.ref 400), some (.int (xs (i + 1))), some (.int (ci16 (xs (i + 2)))), some (.int (xs (i + 3))), none], [], g) (mz_V fun r g2 => r = .int b ∧ B g2)) (hB : ∀ g, B g → ∃ rs : List Value, mj_rd g 400 = some (.inr (17, .int (nI 0) :: rs)) ∧ ∃ ou : Nat → Int64, mj_rd g 412 = some (.inl (4, (1, .inr (.inl ou)))) ∧ ou 0 = Int32.toInt64 b) (hn : ∀ (l6 l7 l8 l9 : Option Value) (g : mj_H), B g → mj_lrun L xs (28, [some (.retAddr 1), some (.ref 0), some (.ref 400), some (.ref 412), some (.ref 413), some (.int (nI (i + 4))), l6, l7, l8, l9], [], g) P) : mj_lrun L xs (28, [some (.retAddr 1), some (.ref 0), some (.ref 400), some (.ref 412), some (.ref 413), some (.int (nI i)), l6, l7, l8, l9], [], h) P := by
  refine l_ild (p' := 30) rfl rfl rfl rfl ?_
  refine l_alds (p' := 31) rfl rfl rfl rfl ?_
  refine l_lens (p' := 32) rfl rfl rfl ?_
  refine l_con (p' := 33) rfl rfl rfl ?_
  refine l_bz (p' := 34) (z := (nI (L - 4))) rfl rfl rfl rfl rfl (mI_sub (by omega)) ?_
  refine l_icmp (p' := 37) false rfl rfl ((ci_gt (by omega) (by omega)).trans (decide_eq_false (by omega))) rfl ?_
  refine l_alds (p' := 38) rfl rfl rfl rfl ?_
  refine l_ild (p' := 40) rfl rfl rfl rfl ?_
  refine l_ialz (p' := 41) (m := i) (z := (xs i)) rfl rfl (inb_nI (by omega) (by omega)) (mI_cl (by omega)) rfl rfl ?_
  refine l_bip (p' := 43) rfl rfl rfl ?_
  refine l_bz (p' := 44) (z := (nI 26)) rfl rfl rfl rfl rfl hk ?_
  refine l_sp (p' := 1595) (ls' := _) rfl rfl rfl rfl rfl ?_
  refine l_aldn (p' := 1596) rfl rfl rfl rfl ?_
  refine l_alds (p' := 1597) rfl rfl rfl rfl ?_
  refine l_ild (p' := 1599) rfl rfl rfl rfl ?_
  refine l_con (p' := 1600) rfl rfl rfl ?_
  refine l_bz (p' := 1601) (z := (nI (i + 1))) rfl rfl rfl rfl rfl (mI_add _ _) ?_
  refine l_ialz (p' := 1602) (m := i + 1) (z := (xs (i + 1))) rfl rfl (inb_nI (by omega) (by omega)) (mI_cl (by omega)) rfl rfl ?_
  refine l_alds (p' := 1603) rfl rfl rfl rfl ?_
  refine l_ild (p' := 1605) rfl rfl rfl rfl ?_
  refine l_con (p' := 1606) rfl rfl rfl ?_
  refine l_bz (p' := 1607) (z := (nI (i + 2))) rfl rfl rfl rfl rfl (mI_add _ _) ?_
  refine l_ialz (p' := 1608) (m := i + 2) (z := (xs (i + 2))) rfl rfl (inb_nI (by omega) (by omega)) (mI_cl (by omega)) rfl rfl ?_
  refine l_bz (p' := 1609) (z := ci16 (xs (i + 2))) rfl rfl rfl rfl rfl rfl ?_
  refine l_alds (p' := 1610) rfl rfl rfl rfl ?_
  refine l_ild (p' := 1612) rfl rfl rfl rfl ?_
  refine l_con (p' := 1613) rfl rfl rfl ?_
  refine l_bz (p' := 1614) (z := (nI (i + 3))) rfl rfl rfl rfl rfl (mI_add _ _) ?_
  refine l_ialz (p' := 1615) (m := i + 3) (z := (xs (i + 3))) rfl rfl (inb_nI (by omega) (by omega)) (mI_cl (by omega)) rfl rfl ?_
  refine l_aldn (p' := 1616) rfl rfl rfl rfl ?_
  refine l_call (p' := 1619) (kc := 250) (ls0 := [_, _, _, _, _, _]) rfl rfl rfl rfl rfl rfl rfl rfl rfl rfl ?_
  refine hw.imp ?_
  rintro _ ⟨_, h1, rfl, rfl, hA1⟩
  show mj_lrun _ _ (1619, _, _, _) _
  try dsimp only
  refine l_ist (p' := 1621) (ls' := [_, _, _, _, _, _, _, _, _, _]) rfl rfl rfl rfl rfl ?_
  refine l_aldn (p' := 1622) rfl rfl rfl rfl ?_
  refine l_alds (p' := 1623) rfl rfl rfl rfl ?_
  refine l_ild (p' := 1625) rfl rfl rfl rfl ?_
  refine l_con (p' := 1626) rfl rfl rfl ?_
  refine l_bz (p' := 1627) (z := (nI (i + 1))) rfl rfl rfl rfl rfl (mI_add _ _) ?_
  refine l_ialz (p' := 1628) (m := i + 1) (z := (xs (i + 1))) rfl rfl (inb_nI (by omega) (by omega)) (mI_cl (by omega)) rfl rfl ?_
  refine l_alds (p' := 1629) rfl rfl rfl rfl ?_
  refine l_ild (p' := 1631) rfl rfl rfl rfl ?_
  refine l_con (p' := 1632) rfl rfl rfl ?_
  refine l_bz (p' := 1633) (z := (nI (i + 2))) rfl rfl rfl rfl rfl (mI_add _ _) ?_
  refine l_ialz (p' := 1634) (m := i + 2) (z := (xs (i + 2))) rfl rfl (inb_nI (by omega) (by omega)) (mI_cl (by omega)) rfl rfl ?_
  refine l_bz (p' := 1635) (z := ci16 (xs (i + 2))) rfl rfl rfl rfl rfl rfl ?_
  refine l_alds (p' := 1636) rfl rfl rfl rfl ?_
  refine l_ild (p' := 1638) rfl rfl rfl rfl ?_
  refine l_con (p' := 1639) rfl rfl rfl ?_
  refine l_bz (p' := 1640) (z := (nI (i + 3))) rfl rfl rfl rfl rfl (mI_add _ _) ?_
  refine l_ialz (p' := 1641) (m := i + 3) (z := (xs (i + 3))) rfl rfl (inb_nI (by omega) (by omega)) (mI_cl (by omega)) rfl rfl ?_
  obtain ⟨fs4, q4⟩ := hA _ hA1
  refine l_call (p' := 1644) (kc := 250) (ls0 := [_, _, _, _, _]) rfl rfl rfl rfl rfl rfl (mj_rcv_is q4) rfl rfl rfl ?_
  refine (hm h1 hA1).imp ?_
  rintro _ ⟨_, h2, rfl, rfl, hB1⟩
  show mj_lrun _ _ (1644, _, _, _) _
  try dsimp only
  obtain ⟨rs5, q5, ou, q6, q7⟩ := hB _ hB1
  refine l_ist (p' := 1646) (ls' := [_, _, _, _, _, _, _, _, _, _]) rfl rfl rfl rfl rfl ?_
  refine l_aldn (p' := 1647) rfl rfl rfl rfl ?_
  refine l_call (p' := 1650) (kc := 99) (ls0 := [_]) rfl rfl rfl rfl rfl rfl (mj_rcv_is q5) rfl rfl rfl ?_
  refine s_aldn (p' := 1) rfl rfl rfl ?_
  refine s_gf (p' := 4) rfl q5 rfl rfl ?_
  refine k_iret rfl rfl ?_
  refine l_ild (p' := 1652) rfl rfl rfl rfl ?_
  refine l_icmp (p' := 1657) true rfl rfl (ci_sf _) rfl ?_
  refine l_ild (p' := 1659) rfl rfl rfl rfl ?_
  refine l_if (p' := 1662) false rfl rfl (by decide +kernel) rfl ?_
  refine l_aldn (p' := 1663) rfl rfl rfl rfl ?_
  refine l_con (p' := 1664) rfl rfl rfl ?_
  refine l_lalz (p' := 1665) (m := 0) (v := Int32.toInt64 b) rfl rfl q6 (by decide) rfl q7 rfl ?_
  refine l_ild (p' := 1667) rfl rfl rfl rfl ?_
  refine l_bzL (p' := 1668) (z := Int32.toInt64 b) rfl rfl rfl rfl rfl rfl ?_
  refine l_bz (p' := 1669) (z := nI 0) rfl rfl rfl rfl rfl (lcmp_self _) ?_
  refine l_if (p' := 1674) true rfl rfl (by decide +kernel) rfl ?_
  refine l_goto (p' := 2541) rfl rfl rfl ?_
  refine l_incz (p' := 2544) (w := (nI (i + 4))) (ls' := [_, _, _, _, _, _, _, _, _, _]) rfl rfl rfl rfl (mI_add _ _) rfl rfl ?_
  refine l_goto (p' := 28) rfl rfl rfl ?_
  exact hn _ _ _ _ _ hB1
theorem lr_26_1 {L i : Nat} {xs : Nat → Int32} {h : mj_H} {l6 l7 l8 l9 : Option Value} {P A B : mj_H → Prop} {b : Int32} (hL : L ≤ 2048) (hi : i + 4 ≤ L) (hk : xs i &&& nI 63 = nI 26) (hw : mj_Wp 250 199 (0, [some (.ref 0), some (.int (xs (i + 1))), some (.int (ci16 (xs (i + 2)))), some (.int (xs (i + 3))), some (.ref 412), none], [], h) (mz_V fun r g => r = .int (nI 1) ∧ A g)) (hA : ∀ g, A g → ∃ fs : List Value, mj_rd g 400 = some (.inr (17, fs))) (hm : ∀ g, A g → mj_Wp 250 412 (0, [some (.ref 400), some (.int (xs (i + 1))), some (.int (ci16 (xs (i + 2)))), some (.int (xs (i + 3))), none], [], g) (mz_V fun r g2 => r = .int b ∧ B g2)) (hB : ∀ g, B g → ∃ rs : List Value, mj_rd g 400 = some (.inr (17, .int (nI 1) :: rs))) (hn : ∀ (l6 l7 l8 l9 : Option Value) (g : mj_H), B g → mj_lrun L xs (28, [some (.retAddr 1), some (.ref 0), some (.ref 400), some (.ref 412), some (.ref 413), some (.int (nI (i + 4))), l6, l7, l8, l9], [], g) P) : mj_lrun L xs (28, [some (.retAddr 1), some (.ref 0), some (.ref 400), some (.ref 412), some (.ref 413), some (.int (nI i)), l6, l7, l8, l9], [], h) P := by
  refine l_ild (p' := 30) rfl rfl rfl rfl ?_
  refine l_alds (p' := 31) rfl rfl rfl rfl ?_
  refine l_lens (p' := 32) rfl rfl rfl ?_
  refine l_con (p' := 33) rfl rfl rfl ?_
  refine l_bz (p' := 34) (z := (nI (L - 4))) rfl rfl rfl rfl rfl (mI_sub (by omega)) ?_
  refine l_icmp (p' := 37) false rfl rfl ((ci_gt (by omega) (by omega)).trans (decide_eq_false (by omega))) rfl ?_
  refine l_alds (p' := 38) rfl rfl rfl rfl ?_
  refine l_ild (p' := 40) rfl rfl rfl rfl ?_
  refine l_ialz (p' := 41) (m := i) (z := (xs i)) rfl rfl (inb_nI (by omega) (by omega)) (mI_cl (by omega)) rfl rfl ?_
  refine l_bip (p' := 43) rfl rfl rfl ?_
  refine l_bz (p' := 44) (z := (nI 26)) rfl rfl rfl rfl rfl hk ?_
  refine l_sp (p' := 1595) (ls' := _) rfl rfl rfl rfl rfl ?_
  refine l_aldn (p' := 1596) rfl rfl rfl rfl ?_
  refine l_alds (p' := 1597) rfl rfl rfl rfl ?_
  refine l_ild (p' := 1599) rfl rfl rfl rfl ?_
  refine l_con (p' := 1600) rfl rfl rfl ?_
  refine l_bz (p' := 1601) (z := (nI (i + 1))) rfl rfl rfl rfl rfl (mI_add _ _) ?_
  refine l_ialz (p' := 1602) (m := i + 1) (z := (xs (i + 1))) rfl rfl (inb_nI (by omega) (by omega)) (mI_cl (by omega)) rfl rfl ?_
  refine l_alds (p' := 1603) rfl rfl rfl rfl ?_
  refine l_ild (p' := 1605) rfl rfl rfl rfl ?_
  refine l_con (p' := 1606) rfl rfl rfl ?_
  refine l_bz (p' := 1607) (z := (nI (i + 2))) rfl rfl rfl rfl rfl (mI_add _ _) ?_
  refine l_ialz (p' := 1608) (m := i + 2) (z := (xs (i + 2))) rfl rfl (inb_nI (by omega) (by omega)) (mI_cl (by omega)) rfl rfl ?_
  refine l_bz (p' := 1609) (z := ci16 (xs (i + 2))) rfl rfl rfl rfl rfl rfl ?_
  refine l_alds (p' := 1610) rfl rfl rfl rfl ?_
  refine l_ild (p' := 1612) rfl rfl rfl rfl ?_
  refine l_con (p' := 1613) rfl rfl rfl ?_
  refine l_bz (p' := 1614) (z := (nI (i + 3))) rfl rfl rfl rfl rfl (mI_add _ _) ?_
  refine l_ialz (p' := 1615) (m := i + 3) (z := (xs (i + 3))) rfl rfl (inb_nI (by omega) (by omega)) (mI_cl (by omega)) rfl rfl ?_
  refine l_aldn (p' := 1616) rfl rfl rfl rfl ?_
  refine l_call (p' := 1619) (kc := 250) (ls0 := [_, _, _, _, _, _]) rfl rfl rfl rfl rfl rfl rfl rfl rfl rfl ?_
  refine hw.imp ?_
  rintro _ ⟨_, h1, rfl, rfl, hA1⟩
  show mj_lrun _ _ (1619, _, _, _) _
  try dsimp only
  refine l_ist (p' := 1621) (ls' := [_, _, _, _, _, _, _, _, _, _]) rfl rfl rfl rfl rfl ?_
  refine l_aldn (p' := 1622) rfl rfl rfl rfl ?_
  refine l_alds (p' := 1623) rfl rfl rfl rfl ?_
  refine l_ild (p' := 1625) rfl rfl rfl rfl ?_
  refine l_con (p' := 1626) rfl rfl rfl ?_
  refine l_bz (p' := 1627) (z := (nI (i + 1))) rfl rfl rfl rfl rfl (mI_add _ _) ?_
  refine l_ialz (p' := 1628) (m := i + 1) (z := (xs (i + 1))) rfl rfl (inb_nI (by omega) (by omega)) (mI_cl (by omega)) rfl rfl ?_
  refine l_alds (p' := 1629) rfl rfl rfl rfl ?_
  refine l_ild (p' := 1631) rfl rfl rfl rfl ?_
  refine l_con (p' := 1632) rfl rfl rfl ?_
  refine l_bz (p' := 1633) (z := (nI (i + 2))) rfl rfl rfl rfl rfl (mI_add _ _) ?_
  refine l_ialz (p' := 1634) (m := i + 2) (z := (xs (i + 2))) rfl rfl (inb_nI (by omega) (by omega)) (mI_cl (by omega)) rfl rfl ?_
  refine l_bz (p' := 1635) (z := ci16 (xs (i + 2))) rfl rfl rfl rfl rfl rfl ?_
  refine l_alds (p' := 1636) rfl rfl rfl rfl ?_
  refine l_ild (p' := 1638) rfl rfl rfl rfl ?_
  refine l_con (p' := 1639) rfl rfl rfl ?_
  refine l_bz (p' := 1640) (z := (nI (i + 3))) rfl rfl rfl rfl rfl (mI_add _ _) ?_
  refine l_ialz (p' := 1641) (m := i + 3) (z := (xs (i + 3))) rfl rfl (inb_nI (by omega) (by omega)) (mI_cl (by omega)) rfl rfl ?_
  obtain ⟨fs4, q4⟩ := hA _ hA1
  refine l_call (p' := 1644) (kc := 250) (ls0 := [_, _, _, _, _]) rfl rfl rfl rfl rfl rfl (mj_rcv_is q4) rfl rfl rfl ?_
  refine (hm h1 hA1).imp ?_
  rintro _ ⟨_, h2, rfl, rfl, hB1⟩
  show mj_lrun _ _ (1644, _, _, _) _
  try dsimp only
  obtain ⟨rs5, q5⟩ := hB _ hB1
  refine l_ist (p' := 1646) (ls' := [_, _, _, _, _, _, _, _, _, _]) rfl rfl rfl rfl rfl ?_
  refine l_aldn (p' := 1647) rfl rfl rfl rfl ?_
  refine l_call (p' := 1650) (kc := 99) (ls0 := [_]) rfl rfl rfl rfl rfl rfl (mj_rcv_is q5) rfl rfl rfl ?_
  refine s_aldn (p' := 1) rfl rfl rfl ?_
  refine s_gf (p' := 4) rfl q5 rfl rfl ?_
  refine k_iret rfl rfl ?_
  refine l_ild (p' := 1652) rfl rfl rfl rfl ?_
  refine l_icmp (p' := 1657) true rfl rfl (ci_sf _) rfl ?_
  refine l_ild (p' := 1659) rfl rfl rfl rfl ?_
  refine l_if (p' := 1674) true rfl rfl (by decide +kernel) rfl ?_
  refine l_goto (p' := 2541) rfl rfl rfl ?_
  refine l_incz (p' := 2544) (w := (nI (i + 4))) (ls' := [_, _, _, _, _, _, _, _, _, _]) rfl rfl rfl rfl (mI_add _ _) rfl rfl ?_
  refine l_goto (p' := 28) rfl rfl rfl ?_
  exact hn _ _ _ _ _ hB1
theorem lr_26_2 {L i : Nat} {xs : Nat → Int32} {h : mj_H} {l6 l7 l8 l9 : Option Value} {P A B : mj_H → Prop} {b : Int32} (hL : L ≤ 2048) (hi : i + 4 ≤ L) (hk : xs i &&& nI 63 = nI 26) (hw : mj_Wp 250 199 (0, [some (.ref 0), some (.int (xs (i + 1))), some (.int (ci16 (xs (i + 2)))), some (.int (xs (i + 3))), some (.ref 412), none], [], h) (mz_V fun r g => r = .int (nI 2) ∧ A g)) (hA : ∀ g, A g → ∃ fs : List Value, mj_rd g 400 = some (.inr (17, fs))) (hm : ∀ g, A g → mj_Wp 250 412 (0, [some (.ref 400), some (.int (xs (i + 1))), some (.int (ci16 (xs (i + 2)))), some (.int (xs (i + 3))), none], [], g) (mz_V fun r g2 => r = .int b ∧ B g2)) (hB : ∀ g, B g → ∃ rs : List Value, mj_rd g 400 = some (.inr (17, .int (nI 2) :: rs))) (hn : ∀ (l6 l7 l8 l9 : Option Value) (g : mj_H), B g → mj_lrun L xs (28, [some (.retAddr 1), some (.ref 0), some (.ref 400), some (.ref 412), some (.ref 413), some (.int (nI (i + 4))), l6, l7, l8, l9], [], g) P) : mj_lrun L xs (28, [some (.retAddr 1), some (.ref 0), some (.ref 400), some (.ref 412), some (.ref 413), some (.int (nI i)), l6, l7, l8, l9], [], h) P := by
  refine l_ild (p' := 30) rfl rfl rfl rfl ?_
  refine l_alds (p' := 31) rfl rfl rfl rfl ?_
  refine l_lens (p' := 32) rfl rfl rfl ?_
  refine l_con (p' := 33) rfl rfl rfl ?_
  refine l_bz (p' := 34) (z := (nI (L - 4))) rfl rfl rfl rfl rfl (mI_sub (by omega)) ?_
  refine l_icmp (p' := 37) false rfl rfl ((ci_gt (by omega) (by omega)).trans (decide_eq_false (by omega))) rfl ?_
  refine l_alds (p' := 38) rfl rfl rfl rfl ?_
  refine l_ild (p' := 40) rfl rfl rfl rfl ?_
  refine l_ialz (p' := 41) (m := i) (z := (xs i)) rfl rfl (inb_nI (by omega) (by omega)) (mI_cl (by omega)) rfl rfl ?_
  refine l_bip (p' := 43) rfl rfl rfl ?_
  refine l_bz (p' := 44) (z := (nI 26)) rfl rfl rfl rfl rfl hk ?_
  refine l_sp (p' := 1595) (ls' := _) rfl rfl rfl rfl rfl ?_
  refine l_aldn (p' := 1596) rfl rfl rfl rfl ?_
  refine l_alds (p' := 1597) rfl rfl rfl rfl ?_
  refine l_ild (p' := 1599) rfl rfl rfl rfl ?_
  refine l_con (p' := 1600) rfl rfl rfl ?_
  refine l_bz (p' := 1601) (z := (nI (i + 1))) rfl rfl rfl rfl rfl (mI_add _ _) ?_
  refine l_ialz (p' := 1602) (m := i + 1) (z := (xs (i + 1))) rfl rfl (inb_nI (by omega) (by omega)) (mI_cl (by omega)) rfl rfl ?_
  refine l_alds (p' := 1603) rfl rfl rfl rfl ?_
  refine l_ild (p' := 1605) rfl rfl rfl rfl ?_
  refine l_con (p' := 1606) rfl rfl rfl ?_
  refine l_bz (p' := 1607) (z := (nI (i + 2))) rfl rfl rfl rfl rfl (mI_add _ _) ?_
  refine l_ialz (p' := 1608) (m := i + 2) (z := (xs (i + 2))) rfl rfl (inb_nI (by omega) (by omega)) (mI_cl (by omega)) rfl rfl ?_
  refine l_bz (p' := 1609) (z := ci16 (xs (i + 2))) rfl rfl rfl rfl rfl rfl ?_
  refine l_alds (p' := 1610) rfl rfl rfl rfl ?_
  refine l_ild (p' := 1612) rfl rfl rfl rfl ?_
  refine l_con (p' := 1613) rfl rfl rfl ?_
  refine l_bz (p' := 1614) (z := (nI (i + 3))) rfl rfl rfl rfl rfl (mI_add _ _) ?_
  refine l_ialz (p' := 1615) (m := i + 3) (z := (xs (i + 3))) rfl rfl (inb_nI (by omega) (by omega)) (mI_cl (by omega)) rfl rfl ?_
  refine l_aldn (p' := 1616) rfl rfl rfl rfl ?_
  refine l_call (p' := 1619) (kc := 250) (ls0 := [_, _, _, _, _, _]) rfl rfl rfl rfl rfl rfl rfl rfl rfl rfl ?_
  refine hw.imp ?_
  rintro _ ⟨_, h1, rfl, rfl, hA1⟩
  show mj_lrun _ _ (1619, _, _, _) _
  try dsimp only
  refine l_ist (p' := 1621) (ls' := [_, _, _, _, _, _, _, _, _, _]) rfl rfl rfl rfl rfl ?_
  refine l_aldn (p' := 1622) rfl rfl rfl rfl ?_
  refine l_alds (p' := 1623) rfl rfl rfl rfl ?_
  refine l_ild (p' := 1625) rfl rfl rfl rfl ?_
  refine l_con (p' := 1626) rfl rfl rfl ?_
  refine l_bz (p' := 1627) (z := (nI (i + 1))) rfl rfl rfl rfl rfl (mI_add _ _) ?_
  refine l_ialz (p' := 1628) (m := i + 1) (z := (xs (i + 1))) rfl rfl (inb_nI (by omega) (by omega)) (mI_cl (by omega)) rfl rfl ?_
  refine l_alds (p' := 1629) rfl rfl rfl rfl ?_
  refine l_ild (p' := 1631) rfl rfl rfl rfl ?_
  refine l_con (p' := 1632) rfl rfl rfl ?_
  refine l_bz (p' := 1633) (z := (nI (i + 2))) rfl rfl rfl rfl rfl (mI_add _ _) ?_
  refine l_ialz (p' := 1634) (m := i + 2) (z := (xs (i + 2))) rfl rfl (inb_nI (by omega) (by omega)) (mI_cl (by omega)) rfl rfl ?_
  refine l_bz (p' := 1635) (z := ci16 (xs (i + 2))) rfl rfl rfl rfl rfl rfl ?_
  refine l_alds (p' := 1636) rfl rfl rfl rfl ?_
  refine l_ild (p' := 1638) rfl rfl rfl rfl ?_
  refine l_con (p' := 1639) rfl rfl rfl ?_
  refine l_bz (p' := 1640) (z := (nI (i + 3))) rfl rfl rfl rfl rfl (mI_add _ _) ?_
  refine l_ialz (p' := 1641) (m := i + 3) (z := (xs (i + 3))) rfl rfl (inb_nI (by omega) (by omega)) (mI_cl (by omega)) rfl rfl ?_
  obtain ⟨fs4, q4⟩ := hA _ hA1
  refine l_call (p' := 1644) (kc := 250) (ls0 := [_, _, _, _, _]) rfl rfl rfl rfl rfl rfl (mj_rcv_is q4) rfl rfl rfl ?_
  refine (hm h1 hA1).imp ?_
  rintro _ ⟨_, h2, rfl, rfl, hB1⟩
  show mj_lrun _ _ (1644, _, _, _) _
  try dsimp only
  obtain ⟨rs5, q5⟩ := hB _ hB1
  refine l_ist (p' := 1646) (ls' := [_, _, _, _, _, _, _, _, _, _]) rfl rfl rfl rfl rfl ?_
  refine l_aldn (p' := 1647) rfl rfl rfl rfl ?_
  refine l_call (p' := 1650) (kc := 99) (ls0 := [_]) rfl rfl rfl rfl rfl rfl (mj_rcv_is q5) rfl rfl rfl ?_
  refine s_aldn (p' := 1) rfl rfl rfl ?_
  refine s_gf (p' := 4) rfl q5 rfl rfl ?_
  refine k_iret rfl rfl ?_
  refine l_ild (p' := 1652) rfl rfl rfl rfl ?_
  refine l_icmp (p' := 1657) true rfl rfl (ci_sf _) rfl ?_
  refine l_ild (p' := 1659) rfl rfl rfl rfl ?_
  refine l_if (p' := 1674) true rfl rfl (by decide +kernel) rfl ?_
  refine l_goto (p' := 2541) rfl rfl rfl ?_
  refine l_incz (p' := 2544) (w := (nI (i + 4))) (ls' := [_, _, _, _, _, _, _, _, _, _]) rfl rfl rfl rfl (mI_add _ _) rfl rfl ?_
  refine l_goto (p' := 28) rfl rfl rfl ?_
  exact hn _ _ _ _ _ hB1
theorem lr_26_3 {L i : Nat} {xs : Nat → Int32} {h : mj_H} {l6 l7 l8 l9 : Option Value} {P A B : mj_H → Prop} {b : Int32} (hL : L ≤ 2048) (hi : i + 4 ≤ L) (hk : xs i &&& nI 63 = nI 26) (hw : mj_Wp 250 199 (0, [some (.ref 0), some (.int (xs (i + 1))), some (.int (ci16 (xs (i + 2)))), some (.int (xs (i + 3))), some (.ref 412), none], [], h) (mz_V fun r g => r = .int (nI 3) ∧ A g)) (hA : ∀ g, A g → ∃ fs : List Value, mj_rd g 400 = some (.inr (17, fs))) (hm : ∀ g, A g → mj_Wp 250 412 (0, [some (.ref 400), some (.int (xs (i + 1))), some (.int (ci16 (xs (i + 2)))), some (.int (xs (i + 3))), none], [], g) (mz_V fun r g2 => r = .int b ∧ B g2)) (hB : ∀ g, B g → ∃ rs : List Value, mj_rd g 400 = some (.inr (17, .int (nI 3) :: rs))) (hn : ∀ (l6 l7 l8 l9 : Option Value) (g : mj_H), B g → mj_lrun L xs (28, [some (.retAddr 1), some (.ref 0), some (.ref 400), some (.ref 412), some (.ref 413), some (.int (nI (i + 4))), l6, l7, l8, l9], [], g) P) : mj_lrun L xs (28, [some (.retAddr 1), some (.ref 0), some (.ref 400), some (.ref 412), some (.ref 413), some (.int (nI i)), l6, l7, l8, l9], [], h) P := by
  refine l_ild (p' := 30) rfl rfl rfl rfl ?_
  refine l_alds (p' := 31) rfl rfl rfl rfl ?_
  refine l_lens (p' := 32) rfl rfl rfl ?_
  refine l_con (p' := 33) rfl rfl rfl ?_
  refine l_bz (p' := 34) (z := (nI (L - 4))) rfl rfl rfl rfl rfl (mI_sub (by omega)) ?_
  refine l_icmp (p' := 37) false rfl rfl ((ci_gt (by omega) (by omega)).trans (decide_eq_false (by omega))) rfl ?_
  refine l_alds (p' := 38) rfl rfl rfl rfl ?_
  refine l_ild (p' := 40) rfl rfl rfl rfl ?_
  refine l_ialz (p' := 41) (m := i) (z := (xs i)) rfl rfl (inb_nI (by omega) (by omega)) (mI_cl (by omega)) rfl rfl ?_
  refine l_bip (p' := 43) rfl rfl rfl ?_
  refine l_bz (p' := 44) (z := (nI 26)) rfl rfl rfl rfl rfl hk ?_
  refine l_sp (p' := 1595) (ls' := _) rfl rfl rfl rfl rfl ?_
  refine l_aldn (p' := 1596) rfl rfl rfl rfl ?_
  refine l_alds (p' := 1597) rfl rfl rfl rfl ?_
  refine l_ild (p' := 1599) rfl rfl rfl rfl ?_
  refine l_con (p' := 1600) rfl rfl rfl ?_
  refine l_bz (p' := 1601) (z := (nI (i + 1))) rfl rfl rfl rfl rfl (mI_add _ _) ?_
  refine l_ialz (p' := 1602) (m := i + 1) (z := (xs (i + 1))) rfl rfl (inb_nI (by omega) (by omega)) (mI_cl (by omega)) rfl rfl ?_
  refine l_alds (p' := 1603) rfl rfl rfl rfl ?_
  refine l_ild (p' := 1605) rfl rfl rfl rfl ?_
  refine l_con (p' := 1606) rfl rfl rfl ?_
  refine l_bz (p' := 1607) (z := (nI (i + 2))) rfl rfl rfl rfl rfl (mI_add _ _) ?_
  refine l_ialz (p' := 1608) (m := i + 2) (z := (xs (i + 2))) rfl rfl (inb_nI (by omega) (by omega)) (mI_cl (by omega)) rfl rfl ?_
  refine l_bz (p' := 1609) (z := ci16 (xs (i + 2))) rfl rfl rfl rfl rfl rfl ?_
  refine l_alds (p' := 1610) rfl rfl rfl rfl ?_
  refine l_ild (p' := 1612) rfl rfl rfl rfl ?_
  refine l_con (p' := 1613) rfl rfl rfl ?_
  refine l_bz (p' := 1614) (z := (nI (i + 3))) rfl rfl rfl rfl rfl (mI_add _ _) ?_
  refine l_ialz (p' := 1615) (m := i + 3) (z := (xs (i + 3))) rfl rfl (inb_nI (by omega) (by omega)) (mI_cl (by omega)) rfl rfl ?_
  refine l_aldn (p' := 1616) rfl rfl rfl rfl ?_
  refine l_call (p' := 1619) (kc := 250) (ls0 := [_, _, _, _, _, _]) rfl rfl rfl rfl rfl rfl rfl rfl rfl rfl ?_
  refine hw.imp ?_
  rintro _ ⟨_, h1, rfl, rfl, hA1⟩
  show mj_lrun _ _ (1619, _, _, _) _
  try dsimp only
  refine l_ist (p' := 1621) (ls' := [_, _, _, _, _, _, _, _, _, _]) rfl rfl rfl rfl rfl ?_
  refine l_aldn (p' := 1622) rfl rfl rfl rfl ?_
  refine l_alds (p' := 1623) rfl rfl rfl rfl ?_
  refine l_ild (p' := 1625) rfl rfl rfl rfl ?_
  refine l_con (p' := 1626) rfl rfl rfl ?_
  refine l_bz (p' := 1627) (z := (nI (i + 1))) rfl rfl rfl rfl rfl (mI_add _ _) ?_
  refine l_ialz (p' := 1628) (m := i + 1) (z := (xs (i + 1))) rfl rfl (inb_nI (by omega) (by omega)) (mI_cl (by omega)) rfl rfl ?_
  refine l_alds (p' := 1629) rfl rfl rfl rfl ?_
  refine l_ild (p' := 1631) rfl rfl rfl rfl ?_
  refine l_con (p' := 1632) rfl rfl rfl ?_
  refine l_bz (p' := 1633) (z := (nI (i + 2))) rfl rfl rfl rfl rfl (mI_add _ _) ?_
  refine l_ialz (p' := 1634) (m := i + 2) (z := (xs (i + 2))) rfl rfl (inb_nI (by omega) (by omega)) (mI_cl (by omega)) rfl rfl ?_
  refine l_bz (p' := 1635) (z := ci16 (xs (i + 2))) rfl rfl rfl rfl rfl rfl ?_
  refine l_alds (p' := 1636) rfl rfl rfl rfl ?_
  refine l_ild (p' := 1638) rfl rfl rfl rfl ?_
  refine l_con (p' := 1639) rfl rfl rfl ?_
  refine l_bz (p' := 1640) (z := (nI (i + 3))) rfl rfl rfl rfl rfl (mI_add _ _) ?_
  refine l_ialz (p' := 1641) (m := i + 3) (z := (xs (i + 3))) rfl rfl (inb_nI (by omega) (by omega)) (mI_cl (by omega)) rfl rfl ?_
  obtain ⟨fs4, q4⟩ := hA _ hA1
  refine l_call (p' := 1644) (kc := 250) (ls0 := [_, _, _, _, _]) rfl rfl rfl rfl rfl rfl (mj_rcv_is q4) rfl rfl rfl ?_
  refine (hm h1 hA1).imp ?_
  rintro _ ⟨_, h2, rfl, rfl, hB1⟩
  show mj_lrun _ _ (1644, _, _, _) _
  try dsimp only
  obtain ⟨rs5, q5⟩ := hB _ hB1
  refine l_ist (p' := 1646) (ls' := [_, _, _, _, _, _, _, _, _, _]) rfl rfl rfl rfl rfl ?_
  refine l_aldn (p' := 1647) rfl rfl rfl rfl ?_
  refine l_call (p' := 1650) (kc := 99) (ls0 := [_]) rfl rfl rfl rfl rfl rfl (mj_rcv_is q5) rfl rfl rfl ?_
  refine s_aldn (p' := 1) rfl rfl rfl ?_
  refine s_gf (p' := 4) rfl q5 rfl rfl ?_
  refine k_iret rfl rfl ?_
  refine l_ild (p' := 1652) rfl rfl rfl rfl ?_
  refine l_icmp (p' := 1657) true rfl rfl (ci_sf _) rfl ?_
  refine l_ild (p' := 1659) rfl rfl rfl rfl ?_
  refine l_if (p' := 1674) true rfl rfl (by decide +kernel) rfl ?_
  refine l_goto (p' := 2541) rfl rfl rfl ?_
  refine l_incz (p' := 2544) (w := (nI (i + 4))) (ls' := [_, _, _, _, _, _, _, _, _, _]) rfl rfl rfl rfl (mI_add _ _) rfl rfl ?_
  refine l_goto (p' := 28) rfl rfl rfl ?_
  exact hn _ _ _ _ _ hB1
theorem lr_27_0 {L i : Nat} {xs : Nat → Int32} {h : mj_H} {l6 l7 l8 l9 : Option Value} {P A B : mj_H → Prop} {b : Int32} (hL : L ≤ 2048) (hi : i + 4 ≤ L) (hk : xs i &&& nI 63 = nI 27) (hw : mj_Wp 250 202 (0, [some (.ref 0), some (.int (xs (i + 1))), some (.int (ci16 (xs (i + 2)))), some (.ref 412), none], [], h) (mz_V fun r g => r = .int (nI 0) ∧ A g)) (hA : ∀ g, A g → ∃ fs : List Value, mj_rd g 400 = some (.inr (17, fs))) (hm : ∀ g, A g → mj_Wp 250 413 (0, [some (.ref 400), some (.int (xs (i + 1))), some (.int (ci16 (xs (i + 2))))], [], g) (mz_V fun r g2 => r = .int b ∧ B g2)) (hB : ∀ g, B g → ∃ rs : List Value, mj_rd g 400 = some (.inr (17, .int (nI 0) :: rs)) ∧ ∃ ou : Nat → Int64, mj_rd g 412 = some (.inl (4, (1, .inr (.inl ou)))) ∧ ou 0 = Int32.toInt64 b) (hn : ∀ (l6 l7 l8 l9 : Option Value) (g : mj_H), B g → mj_lrun L xs (28, [some (.retAddr 1), some (.ref 0), some (.ref 400), some (.ref 412), some (.ref 413), some (.int (nI (i + 4))), l6, l7, l8, l9], [], g) P) : mj_lrun L xs (28, [some (.retAddr 1), some (.ref 0), some (.ref 400), some (.ref 412), some (.ref 413), some (.int (nI i)), l6, l7, l8, l9], [], h) P := by
  refine l_ild (p' := 30) rfl rfl rfl rfl ?_
  refine l_alds (p' := 31) rfl rfl rfl rfl ?_
  refine l_lens (p' := 32) rfl rfl rfl ?_
  refine l_con (p' := 33) rfl rfl rfl ?_
  refine l_bz (p' := 34) (z := (nI (L - 4))) rfl rfl rfl rfl rfl (mI_sub (by omega)) ?_
  refine l_icmp (p' := 37) false rfl rfl ((ci_gt (by omega) (by omega)).trans (decide_eq_false (by omega))) rfl ?_
  refine l_alds (p' := 38) rfl rfl rfl rfl ?_
  refine l_ild (p' := 40) rfl rfl rfl rfl ?_
  refine l_ialz (p' := 41) (m := i) (z := (xs i)) rfl rfl (inb_nI (by omega) (by omega)) (mI_cl (by omega)) rfl rfl ?_
  refine l_bip (p' := 43) rfl rfl rfl ?_
  refine l_bz (p' := 44) (z := (nI 27)) rfl rfl rfl rfl rfl hk ?_
  refine l_sp (p' := 1677) (ls' := _) rfl rfl rfl rfl rfl ?_
  refine l_aldn (p' := 1678) rfl rfl rfl rfl ?_
  refine l_alds (p' := 1679) rfl rfl rfl rfl ?_
  refine l_ild (p' := 1681) rfl rfl rfl rfl ?_
  refine l_con (p' := 1682) rfl rfl rfl ?_
  refine l_bz (p' := 1683) (z := (nI (i + 1))) rfl rfl rfl rfl rfl (mI_add _ _) ?_
  refine l_ialz (p' := 1684) (m := i + 1) (z := (xs (i + 1))) rfl rfl (inb_nI (by omega) (by omega)) (mI_cl (by omega)) rfl rfl ?_
  refine l_alds (p' := 1685) rfl rfl rfl rfl ?_
  refine l_ild (p' := 1687) rfl rfl rfl rfl ?_
  refine l_con (p' := 1688) rfl rfl rfl ?_
  refine l_bz (p' := 1689) (z := (nI (i + 2))) rfl rfl rfl rfl rfl (mI_add _ _) ?_
  refine l_ialz (p' := 1690) (m := i + 2) (z := (xs (i + 2))) rfl rfl (inb_nI (by omega) (by omega)) (mI_cl (by omega)) rfl rfl ?_
  refine l_bz (p' := 1691) (z := ci16 (xs (i + 2))) rfl rfl rfl rfl rfl rfl ?_
  refine l_aldn (p' := 1692) rfl rfl rfl rfl ?_
  refine l_call (p' := 1695) (kc := 250) (ls0 := [_, _, _, _, _]) rfl rfl rfl rfl rfl rfl rfl rfl rfl rfl ?_
  refine hw.imp ?_
  rintro _ ⟨_, h1, rfl, rfl, hA1⟩
  show mj_lrun _ _ (1695, _, _, _) _
  try dsimp only
  refine l_ist (p' := 1697) (ls' := [_, _, _, _, _, _, _, _, _, _]) rfl rfl rfl rfl rfl ?_
  refine l_aldn (p' := 1698) rfl rfl rfl rfl ?_
  refine l_alds (p' := 1699) rfl rfl rfl rfl ?_
  refine l_ild (p' := 1701) rfl rfl rfl rfl ?_
  refine l_con (p' := 1702) rfl rfl rfl ?_
  refine l_bz (p' := 1703) (z := (nI (i + 1))) rfl rfl rfl rfl rfl (mI_add _ _) ?_
  refine l_ialz (p' := 1704) (m := i + 1) (z := (xs (i + 1))) rfl rfl (inb_nI (by omega) (by omega)) (mI_cl (by omega)) rfl rfl ?_
  refine l_alds (p' := 1705) rfl rfl rfl rfl ?_
  refine l_ild (p' := 1707) rfl rfl rfl rfl ?_
  refine l_con (p' := 1708) rfl rfl rfl ?_
  refine l_bz (p' := 1709) (z := (nI (i + 2))) rfl rfl rfl rfl rfl (mI_add _ _) ?_
  refine l_ialz (p' := 1710) (m := i + 2) (z := (xs (i + 2))) rfl rfl (inb_nI (by omega) (by omega)) (mI_cl (by omega)) rfl rfl ?_
  refine l_bz (p' := 1711) (z := ci16 (xs (i + 2))) rfl rfl rfl rfl rfl rfl ?_
  obtain ⟨fs4, q4⟩ := hA _ hA1
  refine l_call (p' := 1714) (kc := 250) (ls0 := [_, _, _]) rfl rfl rfl rfl rfl rfl (mj_rcv_is q4) rfl rfl rfl ?_
  refine (hm h1 hA1).imp ?_
  rintro _ ⟨_, h2, rfl, rfl, hB1⟩
  show mj_lrun _ _ (1714, _, _, _) _
  try dsimp only
  obtain ⟨rs5, q5, ou, q6, q7⟩ := hB _ hB1
  refine l_ist (p' := 1716) (ls' := [_, _, _, _, _, _, _, _, _, _]) rfl rfl rfl rfl rfl ?_
  refine l_aldn (p' := 1717) rfl rfl rfl rfl ?_
  refine l_call (p' := 1720) (kc := 99) (ls0 := [_]) rfl rfl rfl rfl rfl rfl (mj_rcv_is q5) rfl rfl rfl ?_
  refine s_aldn (p' := 1) rfl rfl rfl ?_
  refine s_gf (p' := 4) rfl q5 rfl rfl ?_
  refine k_iret rfl rfl ?_
  refine l_ild (p' := 1722) rfl rfl rfl rfl ?_
  refine l_icmp (p' := 1727) true rfl rfl (ci_sf _) rfl ?_
  refine l_ild (p' := 1729) rfl rfl rfl rfl ?_
  refine l_if (p' := 1732) false rfl rfl (by decide +kernel) rfl ?_
  refine l_aldn (p' := 1733) rfl rfl rfl rfl ?_
  refine l_con (p' := 1734) rfl rfl rfl ?_
  refine l_lalz (p' := 1735) (m := 0) (v := Int32.toInt64 b) rfl rfl q6 (by decide) rfl q7 rfl ?_
  refine l_ild (p' := 1737) rfl rfl rfl rfl ?_
  refine l_bzL (p' := 1738) (z := Int32.toInt64 b) rfl rfl rfl rfl rfl rfl ?_
  refine l_bz (p' := 1739) (z := nI 0) rfl rfl rfl rfl rfl (lcmp_self _) ?_
  refine l_if (p' := 1744) true rfl rfl (by decide +kernel) rfl ?_
  refine l_goto (p' := 2541) rfl rfl rfl ?_
  refine l_incz (p' := 2544) (w := (nI (i + 4))) (ls' := [_, _, _, _, _, _, _, _, _, _]) rfl rfl rfl rfl (mI_add _ _) rfl rfl ?_
  refine l_goto (p' := 28) rfl rfl rfl ?_
  exact hn _ _ _ _ _ hB1
theorem lr_27_1 {L i : Nat} {xs : Nat → Int32} {h : mj_H} {l6 l7 l8 l9 : Option Value} {P A B : mj_H → Prop} {b : Int32} (hL : L ≤ 2048) (hi : i + 4 ≤ L) (hk : xs i &&& nI 63 = nI 27) (hw : mj_Wp 250 202 (0, [some (.ref 0), some (.int (xs (i + 1))), some (.int (ci16 (xs (i + 2)))), some (.ref 412), none], [], h) (mz_V fun r g => r = .int (nI 1) ∧ A g)) (hA : ∀ g, A g → ∃ fs : List Value, mj_rd g 400 = some (.inr (17, fs))) (hm : ∀ g, A g → mj_Wp 250 413 (0, [some (.ref 400), some (.int (xs (i + 1))), some (.int (ci16 (xs (i + 2))))], [], g) (mz_V fun r g2 => r = .int b ∧ B g2)) (hB : ∀ g, B g → ∃ rs : List Value, mj_rd g 400 = some (.inr (17, .int (nI 1) :: rs))) (hn : ∀ (l6 l7 l8 l9 : Option Value) (g : mj_H), B g → mj_lrun L xs (28, [some (.retAddr 1), some (.ref 0), some (.ref 400), some (.ref 412), some (.ref 413), some (.int (nI (i + 4))), l6, l7, l8, l9], [], g) P) : mj_lrun L xs (28, [some (.retAddr 1), some (.ref 0), some (.ref 400), some (.ref 412), some (.ref 413), some (.int (nI i)), l6, l7, l8, l9], [], h) P := by
  refine l_ild (p' := 30) rfl rfl rfl rfl ?_
  refine l_alds (p' := 31) rfl rfl rfl rfl ?_
  refine l_lens (p' := 32) rfl rfl rfl ?_
  refine l_con (p' := 33) rfl rfl rfl ?_
  refine l_bz (p' := 34) (z := (nI (L - 4))) rfl rfl rfl rfl rfl (mI_sub (by omega)) ?_
  refine l_icmp (p' := 37) false rfl rfl ((ci_gt (by omega) (by omega)).trans (decide_eq_false (by omega))) rfl ?_
  refine l_alds (p' := 38) rfl rfl rfl rfl ?_
  refine l_ild (p' := 40) rfl rfl rfl rfl ?_
  refine l_ialz (p' := 41) (m := i) (z := (xs i)) rfl rfl (inb_nI (by omega) (by omega)) (mI_cl (by omega)) rfl rfl ?_
  refine l_bip (p' := 43) rfl rfl rfl ?_
  refine l_bz (p' := 44) (z := (nI 27)) rfl rfl rfl rfl rfl hk ?_
  refine l_sp (p' := 1677) (ls' := _) rfl rfl rfl rfl rfl ?_
  refine l_aldn (p' := 1678) rfl rfl rfl rfl ?_
  refine l_alds (p' := 1679) rfl rfl rfl rfl ?_
  refine l_ild (p' := 1681) rfl rfl rfl rfl ?_
  refine l_con (p' := 1682) rfl rfl rfl ?_
  refine l_bz (p' := 1683) (z := (nI (i + 1))) rfl rfl rfl rfl rfl (mI_add _ _) ?_
  refine l_ialz (p' := 1684) (m := i + 1) (z := (xs (i + 1))) rfl rfl (inb_nI (by omega) (by omega)) (mI_cl (by omega)) rfl rfl ?_
  refine l_alds (p' := 1685) rfl rfl rfl rfl ?_
  refine l_ild (p' := 1687) rfl rfl rfl rfl ?_
  refine l_con (p' := 1688) rfl rfl rfl ?_
  refine l_bz (p' := 1689) (z := (nI (i + 2))) rfl rfl rfl rfl rfl (mI_add _ _) ?_
  refine l_ialz (p' := 1690) (m := i + 2) (z := (xs (i + 2))) rfl rfl (inb_nI (by omega) (by omega)) (mI_cl (by omega)) rfl rfl ?_
  refine l_bz (p' := 1691) (z := ci16 (xs (i + 2))) rfl rfl rfl rfl rfl rfl ?_
  refine l_aldn (p' := 1692) rfl rfl rfl rfl ?_
  refine l_call (p' := 1695) (kc := 250) (ls0 := [_, _, _, _, _]) rfl rfl rfl rfl rfl rfl rfl rfl rfl rfl ?_
  refine hw.imp ?_
  rintro _ ⟨_, h1, rfl, rfl, hA1⟩
  show mj_lrun _ _ (1695, _, _, _) _
  try dsimp only
  refine l_ist (p' := 1697) (ls' := [_, _, _, _, _, _, _, _, _, _]) rfl rfl rfl rfl rfl ?_
  refine l_aldn (p' := 1698) rfl rfl rfl rfl ?_
  refine l_alds (p' := 1699) rfl rfl rfl rfl ?_
  refine l_ild (p' := 1701) rfl rfl rfl rfl ?_
  refine l_con (p' := 1702) rfl rfl rfl ?_
  refine l_bz (p' := 1703) (z := (nI (i + 1))) rfl rfl rfl rfl rfl (mI_add _ _) ?_
  refine l_ialz (p' := 1704) (m := i + 1) (z := (xs (i + 1))) rfl rfl (inb_nI (by omega) (by omega)) (mI_cl (by omega)) rfl rfl ?_
  refine l_alds (p' := 1705) rfl rfl rfl rfl ?_
  refine l_ild (p' := 1707) rfl rfl rfl rfl ?_
  refine l_con (p' := 1708) rfl rfl rfl ?_
  refine l_bz (p' := 1709) (z := (nI (i + 2))) rfl rfl rfl rfl rfl (mI_add _ _) ?_
  refine l_ialz (p' := 1710) (m := i + 2) (z := (xs (i + 2))) rfl rfl (inb_nI (by omega) (by omega)) (mI_cl (by omega)) rfl rfl ?_
  refine l_bz (p' := 1711) (z := ci16 (xs (i + 2))) rfl rfl rfl rfl rfl rfl ?_
  obtain ⟨fs4, q4⟩ := hA _ hA1
  refine l_call (p' := 1714) (kc := 250) (ls0 := [_, _, _]) rfl rfl rfl rfl rfl rfl (mj_rcv_is q4) rfl rfl rfl ?_
  refine (hm h1 hA1).imp ?_
  rintro _ ⟨_, h2, rfl, rfl, hB1⟩
  show mj_lrun _ _ (1714, _, _, _) _
  try dsimp only
  obtain ⟨rs5, q5⟩ := hB _ hB1
  refine l_ist (p' := 1716) (ls' := [_, _, _, _, _, _, _, _, _, _]) rfl rfl rfl rfl rfl ?_
  refine l_aldn (p' := 1717) rfl rfl rfl rfl ?_
  refine l_call (p' := 1720) (kc := 99) (ls0 := [_]) rfl rfl rfl rfl rfl rfl (mj_rcv_is q5) rfl rfl rfl ?_
  refine s_aldn (p' := 1) rfl rfl rfl ?_
  refine s_gf (p' := 4) rfl q5 rfl rfl ?_
  refine k_iret rfl rfl ?_
  refine l_ild (p' := 1722) rfl rfl rfl rfl ?_
  refine l_icmp (p' := 1727) true rfl rfl (ci_sf _) rfl ?_
  refine l_ild (p' := 1729) rfl rfl rfl rfl ?_
  refine l_if (p' := 1744) true rfl rfl (by decide +kernel) rfl ?_
  refine l_goto (p' := 2541) rfl rfl rfl ?_
  refine l_incz (p' := 2544) (w := (nI (i + 4))) (ls' := [_, _, _, _, _, _, _, _, _, _]) rfl rfl rfl rfl (mI_add _ _) rfl rfl ?_
  refine l_goto (p' := 28) rfl rfl rfl ?_
  exact hn _ _ _ _ _ hB1
theorem lr_27_2 {L i : Nat} {xs : Nat → Int32} {h : mj_H} {l6 l7 l8 l9 : Option Value} {P A B : mj_H → Prop} {b : Int32} (hL : L ≤ 2048) (hi : i + 4 ≤ L) (hk : xs i &&& nI 63 = nI 27) (hw : mj_Wp 250 202 (0, [some (.ref 0), some (.int (xs (i + 1))), some (.int (ci16 (xs (i + 2)))), some (.ref 412), none], [], h) (mz_V fun r g => r = .int (nI 2) ∧ A g)) (hA : ∀ g, A g → ∃ fs : List Value, mj_rd g 400 = some (.inr (17, fs))) (hm : ∀ g, A g → mj_Wp 250 413 (0, [some (.ref 400), some (.int (xs (i + 1))), some (.int (ci16 (xs (i + 2))))], [], g) (mz_V fun r g2 => r = .int b ∧ B g2)) (hB : ∀ g, B g → ∃ rs : List Value, mj_rd g 400 = some (.inr (17, .int (nI 2) :: rs))) (hn : ∀ (l6 l7 l8 l9 : Option Value) (g : mj_H), B g → mj_lrun L xs (28, [some (.retAddr 1), some (.ref 0), some (.ref 400), some (.ref 412), some (.ref 413), some (.int (nI (i + 4))), l6, l7, l8, l9], [], g) P) : mj_lrun L xs (28, [some (.retAddr 1), some (.ref 0), some (.ref 400), some (.ref 412), some (.ref 413), some (.int (nI i)), l6, l7, l8, l9], [], h) P := by
  refine l_ild (p' := 30) rfl rfl rfl rfl ?_
  refine l_alds (p' := 31) rfl rfl rfl rfl ?_
  refine l_lens (p' := 32) rfl rfl rfl ?_
  refine l_con (p' := 33) rfl rfl rfl ?_
  refine l_bz (p' := 34) (z := (nI (L - 4))) rfl rfl rfl rfl rfl (mI_sub (by omega)) ?_
  refine l_icmp (p' := 37) false rfl rfl ((ci_gt (by omega) (by omega)).trans (decide_eq_false (by omega))) rfl ?_
  refine l_alds (p' := 38) rfl rfl rfl rfl ?_
  refine l_ild (p' := 40) rfl rfl rfl rfl ?_
  refine l_ialz (p' := 41) (m := i) (z := (xs i)) rfl rfl (inb_nI (by omega) (by omega)) (mI_cl (by omega)) rfl rfl ?_
  refine l_bip (p' := 43) rfl rfl rfl ?_
  refine l_bz (p' := 44) (z := (nI 27)) rfl rfl rfl rfl rfl hk ?_
  refine l_sp (p' := 1677) (ls' := _) rfl rfl rfl rfl rfl ?_
  refine l_aldn (p' := 1678) rfl rfl rfl rfl ?_
  refine l_alds (p' := 1679) rfl rfl rfl rfl ?_
  refine l_ild (p' := 1681) rfl rfl rfl rfl ?_
  refine l_con (p' := 1682) rfl rfl rfl ?_
  refine l_bz (p' := 1683) (z := (nI (i + 1))) rfl rfl rfl rfl rfl (mI_add _ _) ?_
  refine l_ialz (p' := 1684) (m := i + 1) (z := (xs (i + 1))) rfl rfl (inb_nI (by omega) (by omega)) (mI_cl (by omega)) rfl rfl ?_
  refine l_alds (p' := 1685) rfl rfl rfl rfl ?_
  refine l_ild (p' := 1687) rfl rfl rfl rfl ?_
  refine l_con (p' := 1688) rfl rfl rfl ?_
  refine l_bz (p' := 1689) (z := (nI (i + 2))) rfl rfl rfl rfl rfl (mI_add _ _) ?_
  refine l_ialz (p' := 1690) (m := i + 2) (z := (xs (i + 2))) rfl rfl (inb_nI (by omega) (by omega)) (mI_cl (by omega)) rfl rfl ?_
  refine l_bz (p' := 1691) (z := ci16 (xs (i + 2))) rfl rfl rfl rfl rfl rfl ?_
  refine l_aldn (p' := 1692) rfl rfl rfl rfl ?_
  refine l_call (p' := 1695) (kc := 250) (ls0 := [_, _, _, _, _]) rfl rfl rfl rfl rfl rfl rfl rfl rfl rfl ?_
  refine hw.imp ?_
  rintro _ ⟨_, h1, rfl, rfl, hA1⟩
  show mj_lrun _ _ (1695, _, _, _) _
  try dsimp only
  refine l_ist (p' := 1697) (ls' := [_, _, _, _, _, _, _, _, _, _]) rfl rfl rfl rfl rfl ?_
  refine l_aldn (p' := 1698) rfl rfl rfl rfl ?_
  refine l_alds (p' := 1699) rfl rfl rfl rfl ?_
  refine l_ild (p' := 1701) rfl rfl rfl rfl ?_
  refine l_con (p' := 1702) rfl rfl rfl ?_
  refine l_bz (p' := 1703) (z := (nI (i + 1))) rfl rfl rfl rfl rfl (mI_add _ _) ?_
  refine l_ialz (p' := 1704) (m := i + 1) (z := (xs (i + 1))) rfl rfl (inb_nI (by omega) (by omega)) (mI_cl (by omega)) rfl rfl ?_
  refine l_alds (p' := 1705) rfl rfl rfl rfl ?_
  refine l_ild (p' := 1707) rfl rfl rfl rfl ?_
  refine l_con (p' := 1708) rfl rfl rfl ?_
  refine l_bz (p' := 1709) (z := (nI (i + 2))) rfl rfl rfl rfl rfl (mI_add _ _) ?_
  refine l_ialz (p' := 1710) (m := i + 2) (z := (xs (i + 2))) rfl rfl (inb_nI (by omega) (by omega)) (mI_cl (by omega)) rfl rfl ?_
  refine l_bz (p' := 1711) (z := ci16 (xs (i + 2))) rfl rfl rfl rfl rfl rfl ?_
  obtain ⟨fs4, q4⟩ := hA _ hA1
  refine l_call (p' := 1714) (kc := 250) (ls0 := [_, _, _]) rfl rfl rfl rfl rfl rfl (mj_rcv_is q4) rfl rfl rfl ?_
  refine (hm h1 hA1).imp ?_
  rintro _ ⟨_, h2, rfl, rfl, hB1⟩
  show mj_lrun _ _ (1714, _, _, _) _
  try dsimp only
  obtain ⟨rs5, q5⟩ := hB _ hB1
  refine l_ist (p' := 1716) (ls' := [_, _, _, _, _, _, _, _, _, _]) rfl rfl rfl rfl rfl ?_
  refine l_aldn (p' := 1717) rfl rfl rfl rfl ?_
  refine l_call (p' := 1720) (kc := 99) (ls0 := [_]) rfl rfl rfl rfl rfl rfl (mj_rcv_is q5) rfl rfl rfl ?_
  refine s_aldn (p' := 1) rfl rfl rfl ?_
  refine s_gf (p' := 4) rfl q5 rfl rfl ?_
  refine k_iret rfl rfl ?_
  refine l_ild (p' := 1722) rfl rfl rfl rfl ?_
  refine l_icmp (p' := 1727) true rfl rfl (ci_sf _) rfl ?_
  refine l_ild (p' := 1729) rfl rfl rfl rfl ?_
  refine l_if (p' := 1744) true rfl rfl (by decide +kernel) rfl ?_
  refine l_goto (p' := 2541) rfl rfl rfl ?_
  refine l_incz (p' := 2544) (w := (nI (i + 4))) (ls' := [_, _, _, _, _, _, _, _, _, _]) rfl rfl rfl rfl (mI_add _ _) rfl rfl ?_
  refine l_goto (p' := 28) rfl rfl rfl ?_
  exact hn _ _ _ _ _ hB1
theorem lr_28_0 {L i : Nat} {xs : Nat → Int32} {h : mj_H} {l6 l7 l8 l9 : Option Value} {P A B : mj_H → Prop} {b : Int32} (hL : L ≤ 2048) (hi : i + 4 ≤ L) (hk : xs i &&& nI 63 = nI 28) (hw : mj_Wp 250 204 (0, [some (.ref 0), some (.int (xs (i + 1))), some (.int (ci16 (xs (i + 2)))), some (.ref 412), none], [], h) (mz_V fun r g => r = .int (nI 0) ∧ A g)) (hA : ∀ g, A g → ∃ fs : List Value, mj_rd g 400 = some (.inr (17, fs))) (hm : ∀ g, A g → mj_Wp 250 415 (0, [some (.ref 400), some (.int (xs (i + 1))), some (.int (ci16 (xs (i + 2))))], [], g) (mz_V fun r g2 => r = .int b ∧ B g2)) (hB : ∀ g, B g → ∃ rs : List Value, mj_rd g 400 = some (.inr (17, .int (nI 0) :: rs)) ∧ ∃ ou : Nat → Int64, mj_rd g 412 = some (.inl (4, (1, .inr (.inl ou)))) ∧ ou 0 = Int32.toInt64 b) (hn : ∀ (l6 l7 l8 l9 : Option Value) (g : mj_H), B g → mj_lrun L xs (28, [some (.retAddr 1), some (.ref 0), some (.ref 400), some (.ref 412), some (.ref 413), some (.int (nI (i + 4))), l6, l7, l8, l9], [], g) P) : mj_lrun L xs (28, [some (.retAddr 1), some (.ref 0), some (.ref 400), some (.ref 412), some (.ref 413), some (.int (nI i)), l6, l7, l8, l9], [], h) P := by
  refine l_ild (p' := 30) rfl rfl rfl rfl ?_
  refine l_alds (p' := 31) rfl rfl rfl rfl ?_
  refine l_lens (p' := 32) rfl rfl rfl ?_
  refine l_con (p' := 33) rfl rfl rfl ?_
  refine l_bz (p' := 34) (z := (nI (L - 4))) rfl rfl rfl rfl rfl (mI_sub (by omega)) ?_
  refine l_icmp (p' := 37) false rfl rfl ((ci_gt (by omega) (by omega)).trans (decide_eq_false (by omega))) rfl ?_
  refine l_alds (p' := 38) rfl rfl rfl rfl ?_
  refine l_ild (p' := 40) rfl rfl rfl rfl ?_
  refine l_ialz (p' := 41) (m := i) (z := (xs i)) rfl rfl (inb_nI (by omega) (by omega)) (mI_cl (by omega)) rfl rfl ?_
  refine l_bip (p' := 43) rfl rfl rfl ?_
  refine l_bz (p' := 44) (z := (nI 28)) rfl rfl rfl rfl rfl hk ?_
  refine l_sp (p' := 1747) (ls' := _) rfl rfl rfl rfl rfl ?_
  refine l_aldn (p' := 1748) rfl rfl rfl rfl ?_
  refine l_alds (p' := 1749) rfl rfl rfl rfl ?_
  refine l_ild (p' := 1751) rfl rfl rfl rfl ?_
  refine l_con (p' := 1752) rfl rfl rfl ?_
  refine l_bz (p' := 1753) (z := (nI (i + 1))) rfl rfl rfl rfl rfl (mI_add _ _) ?_
  refine l_ialz (p' := 1754) (m := i + 1) (z := (xs (i + 1))) rfl rfl (inb_nI (by omega) (by omega)) (mI_cl (by omega)) rfl rfl ?_
  refine l_alds (p' := 1755) rfl rfl rfl rfl ?_
  refine l_ild (p' := 1757) rfl rfl rfl rfl ?_
  refine l_con (p' := 1758) rfl rfl rfl ?_
  refine l_bz (p' := 1759) (z := (nI (i + 2))) rfl rfl rfl rfl rfl (mI_add _ _) ?_
  refine l_ialz (p' := 1760) (m := i + 2) (z := (xs (i + 2))) rfl rfl (inb_nI (by omega) (by omega)) (mI_cl (by omega)) rfl rfl ?_
  refine l_bz (p' := 1761) (z := ci16 (xs (i + 2))) rfl rfl rfl rfl rfl rfl ?_
  refine l_aldn (p' := 1762) rfl rfl rfl rfl ?_
  refine l_call (p' := 1765) (kc := 250) (ls0 := [_, _, _, _, _]) rfl rfl rfl rfl rfl rfl rfl rfl rfl rfl ?_
  refine hw.imp ?_
  rintro _ ⟨_, h1, rfl, rfl, hA1⟩
  show mj_lrun _ _ (1765, _, _, _) _
  try dsimp only
  refine l_ist (p' := 1767) (ls' := [_, _, _, _, _, _, _, _, _, _]) rfl rfl rfl rfl rfl ?_
  refine l_aldn (p' := 1768) rfl rfl rfl rfl ?_
  refine l_alds (p' := 1769) rfl rfl rfl rfl ?_
  refine l_ild (p' := 1771) rfl rfl rfl rfl ?_
  refine l_con (p' := 1772) rfl rfl rfl ?_
  refine l_bz (p' := 1773) (z := (nI (i + 1))) rfl rfl rfl rfl rfl (mI_add _ _) ?_
  refine l_ialz (p' := 1774) (m := i + 1) (z := (xs (i + 1))) rfl rfl (inb_nI (by omega) (by omega)) (mI_cl (by omega)) rfl rfl ?_
  refine l_alds (p' := 1775) rfl rfl rfl rfl ?_
  refine l_ild (p' := 1777) rfl rfl rfl rfl ?_
  refine l_con (p' := 1778) rfl rfl rfl ?_
  refine l_bz (p' := 1779) (z := (nI (i + 2))) rfl rfl rfl rfl rfl (mI_add _ _) ?_
  refine l_ialz (p' := 1780) (m := i + 2) (z := (xs (i + 2))) rfl rfl (inb_nI (by omega) (by omega)) (mI_cl (by omega)) rfl rfl ?_
  refine l_bz (p' := 1781) (z := ci16 (xs (i + 2))) rfl rfl rfl rfl rfl rfl ?_
  obtain ⟨fs4, q4⟩ := hA _ hA1
  refine l_call (p' := 1784) (kc := 250) (ls0 := [_, _, _]) rfl rfl rfl rfl rfl rfl (mj_rcv_is q4) rfl rfl rfl ?_
  refine (hm h1 hA1).imp ?_
  rintro _ ⟨_, h2, rfl, rfl, hB1⟩
  show mj_lrun _ _ (1784, _, _, _) _
  try dsimp only
  obtain ⟨rs5, q5, ou, q6, q7⟩ := hB _ hB1
  refine l_ist (p' := 1786) (ls' := [_, _, _, _, _, _, _, _, _, _]) rfl rfl rfl rfl rfl ?_
  refine l_aldn (p' := 1787) rfl rfl rfl rfl ?_
  refine l_call (p' := 1790) (kc := 99) (ls0 := [_]) rfl rfl rfl rfl rfl rfl (mj_rcv_is q5) rfl rfl rfl ?_
  refine s_aldn (p' := 1) rfl rfl rfl ?_
  refine s_gf (p' := 4) rfl q5 rfl rfl ?_
  refine k_iret rfl rfl ?_
  refine l_ild (p' := 1792) rfl rfl rfl rfl ?_
  refine l_icmp (p' := 1797) true rfl rfl (ci_sf _) rfl ?_
  refine l_ild (p' := 1799) rfl rfl rfl rfl ?_
  refine l_if (p' := 1802) false rfl rfl (by decide +kernel) rfl ?_
  refine l_aldn (p' := 1803) rfl rfl rfl rfl ?_
  refine l_con (p' := 1804) rfl rfl rfl ?_
  refine l_lalz (p' := 1805) (m := 0) (v := Int32.toInt64 b) rfl rfl q6 (by decide) rfl q7 rfl ?_
  refine l_ild (p' := 1807) rfl rfl rfl rfl ?_
  refine l_bzL (p' := 1808) (z := Int32.toInt64 b) rfl rfl rfl rfl rfl rfl ?_
  refine l_bz (p' := 1809) (z := nI 0) rfl rfl rfl rfl rfl (lcmp_self _) ?_
  refine l_if (p' := 1814) true rfl rfl (by decide +kernel) rfl ?_
  refine l_goto (p' := 2541) rfl rfl rfl ?_
  refine l_incz (p' := 2544) (w := (nI (i + 4))) (ls' := [_, _, _, _, _, _, _, _, _, _]) rfl rfl rfl rfl (mI_add _ _) rfl rfl ?_
  refine l_goto (p' := 28) rfl rfl rfl ?_
  exact hn _ _ _ _ _ hB1
theorem lr_28_1 {L i : Nat} {xs : Nat → Int32} {h : mj_H} {l6 l7 l8 l9 : Option Value} {P A B : mj_H → Prop} {b : Int32} (hL : L ≤ 2048) (hi : i + 4 ≤ L) (hk : xs i &&& nI 63 = nI 28) (hw : mj_Wp 250 204 (0, [some (.ref 0), some (.int (xs (i + 1))), some (.int (ci16 (xs (i + 2)))), some (.ref 412), none], [], h) (mz_V fun r g => r = .int (nI 1) ∧ A g)) (hA : ∀ g, A g → ∃ fs : List Value, mj_rd g 400 = some (.inr (17, fs))) (hm : ∀ g, A g → mj_Wp 250 415 (0, [some (.ref 400), some (.int (xs (i + 1))), some (.int (ci16 (xs (i + 2))))], [], g) (mz_V fun r g2 => r = .int b ∧ B g2)) (hB : ∀ g, B g → ∃ rs : List Value, mj_rd g 400 = some (.inr (17, .int (nI 1) :: rs))) (hn : ∀ (l6 l7 l8 l9 : Option Value) (g : mj_H), B g → mj_lrun L xs (28, [some (.retAddr 1), some (.ref 0), some (.ref 400), some (.ref 412), some (.ref 413), some (.int (nI (i + 4))), l6, l7, l8, l9], [], g) P) : mj_lrun L xs (28, [some (.retAddr 1), some (.ref 0), some (.ref 400), some (.ref 412), some (.ref 413), some (.int (nI i)), l6, l7, l8, l9], [], h) P := by
  refine l_ild (p' := 30) rfl rfl rfl rfl ?_
  refine l_alds (p' := 31) rfl rfl rfl rfl ?_
  refine l_lens (p' := 32) rfl rfl rfl ?_
  refine l_con (p' := 33) rfl rfl rfl ?_
  refine l_bz (p' := 34) (z := (nI (L - 4))) rfl rfl rfl rfl rfl (mI_sub (by omega)) ?_
  refine l_icmp (p' := 37) false rfl rfl ((ci_gt (by omega) (by omega)).trans (decide_eq_false (by omega))) rfl ?_
  refine l_alds (p' := 38) rfl rfl rfl rfl ?_
  refine l_ild (p' := 40) rfl rfl rfl rfl ?_
  refine l_ialz (p' := 41) (m := i) (z := (xs i)) rfl rfl (inb_nI (by omega) (by omega)) (mI_cl (by omega)) rfl rfl ?_
  refine l_bip (p' := 43) rfl rfl rfl ?_
  refine l_bz (p' := 44) (z := (nI 28)) rfl rfl rfl rfl rfl hk ?_
  refine l_sp (p' := 1747) (ls' := _) rfl rfl rfl rfl rfl ?_
  refine l_aldn (p' := 1748) rfl rfl rfl rfl ?_
  refine l_alds (p' := 1749) rfl rfl rfl rfl ?_
  refine l_ild (p' := 1751) rfl rfl rfl rfl ?_
  refine l_con (p' := 1752) rfl rfl rfl ?_
  refine l_bz (p' := 1753) (z := (nI (i + 1))) rfl rfl rfl rfl rfl (mI_add _ _) ?_
  refine l_ialz (p' := 1754) (m := i + 1) (z := (xs (i + 1))) rfl rfl (inb_nI (by omega) (by omega)) (mI_cl (by omega)) rfl rfl ?_
  refine l_alds (p' := 1755) rfl rfl rfl rfl ?_
  refine l_ild (p' := 1757) rfl rfl rfl rfl ?_
  refine l_con (p' := 1758) rfl rfl rfl ?_
  refine l_bz (p' := 1759) (z := (nI (i + 2))) rfl rfl rfl rfl rfl (mI_add _ _) ?_
  refine l_ialz (p' := 1760) (m := i + 2) (z := (xs (i + 2))) rfl rfl (inb_nI (by omega) (by omega)) (mI_cl (by omega)) rfl rfl ?_
  refine l_bz (p' := 1761) (z := ci16 (xs (i + 2))) rfl rfl rfl rfl rfl rfl ?_
  refine l_aldn (p' := 1762) rfl rfl rfl rfl ?_
  refine l_call (p' := 1765) (kc := 250) (ls0 := [_, _, _, _, _]) rfl rfl rfl rfl rfl rfl rfl rfl rfl rfl ?_
  refine hw.imp ?_
  rintro _ ⟨_, h1, rfl, rfl, hA1⟩
  show mj_lrun _ _ (1765, _, _, _) _
  try dsimp only
  refine l_ist (p' := 1767) (ls' := [_, _, _, _, _, _, _, _, _, _]) rfl rfl rfl rfl rfl ?_
  refine l_aldn (p' := 1768) rfl rfl rfl rfl ?_
  refine l_alds (p' := 1769) rfl rfl rfl rfl ?_
  refine l_ild (p' := 1771) rfl rfl rfl rfl ?_
  refine l_con (p' := 1772) rfl rfl rfl ?_
  refine l_bz (p' := 1773) (z := (nI (i + 1))) rfl rfl rfl rfl rfl (mI_add _ _) ?_
  refine l_ialz (p' := 1774) (m := i + 1) (z := (xs (i + 1))) rfl rfl (inb_nI (by omega) (by omega)) (mI_cl (by omega)) rfl rfl ?_
  refine l_alds (p' := 1775) rfl rfl rfl rfl ?_
  refine l_ild (p' := 1777) rfl rfl rfl rfl ?_
  refine l_con (p' := 1778) rfl rfl rfl ?_
  refine l_bz (p' := 1779) (z := (nI (i + 2))) rfl rfl rfl rfl rfl (mI_add _ _) ?_
  refine l_ialz (p' := 1780) (m := i + 2) (z := (xs (i + 2))) rfl rfl (inb_nI (by omega) (by omega)) (mI_cl (by omega)) rfl rfl ?_
  refine l_bz (p' := 1781) (z := ci16 (xs (i + 2))) rfl rfl rfl rfl rfl rfl ?_
  obtain ⟨fs4, q4⟩ := hA _ hA1
  refine l_call (p' := 1784) (kc := 250) (ls0 := [_, _, _]) rfl rfl rfl rfl rfl rfl (mj_rcv_is q4) rfl rfl rfl ?_
  refine (hm h1 hA1).imp ?_
  rintro _ ⟨_, h2, rfl, rfl, hB1⟩
  show mj_lrun _ _ (1784, _, _, _) _
  try dsimp only
  obtain ⟨rs5, q5⟩ := hB _ hB1
  refine l_ist (p' := 1786) (ls' := [_, _, _, _, _, _, _, _, _, _]) rfl rfl rfl rfl rfl ?_
  refine l_aldn (p' := 1787) rfl rfl rfl rfl ?_
  refine l_call (p' := 1790) (kc := 99) (ls0 := [_]) rfl rfl rfl rfl rfl rfl (mj_rcv_is q5) rfl rfl rfl ?_
  refine s_aldn (p' := 1) rfl rfl rfl ?_
  refine s_gf (p' := 4) rfl q5 rfl rfl ?_
  refine k_iret rfl rfl ?_
  refine l_ild (p' := 1792) rfl rfl rfl rfl ?_
  refine l_icmp (p' := 1797) true rfl rfl (ci_sf _) rfl ?_
  refine l_ild (p' := 1799) rfl rfl rfl rfl ?_
  refine l_if (p' := 1814) true rfl rfl (by decide +kernel) rfl ?_
  refine l_goto (p' := 2541) rfl rfl rfl ?_
  refine l_incz (p' := 2544) (w := (nI (i + 4))) (ls' := [_, _, _, _, _, _, _, _, _, _]) rfl rfl rfl rfl (mI_add _ _) rfl rfl ?_
  refine l_goto (p' := 28) rfl rfl rfl ?_
  exact hn _ _ _ _ _ hB1
theorem lr_28_2 {L i : Nat} {xs : Nat → Int32} {h : mj_H} {l6 l7 l8 l9 : Option Value} {P A B : mj_H → Prop} {b : Int32} (hL : L ≤ 2048) (hi : i + 4 ≤ L) (hk : xs i &&& nI 63 = nI 28) (hw : mj_Wp 250 204 (0, [some (.ref 0), some (.int (xs (i + 1))), some (.int (ci16 (xs (i + 2)))), some (.ref 412), none], [], h) (mz_V fun r g => r = .int (nI 2) ∧ A g)) (hA : ∀ g, A g → ∃ fs : List Value, mj_rd g 400 = some (.inr (17, fs))) (hm : ∀ g, A g → mj_Wp 250 415 (0, [some (.ref 400), some (.int (xs (i + 1))), some (.int (ci16 (xs (i + 2))))], [], g) (mz_V fun r g2 => r = .int b ∧ B g2)) (hB : ∀ g, B g → ∃ rs : List Value, mj_rd g 400 = some (.inr (17, .int (nI 2) :: rs))) (hn : ∀ (l6 l7 l8 l9 : Option Value) (g : mj_H), B g → mj_lrun L xs (28, [some (.retAddr 1), some (.ref 0), some (.ref 400), some (.ref 412), some (.ref 413), some (.int (nI (i + 4))), l6, l7, l8, l9], [], g) P) : mj_lrun L xs (28, [some (.retAddr 1), some (.ref 0), some (.ref 400), some (.ref 412), some (.ref 413), some (.int (nI i)), l6, l7, l8, l9], [], h) P := by
  refine l_ild (p' := 30) rfl rfl rfl rfl ?_
  refine l_alds (p' := 31) rfl rfl rfl rfl ?_
  refine l_lens (p' := 32) rfl rfl rfl ?_
  refine l_con (p' := 33) rfl rfl rfl ?_
  refine l_bz (p' := 34) (z := (nI (L - 4))) rfl rfl rfl rfl rfl (mI_sub (by omega)) ?_
  refine l_icmp (p' := 37) false rfl rfl ((ci_gt (by omega) (by omega)).trans (decide_eq_false (by omega))) rfl ?_
  refine l_alds (p' := 38) rfl rfl rfl rfl ?_
  refine l_ild (p' := 40) rfl rfl rfl rfl ?_
  refine l_ialz (p' := 41) (m := i) (z := (xs i)) rfl rfl (inb_nI (by omega) (by omega)) (mI_cl (by omega)) rfl rfl ?_
  refine l_bip (p' := 43) rfl rfl rfl ?_
  refine l_bz (p' := 44) (z := (nI 28)) rfl rfl rfl rfl rfl hk ?_
  refine l_sp (p' := 1747) (ls' := _) rfl rfl rfl rfl rfl ?_
  refine l_aldn (p' := 1748) rfl rfl rfl rfl ?_
  refine l_alds (p' := 1749) rfl rfl rfl rfl ?_
  refine l_ild (p' := 1751) rfl rfl rfl rfl ?_
  refine l_con (p' := 1752) rfl rfl rfl ?_
  refine l_bz (p' := 1753) (z := (nI (i + 1))) rfl rfl rfl rfl rfl (mI_add _ _) ?_
  refine l_ialz (p' := 1754) (m := i + 1) (z := (xs (i + 1))) rfl rfl (inb_nI (by omega) (by omega)) (mI_cl (by omega)) rfl rfl ?_
  refine l_alds (p' := 1755) rfl rfl rfl rfl ?_
  refine l_ild (p' := 1757) rfl rfl rfl rfl ?_
  refine l_con (p' := 1758) rfl rfl rfl ?_
  refine l_bz (p' := 1759) (z := (nI (i + 2))) rfl rfl rfl rfl rfl (mI_add _ _) ?_
  refine l_ialz (p' := 1760) (m := i + 2) (z := (xs (i + 2))) rfl rfl (inb_nI (by omega) (by omega)) (mI_cl (by omega)) rfl rfl ?_
  refine l_bz (p' := 1761) (z := ci16 (xs (i + 2))) rfl rfl rfl rfl rfl rfl ?_
  refine l_aldn (p' := 1762) rfl rfl rfl rfl ?_
  refine l_call (p' := 1765) (kc := 250) (ls0 := [_, _, _, _, _]) rfl rfl rfl rfl rfl rfl rfl rfl rfl rfl ?_
  refine hw.imp ?_
  rintro _ ⟨_, h1, rfl, rfl, hA1⟩
  show mj_lrun _ _ (1765, _, _, _) _
  try dsimp only
  refine l_ist (p' := 1767) (ls' := [_, _, _, _, _, _, _, _, _, _]) rfl rfl rfl rfl rfl ?_
  refine l_aldn (p' := 1768) rfl rfl rfl rfl ?_
  refine l_alds (p' := 1769) rfl rfl rfl rfl ?_
  refine l_ild (p' := 1771) rfl rfl rfl rfl ?_
  refine l_con (p' := 1772) rfl rfl rfl ?_
  refine l_bz (p' := 1773) (z := (nI (i + 1))) rfl rfl rfl rfl rfl (mI_add _ _) ?_
  refine l_ialz (p' := 1774) (m := i + 1) (z := (xs (i + 1))) rfl rfl (inb_nI (by omega) (by omega)) (mI_cl (by omega)) rfl rfl ?_
  refine l_alds (p' := 1775) rfl rfl rfl rfl ?_
  refine l_ild (p' := 1777) rfl rfl rfl rfl ?_
  refine l_con (p' := 1778) rfl rfl rfl ?_
  refine l_bz (p' := 1779) (z := (nI (i + 2))) rfl rfl rfl rfl rfl (mI_add _ _) ?_
  refine l_ialz (p' := 1780) (m := i + 2) (z := (xs (i + 2))) rfl rfl (inb_nI (by omega) (by omega)) (mI_cl (by omega)) rfl rfl ?_
  refine l_bz (p' := 1781) (z := ci16 (xs (i + 2))) rfl rfl rfl rfl rfl rfl ?_
  obtain ⟨fs4, q4⟩ := hA _ hA1
  refine l_call (p' := 1784) (kc := 250) (ls0 := [_, _, _]) rfl rfl rfl rfl rfl rfl (mj_rcv_is q4) rfl rfl rfl ?_
  refine (hm h1 hA1).imp ?_
  rintro _ ⟨_, h2, rfl, rfl, hB1⟩
  show mj_lrun _ _ (1784, _, _, _) _
  try dsimp only
  obtain ⟨rs5, q5⟩ := hB _ hB1
  refine l_ist (p' := 1786) (ls' := [_, _, _, _, _, _, _, _, _, _]) rfl rfl rfl rfl rfl ?_
  refine l_aldn (p' := 1787) rfl rfl rfl rfl ?_
  refine l_call (p' := 1790) (kc := 99) (ls0 := [_]) rfl rfl rfl rfl rfl rfl (mj_rcv_is q5) rfl rfl rfl ?_
  refine s_aldn (p' := 1) rfl rfl rfl ?_
  refine s_gf (p' := 4) rfl q5 rfl rfl ?_
  refine k_iret rfl rfl ?_
  refine l_ild (p' := 1792) rfl rfl rfl rfl ?_
  refine l_icmp (p' := 1797) true rfl rfl (ci_sf _) rfl ?_
  refine l_ild (p' := 1799) rfl rfl rfl rfl ?_
  refine l_if (p' := 1814) true rfl rfl (by decide +kernel) rfl ?_
  refine l_goto (p' := 2541) rfl rfl rfl ?_
  refine l_incz (p' := 2544) (w := (nI (i + 4))) (ls' := [_, _, _, _, _, _, _, _, _, _]) rfl rfl rfl rfl (mI_add _ _) rfl rfl ?_
  refine l_goto (p' := 28) rfl rfl rfl ?_
  exact hn _ _ _ _ _ hB1
theorem lr_16 {L i : Nat} {xs : Nat → Int32} {h : mj_H} {l6 l7 l8 l9 : Option Value} {P A B : mj_H → Prop} {b : Int32} (hL : L ≤ 2048) (hi : i + 4 ≤ L) (hk : xs i &&& nI 63 = nI 16) (hw : mj_Wp 250 16 (0, [some (.ref 0)], [], h) (mz_V fun r g => r = .int b ∧ A g)) (hA : ∀ g, A g → ∃ fs : List Value, mj_rd g 400 = some (.inr (17, fs))) (hm : ∀ g, A g → mj_Wp 250 397 (0, [some (.ref 400)], [], g) (mz_V fun r g2 => r = .int b ∧ B g2)) (h0 : ∃ fs0 : List Value, mj_rd h 0 = some (.inr (0, fs0))) (hn : ∀ (l6 l7 l8 l9 : Option Value) (g : mj_H), B g → mj_lrun L xs (28, [some (.retAddr 1), some (.ref 0), some (.ref 400), some (.ref 412), some (.ref 413), some (.int (nI (i + 4))), l6, l7, l8, l9], [], g) P) : mj_lrun L xs (28, [some (.retAddr 1), some (.ref 0), some (.ref 400), some (.ref 412), some (.ref 413), some (.int (nI i)), l6, l7, l8, l9], [], h) P := by
  obtain ⟨fs0, q0⟩ := h0
  refine l_ild (p' := 30) rfl rfl rfl rfl ?_
  refine l_alds (p' := 31) rfl rfl rfl rfl ?_
  refine l_lens (p' := 32) rfl rfl rfl ?_
  refine l_con (p' := 33) rfl rfl rfl ?_
  refine l_bz (p' := 34) (z := (nI (L - 4))) rfl rfl rfl rfl rfl (mI_sub (by omega)) ?_
  refine l_icmp (p' := 37) false rfl rfl ((ci_gt (by omega) (by omega)).trans (decide_eq_false (by omega))) rfl ?_
  refine l_alds (p' := 38) rfl rfl rfl rfl ?_
  refine l_ild (p' := 40) rfl rfl rfl rfl ?_
  refine l_ialz (p' := 41) (m := i) (z := (xs i)) rfl rfl (inb_nI (by omega) (by omega)) (mI_cl (by omega)) rfl rfl ?_
  refine l_bip (p' := 43) rfl rfl rfl ?_
  refine l_bz (p' := 44) (z := (nI 16)) rfl rfl rfl rfl rfl hk ?_
  refine l_sp (p' := 1132) (ls' := _) rfl rfl rfl rfl rfl ?_
  refine l_aldn (p' := 1133) rfl rfl rfl rfl ?_
  refine l_call (p' := 1136) (kc := 250) (ls0 := [_]) rfl rfl rfl rfl rfl rfl (mj_rcv_is q0) rfl rfl rfl ?_
  refine hw.imp ?_
  rintro _ ⟨_, h1, rfl, rfl, hA1⟩
  show mj_lrun _ _ (1136, _, _, _) _
  try dsimp only
  refine l_aldn (p' := 1137) rfl rfl rfl rfl ?_
  obtain ⟨fs4, q4⟩ := hA _ hA1
  refine l_call (p' := 1140) (kc := 250) (ls0 := [_]) rfl rfl rfl rfl rfl rfl (mj_rcv_is q4) rfl rfl rfl ?_
  refine (hm h1 hA1).imp ?_
  rintro _ ⟨_, h2, rfl, rfl, hB1⟩
  show mj_lrun _ _ (1140, _, _, _) _
  try dsimp only
  refine l_icmp (p' := 2541) true rfl rfl (ci_sf _) rfl ?_
  refine l_incz (p' := 2544) (w := (nI (i + 4))) (ls' := [_, _, _, _, _, _, _, _, _, _]) rfl rfl rfl rfl (mI_add _ _) rfl rfl ?_
  refine l_goto (p' := 28) rfl rfl rfl ?_
  exact hn _ _ _ _ _ hB1
theorem lr_38 {L i : Nat} {xs : Nat → Int32} {h : mj_H} {l6 l7 l8 l9 : Option Value} {P A B : mj_H → Prop} {b : Int32} (hL : L ≤ 2048) (hi : i + 4 ≤ L) (hk : xs i &&& nI 63 = nI 38) (hw : mj_Wp 250 41 (0, [some (.ref 0)], [], h) (mz_V fun r g => r = .int b ∧ A g)) (hA : ∀ g, A g → ∃ fs : List Value, mj_rd g 400 = some (.inr (17, fs))) (hm : ∀ g, A g → mj_Wp 250 444 (0, [some (.ref 400), none, none, none, none, none, none, none], [], g) (mz_V fun r g2 => r = .int b ∧ B g2)) (h0 : ∃ fs0 : List Value, mj_rd h 0 = some (.inr (0, fs0))) (hn : ∀ (l6 l7 l8 l9 : Option Value) (g : mj_H), B g → mj_lrun L xs (28, [some (.retAddr 1), some (.ref 0), some (.ref 400), some (.ref 412), some (.ref 413), some (.int (nI (i + 4))), l6, l7, l8, l9], [], g) P) : mj_lrun L xs (28, [some (.retAddr 1), some (.ref 0), some (.ref 400), some (.ref 412), some (.ref 413), some (.int (nI i)), l6, l7, l8, l9], [], h) P := by
  obtain ⟨fs0, q0⟩ := h0
  refine l_ild (p' := 30) rfl rfl rfl rfl ?_
  refine l_alds (p' := 31) rfl rfl rfl rfl ?_
  refine l_lens (p' := 32) rfl rfl rfl ?_
  refine l_con (p' := 33) rfl rfl rfl ?_
  refine l_bz (p' := 34) (z := (nI (L - 4))) rfl rfl rfl rfl rfl (mI_sub (by omega)) ?_
  refine l_icmp (p' := 37) false rfl rfl ((ci_gt (by omega) (by omega)).trans (decide_eq_false (by omega))) rfl ?_
  refine l_alds (p' := 38) rfl rfl rfl rfl ?_
  refine l_ild (p' := 40) rfl rfl rfl rfl ?_
  refine l_ialz (p' := 41) (m := i) (z := (xs i)) rfl rfl (inb_nI (by omega) (by omega)) (mI_cl (by omega)) rfl rfl ?_
  refine l_bip (p' := 43) rfl rfl rfl ?_
  refine l_bz (p' := 44) (z := (nI 38)) rfl rfl rfl rfl rfl hk ?_
  refine l_sp (p' := 2149) (ls' := _) rfl rfl rfl rfl rfl ?_
  refine l_aldn (p' := 2150) rfl rfl rfl rfl ?_
  refine l_call (p' := 2153) (kc := 250) (ls0 := [_]) rfl rfl rfl rfl rfl rfl (mj_rcv_is q0) rfl rfl rfl ?_
  refine hw.imp ?_
  rintro _ ⟨_, h1, rfl, rfl, hA1⟩
  show mj_lrun _ _ (2153, _, _, _) _
  try dsimp only
  refine l_aldn (p' := 2154) rfl rfl rfl rfl ?_
  obtain ⟨fs4, q4⟩ := hA _ hA1
  refine l_call (p' := 2157) (kc := 250) (ls0 := [_, _, _, _, _, _, _, _]) rfl rfl rfl rfl rfl rfl (mj_rcv_is q4) rfl rfl rfl ?_
  refine (hm h1 hA1).imp ?_
  rintro _ ⟨_, h2, rfl, rfl, hB1⟩
  show mj_lrun _ _ (2157, _, _, _) _
  try dsimp only
  refine l_icmp (p' := 2541) true rfl rfl (ci_sf _) rfl ?_
  refine l_incz (p' := 2544) (w := (nI (i + 4))) (ls' := [_, _, _, _, _, _, _, _, _, _]) rfl rfl rfl rfl (mI_add _ _) rfl rfl ?_
  refine l_goto (p' := 28) rfl rfl rfl ?_
  exact hn _ _ _ _ _ hB1
theorem lr_49 {L i : Nat} {xs : Nat → Int32} {h : mj_H} {l6 l7 l8 l9 : Option Value} {P A B : mj_H → Prop} {b : Int32} (hL : L ≤ 2048) (hi : i + 4 ≤ L) (hk : xs i &&& nI 63 = nI 49) (hw : mj_Wp 250 70 (0, [some (.ref 0), none, none], [], h) (mz_V fun r g => r = .int b ∧ A g)) (hA : ∀ g, A g → ∃ fs : List Value, mj_rd g 400 = some (.inr (17, fs))) (hm : ∀ g, A g → mj_Wp 250 464 (0, [some (.ref 400)], [], g) (mz_V fun r g2 => r = .int b ∧ B g2)) (h0 : ∃ fs0 : List Value, mj_rd h 0 = some (.inr (0, fs0))) (hn : ∀ (l6 l7 l8 l9 : Option Value) (g : mj_H), B g → mj_lrun L xs (28, [some (.retAddr 1), some (.ref 0), some (.ref 400), some (.ref 412), some (.ref 413), some (.int (nI (i + 4))), l6, l7, l8, l9], [], g) P) : mj_lrun L xs (28, [some (.retAddr 1), some (.ref 0), some (.ref 400), some (.ref 412), some (.ref 413), some (.int (nI i)), l6, l7, l8, l9], [], h) P := by
  obtain ⟨fs0, q0⟩ := h0
  refine l_ild (p' := 30) rfl rfl rfl rfl ?_
  refine l_alds (p' := 31) rfl rfl rfl rfl ?_
  refine l_lens (p' := 32) rfl rfl rfl ?_
  refine l_con (p' := 33) rfl rfl rfl ?_
  refine l_bz (p' := 34) (z := (nI (L - 4))) rfl rfl rfl rfl rfl (mI_sub (by omega)) ?_
  refine l_icmp (p' := 37) false rfl rfl ((ci_gt (by omega) (by omega)).trans (decide_eq_false (by omega))) rfl ?_
  refine l_alds (p' := 38) rfl rfl rfl rfl ?_
  refine l_ild (p' := 40) rfl rfl rfl rfl ?_
  refine l_ialz (p' := 41) (m := i) (z := (xs i)) rfl rfl (inb_nI (by omega) (by omega)) (mI_cl (by omega)) rfl rfl ?_
  refine l_bip (p' := 43) rfl rfl rfl ?_
  refine l_bz (p' := 44) (z := (nI 49)) rfl rfl rfl rfl rfl hk ?_
  refine l_sp (p' := 2528) (ls' := _) rfl rfl rfl rfl rfl ?_
  refine l_aldn (p' := 2529) rfl rfl rfl rfl ?_
  refine l_call (p' := 2532) (kc := 250) (ls0 := [_, _, _]) rfl rfl rfl rfl rfl rfl (mj_rcv_is q0) rfl rfl rfl ?_
  refine hw.imp ?_
  rintro _ ⟨_, h1, rfl, rfl, hA1⟩
  show mj_lrun _ _ (2532, _, _, _) _
  try dsimp only
  refine l_aldn (p' := 2533) rfl rfl rfl rfl ?_
  obtain ⟨fs4, q4⟩ := hA _ hA1
  refine l_call (p' := 2536) (kc := 250) (ls0 := [_]) rfl rfl rfl rfl rfl rfl (mj_rcv_is q4) rfl rfl rfl ?_
  refine (hm h1 hA1).imp ?_
  rintro _ ⟨_, h2, rfl, rfl, hB1⟩
  show mj_lrun _ _ (2536, _, _, _) _
  try dsimp only
  refine l_icmp (p' := 2541) true rfl rfl (ci_sf _) rfl ?_
  refine l_incz (p' := 2544) (w := (nI (i + 4))) (ls' := [_, _, _, _, _, _, _, _, _, _]) rfl rfl rfl rfl (mI_add _ _) rfl rfl ?_
  refine l_goto (p' := 28) rfl rfl rfl ?_
  exact hn _ _ _ _ _ hB1
theorem lw_fault_0 {h : mj_H} {A : mj_H → Prop} {v : Int32}  (h0 : ∃ fs0 : List Value, mj_rd h 0 = some (.inr (0, fs0))) (hc : mj_Wp 249 119 (0, [some (.ref 0)], [], h) (mz_V fun r g => r = .int v ∧ A g)) (hA : ∀ g, A g → ∃ ou : Nat → Int64, mj_rd g 412 = some (outC ou)) : mj_Wp 250 118 (0, [some (.ref 0), some (.ref 412), none], [], h) (mz_V fun r g => r = .int (nI 0) ∧ ∃ (g1 : mj_H) (ou : Nat → Int64), A g1 ∧ mj_rd g1 412 = some (outC ou) ∧ g = g1.set 412 (outC (vp_updL ou 0 (Int32.toInt64 v)))) := by
  obtain ⟨fs0, q0⟩ := h0
  refine s_aldn (p' := 1) rfl rfl rfl ?_
  refine s_con (p' := 2) rfl rfl ?_
  refine s_aldn (p' := 3) rfl rfl rfl ?_
  refine s_callEV (p' := 6) (ls0 := [_]) rfl rfl rfl rfl rfl (mj_rcv_is q0) rfl hc rfl rfl ?_
  rintro _ h1 ⟨rfl, hA1⟩
  obtain ⟨ou, q6⟩ := hA _ hA1
  refine s_sp (p' := 7) (ls' := _) rfl rfl rfl ?_
  refine s_las (p' := 8) rfl (by decide) q6 (by decide) rfl ?_
  refine s_goto (p' := 14) rfl rfl ?_
  refine s_con (p' := 15) rfl rfl ?_
  refine s_iret rfl rfl ?_
  exact ⟨_, _, rfl, rfl, h1, ou, hA1, q6, rfl⟩
theorem lw_fault_1 {h : mj_H} {A : mj_H → Prop}  (h0 : ∃ fs0 : List Value, mj_rd h 0 = some (.inr (0, fs0))) (hc : mj_Wp 249 119 (0, [some (.ref 0)], [], h) (fun o => ∃ (q : Nat) (g : mj_H), o = (.inr q, g) ∧ q < mj_CB ∧ mj_rd g q = some (.inr (12, [])) ∧ A g)) : mj_Wp 250 118 (0, [some (.ref 0), some (.ref 412), none], [], h) (mz_V fun r g => r = .int (nI 1) ∧ A g) := by
  obtain ⟨fs0, q0⟩ := h0
  refine s_aldn (p' := 1) rfl rfl rfl ?_
  refine s_con (p' := 2) rfl rfl ?_
  refine s_aldn (p' := 3) rfl rfl rfl ?_
  refine c_call (p' := 6) (kc := 249) (ls0 := [_]) rfl rfl rfl rfl rfl (mj_rcv_is q0) rfl rfl rfl ?_
  refine (hc).imp ?_
  rintro _ ⟨q, h1, rfl, q1, q2, hA1⟩
  refine K_c (ci := 12) (hp := 11) (Nat.blt_eq.mpr q1) (mj_ocl_is q2) rfl ?_
  refine s_astn (p' := 12) (ls' := [_, _, _]) rfl rfl rfl rfl ?_
  refine s_con (p' := 13) rfl rfl ?_
  refine s_iret rfl rfl ?_
  exact ⟨_, _, rfl, rfl, hA1⟩
theorem lw_faultKind_0 {h : mj_H} {A : mj_H → Prop} {v : Int32}  (h0 : ∃ fs0 : List Value, mj_rd h 0 = some (.inr (0, fs0))) (hc : mj_Wp 249 123 (0, [some (.ref 0)], [], h) (mz_V fun r g => r = .int v ∧ A g)) (hA : ∀ g, A g → ∃ ou : Nat → Int64, mj_rd g 412 = some (outC ou)) : mj_Wp 250 122 (0, [some (.ref 0), some (.ref 412), none], [], h) (mz_V fun r g => r = .int (nI 0) ∧ ∃ (g1 : mj_H) (ou : Nat → Int64), A g1 ∧ mj_rd g1 412 = some (outC ou) ∧ g = g1.set 412 (outC (vp_updL ou 0 (Int32.toInt64 v)))) := by
  obtain ⟨fs0, q0⟩ := h0
  refine s_aldn (p' := 1) rfl rfl rfl ?_
  refine s_con (p' := 2) rfl rfl ?_
  refine s_aldn (p' := 3) rfl rfl rfl ?_
  refine s_callEV (p' := 6) (ls0 := [_]) rfl rfl rfl rfl rfl (mj_rcv_is q0) rfl hc rfl rfl ?_
  rintro _ h1 ⟨rfl, hA1⟩
  obtain ⟨ou, q6⟩ := hA _ hA1
  refine s_sp (p' := 7) (ls' := _) rfl rfl rfl ?_
  refine s_las (p' := 8) rfl (by decide) q6 (by decide) rfl ?_
  refine s_goto (p' := 14) rfl rfl ?_
  refine s_con (p' := 15) rfl rfl ?_
  refine s_iret rfl rfl ?_
  exact ⟨_, _, rfl, rfl, h1, ou, hA1, q6, rfl⟩
theorem lw_faultKind_1 {h : mj_H} {A : mj_H → Prop}  (h0 : ∃ fs0 : List Value, mj_rd h 0 = some (.inr (0, fs0))) (hc : mj_Wp 249 123 (0, [some (.ref 0)], [], h) (fun o => ∃ (q : Nat) (g : mj_H), o = (.inr q, g) ∧ q < mj_CB ∧ mj_rd g q = some (.inr (12, [])) ∧ A g)) : mj_Wp 250 122 (0, [some (.ref 0), some (.ref 412), none], [], h) (mz_V fun r g => r = .int (nI 1) ∧ A g) := by
  obtain ⟨fs0, q0⟩ := h0
  refine s_aldn (p' := 1) rfl rfl rfl ?_
  refine s_con (p' := 2) rfl rfl ?_
  refine s_aldn (p' := 3) rfl rfl rfl ?_
  refine c_call (p' := 6) (kc := 249) (ls0 := [_]) rfl rfl rfl rfl rfl (mj_rcv_is q0) rfl rfl rfl ?_
  refine (hc).imp ?_
  rintro _ ⟨q, h1, rfl, q1, q2, hA1⟩
  refine K_c (ci := 12) (hp := 11) (Nat.blt_eq.mpr q1) (mj_ocl_is q2) rfl ?_
  refine s_astn (p' := 12) (ls' := [_, _, _]) rfl rfl rfl rfl ?_
  refine s_con (p' := 13) rfl rfl ?_
  refine s_iret rfl rfl ?_
  exact ⟨_, _, rfl, rfl, hA1⟩
theorem lw_define_0 {h : mj_H} {A : mj_H → Prop} {v : Int32}  (h0 : ∃ fs0 : List Value, mj_rd h 0 = some (.inr (0, fs0))) (hc : mj_Wp 249 126 (0, [some (.ref 0), none], [], h) (mz_V fun r g => r = .int v ∧ A g)) (hA : ∀ g, A g → ∃ ou : Nat → Int64, mj_rd g 412 = some (outC ou)) : mj_Wp 250 125 (0, [some (.ref 0), some (.ref 412), none], [], h) (mz_V fun r g => r = .int (nI 0) ∧ ∃ (g1 : mj_H) (ou : Nat → Int64), A g1 ∧ mj_rd g1 412 = some (outC ou) ∧ g = g1.set 412 (outC (vp_updL ou 0 (Int32.toInt64 v)))) := by
  obtain ⟨fs0, q0⟩ := h0
  refine s_aldn (p' := 1) rfl rfl rfl ?_
  refine s_con (p' := 2) rfl rfl ?_
  refine s_aldn (p' := 3) rfl rfl rfl ?_
  refine s_callEV (p' := 6) (ls0 := [_, _]) rfl rfl rfl rfl rfl (mj_rcv_is q0) rfl hc rfl rfl ?_
  rintro _ h1 ⟨rfl, hA1⟩
  obtain ⟨ou, q6⟩ := hA _ hA1
  refine s_sp (p' := 7) (ls' := _) rfl rfl rfl ?_
  refine s_las (p' := 8) rfl (by decide) q6 (by decide) rfl ?_
  refine s_goto (p' := 17) rfl rfl ?_
  refine s_con (p' := 18) rfl rfl ?_
  refine s_iret rfl rfl ?_
  exact ⟨_, _, rfl, rfl, h1, ou, hA1, q6, rfl⟩
theorem lw_define_1 {h : mj_H} {A : mj_H → Prop}  (h0 : ∃ fs0 : List Value, mj_rd h 0 = some (.inr (0, fs0))) (hc : mj_Wp 249 126 (0, [some (.ref 0), none], [], h) (fun o => ∃ (q : Nat) (g : mj_H), o = (.inr q, g) ∧ q < mj_CB ∧ mj_rd g q = some (.inr (13, [])) ∧ A g)) : mj_Wp 250 125 (0, [some (.ref 0), some (.ref 412), none], [], h) (mz_V fun r g => r = .int (nI 1) ∧ A g) := by
  obtain ⟨fs0, q0⟩ := h0
  refine s_aldn (p' := 1) rfl rfl rfl ?_
  refine s_con (p' := 2) rfl rfl ?_
  refine s_aldn (p' := 3) rfl rfl rfl ?_
  refine c_call (p' := 6) (kc := 249) (ls0 := [_, _]) rfl rfl rfl rfl rfl (mj_rcv_is q0) rfl rfl rfl ?_
  refine (hc).imp ?_
  rintro _ ⟨q, h1, rfl, q1, q2, hA1⟩
  refine K_c (ci := 13) (hp := 11) (Nat.blt_eq.mpr q1) (mj_ocl_is q2) rfl ?_
  refine s_astn (p' := 12) (ls' := [_, _, _]) rfl rfl rfl rfl ?_
  refine s_con (p' := 13) rfl rfl ?_
  refine s_iret rfl rfl ?_
  exact ⟨_, _, rfl, rfl, hA1⟩
theorem lw_define_2 {h : mj_H} {A : mj_H → Prop}  (h0 : ∃ fs0 : List Value, mj_rd h 0 = some (.inr (0, fs0))) (hc : mj_Wp 249 126 (0, [some (.ref 0), none], [], h) (fun o => ∃ (q : Nat) (g : mj_H), o = (.inr q, g) ∧ q < mj_CB ∧ mj_rd g q = some (.inr (11, [])) ∧ A g)) : mj_Wp 250 125 (0, [some (.ref 0), some (.ref 412), none], [], h) (mz_V fun r g => r = .int (nI 2) ∧ A g) := by
  obtain ⟨fs0, q0⟩ := h0
  refine s_aldn (p' := 1) rfl rfl rfl ?_
  refine s_con (p' := 2) rfl rfl ?_
  refine s_aldn (p' := 3) rfl rfl rfl ?_
  refine c_call (p' := 6) (kc := 249) (ls0 := [_, _]) rfl rfl rfl rfl rfl (mj_rcv_is q0) rfl rfl rfl ?_
  refine (hc).imp ?_
  rintro _ ⟨q, h1, rfl, q1, q2, hA1⟩
  refine K_c (ci := 11) (hp := 14) (Nat.blt_eq.mpr q1) (mj_ocl_is q2) rfl ?_
  refine s_astn (p' := 15) (ls' := [_, _, _]) rfl rfl rfl rfl ?_
  refine s_con (p' := 16) rfl rfl ?_
  refine s_iret rfl rfl ?_
  exact ⟨_, _, rfl, rfl, hA1⟩
theorem lw_invert_0 {h : mj_H} {A : mj_H → Prop} {v : Int32} {p0 : Int32} (h0 : ∃ fs0 : List Value, mj_rd h 0 = some (.inr (0, fs0))) (hc : mj_Wp 249 133 (0, [some (.ref 0), some (.int p0), none], [], h) (mz_V fun r g => r = .int v ∧ A g)) (hA : ∀ g, A g → ∃ ou : Nat → Int64, mj_rd g 412 = some (outC ou)) : mj_Wp 250 132 (0, [some (.ref 0), some (.int p0), some (.ref 412), none], [], h) (mz_V fun r g => r = .int (nI 0) ∧ ∃ (g1 : mj_H) (ou : Nat → Int64), A g1 ∧ mj_rd g1 412 = some (outC ou) ∧ g = g1.set 412 (outC (vp_updL ou 0 (Int32.toInt64 v)))) := by
  obtain ⟨fs0, q0⟩ := h0
  refine s_aldn (p' := 1) rfl rfl rfl ?_
  refine s_con (p' := 2) rfl rfl ?_
  refine s_aldn (p' := 3) rfl rfl rfl ?_
  refine s_ildn (p' := 4) rfl rfl rfl ?_
  refine s_callEV (p' := 7) (ls0 := [_, _, _]) rfl rfl rfl rfl rfl (mj_rcv_is q0) rfl hc rfl rfl ?_
  rintro _ h1 ⟨rfl, hA1⟩
  obtain ⟨ou, q6⟩ := hA _ hA1
  refine s_sp (p' := 8) (ls' := _) rfl rfl rfl ?_
  refine s_las (p' := 9) rfl (by decide) q6 (by decide) rfl ?_
  refine s_goto (p' := 18) rfl rfl ?_
  refine s_con (p' := 19) rfl rfl ?_
  refine s_iret rfl rfl ?_
  exact ⟨_, _, rfl, rfl, h1, ou, hA1, q6, rfl⟩
theorem lw_invert_1 {h : mj_H} {A : mj_H → Prop} {p0 : Int32} (h0 : ∃ fs0 : List Value, mj_rd h 0 = some (.inr (0, fs0))) (hc : mj_Wp 249 133 (0, [some (.ref 0), some (.int p0), none], [], h) (fun o => ∃ (q : Nat) (g : mj_H), o = (.inr q, g) ∧ q < mj_CB ∧ mj_rd g q = some (.inr (14, [])) ∧ A g)) : mj_Wp 250 132 (0, [some (.ref 0), some (.int p0), some (.ref 412), none], [], h) (mz_V fun r g => r = .int (nI 1) ∧ A g) := by
  obtain ⟨fs0, q0⟩ := h0
  refine s_aldn (p' := 1) rfl rfl rfl ?_
  refine s_con (p' := 2) rfl rfl ?_
  refine s_aldn (p' := 3) rfl rfl rfl ?_
  refine s_ildn (p' := 4) rfl rfl rfl ?_
  refine c_call (p' := 7) (kc := 249) (ls0 := [_, _, _]) rfl rfl rfl rfl rfl (mj_rcv_is q0) rfl rfl rfl ?_
  refine (hc).imp ?_
  rintro _ ⟨q, h1, rfl, q1, q2, hA1⟩
  refine K_c (ci := 14) (hp := 12) (Nat.blt_eq.mpr q1) (mj_ocl_is q2) rfl ?_
  refine s_astn (p' := 13) (ls' := [_, _, _, _]) rfl rfl rfl rfl ?_
  refine s_con (p' := 14) rfl rfl ?_
  refine s_iret rfl rfl ?_
  exact ⟨_, _, rfl, rfl, hA1⟩
theorem lw_invert_2 {h : mj_H} {A : mj_H → Prop} {p0 : Int32} (h0 : ∃ fs0 : List Value, mj_rd h 0 = some (.inr (0, fs0))) (hc : mj_Wp 249 133 (0, [some (.ref 0), some (.int p0), none], [], h) (fun o => ∃ (q : Nat) (g : mj_H), o = (.inr q, g) ∧ q < mj_CB ∧ mj_rd g q = some (.inr (11, [])) ∧ A g)) : mj_Wp 250 132 (0, [some (.ref 0), some (.int p0), some (.ref 412), none], [], h) (mz_V fun r g => r = .int (nI 2) ∧ A g) := by
  obtain ⟨fs0, q0⟩ := h0
  refine s_aldn (p' := 1) rfl rfl rfl ?_
  refine s_con (p' := 2) rfl rfl ?_
  refine s_aldn (p' := 3) rfl rfl rfl ?_
  refine s_ildn (p' := 4) rfl rfl rfl ?_
  refine c_call (p' := 7) (kc := 249) (ls0 := [_, _, _]) rfl rfl rfl rfl rfl (mj_rcv_is q0) rfl rfl rfl ?_
  refine (hc).imp ?_
  rintro _ ⟨q, h1, rfl, q1, q2, hA1⟩
  refine K_c (ci := 11) (hp := 15) (Nat.blt_eq.mpr q1) (mj_ocl_is q2) rfl ?_
  refine s_astn (p' := 16) (ls' := [_, _, _, _]) rfl rfl rfl rfl ?_
  refine s_con (p' := 17) rfl rfl ?_
  refine s_iret rfl rfl ?_
  exact ⟨_, _, rfl, rfl, hA1⟩
theorem lw_signAt_0 {h : mj_H} {A : mj_H → Prop} {v : Int32} {p0 : Int32} {p1 : Int32} (h0 : ∃ fs0 : List Value, mj_rd h 0 = some (.inr (0, fs0))) (hc : mj_Wp 249 140 (0, [some (.ref 0), some (.int p0), some (.int p1), none], [], h) (mz_V fun r g => r = .int v ∧ A g)) (hA : ∀ g, A g → ∃ ou : Nat → Int64, mj_rd g 412 = some (outC ou)) : mj_Wp 250 139 (0, [some (.ref 0), some (.int p0), some (.int p1), some (.ref 412), none], [], h) (mz_V fun r g => r = .int (nI 0) ∧ ∃ (g1 : mj_H) (ou : Nat → Int64), A g1 ∧ mj_rd g1 412 = some (outC ou) ∧ g = g1.set 412 (outC (vp_updL ou 0 (Int32.toInt64 v)))) := by
  obtain ⟨fs0, q0⟩ := h0
  refine s_aldn (p' := 1) rfl rfl rfl ?_
  refine s_con (p' := 2) rfl rfl ?_
  refine s_aldn (p' := 3) rfl rfl rfl ?_
  refine s_ildn (p' := 4) rfl rfl rfl ?_
  refine s_ildn (p' := 5) rfl rfl rfl ?_
  refine s_callEV (p' := 8) (ls0 := [_, _, _, _]) rfl rfl rfl rfl rfl (mj_rcv_is q0) rfl hc rfl rfl ?_
  rintro _ h1 ⟨rfl, hA1⟩
  obtain ⟨ou, q6⟩ := hA _ hA1
  refine s_sp (p' := 9) (ls' := _) rfl rfl rfl ?_
  refine s_las (p' := 10) rfl (by decide) q6 (by decide) rfl ?_
  refine s_goto (p' := 17) rfl rfl ?_
  refine s_con (p' := 18) rfl rfl ?_
  refine s_iret rfl rfl ?_
  exact ⟨_, _, rfl, rfl, h1, ou, hA1, q6, rfl⟩
theorem lw_signAt_1 {h : mj_H} {A : mj_H → Prop} {p0 : Int32} {p1 : Int32} (h0 : ∃ fs0 : List Value, mj_rd h 0 = some (.inr (0, fs0))) (hc : mj_Wp 249 140 (0, [some (.ref 0), some (.int p0), some (.int p1), none], [], h) (fun o => ∃ (q : Nat) (g : mj_H), o = (.inr q, g) ∧ q < mj_CB ∧ mj_rd g q = some (.inr (14, [])) ∧ A g)) : mj_Wp 250 139 (0, [some (.ref 0), some (.int p0), some (.int p1), some (.ref 412), none], [], h) (mz_V fun r g => r = .int (nI 1) ∧ A g) := by
  obtain ⟨fs0, q0⟩ := h0
  refine s_aldn (p' := 1) rfl rfl rfl ?_
  refine s_con (p' := 2) rfl rfl ?_
  refine s_aldn (p' := 3) rfl rfl rfl ?_
  refine s_ildn (p' := 4) rfl rfl rfl ?_
  refine s_ildn (p' := 5) rfl rfl rfl ?_
  refine c_call (p' := 8) (kc := 249) (ls0 := [_, _, _, _]) rfl rfl rfl rfl rfl (mj_rcv_is q0) rfl rfl rfl ?_
  refine (hc).imp ?_
  rintro _ ⟨q, h1, rfl, q1, q2, hA1⟩
  refine K_c (ci := 14) (hp := 13) (Nat.blt_eq.mpr q1) (mj_ocl_is q2) rfl ?_
  refine s_ast (p' := 15) (ls' := [_, _, _, _, _]) rfl rfl rfl rfl ?_
  refine s_con (p' := 16) rfl rfl ?_
  refine s_iret rfl rfl ?_
  exact ⟨_, _, rfl, rfl, hA1⟩
theorem lw_instruction_0 {h : mj_H} {A : mj_H → Prop} {v : Int32} {p0 : Int32} {p1 : Int32} (h0 : ∃ fs0 : List Value, mj_rd h 0 = some (.inr (0, fs0))) (hc : mj_Wp 249 144 (0, [some (.ref 0), some (.int p0), some (.int p1), none], [], h) (mz_V fun r g => r = .int v ∧ A g)) (hA : ∀ g, A g → ∃ ou : Nat → Int64, mj_rd g 412 = some (outC ou)) : mj_Wp 250 143 (0, [some (.ref 0), some (.int p0), some (.int p1), some (.ref 412), none], [], h) (mz_V fun r g => r = .int (nI 0) ∧ ∃ (g1 : mj_H) (ou : Nat → Int64), A g1 ∧ mj_rd g1 412 = some (outC ou) ∧ g = g1.set 412 (outC (vp_updL ou 0 (Int32.toInt64 v)))) := by
  obtain ⟨fs0, q0⟩ := h0
  refine s_aldn (p' := 1) rfl rfl rfl ?_
  refine s_con (p' := 2) rfl rfl ?_
  refine s_aldn (p' := 3) rfl rfl rfl ?_
  refine s_ildn (p' := 4) rfl rfl rfl ?_
  refine s_ildn (p' := 5) rfl rfl rfl ?_
  refine s_callEV (p' := 8) (ls0 := [_, _, _, _]) rfl rfl rfl rfl rfl (mj_rcv_is q0) rfl hc rfl rfl ?_
  rintro _ h1 ⟨rfl, hA1⟩
  obtain ⟨ou, q6⟩ := hA _ hA1
  refine s_sp (p' := 9) (ls' := _) rfl rfl rfl ?_
  refine s_las (p' := 10) rfl (by decide) q6 (by decide) rfl ?_
  refine s_goto (p' := 17) rfl rfl ?_
  refine s_con (p' := 18) rfl rfl ?_
  refine s_iret rfl rfl ?_
  exact ⟨_, _, rfl, rfl, h1, ou, hA1, q6, rfl⟩
theorem lw_instruction_1 {h : mj_H} {A : mj_H → Prop} {p0 : Int32} {p1 : Int32} (h0 : ∃ fs0 : List Value, mj_rd h 0 = some (.inr (0, fs0))) (hc : mj_Wp 249 144 (0, [some (.ref 0), some (.int p0), some (.int p1), none], [], h) (fun o => ∃ (q : Nat) (g : mj_H), o = (.inr q, g) ∧ q < mj_CB ∧ mj_rd g q = some (.inr (14, [])) ∧ A g)) : mj_Wp 250 143 (0, [some (.ref 0), some (.int p0), some (.int p1), some (.ref 412), none], [], h) (mz_V fun r g => r = .int (nI 1) ∧ A g) := by
  obtain ⟨fs0, q0⟩ := h0
  refine s_aldn (p' := 1) rfl rfl rfl ?_
  refine s_con (p' := 2) rfl rfl ?_
  refine s_aldn (p' := 3) rfl rfl rfl ?_
  refine s_ildn (p' := 4) rfl rfl rfl ?_
  refine s_ildn (p' := 5) rfl rfl rfl ?_
  refine c_call (p' := 8) (kc := 249) (ls0 := [_, _, _, _]) rfl rfl rfl rfl rfl (mj_rcv_is q0) rfl rfl rfl ?_
  refine (hc).imp ?_
  rintro _ ⟨q, h1, rfl, q1, q2, hA1⟩
  refine K_c (ci := 14) (hp := 13) (Nat.blt_eq.mpr q1) (mj_ocl_is q2) rfl ?_
  refine s_ast (p' := 15) (ls' := [_, _, _, _, _]) rfl rfl rfl rfl ?_
  refine s_con (p' := 16) rfl rfl ?_
  refine s_iret rfl rfl ?_
  exact ⟨_, _, rfl, rfl, hA1⟩
theorem lw_start_0 {h : mj_H} {A : mj_H → Prop} {v : Int32} {p0 : Int32} {p1 : Int32} (h0 : ∃ fs0 : List Value, mj_rd h 0 = some (.inr (0, fs0))) (hc : mj_Wp 249 154 (0, [some (.ref 0), some (.int p0), some (.int p1)], [], h) (mz_V fun r g => r = .int v ∧ A g)) (hA : ∀ g, A g → ∃ ou : Nat → Int64, mj_rd g 412 = some (outC ou)) : mj_Wp 250 153 (0, [some (.ref 0), some (.int p0), some (.int p1), some (.ref 412), none], [], h) (mz_V fun r g => r = .int (nI 0) ∧ ∃ (g1 : mj_H) (ou : Nat → Int64), A g1 ∧ mj_rd g1 412 = some (outC ou) ∧ g = g1.set 412 (outC (vp_updL ou 0 (Int32.toInt64 v)))) := by
  obtain ⟨fs0, q0⟩ := h0
  refine s_aldn (p' := 1) rfl rfl rfl ?_
  refine s_con (p' := 2) rfl rfl ?_
  refine s_aldn (p' := 3) rfl rfl rfl ?_
  refine s_ildn (p' := 4) rfl rfl rfl ?_
  refine s_ildn (p' := 5) rfl rfl rfl ?_
  refine s_callEV (p' := 8) (ls0 := [_, _, _]) rfl rfl rfl rfl rfl (mj_rcv_is q0) rfl hc rfl rfl ?_
  rintro _ h1 ⟨rfl, hA1⟩
  obtain ⟨ou, q6⟩ := hA _ hA1
  refine s_sp (p' := 9) (ls' := _) rfl rfl rfl ?_
  refine s_las (p' := 10) rfl (by decide) q6 (by decide) rfl ?_
  refine s_goto (p' := 17) rfl rfl ?_
  refine s_con (p' := 18) rfl rfl ?_
  refine s_iret rfl rfl ?_
  exact ⟨_, _, rfl, rfl, h1, ou, hA1, q6, rfl⟩
theorem lw_start_1 {h : mj_H} {A : mj_H → Prop} {p0 : Int32} {p1 : Int32} (h0 : ∃ fs0 : List Value, mj_rd h 0 = some (.inr (0, fs0))) (hc : mj_Wp 249 154 (0, [some (.ref 0), some (.int p0), some (.int p1)], [], h) (fun o => ∃ (q : Nat) (g : mj_H), o = (.inr q, g) ∧ q < mj_CB ∧ mj_rd g q = some (.inr (14, [])) ∧ A g)) : mj_Wp 250 153 (0, [some (.ref 0), some (.int p0), some (.int p1), some (.ref 412), none], [], h) (mz_V fun r g => r = .int (nI 1) ∧ A g) := by
  obtain ⟨fs0, q0⟩ := h0
  refine s_aldn (p' := 1) rfl rfl rfl ?_
  refine s_con (p' := 2) rfl rfl ?_
  refine s_aldn (p' := 3) rfl rfl rfl ?_
  refine s_ildn (p' := 4) rfl rfl rfl ?_
  refine s_ildn (p' := 5) rfl rfl rfl ?_
  refine c_call (p' := 8) (kc := 249) (ls0 := [_, _, _]) rfl rfl rfl rfl rfl (mj_rcv_is q0) rfl rfl rfl ?_
  refine (hc).imp ?_
  rintro _ ⟨q, h1, rfl, q1, q2, hA1⟩
  refine K_c (ci := 14) (hp := 13) (Nat.blt_eq.mpr q1) (mj_ocl_is q2) rfl ?_
  refine s_ast (p' := 15) (ls' := [_, _, _, _, _]) rfl rfl rfl rfl ?_
  refine s_con (p' := 16) rfl rfl ?_
  refine s_iret rfl rfl ?_
  exact ⟨_, _, rfl, rfl, hA1⟩
theorem lw_go_0 {h : mj_H} {A : mj_H → Prop} {v : Int32} {p0 : Int32} {p1 : Int32} (h0 : ∃ fs0 : List Value, mj_rd h 0 = some (.inr (0, fs0))) (hc : mj_Wp 249 158 (0, [some (.ref 0), some (.int p0), some (.int p1), none], [], h) (mz_V fun r g => r = .int v ∧ A g)) (hA : ∀ g, A g → ∃ ou : Nat → Int64, mj_rd g 412 = some (outC ou)) : mj_Wp 250 157 (0, [some (.ref 0), some (.int p0), some (.int p1), some (.ref 412), none], [], h) (mz_V fun r g => r = .int (nI 0) ∧ ∃ (g1 : mj_H) (ou : Nat → Int64), A g1 ∧ mj_rd g1 412 = some (outC ou) ∧ g = g1.set 412 (outC (vp_updL ou 0 (Int32.toInt64 v)))) := by
  obtain ⟨fs0, q0⟩ := h0
  refine s_aldn (p' := 1) rfl rfl rfl ?_
  refine s_con (p' := 2) rfl rfl ?_
  refine s_aldn (p' := 3) rfl rfl rfl ?_
  refine s_ildn (p' := 4) rfl rfl rfl ?_
  refine s_ildn (p' := 5) rfl rfl rfl ?_
  refine s_callEV (p' := 8) (ls0 := [_, _, _, _]) rfl rfl rfl rfl rfl (mj_rcv_is q0) rfl hc rfl rfl ?_
  rintro _ h1 ⟨rfl, hA1⟩
  obtain ⟨ou, q6⟩ := hA _ hA1
  refine s_sp (p' := 9) (ls' := _) rfl rfl rfl ?_
  refine s_las (p' := 10) rfl (by decide) q6 (by decide) rfl ?_
  refine s_goto (p' := 21) rfl rfl ?_
  refine s_con (p' := 22) rfl rfl ?_
  refine s_iret rfl rfl ?_
  exact ⟨_, _, rfl, rfl, h1, ou, hA1, q6, rfl⟩
theorem lw_go_1 {h : mj_H} {A : mj_H → Prop} {p0 : Int32} {p1 : Int32} (h0 : ∃ fs0 : List Value, mj_rd h 0 = some (.inr (0, fs0))) (hc : mj_Wp 249 158 (0, [some (.ref 0), some (.int p0), some (.int p1), none], [], h) (fun o => ∃ (q : Nat) (g : mj_H), o = (.inr q, g) ∧ q < mj_CB ∧ mj_rd g q = some (.inr (13, [])) ∧ A g)) : mj_Wp 250 157 (0, [some (.ref 0), some (.int p0), some (.int p1), some (.ref 412), none], [], h) (mz_V fun r g => r = .int (nI 1) ∧ A g) := by
  obtain ⟨fs0, q0⟩ := h0
  refine s_aldn (p' := 1) rfl rfl rfl ?_
  refine s_con (p' := 2) rfl rfl ?_
  refine s_aldn (p' := 3) rfl rfl rfl ?_
  refine s_ildn (p' := 4) rfl rfl rfl ?_
  refine s_ildn (p' := 5) rfl rfl rfl ?_
  refine c_call (p' := 8) (kc := 249) (ls0 := [_, _, _, _]) rfl rfl rfl rfl rfl (mj_rcv_is q0) rfl rfl rfl ?_
  refine (hc).imp ?_
  rintro _ ⟨q, h1, rfl, q1, q2, hA1⟩
  refine K_c (ci := 13) (hp := 13) (Nat.blt_eq.mpr q1) (mj_ocl_is q2) rfl ?_
  refine s_ast (p' := 15) (ls' := [_, _, _, _, _]) rfl rfl rfl rfl ?_
  refine s_con (p' := 16) rfl rfl ?_
  refine s_iret rfl rfl ?_
  exact ⟨_, _, rfl, rfl, hA1⟩
theorem lw_go_2 {h : mj_H} {A : mj_H → Prop} {p0 : Int32} {p1 : Int32} (h0 : ∃ fs0 : List Value, mj_rd h 0 = some (.inr (0, fs0))) (hc : mj_Wp 249 158 (0, [some (.ref 0), some (.int p0), some (.int p1), none], [], h) (fun o => ∃ (q : Nat) (g : mj_H), o = (.inr q, g) ∧ q < mj_CB ∧ mj_rd g q = some (.inr (11, [])) ∧ A g)) : mj_Wp 250 157 (0, [some (.ref 0), some (.int p0), some (.int p1), some (.ref 412), none], [], h) (mz_V fun r g => r = .int (nI 2) ∧ A g) := by
  obtain ⟨fs0, q0⟩ := h0
  refine s_aldn (p' := 1) rfl rfl rfl ?_
  refine s_con (p' := 2) rfl rfl ?_
  refine s_aldn (p' := 3) rfl rfl rfl ?_
  refine s_ildn (p' := 4) rfl rfl rfl ?_
  refine s_ildn (p' := 5) rfl rfl rfl ?_
  refine c_call (p' := 8) (kc := 249) (ls0 := [_, _, _, _]) rfl rfl rfl rfl rfl (mj_rcv_is q0) rfl rfl rfl ?_
  refine (hc).imp ?_
  rintro _ ⟨q, h1, rfl, q1, q2, hA1⟩
  refine K_c (ci := 11) (hp := 17) (Nat.blt_eq.mpr q1) (mj_ocl_is q2) rfl ?_
  refine s_ast (p' := 19) (ls' := [_, _, _, _, _]) rfl rfl rfl rfl ?_
  refine s_con (p' := 20) rfl rfl ?_
  refine s_iret rfl rfl ?_
  exact ⟨_, _, rfl, rfl, hA1⟩
theorem lw_run_0 {h : mj_H} {A : mj_H → Prop} {v : Int32} {p0 : Int32} {p1 : Int32} (h0 : ∃ fs0 : List Value, mj_rd h 0 = some (.inr (0, fs0))) (hc : mj_Wp 249 193 (0, [some (.ref 0), some (.int p0), some (.int p1), none], [], h) (mz_V fun r g => r = .int v ∧ A g)) (hA : ∀ g, A g → ∃ ou : Nat → Int64, mj_rd g 412 = some (outC ou)) : mj_Wp 250 192 (0, [some (.ref 0), some (.int p0), some (.int p1), some (.ref 412), none], [], h) (mz_V fun r g => r = .int (nI 0) ∧ ∃ (g1 : mj_H) (ou : Nat → Int64), A g1 ∧ mj_rd g1 412 = some (outC ou) ∧ g = g1.set 412 (outC (vp_updL ou 0 (Int32.toInt64 v)))) := by
  obtain ⟨fs0, q0⟩ := h0
  refine s_aldn (p' := 1) rfl rfl rfl ?_
  refine s_con (p' := 2) rfl rfl ?_
  refine s_aldn (p' := 3) rfl rfl rfl ?_
  refine s_ildn (p' := 4) rfl rfl rfl ?_
  refine s_ildn (p' := 5) rfl rfl rfl ?_
  refine s_callEV (p' := 8) (ls0 := [_, _, _, _]) rfl rfl rfl rfl rfl (mj_rcv_is q0) rfl hc rfl rfl ?_
  rintro _ h1 ⟨rfl, hA1⟩
  obtain ⟨ou, q6⟩ := hA _ hA1
  refine s_sp (p' := 9) (ls' := _) rfl rfl rfl ?_
  refine s_las (p' := 10) rfl (by decide) q6 (by decide) rfl ?_
  refine s_goto (p' := 21) rfl rfl ?_
  refine s_con (p' := 22) rfl rfl ?_
  refine s_iret rfl rfl ?_
  exact ⟨_, _, rfl, rfl, h1, ou, hA1, q6, rfl⟩
theorem lw_run_1 {h : mj_H} {A : mj_H → Prop} {p0 : Int32} {p1 : Int32} (h0 : ∃ fs0 : List Value, mj_rd h 0 = some (.inr (0, fs0))) (hc : mj_Wp 249 193 (0, [some (.ref 0), some (.int p0), some (.int p1), none], [], h) (fun o => ∃ (q : Nat) (g : mj_H), o = (.inr q, g) ∧ q < mj_CB ∧ mj_rd g q = some (.inr (14, [])) ∧ A g)) : mj_Wp 250 192 (0, [some (.ref 0), some (.int p0), some (.int p1), some (.ref 412), none], [], h) (mz_V fun r g => r = .int (nI 1) ∧ A g) := by
  obtain ⟨fs0, q0⟩ := h0
  refine s_aldn (p' := 1) rfl rfl rfl ?_
  refine s_con (p' := 2) rfl rfl ?_
  refine s_aldn (p' := 3) rfl rfl rfl ?_
  refine s_ildn (p' := 4) rfl rfl rfl ?_
  refine s_ildn (p' := 5) rfl rfl rfl ?_
  refine c_call (p' := 8) (kc := 249) (ls0 := [_, _, _, _]) rfl rfl rfl rfl rfl (mj_rcv_is q0) rfl rfl rfl ?_
  refine (hc).imp ?_
  rintro _ ⟨q, h1, rfl, q1, q2, hA1⟩
  refine K_c (ci := 14) (hp := 13) (Nat.blt_eq.mpr q1) (mj_ocl_is q2) rfl ?_
  refine s_ast (p' := 15) (ls' := [_, _, _, _, _]) rfl rfl rfl rfl ?_
  refine s_con (p' := 16) rfl rfl ?_
  refine s_iret rfl rfl ?_
  exact ⟨_, _, rfl, rfl, hA1⟩
theorem lw_run_2 {h : mj_H} {A : mj_H → Prop} {p0 : Int32} {p1 : Int32} (h0 : ∃ fs0 : List Value, mj_rd h 0 = some (.inr (0, fs0))) (hc : mj_Wp 249 193 (0, [some (.ref 0), some (.int p0), some (.int p1), none], [], h) (fun o => ∃ (q : Nat) (g : mj_H), o = (.inr q, g) ∧ q < mj_CB ∧ mj_rd g q = some (.inr (15, [])) ∧ A g)) : mj_Wp 250 192 (0, [some (.ref 0), some (.int p0), some (.int p1), some (.ref 412), none], [], h) (mz_V fun r g => r = .int (nI 2) ∧ A g) := by
  obtain ⟨fs0, q0⟩ := h0
  refine s_aldn (p' := 1) rfl rfl rfl ?_
  refine s_con (p' := 2) rfl rfl ?_
  refine s_aldn (p' := 3) rfl rfl rfl ?_
  refine s_ildn (p' := 4) rfl rfl rfl ?_
  refine s_ildn (p' := 5) rfl rfl rfl ?_
  refine c_call (p' := 8) (kc := 249) (ls0 := [_, _, _, _]) rfl rfl rfl rfl rfl (mj_rcv_is q0) rfl rfl rfl ?_
  refine (hc).imp ?_
  rintro _ ⟨q, h1, rfl, q1, q2, hA1⟩
  refine K_c (ci := 15) (hp := 17) (Nat.blt_eq.mpr q1) (mj_ocl_is q2) rfl ?_
  refine s_ast (p' := 19) (ls' := [_, _, _, _, _]) rfl rfl rfl rfl ?_
  refine s_con (p' := 20) rfl rfl ?_
  refine s_iret rfl rfl ?_
  exact ⟨_, _, rfl, rfl, hA1⟩
theorem lw_image_0 {h : mj_H} {A : mj_H → Prop} {v : Int32} {p0 : Int32} {p1 : Int32} {p2 : Int32} (h0 : ∃ fs0 : List Value, mj_rd h 0 = some (.inr (0, fs0))) (hc : mj_Wp 249 200 (0, [some (.ref 0), some (.int p0), some (.int p1), some (.int p2)], [], h) (mz_V fun r g => r = .int v ∧ A g)) (hA : ∀ g, A g → ∃ ou : Nat → Int64, mj_rd g 412 = some (outC ou)) : mj_Wp 250 199 (0, [some (.ref 0), some (.int p0), some (.int p1), some (.int p2), some (.ref 412), none], [], h) (mz_V fun r g => r = .int (nI 0) ∧ ∃ (g1 : mj_H) (ou : Nat → Int64), A g1 ∧ mj_rd g1 412 = some (outC ou) ∧ g = g1.set 412 (outC (vp_updL ou 0 (Int32.toInt64 v)))) := by
  obtain ⟨fs0, q0⟩ := h0
  refine s_ald (p' := 2) rfl rfl rfl ?_
  refine s_con (p' := 3) rfl rfl ?_
  refine s_aldn (p' := 4) rfl rfl rfl ?_
  refine s_ildn (p' := 5) rfl rfl rfl ?_
  refine s_ildn (p' := 6) rfl rfl rfl ?_
  refine s_ildn (p' := 7) rfl rfl rfl ?_
  refine s_callEV (p' := 10) (ls0 := [_, _, _, _]) rfl rfl rfl rfl rfl (mj_rcv_is q0) rfl hc rfl rfl ?_
  rintro _ h1 ⟨rfl, hA1⟩
  obtain ⟨ou, q6⟩ := hA _ hA1
  refine s_sp (p' := 11) (ls' := _) rfl rfl rfl ?_
  refine s_las (p' := 12) rfl (by decide) q6 (by decide) rfl ?_
  refine s_goto (p' := 27) rfl rfl ?_
  refine s_con (p' := 28) rfl rfl ?_
  refine s_iret rfl rfl ?_
  exact ⟨_, _, rfl, rfl, h1, ou, hA1, q6, rfl⟩
theorem lw_image_1 {h : mj_H} {A : mj_H → Prop} {p0 : Int32} {p1 : Int32} {p2 : Int32} (h0 : ∃ fs0 : List Value, mj_rd h 0 = some (.inr (0, fs0))) (hc : mj_Wp 249 200 (0, [some (.ref 0), some (.int p0), some (.int p1), some (.int p2)], [], h) (fun o => ∃ (q : Nat) (g : mj_H), o = (.inr q, g) ∧ q < mj_CB ∧ mj_rd g q = some (.inr (14, [])) ∧ A g)) : mj_Wp 250 199 (0, [some (.ref 0), some (.int p0), some (.int p1), some (.int p2), some (.ref 412), none], [], h) (mz_V fun r g => r = .int (nI 1) ∧ A g) := by
  obtain ⟨fs0, q0⟩ := h0
  refine s_ald (p' := 2) rfl rfl rfl ?_
  refine s_con (p' := 3) rfl rfl ?_
  refine s_aldn (p' := 4) rfl rfl rfl ?_
  refine s_ildn (p' := 5) rfl rfl rfl ?_
  refine s_ildn (p' := 6) rfl rfl rfl ?_
  refine s_ildn (p' := 7) rfl rfl rfl ?_
  refine c_call (p' := 10) (kc := 249) (ls0 := [_, _, _, _]) rfl rfl rfl rfl rfl (mj_rcv_is q0) rfl rfl rfl ?_
  refine (hc).imp ?_
  rintro _ ⟨q, h1, rfl, q1, q2, hA1⟩
  refine K_c (ci := 14) (hp := 15) (Nat.blt_eq.mpr q1) (mj_ocl_is q2) rfl ?_
  refine s_ast (p' := 17) (ls' := [_, _, _, _, _, _]) rfl rfl rfl rfl ?_
  refine s_con (p' := 18) rfl rfl ?_
  refine s_iret rfl rfl ?_
  exact ⟨_, _, rfl, rfl, hA1⟩
theorem lw_image_2 {h : mj_H} {A : mj_H → Prop} {p0 : Int32} {p1 : Int32} {p2 : Int32} (h0 : ∃ fs0 : List Value, mj_rd h 0 = some (.inr (0, fs0))) (hc : mj_Wp 249 200 (0, [some (.ref 0), some (.int p0), some (.int p1), some (.int p2)], [], h) (fun o => ∃ (q : Nat) (g : mj_H), o = (.inr q, g) ∧ q < mj_CB ∧ mj_rd g q = some (.inr (13, [])) ∧ A g)) : mj_Wp 250 199 (0, [some (.ref 0), some (.int p0), some (.int p1), some (.int p2), some (.ref 412), none], [], h) (mz_V fun r g => r = .int (nI 2) ∧ A g) := by
  obtain ⟨fs0, q0⟩ := h0
  refine s_ald (p' := 2) rfl rfl rfl ?_
  refine s_con (p' := 3) rfl rfl ?_
  refine s_aldn (p' := 4) rfl rfl rfl ?_
  refine s_ildn (p' := 5) rfl rfl rfl ?_
  refine s_ildn (p' := 6) rfl rfl rfl ?_
  refine s_ildn (p' := 7) rfl rfl rfl ?_
  refine c_call (p' := 10) (kc := 249) (ls0 := [_, _, _, _]) rfl rfl rfl rfl rfl (mj_rcv_is q0) rfl rfl rfl ?_
  refine (hc).imp ?_
  rintro _ ⟨q, h1, rfl, q1, q2, hA1⟩
  refine K_c (ci := 13) (hp := 19) (Nat.blt_eq.mpr q1) (mj_ocl_is q2) rfl ?_
  refine s_ast (p' := 21) (ls' := [_, _, _, _, _, _]) rfl rfl rfl rfl ?_
  refine s_con (p' := 22) rfl rfl ?_
  refine s_iret rfl rfl ?_
  exact ⟨_, _, rfl, rfl, hA1⟩
theorem lw_image_3 {h : mj_H} {A : mj_H → Prop} {p0 : Int32} {p1 : Int32} {p2 : Int32} (h0 : ∃ fs0 : List Value, mj_rd h 0 = some (.inr (0, fs0))) (hc : mj_Wp 249 200 (0, [some (.ref 0), some (.int p0), some (.int p1), some (.int p2)], [], h) (fun o => ∃ (q : Nat) (g : mj_H), o = (.inr q, g) ∧ q < mj_CB ∧ mj_rd g q = some (.inr (12, [])) ∧ A g)) : mj_Wp 250 199 (0, [some (.ref 0), some (.int p0), some (.int p1), some (.int p2), some (.ref 412), none], [], h) (mz_V fun r g => r = .int (nI 3) ∧ A g) := by
  obtain ⟨fs0, q0⟩ := h0
  refine s_ald (p' := 2) rfl rfl rfl ?_
  refine s_con (p' := 3) rfl rfl ?_
  refine s_aldn (p' := 4) rfl rfl rfl ?_
  refine s_ildn (p' := 5) rfl rfl rfl ?_
  refine s_ildn (p' := 6) rfl rfl rfl ?_
  refine s_ildn (p' := 7) rfl rfl rfl ?_
  refine c_call (p' := 10) (kc := 249) (ls0 := [_, _, _, _]) rfl rfl rfl rfl rfl (mj_rcv_is q0) rfl rfl rfl ?_
  refine (hc).imp ?_
  rintro _ ⟨q, h1, rfl, q1, q2, hA1⟩
  refine K_c (ci := 12) (hp := 23) (Nat.blt_eq.mpr q1) (mj_ocl_is q2) rfl ?_
  refine s_ast (p' := 25) (ls' := [_, _, _, _, _, _]) rfl rfl rfl rfl ?_
  refine s_con (p' := 26) rfl rfl ?_
  refine s_iret rfl rfl ?_
  exact ⟨_, _, rfl, rfl, hA1⟩
theorem lw_works_0 {h : mj_H} {A : mj_H → Prop} {v : Int32} {p0 : Int32} {p1 : Int32} (h0 : ∃ fs0 : List Value, mj_rd h 0 = some (.inr (0, fs0))) (hc : mj_Wp 249 203 (0, [some (.ref 0), some (.int p0), some (.int p1), none, none], [], h) (mz_V fun r g => r = .int v ∧ A g)) (hA : ∀ g, A g → ∃ ou : Nat → Int64, mj_rd g 412 = some (outC ou)) : mj_Wp 250 202 (0, [some (.ref 0), some (.int p0), some (.int p1), some (.ref 412), none], [], h) (mz_V fun r g => r = .int (nI 0) ∧ ∃ (g1 : mj_H) (ou : Nat → Int64), A g1 ∧ mj_rd g1 412 = some (outC ou) ∧ g = g1.set 412 (outC (vp_updL ou 0 (Int32.toInt64 v)))) := by
  obtain ⟨fs0, q0⟩ := h0
  refine s_aldn (p' := 1) rfl rfl rfl ?_
  refine s_con (p' := 2) rfl rfl ?_
  refine s_aldn (p' := 3) rfl rfl rfl ?_
  refine s_ildn (p' := 4) rfl rfl rfl ?_
  refine s_ildn (p' := 5) rfl rfl rfl ?_
  refine s_callEV (p' := 8) (ls0 := [_, _, _, _, _]) rfl rfl rfl rfl rfl (mj_rcv_is q0) rfl hc rfl rfl ?_
  rintro _ h1 ⟨rfl, hA1⟩
  obtain ⟨ou, q6⟩ := hA _ hA1
  refine s_sp (p' := 9) (ls' := _) rfl rfl rfl ?_
  refine s_las (p' := 10) rfl (by decide) q6 (by decide) rfl ?_
  refine s_goto (p' := 21) rfl rfl ?_
  refine s_con (p' := 22) rfl rfl ?_
  refine s_iret rfl rfl ?_
  exact ⟨_, _, rfl, rfl, h1, ou, hA1, q6, rfl⟩
theorem lw_works_1 {h : mj_H} {A : mj_H → Prop} {p0 : Int32} {p1 : Int32} (h0 : ∃ fs0 : List Value, mj_rd h 0 = some (.inr (0, fs0))) (hc : mj_Wp 249 203 (0, [some (.ref 0), some (.int p0), some (.int p1), none, none], [], h) (fun o => ∃ (q : Nat) (g : mj_H), o = (.inr q, g) ∧ q < mj_CB ∧ mj_rd g q = some (.inr (14, [])) ∧ A g)) : mj_Wp 250 202 (0, [some (.ref 0), some (.int p0), some (.int p1), some (.ref 412), none], [], h) (mz_V fun r g => r = .int (nI 1) ∧ A g) := by
  obtain ⟨fs0, q0⟩ := h0
  refine s_aldn (p' := 1) rfl rfl rfl ?_
  refine s_con (p' := 2) rfl rfl ?_
  refine s_aldn (p' := 3) rfl rfl rfl ?_
  refine s_ildn (p' := 4) rfl rfl rfl ?_
  refine s_ildn (p' := 5) rfl rfl rfl ?_
  refine c_call (p' := 8) (kc := 249) (ls0 := [_, _, _, _, _]) rfl rfl rfl rfl rfl (mj_rcv_is q0) rfl rfl rfl ?_
  refine (hc).imp ?_
  rintro _ ⟨q, h1, rfl, q1, q2, hA1⟩
  refine K_c (ci := 14) (hp := 13) (Nat.blt_eq.mpr q1) (mj_ocl_is q2) rfl ?_
  refine s_ast (p' := 15) (ls' := [_, _, _, _, _]) rfl rfl rfl rfl ?_
  refine s_con (p' := 16) rfl rfl ?_
  refine s_iret rfl rfl ?_
  exact ⟨_, _, rfl, rfl, hA1⟩
theorem lw_works_2 {h : mj_H} {A : mj_H → Prop} {p0 : Int32} {p1 : Int32} (h0 : ∃ fs0 : List Value, mj_rd h 0 = some (.inr (0, fs0))) (hc : mj_Wp 249 203 (0, [some (.ref 0), some (.int p0), some (.int p1), none, none], [], h) (fun o => ∃ (q : Nat) (g : mj_H), o = (.inr q, g) ∧ q < mj_CB ∧ mj_rd g q = some (.inr (13, [])) ∧ A g)) : mj_Wp 250 202 (0, [some (.ref 0), some (.int p0), some (.int p1), some (.ref 412), none], [], h) (mz_V fun r g => r = .int (nI 2) ∧ A g) := by
  obtain ⟨fs0, q0⟩ := h0
  refine s_aldn (p' := 1) rfl rfl rfl ?_
  refine s_con (p' := 2) rfl rfl ?_
  refine s_aldn (p' := 3) rfl rfl rfl ?_
  refine s_ildn (p' := 4) rfl rfl rfl ?_
  refine s_ildn (p' := 5) rfl rfl rfl ?_
  refine c_call (p' := 8) (kc := 249) (ls0 := [_, _, _, _, _]) rfl rfl rfl rfl rfl (mj_rcv_is q0) rfl rfl rfl ?_
  refine (hc).imp ?_
  rintro _ ⟨q, h1, rfl, q1, q2, hA1⟩
  refine K_c (ci := 13) (hp := 17) (Nat.blt_eq.mpr q1) (mj_ocl_is q2) rfl ?_
  refine s_ast (p' := 19) (ls' := [_, _, _, _, _]) rfl rfl rfl rfl ?_
  refine s_con (p' := 20) rfl rfl ?_
  refine s_iret rfl rfl ?_
  exact ⟨_, _, rfl, rfl, hA1⟩
theorem lw_alike_0 {h : mj_H} {A : mj_H → Prop} {v : Int32} {p0 : Int32} {p1 : Int32} (h0 : ∃ fs0 : List Value, mj_rd h 0 = some (.inr (0, fs0))) (hc : mj_Wp 249 205 (0, [some (.ref 0), some (.int p0), some (.int p1), none, none, none], [], h) (mz_V fun r g => r = .int v ∧ A g)) (hA : ∀ g, A g → ∃ ou : Nat → Int64, mj_rd g 412 = some (outC ou)) : mj_Wp 250 204 (0, [some (.ref 0), some (.int p0), some (.int p1), some (.ref 412), none], [], h) (mz_V fun r g => r = .int (nI 0) ∧ ∃ (g1 : mj_H) (ou : Nat → Int64), A g1 ∧ mj_rd g1 412 = some (outC ou) ∧ g = g1.set 412 (outC (vp_updL ou 0 (Int32.toInt64 v)))) := by
  obtain ⟨fs0, q0⟩ := h0
  refine s_aldn (p' := 1) rfl rfl rfl ?_
  refine s_con (p' := 2) rfl rfl ?_
  refine s_aldn (p' := 3) rfl rfl rfl ?_
  refine s_ildn (p' := 4) rfl rfl rfl ?_
  refine s_ildn (p' := 5) rfl rfl rfl ?_
  refine s_callEV (p' := 8) (ls0 := [_, _, _, _, _, _]) rfl rfl rfl rfl rfl (mj_rcv_is q0) rfl hc rfl rfl ?_
  rintro _ h1 ⟨rfl, hA1⟩
  obtain ⟨ou, q6⟩ := hA _ hA1
  refine s_sp (p' := 9) (ls' := _) rfl rfl rfl ?_
  refine s_las (p' := 10) rfl (by decide) q6 (by decide) rfl ?_
  refine s_goto (p' := 21) rfl rfl ?_
  refine s_con (p' := 22) rfl rfl ?_
  refine s_iret rfl rfl ?_
  exact ⟨_, _, rfl, rfl, h1, ou, hA1, q6, rfl⟩
theorem lw_alike_1 {h : mj_H} {A : mj_H → Prop} {p0 : Int32} {p1 : Int32} (h0 : ∃ fs0 : List Value, mj_rd h 0 = some (.inr (0, fs0))) (hc : mj_Wp 249 205 (0, [some (.ref 0), some (.int p0), some (.int p1), none, none, none], [], h) (fun o => ∃ (q : Nat) (g : mj_H), o = (.inr q, g) ∧ q < mj_CB ∧ mj_rd g q = some (.inr (14, [])) ∧ A g)) : mj_Wp 250 204 (0, [some (.ref 0), some (.int p0), some (.int p1), some (.ref 412), none], [], h) (mz_V fun r g => r = .int (nI 1) ∧ A g) := by
  obtain ⟨fs0, q0⟩ := h0
  refine s_aldn (p' := 1) rfl rfl rfl ?_
  refine s_con (p' := 2) rfl rfl ?_
  refine s_aldn (p' := 3) rfl rfl rfl ?_
  refine s_ildn (p' := 4) rfl rfl rfl ?_
  refine s_ildn (p' := 5) rfl rfl rfl ?_
  refine c_call (p' := 8) (kc := 249) (ls0 := [_, _, _, _, _, _]) rfl rfl rfl rfl rfl (mj_rcv_is q0) rfl rfl rfl ?_
  refine (hc).imp ?_
  rintro _ ⟨q, h1, rfl, q1, q2, hA1⟩
  refine K_c (ci := 14) (hp := 13) (Nat.blt_eq.mpr q1) (mj_ocl_is q2) rfl ?_
  refine s_ast (p' := 15) (ls' := [_, _, _, _, _]) rfl rfl rfl rfl ?_
  refine s_con (p' := 16) rfl rfl ?_
  refine s_iret rfl rfl ?_
  exact ⟨_, _, rfl, rfl, hA1⟩
theorem lw_alike_2 {h : mj_H} {A : mj_H → Prop} {p0 : Int32} {p1 : Int32} (h0 : ∃ fs0 : List Value, mj_rd h 0 = some (.inr (0, fs0))) (hc : mj_Wp 249 205 (0, [some (.ref 0), some (.int p0), some (.int p1), none, none, none], [], h) (fun o => ∃ (q : Nat) (g : mj_H), o = (.inr q, g) ∧ q < mj_CB ∧ mj_rd g q = some (.inr (13, [])) ∧ A g)) : mj_Wp 250 204 (0, [some (.ref 0), some (.int p0), some (.int p1), some (.ref 412), none], [], h) (mz_V fun r g => r = .int (nI 2) ∧ A g) := by
  obtain ⟨fs0, q0⟩ := h0
  refine s_aldn (p' := 1) rfl rfl rfl ?_
  refine s_con (p' := 2) rfl rfl ?_
  refine s_aldn (p' := 3) rfl rfl rfl ?_
  refine s_ildn (p' := 4) rfl rfl rfl ?_
  refine s_ildn (p' := 5) rfl rfl rfl ?_
  refine c_call (p' := 8) (kc := 249) (ls0 := [_, _, _, _, _, _]) rfl rfl rfl rfl rfl (mj_rcv_is q0) rfl rfl rfl ?_
  refine (hc).imp ?_
  rintro _ ⟨q, h1, rfl, q1, q2, hA1⟩
  refine K_c (ci := 13) (hp := 17) (Nat.blt_eq.mpr q1) (mj_ocl_is q2) rfl ?_
  refine s_ast (p' := 19) (ls' := [_, _, _, _, _]) rfl rfl rfl rfl ?_
  refine s_con (p' := 20) rfl rfl ?_
  refine s_iret rfl rfl ?_
  exact ⟨_, _, rfl, rfl, hA1⟩
