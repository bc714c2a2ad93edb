/-! The state at the start. -/
def ins0 (q : Nat) : Int32 := if q = 0 ∨ q = 3 then nI 32 else nI 0
set_option maxRecDepth 100000 in
theorem h0_in1 : ∀ j, j < 30 → mj_rd mc_h0 (1 + 6 + j) = some (inC ins0)
  | 0, _ => rfl
  | 1, _ => rfl
  | 2, _ => rfl
  | 3, _ => rfl
  | 4, _ => rfl
  | 5, _ => rfl
  | 6, _ => rfl
  | 7, _ => rfl
  | 8, _ => rfl
  | 9, _ => rfl
  | 10, _ => rfl
  | 11, _ => rfl
  | 12, _ => rfl
  | 13, _ => rfl
  | 14, _ => rfl
  | 15, _ => rfl
  | 16, _ => rfl
  | 17, _ => rfl
  | 18, _ => rfl
  | 19, _ => rfl
  | 20, _ => rfl
  | 21, _ => rfl
  | 22, _ => rfl
  | 23, _ => rfl
  | 24, _ => rfl
  | 25, _ => rfl
  | 26, _ => rfl
  | 27, _ => rfl
  | 28, _ => rfl
  | 29, _ => rfl
  | j + 30, h => absurd h (by omega)
set_option maxRecDepth 100000 in
theorem h0_px1 : cPx mc_h0 1 0 (fun _ => 0) := ⟨rfl, by omega, 0, 0, nI 0, nI 32, nI 0, fun _ => ins0, rfl, ⟨_, rfl, rfl, fun j hj => absurd hj (Nat.not_lt_zero j)⟩, rfl, ⟨_, rfl, fun j hj => by
  show (if j < 30 then some _ else none) = _
  rw [if_pos hj]
  exact congrArg some (show (1 + 3 + (j + 3) : Nat) = 1 + 6 + j by omega)⟩, h0_in1⟩
set_option maxRecDepth 100000 in
theorem h0_in77 : ∀ j, j < 30 → mj_rd mc_h0 (77 + 6 + j) = some (inC ins0)
  | 0, _ => rfl
  | 1, _ => rfl
  | 2, _ => rfl
  | 3, _ => rfl
  | 4, _ => rfl
  | 5, _ => rfl
  | 6, _ => rfl
  | 7, _ => rfl
  | 8, _ => rfl
  | 9, _ => rfl
  | 10, _ => rfl
  | 11, _ => rfl
  | 12, _ => rfl
  | 13, _ => rfl
  | 14, _ => rfl
  | 15, _ => rfl
  | 16, _ => rfl
  | 17, _ => rfl
  | 18, _ => rfl
  | 19, _ => rfl
  | 20, _ => rfl
  | 21, _ => rfl
  | 22, _ => rfl
  | 23, _ => rfl
  | 24, _ => rfl
  | 25, _ => rfl
  | 26, _ => rfl
  | 27, _ => rfl
  | 28, _ => rfl
  | 29, _ => rfl
  | j + 30, h => absurd h (by omega)
set_option maxRecDepth 100000 in
theorem h0_px77 : cPx mc_h0 77 0 (fun _ => 0) := ⟨rfl, by omega, 0, 0, nI 0, nI 32, nI 0, fun _ => ins0, rfl, ⟨_, rfl, rfl, fun j hj => absurd hj (Nat.not_lt_zero j)⟩, rfl, ⟨_, rfl, fun j hj => by
  show (if j < 30 then some _ else none) = _
  rw [if_pos hj]
  exact congrArg some (show (77 + 3 + (j + 3) : Nat) = 77 + 6 + j by omega)⟩, h0_in77⟩
set_option maxRecDepth 100000 in
theorem h0_in114 : ∀ j, j < 30 → mj_rd mc_h0 (114 + 6 + j) = some (inC ins0)
  | 0, _ => rfl
  | 1, _ => rfl
  | 2, _ => rfl
  | 3, _ => rfl
  | 4, _ => rfl
  | 5, _ => rfl
  | 6, _ => rfl
  | 7, _ => rfl
  | 8, _ => rfl
  | 9, _ => rfl
  | 10, _ => rfl
  | 11, _ => rfl
  | 12, _ => rfl
  | 13, _ => rfl
  | 14, _ => rfl
  | 15, _ => rfl
  | 16, _ => rfl
  | 17, _ => rfl
  | 18, _ => rfl
  | 19, _ => rfl
  | 20, _ => rfl
  | 21, _ => rfl
  | 22, _ => rfl
  | 23, _ => rfl
  | 24, _ => rfl
  | 25, _ => rfl
  | 26, _ => rfl
  | 27, _ => rfl
  | 28, _ => rfl
  | 29, _ => rfl
  | j + 30, h => absurd h (by omega)
set_option maxRecDepth 100000 in
theorem h0_px114 : cPx mc_h0 114 0 (fun _ => 0) := ⟨rfl, by omega, 0, 0, nI 0, nI 32, nI 0, fun _ => ins0, rfl, ⟨_, rfl, rfl, fun j hj => absurd hj (Nat.not_lt_zero j)⟩, rfl, ⟨_, rfl, fun j hj => by
  show (if j < 30 then some _ else none) = _
  rw [if_pos hj]
  exact congrArg some (show (114 + 3 + (j + 3) : Nat) = 114 + 6 + j by omega)⟩, h0_in114⟩
set_option maxRecDepth 100000 in
theorem h0_in151 : ∀ j, j < 30 → mj_rd mc_h0 (151 + 6 + j) = some (inC ins0)
  | 0, _ => rfl
  | 1, _ => rfl
  | 2, _ => rfl
  | 3, _ => rfl
  | 4, _ => rfl
  | 5, _ => rfl
  | 6, _ => rfl
  | 7, _ => rfl
  | 8, _ => rfl
  | 9, _ => rfl
  | 10, _ => rfl
  | 11, _ => rfl
  | 12, _ => rfl
  | 13, _ => rfl
  | 14, _ => rfl
  | 15, _ => rfl
  | 16, _ => rfl
  | 17, _ => rfl
  | 18, _ => rfl
  | 19, _ => rfl
  | 20, _ => rfl
  | 21, _ => rfl
  | 22, _ => rfl
  | 23, _ => rfl
  | 24, _ => rfl
  | 25, _ => rfl
  | 26, _ => rfl
  | 27, _ => rfl
  | 28, _ => rfl
  | 29, _ => rfl
  | j + 30, h => absurd h (by omega)
set_option maxRecDepth 100000 in
theorem h0_px151 : cPx mc_h0 151 0 (fun _ => 0) := ⟨rfl, by omega, 0, 0, nI 0, nI 32, nI 0, fun _ => ins0, rfl, ⟨_, rfl, rfl, fun j hj => absurd hj (Nat.not_lt_zero j)⟩, rfl, ⟨_, rfl, fun j hj => by
  show (if j < 30 then some _ else none) = _
  rw [if_pos hj]
  exact congrArg some (show (151 + 3 + (j + 3) : Nat) = 151 + 6 + j by omega)⟩, h0_in151⟩
set_option maxRecDepth 100000 in
theorem h0_in188 : ∀ j, j < 30 → mj_rd mc_h0 (188 + 6 + j) = some (inC ins0)
  | 0, _ => rfl
  | 1, _ => rfl
  | 2, _ => rfl
  | 3, _ => rfl
  | 4, _ => rfl
  | 5, _ => rfl
  | 6, _ => rfl
  | 7, _ => rfl
  | 8, _ => rfl
  | 9, _ => rfl
  | 10, _ => rfl
  | 11, _ => rfl
  | 12, _ => rfl
  | 13, _ => rfl
  | 14, _ => rfl
  | 15, _ => rfl
  | 16, _ => rfl
  | 17, _ => rfl
  | 18, _ => rfl
  | 19, _ => rfl
  | 20, _ => rfl
  | 21, _ => rfl
  | 22, _ => rfl
  | 23, _ => rfl
  | 24, _ => rfl
  | 25, _ => rfl
  | 26, _ => rfl
  | 27, _ => rfl
  | 28, _ => rfl
  | 29, _ => rfl
  | j + 30, h => absurd h (by omega)
set_option maxRecDepth 100000 in
theorem h0_px188 : cPx mc_h0 188 0 (fun _ => 0) := ⟨rfl, by omega, 0, 0, nI 0, nI 32, nI 0, fun _ => ins0, rfl, ⟨_, rfl, rfl, fun j hj => absurd hj (Nat.not_lt_zero j)⟩, rfl, ⟨_, rfl, fun j hj => by
  show (if j < 30 then some _ else none) = _
  rw [if_pos hj]
  exact congrArg some (show (188 + 3 + (j + 3) : Nat) = 188 + 6 + j by omega)⟩, h0_in188⟩
set_option maxRecDepth 100000 in
theorem h0_in225 : ∀ j, j < 30 → mj_rd mc_h0 (225 + 6 + j) = some (inC ins0)
  | 0, _ => rfl
  | 1, _ => rfl
  | 2, _ => rfl
  | 3, _ => rfl
  | 4, _ => rfl
  | 5, _ => rfl
  | 6, _ => rfl
  | 7, _ => rfl
  | 8, _ => rfl
  | 9, _ => rfl
  | 10, _ => rfl
  | 11, _ => rfl
  | 12, _ => rfl
  | 13, _ => rfl
  | 14, _ => rfl
  | 15, _ => rfl
  | 16, _ => rfl
  | 17, _ => rfl
  | 18, _ => rfl
  | 19, _ => rfl
  | 20, _ => rfl
  | 21, _ => rfl
  | 22, _ => rfl
  | 23, _ => rfl
  | 24, _ => rfl
  | 25, _ => rfl
  | 26, _ => rfl
  | 27, _ => rfl
  | 28, _ => rfl
  | 29, _ => rfl
  | j + 30, h => absurd h (by omega)
set_option maxRecDepth 100000 in
theorem h0_px225 : cPx mc_h0 225 0 (fun _ => 0) := ⟨rfl, by omega, 0, 0, nI 0, nI 32, nI 0, fun _ => ins0, rfl, ⟨_, rfl, rfl, fun j hj => absurd hj (Nat.not_lt_zero j)⟩, rfl, ⟨_, rfl, fun j hj => by
  show (if j < 30 then some _ else none) = _
  rw [if_pos hj]
  exact congrArg some (show (225 + 3 + (j + 3) : Nat) = 225 + 6 + j by omega)⟩, h0_in225⟩
set_option maxRecDepth 100000 in
theorem h0_in262 : ∀ j, j < 30 → mj_rd mc_h0 (262 + 6 + j) = some (inC ins0)
  | 0, _ => rfl
  | 1, _ => rfl
  | 2, _ => rfl
  | 3, _ => rfl
  | 4, _ => rfl
  | 5, _ => rfl
  | 6, _ => rfl
  | 7, _ => rfl
  | 8, _ => rfl
  | 9, _ => rfl
  | 10, _ => rfl
  | 11, _ => rfl
  | 12, _ => rfl
  | 13, _ => rfl
  | 14, _ => rfl
  | 15, _ => rfl
  | 16, _ => rfl
  | 17, _ => rfl
  | 18, _ => rfl
  | 19, _ => rfl
  | 20, _ => rfl
  | 21, _ => rfl
  | 22, _ => rfl
  | 23, _ => rfl
  | 24, _ => rfl
  | 25, _ => rfl
  | 26, _ => rfl
  | 27, _ => rfl
  | 28, _ => rfl
  | 29, _ => rfl
  | j + 30, h => absurd h (by omega)
set_option maxRecDepth 100000 in
theorem h0_px262 : cPx mc_h0 262 0 (fun _ => 0) := ⟨rfl, by omega, 0, 0, nI 0, nI 32, nI 0, fun _ => ins0, rfl, ⟨_, rfl, rfl, fun j hj => absurd hj (Nat.not_lt_zero j)⟩, rfl, ⟨_, rfl, fun j hj => by
  show (if j < 30 then some _ else none) = _
  rw [if_pos hj]
  exact congrArg some (show (262 + 3 + (j + 3) : Nat) = 262 + 6 + j by omega)⟩, h0_in262⟩
set_option maxRecDepth 100000 in
theorem h0_in299 : ∀ j, j < 30 → mj_rd mc_h0 (299 + 6 + j) = some (inC ins0)
  | 0, _ => rfl
  | 1, _ => rfl
  | 2, _ => rfl
  | 3, _ => rfl
  | 4, _ => rfl
  | 5, _ => rfl
  | 6, _ => rfl
  | 7, _ => rfl
  | 8, _ => rfl
  | 9, _ => rfl
  | 10, _ => rfl
  | 11, _ => rfl
  | 12, _ => rfl
  | 13, _ => rfl
  | 14, _ => rfl
  | 15, _ => rfl
  | 16, _ => rfl
  | 17, _ => rfl
  | 18, _ => rfl
  | 19, _ => rfl
  | 20, _ => rfl
  | 21, _ => rfl
  | 22, _ => rfl
  | 23, _ => rfl
  | 24, _ => rfl
  | 25, _ => rfl
  | 26, _ => rfl
  | 27, _ => rfl
  | 28, _ => rfl
  | 29, _ => rfl
  | j + 30, h => absurd h (by omega)
set_option maxRecDepth 100000 in
theorem h0_px299 : cPx mc_h0 299 0 (fun _ => 0) := ⟨rfl, by omega, 0, 0, nI 0, nI 32, nI 0, fun _ => ins0, rfl, ⟨_, rfl, rfl, fun j hj => absurd hj (Nat.not_lt_zero j)⟩, rfl, ⟨_, rfl, fun j hj => by
  show (if j < 30 then some _ else none) = _
  rw [if_pos hj]
  exact congrArg some (show (299 + 3 + (j + 3) : Nat) = 299 + 6 + j by omega)⟩, h0_in299⟩
set_option maxRecDepth 100000 in
theorem h0_in336 : ∀ j, j < 30 → mj_rd mc_h0 (336 + 6 + j) = some (inC ins0)
  | 0, _ => rfl
  | 1, _ => rfl
  | 2, _ => rfl
  | 3, _ => rfl
  | 4, _ => rfl
  | 5, _ => rfl
  | 6, _ => rfl
  | 7, _ => rfl
  | 8, _ => rfl
  | 9, _ => rfl
  | 10, _ => rfl
  | 11, _ => rfl
  | 12, _ => rfl
  | 13, _ => rfl
  | 14, _ => rfl
  | 15, _ => rfl
  | 16, _ => rfl
  | 17, _ => rfl
  | 18, _ => rfl
  | 19, _ => rfl
  | 20, _ => rfl
  | 21, _ => rfl
  | 22, _ => rfl
  | 23, _ => rfl
  | 24, _ => rfl
  | 25, _ => rfl
  | 26, _ => rfl
  | 27, _ => rfl
  | 28, _ => rfl
  | 29, _ => rfl
  | j + 30, h => absurd h (by omega)
set_option maxRecDepth 100000 in
theorem h0_px336 : cPx mc_h0 336 0 (fun _ => 0) := ⟨rfl, by omega, 0, 0, nI 0, nI 32, nI 0, fun _ => ins0, rfl, ⟨_, rfl, rfl, fun j hj => absurd hj (Nat.not_lt_zero j)⟩, rfl, ⟨_, rfl, fun j hj => by
  show (if j < 30 then some _ else none) = _
  rw [if_pos hj]
  exact congrArg some (show (336 + 3 + (j + 3) : Nat) = 336 + 6 + j by omega)⟩, h0_in336⟩
set_option maxRecDepth 100000 in
theorem h0_sz : mj_sz mc_h0 ≤ 8000 := Nat.le_of_ble_eq_true rfl
theorem h0_cLi {N : Nat → Nat} {F : Nat → Nat → Nat} {K : Nat → Nat} {X : Nat → Nat → Nat → Nat} : cLi mc_h0 0 N F K X := by
  refine ⟨by omega, h0_38, ⟨_, h0_39, fun p hp => if_pos hp⟩, fun p hp => ?_, fun p hp => absurd hp (Nat.not_lt_zero p)⟩
  rcases (by omega : p = 0 ∨ p = 1 ∨ p = 2 ∨ p = 3 ∨ p = 4 ∨ p = 5) with rfl | rfl | rfl | rfl | rfl | rfl
  · exact ⟨_, _, h0_px77⟩
  · exact ⟨_, _, h0_px114⟩
  · exact ⟨_, _, h0_px151⟩
  · exact ⟨_, _, h0_px188⟩
  · exact ⟨_, _, h0_px225⟩
  · exact ⟨_, _, h0_px262⟩
theorem h0_ls {Lr : Nat} {f : Nat → Nat} (h : mj_rd mc_h0 Lr = some (alC 1000000 0 (nI 0))) : yLs mc_h0 Lr 1000000 0 f := ⟨0, nI 0, _, h, rfl, Nat.le_refl 0, by omega, Or.inr ⟨rfl, rfl⟩, fun j hj => absurd hj (Nat.not_lt_zero j)⟩
theorem h0_405 : ∃ f : Nat → Int32, mj_rd mc_h0 405 = some (.inl (0, (21, .inl f))) := ⟨_, rfl⟩
theorem h0_406 : ∃ f : Nat → Int32, mj_rd mc_h0 406 = some (.inl (0, (21, .inl f))) := ⟨_, rfl⟩
theorem h0_407 : ∃ f : Nat → Int32, mj_rd mc_h0 407 = some (.inl (2, (21, .inl f))) ∧ ∀ d, d < 21 → ∃ b, f d = nI (bN b) := ⟨_, rfl, fun _ _ => ⟨false, rfl⟩⟩
theorem h0_cSt {S : Nat} (h1 : mj_rd mc_h0 S = some (stC_ S 0)) (h2 : mj_rd mc_h0 (S + 1) = some (.inl (0, (8, .inl fun _ => 0)))) (h3 : mj_rd mc_h0 (S + 2) = some (.inl (0, (20, .inl fun _ => 0)))) : cSt mc_h0 S (fun _ => 0, fun _ => 0, 0) := ⟨h1, ⟨_, h2, fun _ _ => rfl⟩, ⟨_, h3, fun _ _ => rfl⟩, Nat.zero_le 20⟩
theorem h0_yWb : yWb mc_h0 402 (fun _ => 0, fun _ => 0, 0) := ⟨⟨0, _, h0_402⟩, ⟨⟨_, h0_403, fun _ _ => rfl⟩, ⟨_, h0_404, fun _ _ => rfl⟩, Nat.zero_le 20⟩, h0_405, h0_406, h0_407, _, _, rfl, rfl⟩
theorem h0_cRb {R S : Nat} (h : mj_rd mc_h0 R = some (rnB R S 0 0 0 0 0 false)) (h1 : mj_rd mc_h0 (R + 1) = some (.inl (0, (20, .inl fun _ => 0)))) (h2 : mj_rd mc_h0 (R + 2) = some (.inl (0, (20, .inl fun _ => 0)))) (h3 : mj_rd mc_h0 (R + 3) = some (.inl (2, (20, .inl fun _ => 0)))) (h4 : mj_rd mc_h0 (R + 4) = some (.inl (3, (2, .inl fun _ => 0)))) (h5 : mj_rd mc_h0 (R + 5) = some (.inl (0, (2, .inl fun _ => 0)))) : cRb mc_h0 R S 0 (0, 0, 0, false, fun _ => 0, fun _ => 0, fun _ => false) z0 :=
  ⟨h, ⟨⟨_, h1, fun d hd => absurd hd (Nat.not_lt_zero d)⟩, ⟨_, h2, fun d hd => absurd hd (Nat.not_lt_zero d)⟩, _, h3, fun _ _ => ⟨false, rfl⟩, fun d hd => absurd hd (Nat.not_lt_zero d)⟩, _, _, h4, h5, Nat.zero_le 2, fun q => absurd q (Nat.not_lt_zero 0), fun q => absurd q (by show ¬ 1 < 0; omega)⟩
set_option maxRecDepth 100000 in
theorem h0_run1 : cRb mc_h0 381 375 0 (0, 0, 0, false, fun _ => 0, fun _ => 0, fun _ => false) z0 := h0_cRb rfl rfl rfl rfl rfl rfl
set_option maxRecDepth 100000 in
theorem h0_run2 : cRb mc_h0 387 378 0 (0, 0, 0, false, fun _ => 0, fun _ => 0, fun _ => false) z0 := h0_cRb rfl rfl rfl rfl rfl rfl
set_option maxRecDepth 100000 in
theorem h0_st1 : cSt mc_h0 375 (fun _ => 0, fun _ => 0, 0) := h0_cSt rfl rfl rfl
set_option maxRecDepth 100000 in
theorem h0_st2 : cSt mc_h0 378 (fun _ => 0, fun _ => 0, 0) := h0_cSt rfl rfl rfl
set_option maxRecDepth 100000 in
theorem h0_tl : cTl mc_h0 373 374 [] := ⟨by decide, by decide, by decide, _, rfl, rfl, fun j c h => by rw [List.getElem?_nil] at h; cases h⟩
theorem wI_0 : wI 0 mc_h0 := by
  have e1 : mj_CB = 1000000 := rfl
  refine ⟨fun _ => 0, nI 0, lN 0, lN 0, .null, .null, .ref 1000300, .null, .null, .null, 0, fun _ => 0, fun _ _ _ => 0, 129300, fun a q => absurd rfl q, h0_0, h0_400, ⟨0, fun _ => 0, 0, 1000300, rfl, by omega, fun j hj => absurd hj (Nat.not_lt_zero j), h0_px1, yStr_e, by omega, fun q => by omega, fun C rs r => yStr_eB (own := fun _ => 0) r⟩,
    ⟨fun _ => 0, fun _ _ => 0, fun _ => 0, 1000000, h0_cLi, ⟨h0_ls h0_401, fun a q => absurd (show (0 : Nat) = 9 from q) (by decide), fun p hp => absurd hp (Nat.not_lt_zero p)⟩, fun p hp => absurd hp (Nat.not_lt_zero p), fun q => by omega⟩,
    ⟨_, h0_st1, Or.inl ⟨h0_yWb, ⟨_, h0_run1⟩, 0, h0_402⟩⟩, ⟨⟨_, h0_st2⟩, _, _, _, h0_run2⟩,
    ⟨0, 1000000, fun _ => 0, _, _, by omega, h0_393, h0_394, h0_ls h0_410, fun j hj => absurd hj (Nat.not_lt_zero j), fun q => by omega⟩,
    ⟨_, _, fun _ => 0, h0_397, h0_411, fun j _ => ⟨rfl, Nat.le_of_ble_eq_true rfl⟩, fun j _ => ⟨rfl, Nat.le_of_ble_eq_true rfl⟩⟩, ⟨⟨_, h0_395⟩, ⟨_, h0_396⟩, ⟨_, h0_398⟩, _, h0_399⟩, ⟨⟨_, h0_412⟩, _, h0_413⟩, ⟨⟨_, _, h0_px299⟩, ⟨_, _, h0_px336⟩, _, h0_tl⟩, Or.inl rfl, Or.inl ⟨rfl, rfl, rfl, rfl, rfl⟩, by omega, ?_, ?_⟩
  · rw [mc_h0_len]
    exact Nat.le_of_ble_eq_true rfl
  · have := h0_sz
    generalize mj_sz mc_h0 = z at *
    omega
