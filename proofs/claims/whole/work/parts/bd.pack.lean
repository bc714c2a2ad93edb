/-! Rows of eight values in one number. -/
theorem nand (a b : Nat) : nI a &&& nI b = nI (a &&& b) := by
  apply Int32.toBitVec_inj.mp
  rw [Int32.toBitVec_and]
  show BitVec.ofNat 32 a &&& BitVec.ofNat 32 b = BitVec.ofNat 32 (a &&& b)
  apply BitVec.eq_of_toNat_eq
  simp [Nat.and_mod_two_pow]
theorem shrK {f k : Nat} {s : Int32} (hf : f < 2147483648) (hs : (s.toBitVec.smod 32) = BitVec.ofNat 32 k) (hk : k < 32) : nI f >>> s = nI (f / 2 ^ k) := by
  apply Int32.toInt_inj.mp
  have hle : f / 2 ^ k ≤ f := Nat.div_le_self _ _
  rw [mI_ti (by omega)]
  have e : (nI f >>> s).toInt = (nI f).toInt >>> k := by
    show (nI f >>> s).toBitVec.toInt = _
    rw [Int32.toBitVec_shiftRight, hs, BitVec.sshiftRight_eq', BitVec.toInt_sshiftRight, BitVec.toNat_ofNat, Nat.mod_eq_of_lt (by omega)]
    rfl
  rw [e, mI_ti hf, Int.shiftRight_eq_div_pow]
  norm_cast
theorem sh3 {i : Nat} (hi : i < 8) : ((nI 3 * nI i) &&& 31).toBitVec.smod 32 = BitVec.ofNat 32 (3 * i) := by
  have key : ((List.range 8).all fun i => decide (((nI 3 * nI i) &&& 31).toBitVec.smod 32 = BitVec.ofNat 32 (3 * i))) = true := by decide +kernel
  exact of_decide_eq_true (List.all_eq_true.mp key i (List.mem_range.mpr hi))
/-- the value at place i -/
def vP (o i : Nat) : Nat := o / 8 ^ i % 8
theorem vP_lt (o i : Nat) : vP o i < 8 := Nat.mod_lt _ (by decide)
theorem vP_I {o i : Nat} (ho : o < 16777216) (hi : i < 8) : (nI o >>> ((nI 3 * nI i) &&& 31)) &&& nI 7 = nI (vP o i) := by
  rw [shrK (by omega) (sh3 hi) (by omega), nand, show (7 : Nat) = 2 ^ 3 - 1 from rfl, Nat.and_two_pow_sub_one_eq_mod, show (2 : Nat) ^ (3 * i) = 8 ^ i by rw [Nat.pow_mul]]
  rfl
theorem shl3 {v i : Nat} (hv : v < 8) (hi : i < 8) : nI v <<< ((nI 3 * nI i) &&& 31) = nI (v * 8 ^ i) :=
  of_decide_eq_true (a88_of (P := fun v i => decide (nI v <<< ((nI 3 * nI i) &&& 31) = nI (v * 8 ^ i))) (by decide +kernel) hv hi)
def wS (F : Nat → Nat) : Nat → Nat
  | 0 => 0
  | i + 1 => wS F i + F i * 8 ^ i
theorem wS_lt {F : Nat → Nat} : ∀ n, (∀ i, i < n → F i < 8) → wS F n < 8 ^ n
  | 0, _ => Nat.one_pos
  | n + 1, h => by
    have h1 := wS_lt n fun i hi => h i (by omega)
    have h2 := h n (by omega)
    have h3 : F n * 8 ^ n ≤ 7 * 8 ^ n := Nat.mul_le_mul_right _ (by omega)
    rw [wS, Nat.pow_succ]
    omega
theorem wS_or {F : Nat → Nat} {n : Nat} (h : ∀ i, i < n → F i < 8) : wS F n ||| F n * 8 ^ n = wS F (n + 1) := by
  have h1 := wS_lt n h
  rw [wS, Nat.or_comm, Nat.mul_comm (F n)]
  rw [show (8 : Nat) ^ n = 2 ^ (3 * n) by rw [Nat.pow_mul]] at h1 ⊢
  rw [← Nat.two_pow_add_eq_or_of_lt h1, Nat.add_comm]
theorem wS_cg {F G : Nat → Nat} : ∀ n, (∀ i, i < n → F i = G i) → wS F n = wS G n
  | 0, _ => rfl
  | n + 1, h => by rw [wS, wS, wS_cg n fun i hi => h i (by omega), h n (by omega)]
theorem wS_at {F : Nat → Nat} : ∀ n, (∀ i, i < n → F i < 8) → ∀ j, j < n → vP (wS F n) j = F j
  | 0, _, j, hj => absurd hj (Nat.not_lt_zero j)
  | n + 1, h, j, hj => by
    have h1 := wS_lt n fun i hi => h i (by omega)
    by_cases q : j = n
    · subst q
      unfold vP
      rw [wS, Nat.add_mul_div_right _ _ (Nat.pow_pos (by decide)), Nat.div_eq_of_lt h1, Nat.zero_add, Nat.mod_eq_of_lt (h j hj)]
    · have ih := wS_at n (fun i hi => h i (by omega)) j (by omega)
      unfold vP at ih ⊢
      obtain ⟨d, rfl⟩ : ∃ d, n = j + 1 + d := ⟨n - (j + 1), by omega⟩
      rw [wS, show F (j + 1 + d) * 8 ^ (j + 1 + d) = 8 * (F (j + 1 + d) * 8 ^ d) * 8 ^ j by rw [Nat.pow_add, Nat.pow_add]; simp only [Nat.mul_assoc, Nat.mul_comm, Nat.mul_left_comm, Nat.pow_one], Nat.add_mul_div_right _ _ (Nat.pow_pos (by decide)), Nat.add_mul_mod_self_left]
      exact ih
theorem wS_24 {F : Nat → Nat} (h : ∀ i, i < 8 → F i < 8) : wS F 8 < 16777216 := wS_lt 8 h
theorem y_wtL {h : mj_H} {g o : Nat} (hg : g < 24) (ho : o < 16777216) : ∀ (m i : Nat), i + m = 8 → mj_run 1 448 (4, [some (.int (nI o)), some (.int (nI g)), some (.int (nI (wS (fun j => gt g (vP o j)) i))), some (.int (nI i))], [], h) (.inl (some (.int (nI (wS (fun j => gt g (vP o j)) 8)))), h)
  | 0, i, he => by
    obtain rfl : i = 8 := by omega
    refine s_ildn (p' := 5) rfl rfl rfl ?_
    refine s_bip (p' := 7) rfl rfl ?_
    refine s_icmp (p' := 35) true rfl ((ci_ge (by omega) (by omega)).trans (decide_eq_true (by omega))) rfl ?_
    refine s_ildn (p' := 36) rfl rfl rfl ?_
    exact s_iret rfl rfl rfl
  | m + 1, i, he => by
    have hi : i < 8 := by omega
    refine s_ildn (p' := 5) rfl rfl rfl ?_
    refine s_bip (p' := 7) rfl rfl ?_
    refine s_icmp (p' := 10) false rfl ((ci_ge (by omega) (by omega)).trans (decide_eq_false (by omega))) rfl ?_
    refine s_ildn (p' := 11) rfl rfl rfl ?_
    refine s_ildn (p' := 12) rfl rfl rfl ?_
    refine s_con (p' := 13) rfl rfl ?_
    refine s_ildn (p' := 14) rfl rfl rfl ?_
    refine s_sp (p' := 15) (ls' := _) rfl rfl rfl ?_
    refine s_sp (p' := 16) (ls' := _) rfl rfl rfl ?_
    refine s_bip (p' := 18) rfl rfl ?_
    refine s_sp (p' := 19) (ls' := _) rfl rfl rfl ?_
    rw [vP_I ho hi]
    refine s_ildn (p' := 20) rfl rfl rfl ?_
    refine s_callV (p' := 23) (ls0 := [_, _]) rfl rfl rfl rfl rfl rfl rfl (y_tur hg (vP_lt o i)) (by first | decide | omega) rfl ?_
    refine s_con (p' := 24) rfl rfl ?_
    refine s_ildn (p' := 25) rfl rfl rfl ?_
    refine s_sp (p' := 26) (ls' := _) rfl rfl rfl ?_
    refine s_sp (p' := 27) (ls' := _) rfl rfl rfl ?_
    rw [shl3 (gt_lt hg (vP_lt o i)) hi]
    refine s_sp (p' := 28) (ls' := _) rfl rfl rfl ?_
    rw [nor, wS_or (F := (fun j => gt g (vP o j))) (fun j _ => gt_lt hg (vP_lt o j))]
    refine s_istn (p' := 29) (ls' := [_, _, _, _]) rfl rfl rfl rfl ?_
    refine s_inc (p' := 32) (ls' := [_, _, _, _]) rfl rfl rfl rfl rfl ?_
    rw [mI_add]
    refine s_goto (p' := 4) rfl rfl ?_
    exact y_wtL hg ho m (i + 1) (by omega)
theorem y_wth {h : mj_H} {g o : Nat} (hg : g < 24) (ho : o < 16777216) : mj_run 1 448 (0, [some (.int (nI o)), some (.int (nI g)), none, none], [], h) (.inl (some (.int (nI (wS (fun j => gt g (vP o j)) 8)))), h) := by
  refine s_con (p' := 1) rfl rfl ?_
  refine s_istn (p' := 2) (ls' := [_, _, _, _]) rfl rfl rfl rfl ?_
  refine s_con (p' := 3) rfl rfl ?_
  refine s_istn (p' := 4) (ls' := [_, _, _, _]) rfl rfl rfl rfl ?_
  exact y_wtL hg ho 8 0 rfl
theorem gfolI_w {g o : Nat} (hg : g < 24) (ho : o < 16777216) : ∀ (m i : Nat), i + m = 8 → gfolI (nI o) (nI g) m i (nI (wS (fun j => gt g (vP o j)) i)) = nI (wS (fun j => gt g (vP o j)) 8)
  | 0, i, he => by
    obtain rfl : i = 8 := by omega
    rfl
  | m + 1, i, he => by
    rw [gfolI, vP_I ho (by omega), gt_cls hg (vP_lt o i), shl3 (gt_lt hg (vP_lt o i)) (by omega), nor, wS_or (F := (fun j => gt g (vP o j))) (fun j _ => gt_lt hg (vP_lt o j))]
    exact gfolI_w hg ho m (i + 1) (by omega)
theorem gfol_w {g o : Nat} (hg : g < 24) (ho : o < 16777216) : gfol (nI o) (nI g) = nI (wS (fun j => gt g (vP o j)) 8) := gfolI_w hg ho 8 0 rfl
