/-! The rank of a row of values. -/
def fc : Nat → Nat
  | 0 => 1
  | k + 1 => (k + 1) * fc k
theorem fc_pos : ∀ k, 0 < fc k
  | 0 => Nat.one_pos
  | k + 1 => Nat.mul_pos (Nat.succ_pos k) (fc_pos k)
def lrk : List Nat → Nat
  | [] => 0
  | x :: l => l.countP (fun y => decide (y < x)) * fc l.length + lrk l
theorem lrk_lt : ∀ l, lrk l < fc l.length
  | [] => Nat.one_pos
  | x :: l => by
    have h1 := lrk_lt l
    have h2 : l.countP (fun y => decide (y < x)) ≤ l.length := List.countP_le_length
    have h3 : l.countP (fun y => decide (y < x)) * fc l.length ≤ l.length * fc l.length := Nat.mul_le_mul_right _ h2
    have h4 : fc (x :: l).length = l.length * fc l.length + fc l.length := by
      show (l.length + 1) * fc l.length = _
      rw [Nat.add_mul, Nat.one_mul]
    rw [lrk, h4]
    omega
theorem dig_eq {a b c d m : Nat} (h : a * m + c = b * m + d) (hc : c < m) (hd : d < m) : a = b ∧ c = d := by
  have e1 : (a * m + c) / m = a := by rw [Nat.add_comm, Nat.add_mul_div_right _ _ (by omega), Nat.div_eq_of_lt hc, Nat.zero_add]
  have e2 : (b * m + d) / m = b := by rw [Nat.add_comm, Nat.add_mul_div_right _ _ (by omega), Nat.div_eq_of_lt hd, Nat.zero_add]
  rw [h, e2] at e1
  subst e1
  exact ⟨rfl, by omega⟩
theorem cnt_ltp {x x' : Nat} {t t' : List Nat} (hp : (x :: t).Perm (x' :: t')) (hx : x < x') : t.countP (fun y => decide (y < x)) < t'.countP (fun y => decide (y < x')) := by
  have e := hp.countP_eq (fun y => decide (y < x'))
  rw [List.countP_cons_of_pos (p := fun y => decide (y < x')) (decide_eq_true hx), List.countP_cons_of_neg (p := fun y => decide (y < x')) (by simp)] at e
  have h2 : t.countP (fun y => decide (y < x)) ≤ t.countP (fun y => decide (y < x')) := List.countP_mono_left fun y _ h => decide_eq_true (Nat.lt_trans (of_decide_eq_true h) hx)
  omega
theorem lrk_inj : ∀ (l l' : List Nat), l.Perm l' → lrk l = lrk l' → l = l'
  | [], l', hp, _ => (List.nil_perm.mp hp).symm
  | x :: t, [], hp, _ => by have := hp.length_eq; cases this
  | x :: t, x' :: t', hp, h => by
    have hl : t.length = t'.length := by have := hp.length_eq; simpa using this
    rw [lrk, lrk, hl] at h
    have h1 := lrk_lt t
    rw [hl] at h1
    obtain ⟨e1, e2⟩ := dig_eq h h1 (lrk_lt t')
    rcases Nat.lt_trichotomy x x' with q | q | q
    · have := cnt_ltp hp q; omega
    · subst q
      rw [lrk_inj t t' (List.Perm.cons_inv hp) e2]
    · have := cnt_ltp hp.symm q; omega
/-- the values from place i on -/
def rwL (F : Nat → Nat) (i : Nat) : Nat → List Nat
  | 0 => []
  | k + 1 => F i :: rwL F (i + 1) k
theorem rwL_len (F : Nat → Nat) : ∀ (k i : Nat), (rwL F i k).length = k
  | 0, _ => rfl
  | k + 1, i => by rw [rwL, List.length_cons, rwL_len F k (i + 1)]
theorem rwL_cg {F G : Nat → Nat} : ∀ (k i : Nat), (∀ j, i ≤ j → j < i + k → F j = G j) → rwL F i k = rwL G i k
  | 0, _, _ => rfl
  | k + 1, i, h => by rw [rwL, rwL, h i (Nat.le_refl i) (by omega), rwL_cg k (i + 1) fun j h1 h2 => h j (by omega) (by omega)]
theorem rwL_inj {F G : Nat → Nat} : ∀ (k i : Nat), rwL F i k = rwL G i k → ∀ j, i ≤ j → j < i + k → F j = G j
  | 0, i, _, j, h1, h2 => by omega
  | k + 1, i, h, j, h1, h2 => by
    rw [rwL, rwL] at h
    have h := List.cons.inj h
    by_cases q : j = i
    · rw [q]; exact h.1
    · exact rwL_inj k (i + 1) h.2 j (by omega) (by omega)
theorem rwL_map {F : Nat → Nat} (g : Nat → Nat) : ∀ (k i : Nat), (rwL F i k).map g = rwL (fun j => g (F j)) i k
  | 0, _ => rfl
  | k + 1, i => by rw [rwL, List.map_cons, rwL_map g k (i + 1), rwL]
theorem rwL_id : rwL (fun j => j) 0 8 = idL := rfl
theorem y_rkI {h : mj_H} {o i k r : Nat} (ho : o < 16777216) (hik : i + k = 7) (hout : ∀ (r' c0 : Nat) (l4 : Option Value), mj_run 0 447 (4, [some (.int (nI o)), some (.int (nI r')), some (.int (nI (i + 1))), some (.int (nI c0)), l4], [], h) (.inl (some (.int (nI (r' * fc k + lrk (rwL (vP o) (i + 1) k))))), h)) : ∀ (m j c : Nat), j + m = 8 → mj_run 0 447 (17, [some (.int (nI o)), some (.int (nI r)), some (.int (nI i)), some (.int (nI c)), some (.int (nI j))], [], h) (.inl (some (.int (nI (r * fc (k + 1) + (c + (rwL (vP o) j m).countP (fun y => decide (y < vP o i))) * fc k + lrk (rwL (vP o) (i + 1) k))))), h)
  | 0, j, c, he => by
    obtain rfl : j = 8 := by omega
    refine s_ild (p' := 19) rfl rfl rfl ?_
    refine s_bip (p' := 21) rfl rfl ?_
    refine s_icmp (p' := 58) true rfl ((ci_ge (by omega) (by omega)).trans (decide_eq_true (by omega))) rfl ?_
    refine s_ildn (p' := 59) rfl rfl rfl ?_
    refine s_bip (p' := 61) rfl rfl ?_
    refine s_ildn (p' := 62) rfl rfl rfl ?_
    refine s_sp (p' := 63) (ls' := _) rfl rfl rfl ?_
    rw [mI_sub (by omega)]
    refine s_sp (p' := 64) (ls' := _) rfl rfl rfl ?_
    rw [mI_mul]
    refine s_ildn (p' := 65) rfl rfl rfl ?_
    refine s_sp (p' := 66) (ls' := _) rfl rfl rfl ?_
    rw [mI_add]
    refine s_istn (p' := 67) (ls' := [_, _, _, _, _]) rfl rfl rfl rfl ?_
    refine s_inc (p' := 70) (ls' := [_, _, _, _, _]) rfl rfl rfl rfl rfl ?_
    rw [mI_add]
    refine s_goto (p' := 4) rfl rfl ?_
    have e := hout (r * (8 - i) + c) c (some (.int (nI 8)))
    rw [show 8 - i = k + 1 by omega] at e ⊢
    rw [show (rwL (vP o) 8 0).countP (fun y => decide (y < vP o i)) = 0 from rfl, Nat.add_zero]
    rw [show (r * (k + 1) + c) * fc k = r * fc (k + 1) + c * fc k by rw [Nat.add_mul, Nat.mul_assoc]; rfl] at e
    exact e
  | m + 1, j, c, he => by
    refine s_ild (p' := 19) rfl rfl rfl ?_
    refine s_bip (p' := 21) rfl rfl ?_
    refine s_icmp (p' := 24) false rfl ((ci_ge (by omega) (by omega)).trans (decide_eq_false (by omega))) rfl ?_
    refine s_ildn (p' := 25) rfl rfl rfl ?_
    refine s_ildn (p' := 26) rfl rfl rfl ?_
    refine s_con (p' := 27) rfl rfl ?_
    refine s_ild (p' := 29) rfl rfl rfl ?_
    refine s_sp (p' := 30) (ls' := _) rfl rfl rfl ?_
    refine s_sp (p' := 31) (ls' := _) rfl rfl rfl ?_
    refine s_bip (p' := 33) rfl rfl ?_
    refine s_sp (p' := 34) (ls' := _) rfl rfl rfl ?_
    rw [vP_I ho (by omega)]
    refine s_ildn (p' := 35) rfl rfl rfl ?_
    refine s_con (p' := 36) rfl rfl ?_
    refine s_ildn (p' := 37) rfl rfl rfl ?_
    refine s_sp (p' := 38) (ls' := _) rfl rfl rfl ?_
    refine s_sp (p' := 39) (ls' := _) rfl rfl rfl ?_
    refine s_bip (p' := 41) rfl rfl ?_
    refine s_sp (p' := 42) (ls' := _) rfl rfl rfl ?_
    rw [vP_I ho (by omega)]
    by_cases q : vP o j < vP o i
    · refine s_icmp (p' := 45) false rfl ((ci_ge (by have := vP_lt o j; omega) (by have := vP_lt o i; omega)).trans (decide_eq_false (by omega))) rfl ?_
      refine s_con (p' := 46) rfl rfl ?_
      refine s_goto (p' := 50) rfl rfl ?_
      refine s_sp (p' := 51) (ls' := _) rfl rfl rfl ?_
      rw [mI_add]
      refine s_istn (p' := 52) (ls' := [_, _, _, _, _]) rfl rfl rfl rfl ?_
      refine s_inc (p' := 55) (ls' := [_, _, _, _, _]) rfl rfl rfl rfl rfl ?_
      rw [mI_add]
      refine s_goto (p' := 17) rfl rfl ?_
      have e := y_rkI (h := h) (r := r) ho hik hout m (j + 1) (c + 1) (by omega)
      rw [rwL, List.countP_cons_of_pos (p := fun y => decide (y < vP o i)) (decide_eq_true q), show c + ((rwL (vP o) (j + 1) m).countP (fun y => decide (y < vP o i)) + 1) = c + 1 + (rwL (vP o) (j + 1) m).countP (fun y => decide (y < vP o i)) by omega]
      exact e
    · refine s_icmp (p' := 49) true rfl ((ci_ge (by have := vP_lt o j; omega) (by have := vP_lt o i; omega)).trans (decide_eq_true (by omega))) rfl ?_
      refine s_con (p' := 50) rfl rfl ?_
      refine s_sp (p' := 51) (ls' := _) rfl rfl rfl ?_
      rw [mI_add, Nat.add_zero]
      refine s_istn (p' := 52) (ls' := [_, _, _, _, _]) rfl rfl rfl rfl ?_
      refine s_inc (p' := 55) (ls' := [_, _, _, _, _]) rfl rfl rfl rfl rfl ?_
      rw [mI_add]
      refine s_goto (p' := 17) rfl rfl ?_
      have e := y_rkI (h := h) (r := r) ho hik hout m (j + 1) c (by omega)
      rw [rwL, List.countP_cons_of_neg (p := fun y => decide (y < vP o i)) (by rw [decide_eq_false q]; decide)]
      exact e
theorem y_rkO {h : mj_H} {o : Nat} (ho : o < 16777216) : ∀ (k i r c0 : Nat) (l4 : Option Value), i + k = 8 → mj_run 0 447 (4, [some (.int (nI o)), some (.int (nI r)), some (.int (nI i)), some (.int (nI c0)), l4], [], h) (.inl (some (.int (nI (r * fc k + lrk (rwL (vP o) i k))))), h)
  | 0, i, r, c0, l4, he => by
    obtain rfl : i = 8 := by omega
    refine s_ildn (p' := 5) rfl rfl rfl ?_
    refine s_bip (p' := 7) rfl rfl ?_
    refine s_icmp (p' := 73) true rfl ((ci_ge (by omega) (by omega)).trans (decide_eq_true (by omega))) rfl ?_
    refine s_ildn (p' := 74) rfl rfl rfl ?_
    exact s_iret rfl rfl (by rw [show fc 0 = 1 from rfl, Nat.mul_one]; rfl)
  | k + 1, i, r, c0, l4, he => by
    refine s_ildn (p' := 5) rfl rfl rfl ?_
    refine s_bip (p' := 7) rfl rfl ?_
    refine s_icmp (p' := 10) false rfl ((ci_ge (by omega) (by omega)).trans (decide_eq_false (by omega))) rfl ?_
    refine s_con (p' := 11) rfl rfl ?_
    refine s_istn (p' := 12) (ls' := [_, _, _, _, _]) rfl rfl rfl rfl ?_
    refine s_ildn (p' := 13) rfl rfl rfl ?_
    refine s_con (p' := 14) rfl rfl ?_
    refine s_sp (p' := 15) (ls' := _) rfl rfl rfl ?_
    rw [mI_add]
    refine s_ist (p' := 17) (ls' := [_, _, _, _, _]) rfl rfl rfl rfl ?_
    have e := y_rkI (h := h) (r := r) ho (show i + k = 7 by omega) (fun r' c0 l4 => y_rkO ho k (i + 1) r' c0 l4 (by omega)) k (i + 1) 0 (by omega)
    rw [Nat.zero_add, Nat.add_assoc] at e
    rw [show lrk (rwL (vP o) i (k + 1)) = (rwL (vP o) (i + 1) k).countP (fun y => decide (y < vP o i)) * fc k + lrk (rwL (vP o) (i + 1) k) by rw [rwL, lrk, rwL_len]]
    exact e
