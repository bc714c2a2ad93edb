/-! Simplifying: pairs of the same gate that nothing between holds apart. -/
/-- is the line of b among the controls of a? -/
def ctb (a b : Nat) : Bool := decide (a % 8 / 2 ^ (b / 8) % 2 = 1)
/-- the partner of place e, from place i on, k places left -/
def par (G : Nat → Nat) (e : Nat) : Nat → Nat → Option Nat
  | 0, _ => none
  | k + 1, i => if G i = G e then some i else if (ctb (G i) (G e) || ctb (G e) (G i)) = true then none else par G e k (i + 1)
theorem par_in {G : Nat → Nat} {e l : Nat} : ∀ (k i : Nat), par G e k i = some l → i ≤ l ∧ l < i + k
  | 0, _, h => by cases h
  | k + 1, i, h => by
    rw [par] at h
    split at h
    · obtain rfl := Option.some.inj h
      omega
    · split at h
      · cases h
      · have := par_in k (i + 1) h
        omega
/-- the first place that has a partner, and it, from place e on, k places left -/
def fpr (G : Nat → Nat) : Nat → Nat → Option (Nat × Nat)
  | 0, _ => none
  | k + 1, e => match par G e k (e + 1) with
    | some l => some (e, l)
    | none => fpr G k (e + 1)
theorem fpr_in {G : Nat → Nat} {e l : Nat} : ∀ (k i : Nat), fpr G k i = some (e, l) → i ≤ e ∧ e < l ∧ l < i + k
  | 0, _, h => by cases h
  | k + 1, i, h => by
    rw [fpr] at h
    split at h
    · rename_i m hm
      have := Option.some.inj h
      have e1 : i = e := congrArg Prod.fst this
      have e2 : m = l := congrArg Prod.snd this
      have := par_in _ _ hm
      omega
    · have := fpr_in k (i + 1) h
      omega
/-- without place i -/
def drp (G : Nat → Nat) (i : Nat) : Nat → Nat := fun j => if j < i then G j else G (j + 1)
def smp : Nat → (Nat → Nat) → Nat → (Nat → Nat) × Nat
  | 0, G, n => (G, n)
  | m + 1, G, n => match fpr G n 0 with
    | none => (G, n)
    | some (e, l) => smp m (drp (drp G l) e) (n - 2)
theorem smp_no {G : Nat → Nat} {n m : Nat} (h : fpr G n 0 = none) : smp m G n = (G, n) := by
  cases m with
  | zero => rfl
  | succ m => rw [smp, h]
theorem smp_so {G : Nat → Nat} {n m e l : Nat} (h : fpr G n 0 = some (e, l)) : smp (m + 1) G n = smp m (drp (drp G l) e) (n - 2) := by rw [smp, h]
theorem drp_in {T : Nat → Prop} {G : Nat → Nat} {n i : Nat} (hT : ∀ j, j < n → T (G j)) (hi : i < n) : ∀ j, j < n - 1 → T (drp G i j) := fun j hj => by
  unfold drp
  split
  · exact hT j (by omega)
  · exact hT (j + 1) (by omega)
theorem smp_in {T : Nat → Prop} : ∀ (m : Nat) (G : Nat → Nat) (n : Nat), (∀ j, j < n → T (G j)) → (smp m G n).2 ≤ n ∧ ∀ j, j < (smp m G n).2 → T ((smp m G n).1 j)
  | 0, G, n, h => ⟨Nat.le_refl n, h⟩
  | m + 1, G, n, h => by
    cases hf : fpr G n 0 with
    | none =>
      rw [smp_no hf]
      exact ⟨Nat.le_refl n, h⟩
    | some x =>
      obtain ⟨e, l⟩ := x
      have hi := fpr_in _ _ hf
      rw [smp_so hf]
      have := smp_in m (drp (drp G l) e) (n - 2) (drp_in (n := n - 1) (drp_in h (by omega)) (by omega))
      exact ⟨by omega, this.2⟩
def g24 (P : Nat → Nat → Bool) : Bool := (List.range 24).all fun a => (List.range 24).all fun b => P a b
theorem g24_of {P : Nat → Nat → Bool} (h : g24 P = true) {a b : Nat} (ha : a < 24) (hb : b < 24) : P a b = true :=
  List.all_eq_true.mp (List.all_eq_true.mp h a (List.mem_range.mpr ha)) b (List.mem_range.mpr hb)
theorem ctb_x {a b : Nat} (ha : a < 24) (hb : b < 24) : decide ((nI a &&& nI 7) &&& (nI 1 <<< ((nI b >>> (nI 3 &&& 31)) &&& 31)) = nI 0) = !ctb a b :=
  of_decide_eq_true (g24_of (P := fun a b => decide (decide ((nI a &&& nI 7) &&& (nI 1 <<< ((nI b >>> (nI 3 &&& 31)) &&& 31)) = nI 0) = !ctb a b)) (by decide +kernel) ha hb)
theorem ctb_y {a b : Nat} (ha : a < 24) (hb : b < 24) : decide ((nI a &&& nI 7) &&& (nI 1 <<< ((nI b / nI 8) &&& 31)) = nI 0) = !ctb a b :=
  of_decide_eq_true (g24_of (P := fun a b => decide (decide ((nI a &&& nI 7) &&& (nI 1 <<< ((nI b / nI 8) &&& 31)) = nI 0) = !ctb a b)) (by decide +kernel) ha hb)
def bN (b : Bool) : Nat := if b = true then 1 else 0
theorem x_icb {h : mj_H} {a b : Nat} (ha : a < 24) (hb : b < 24) : mj_run 0 32 (0, [some (.int (nI a)), some (.int (nI b))], [], h) (.inl (some (.int (nI (bN (ctb a b))))), h) := by
  refine s_ildn (p' := 1) rfl rfl rfl ?_
  refine s_bip (p' := 3) rfl rfl ?_
  refine s_sp (p' := 4) (ls' := _) rfl rfl rfl ?_
  refine s_con (p' := 5) rfl rfl ?_
  refine s_ildn (p' := 6) rfl rfl rfl ?_
  refine s_con (p' := 7) rfl rfl ?_
  refine s_sp (p' := 8) (ls' := _) rfl rfl rfl ?_
  refine s_sp (p' := 9) (ls' := _) rfl rfl rfl ?_
  refine s_sp (p' := 10) (ls' := _) rfl rfl rfl ?_
  by_cases q : ctb a b = true
  · refine s_if (p' := 13) false rfl (show decide _ = _ from (ctb_x ha hb).trans (by rw [q]; rfl)) rfl ?_
    refine s_con (p' := 14) rfl rfl ?_
    refine s_goto (p' := 18) rfl rfl ?_
    exact s_iret rfl rfl (by rw [q]; rfl)
  · refine s_if (p' := 17) true rfl (show decide _ = _ from (ctb_x ha hb).trans (by rw [Bool.eq_false_iff.mpr q]; rfl)) rfl ?_
    refine s_con (p' := 18) rfl rfl ?_
    exact s_iret rfl rfl (by rw [Bool.eq_false_iff.mpr q]; rfl)
/-- a place or -1 -/
def opI (x : Option Nat) : Int32 := match x with
  | some l => nI l
  | none => nI 4294967295
theorem x_parL {h : mj_H} {C R n : Nat} {o1 o2 mf : Value} {rf : Nat → Int32} {G : Nat → Nat} (hC : mj_rd h C = some (.inr (9, [.ref R, o1, o2, .int (nI n), mf]))) (hR : mj_rd h R = some (.inl (0, (24, .inl rf)))) (hG : ∀ j, j < n → rf j = nI (G j) ∧ G j < 24) (hn : n ≤ 24) {e : Nat} (he : e < n) : ∀ (k i : Nat), i + k = n → mj_run 1 31 (26, [some (.ref C), some (.int (nI e)), some (.int (nI (G e))), some (.int (nI i))], [], h) (.inl (some (.int (opI (par G e k i)))), h)
  | 0, i, hi => by
    refine s_ildn (p' := 27) rfl rfl rfl ?_
    refine s_aldn (p' := 28) rfl rfl rfl ?_
    refine s_gf (p' := 31) rfl hC rfl rfl ?_
    refine s_icmp (p' := 89) true rfl ((ci_ge (by omega) (by omega)).trans (decide_eq_true (by omega))) rfl ?_
    refine s_con (p' := 90) rfl rfl ?_
    exact s_iret rfl rfl rfl
  | k + 1, i, hi => by
    have ih := x_parL hC hR hG hn he k (i + 1) (by omega)
    have hi1 := hG i (by omega)
    have he1 := hG e he
    refine s_ildn (p' := 27) rfl rfl rfl ?_
    refine s_aldn (p' := 28) rfl rfl rfl ?_
    refine s_gf (p' := 31) rfl hC rfl rfl ?_
    refine s_icmp (p' := 34) false rfl ((ci_ge (by omega) (by omega)).trans (decide_eq_false (by omega))) rfl ?_
    refine s_ildn (p' := 35) rfl rfl rfl ?_
    refine s_aldn (p' := 36) rfl rfl rfl ?_
    refine s_gf (p' := 39) rfl hC rfl rfl ?_
    refine s_len (p' := 40) rfl (mj_rdA_is hR (by decide)) (by decide) rfl ?_
    refine s_icmp (p' := 43) false rfl ((ci_ge (by omega) (by omega)).trans (decide_eq_false (by omega))) rfl ?_
    refine s_aldn (p' := 44) rfl rfl rfl ?_
    refine s_gf (p' := 47) rfl hC rfl rfl ?_
    refine s_ildn (p' := 48) rfl rfl rfl ?_
    refine s_ial (p' := 49) rfl hR (inb_nI (by omega) (by omega)) rfl ?_
    rw [mI_cl (by omega), hi1.1]
    refine s_ildn (p' := 50) rfl rfl rfl ?_
    by_cases q : G i = G e
    · refine s_icmp (p' := 53) false rfl ((ci_ne (by omega) (by omega)).trans (decide_eq_false (by omega))) rfl ?_
      refine s_ildn (p' := 54) rfl rfl rfl ?_
      exact s_iret rfl rfl (by rw [par, if_pos q]; rfl)
    · refine s_icmp (p' := 55) true rfl ((ci_ne (by omega) (by omega)).trans (decide_eq_true (by omega))) rfl ?_
      refine s_aldn (p' := 56) rfl rfl rfl ?_
      refine s_gf (p' := 59) rfl hC rfl rfl ?_
      refine s_ildn (p' := 60) rfl rfl rfl ?_
      refine s_ial (p' := 61) rfl hR (inb_nI (by omega) (by omega)) rfl ?_
      rw [mI_cl (by omega), hi1.1]
      refine s_ildn (p' := 62) rfl rfl rfl ?_
      refine s_callV (p' := 65) (ls0 := [_, _]) rfl rfl rfl rfl rfl rfl rfl (x_icb hi1.2 he1.2) (by decide) rfl ?_
      by_cases q1 : ctb (G i) (G e) = true
      · refine s_if (p' := 81) true rfl (by rw [q1]; rfl) rfl ?_
        refine s_con (p' := 82) rfl rfl ?_
        exact s_iret rfl rfl (by rw [par, if_neg q, if_pos (by rw [q1]; rfl)]; rfl)
      · refine s_if (p' := 68) false rfl (by rw [Bool.eq_false_iff.mpr q1]; rfl) rfl ?_
        refine s_ildn (p' := 69) rfl rfl rfl ?_
        refine s_aldn (p' := 70) rfl rfl rfl ?_
        refine s_gf (p' := 73) rfl hC rfl rfl ?_
        refine s_ildn (p' := 74) rfl rfl rfl ?_
        refine s_ial (p' := 75) rfl hR (inb_nI (by omega) (by omega)) rfl ?_
        rw [mI_cl (by omega), hi1.1]
        refine s_callV (p' := 78) (ls0 := [_, _]) rfl rfl rfl rfl rfl rfl rfl (x_icb he1.2 hi1.2) (by decide) rfl ?_
        by_cases q2 : ¬ ctb (G e) (G i) = true
        · refine s_if (p' := 83) true rfl (by rw [Bool.eq_false_iff.mpr q2]; rfl) rfl ?_
          refine s_inc (p' := 86) (ls' := [_, _, _, _]) rfl rfl rfl rfl rfl ?_
          rw [mI_add]
          refine s_goto (p' := 26) rfl rfl ?_
          refine ih.eq ?_
          rw [par, if_neg q, if_neg (by rw [Bool.eq_false_iff.mpr q1, Bool.eq_false_iff.mpr q2]; decide)]
        · refine s_if (p' := 81) false rfl (by rw [Classical.not_not.mp q2]; rfl) rfl ?_
          refine s_con (p' := 82) rfl rfl ?_
          exact s_iret rfl rfl (by rw [par, if_neg q, if_pos (by rw [Classical.not_not.mp q2]; exact Bool.or_true _)]; rfl)
theorem x_par {h : mj_H} {C R n : Nat} {o1 o2 mf : Value} {rf : Nat → Int32} {G : Nat → Nat} (hC : mj_rd h C = some (.inr (9, [.ref R, o1, o2, .int (nI n), mf]))) (hR : mj_rd h R = some (.inl (0, (24, .inl rf)))) (hG : ∀ j, j < n → rf j = nI (G j) ∧ G j < 24) (hn : n ≤ 24) {e : Nat} (he : e < n) : mj_run 1 31 (0, [some (.ref C), some (.int (nI e)), none, none], [], h) (.inl (some (.int (opI (par G e (n - 1 - e) (e + 1))))), h) := by
  refine s_ildn (p' := 1) rfl rfl rfl ?_
  refine s_if (p' := 4) false rfl (cz_lt (by omega)) rfl ?_
  refine s_ildn (p' := 5) rfl rfl rfl ?_
  refine s_aldn (p' := 6) rfl rfl rfl ?_
  refine s_gf (p' := 9) rfl hC rfl rfl ?_
  refine s_len (p' := 10) rfl (mj_rdA_is hR (by decide)) (by decide) rfl ?_
  refine s_icmp (p' := 15) true rfl ((ci_lt (by omega) (by omega)).trans (decide_eq_true (by omega))) rfl ?_
  refine s_aldn (p' := 16) rfl rfl rfl ?_
  refine s_gf (p' := 19) rfl hC rfl rfl ?_
  refine s_ildn (p' := 20) rfl rfl rfl ?_
  refine s_ial (p' := 21) rfl hR (inb_nI (by omega) (by omega)) rfl ?_
  rw [mI_cl (by omega), (hG e he).1]
  refine s_istn (p' := 22) (ls' := [_, _, _, _]) rfl rfl rfl rfl ?_
  refine s_ildn (p' := 23) rfl rfl rfl ?_
  refine s_con (p' := 24) rfl rfl ?_
  refine s_sp (p' := 25) (ls' := _) rfl rfl rfl ?_
  rw [mI_add]
  refine s_istn (p' := 26) (ls' := [_, _, _, _]) rfl rfl rfl rfl ?_
  exact x_parL hC hR hG hn he (n - 1 - e) (e + 1) (by omega)
/-- places from i on moved down, up to place m -/
def shf (f : Nat → Int32) (i m : Nat) : Nat → Int32 := fun j => if i ≤ j ∧ j + 1 < m then f (j + 1) else f j
theorem shf_0 (f : Nat → Int32) (i : Nat) : shf f i (i + 1) = f := funext fun j => if_neg (by omega)
theorem shf_s (f : Nat → Int32) {i m : Nat} (h : i < m) : upd (shf f i m) (m - 1) (shf f i m m) = shf f i (m + 1) := funext fun j => by
  unfold upd shf
  by_cases q : j = m - 1
  · rw [if_pos q, if_neg (by omega), if_pos (by omega), show j + 1 = m by omega]
  · rw [if_neg q]
    by_cases r : i ≤ j ∧ j + 1 < m
    · rw [if_pos r, if_pos (by omega)]
    · rw [if_neg r, if_neg (by omega)]
theorem x_rmL {h : mj_H} {C R n : Nat} {o1 o2 mf : Value} {rf : Nat → Int32} (bC : C < mj_CB) (bR : R < mj_CB) (hC : mj_rd h C = some (.inr (9, [.ref R, o1, o2, .int (nI n), mf]))) (hR : mj_rd h R = some (.inl (0, (24, .inl rf)))) (hn : n ≤ 24) {d : Nat} (hd : d < n) : ∀ (k i : Nat), i + k = n → d < i → mj_run 1 33 (8, [some (.ref C), some (.int (nI d)), some (.int (nI i))], [], h.set R (.inl (0, (24, .inl (shf rf d i))))) (.inl none, (h.set R (.inl (0, (24, .inl (shf rf d n))))).set C (.inr (9, [.ref R, o1, o2, .int (nI (n - 1)), mf])))
  | 0, i, hi, hd2 => by
    have hCR : C ≠ R := fun e => by rw [e, hR] at hC; cases hC
    obtain rfl : i = n := by omega
    refine s_ildn (p' := 9) rfl rfl rfl ?_
    refine s_aldn (p' := 10) rfl rfl rfl ?_
    refine s_gf (p' := 13) rfl ((rd_setn (Ne.symm hCR)).trans hC) rfl rfl ?_
    refine s_icmp (p' := 45) true rfl ((ci_ge (by omega) (by omega)).trans (decide_eq_true (by omega))) rfl ?_
    refine s_aldn (p' := 46) rfl rfl rfl ?_
    refine s_sp (p' := 47) (ls' := _) rfl rfl rfl ?_
    refine s_gf (p' := 50) rfl ((rd_setn (Ne.symm hCR)).trans hC) rfl rfl ?_
    refine s_con (p' := 51) rfl rfl ?_
    refine s_sp (p' := 52) (ls' := _) rfl rfl rfl ?_
    rw [mI_sub (by omega)]
    refine s_pf (p' := 55) (fs' := [_, _, _, _, _]) rfl bC ((rd_setn (Ne.symm hCR)).trans hC) (Nat.blt_eq.mp rfl) rfl rfl rfl ?_
    exact s_ret rfl rfl
  | k + 1, i, hi, hd2 => by
    have hCR : C ≠ R := fun e => by rw [e, hR] at hC; cases hC
    have ih := x_rmL bC bR hC hR hn hd k (i + 1) (by omega) (by omega)
    refine s_ildn (p' := 9) rfl rfl rfl ?_
    refine s_aldn (p' := 10) rfl rfl rfl ?_
    refine s_gf (p' := 13) rfl ((rd_setn (Ne.symm hCR)).trans hC) rfl rfl ?_
    refine s_icmp (p' := 16) false rfl ((ci_ge (by omega) (by omega)).trans (decide_eq_false (by omega))) rfl ?_
    refine s_ildn (p' := 17) rfl rfl rfl ?_
    refine s_aldn (p' := 18) rfl rfl rfl ?_
    refine s_gf (p' := 21) rfl ((rd_setn (Ne.symm hCR)).trans hC) rfl rfl ?_
    refine s_len (p' := 22) rfl (mj_rdA_is (rd_set bR hR) (by decide)) (by decide) rfl ?_
    refine s_icmp (p' := 25) false rfl ((ci_ge (by omega) (by omega)).trans (decide_eq_false (by omega))) rfl ?_
    refine s_aldn (p' := 26) rfl rfl rfl ?_
    refine s_gf (p' := 29) rfl ((rd_setn (Ne.symm hCR)).trans hC) rfl rfl ?_
    refine s_ildn (p' := 30) rfl rfl rfl ?_
    refine s_con (p' := 31) rfl rfl ?_
    refine s_sp (p' := 32) (ls' := _) rfl rfl rfl ?_
    rw [mI_sub (by omega)]
    refine s_aldn (p' := 33) rfl rfl rfl ?_
    refine s_gf (p' := 36) rfl ((rd_setn (Ne.symm hCR)).trans hC) rfl rfl ?_
    refine s_ildn (p' := 37) rfl rfl rfl ?_
    refine s_ial (p' := 38) rfl (rd_set bR hR) (inb_nI (by omega) (by omega)) rfl ?_
    rw [mI_cl (by omega)]
    refine s_ias (p' := 39) rfl bR (rd_set bR hR) (inb_nI (by omega) (by omega)) rfl ?_
    rw [List.set_set, mI_cl (by omega), shf_s rf hd2]
    refine s_inc (p' := 42) (ls' := [_, _, _]) rfl rfl rfl rfl rfl ?_
    rw [mI_add]
    refine s_goto (p' := 8) rfl rfl ?_
    exact ih
theorem x_rm {h : mj_H} {C R n : Nat} {o1 o2 mf : Value} {rf : Nat → Int32} (bC : C < mj_CB) (bR : R < mj_CB) (hC : mj_rd h C = some (.inr (9, [.ref R, o1, o2, .int (nI n), mf]))) (hR : mj_rd h R = some (.inl (0, (24, .inl rf)))) (hn : n ≤ 24) {d : Nat} (hd : d < n) : mj_run 1 33 (0, [some (.ref C), some (.int (nI d)), none], [], h) (.inl none, (h.set R (.inl (0, (24, .inl (shf rf d n))))).set C (.inr (9, [.ref R, o1, o2, .int (nI (n - 1)), mf]))) := by
  refine s_ildn (p' := 1) rfl rfl rfl ?_
  refine s_con (p' := 2) rfl rfl ?_
  refine s_primV (p' := 5) (q := 4) rfl rfl rfl rfl rfl rfl (p_max (z := nI d) (by rw [mI_max (by omega) (by omega), Nat.max_eq_left (Nat.zero_le d)])) rfl ?_
  refine s_con (p' := 6) rfl rfl ?_
  refine s_sp (p' := 7) (ls' := _) rfl rfl rfl ?_
  rw [mI_add]
  refine s_istn (p' := 8) (ls' := [_, _, _]) rfl rfl rfl rfl ?_
  have := x_rmL bC bR hC hR hn hd (n - (d + 1)) (d + 1) (by omega) (by omega)
  rw [shf_0, set_id bR hR] at this
  exact this
theorem shf_drp {f : Nat → Int32} {G : Nat → Nat} {d n : Nat} (hG : ∀ j, j < n → f j = nI (G j) ∧ G j < 24) (hd : d < n) : ∀ j, j < n - 1 → shf f d n j = nI (drp G d j) ∧ drp G d j < 24 := fun j hj => by
  unfold shf drp
  by_cases q : j < d
  · rw [if_neg (by omega), if_pos q]
    exact hG j (by omega)
  · rw [if_pos (by omega), if_neg q]
    exact hG (j + 1) (by omega)
theorem x_ipL {h : mj_H} {C R n : Nat} {o1 o2 mf : Value} {rf : Nat → Int32} {G : Nat → Nat} (bC : C < mj_CB) (bR : R < mj_CB) (hC : mj_rd h C = some (.inr (9, [.ref R, o1, o2, .int (nI n), mf]))) (hR : mj_rd h R = some (.inl (0, (24, .inl rf)))) (hG : ∀ j, j < n → rf j = nI (G j) ∧ G j < 24) (hn : n ≤ 24) : ∀ (k e0 : Nat) (l2 : Option Value), e0 + k = n → mj_Wp 2 30 (2, [some (.ref C), some (.int (nI e0)), l2], [], h) (mz_V fun r h' => (fpr G k e0 = none ∧ r = .int (nI 0) ∧ h' = h) ∨ ∃ (e l : Nat), fpr G k e0 = some (e, l) ∧ r = .int (nI 1) ∧ ∃ rf', (∀ j, j < n - 2 → rf' j = nI (drp (drp G l) e j) ∧ drp (drp G l) e j < 24) ∧ h' = (h.set R (.inl (0, (24, .inl (rf'))))).set C (.inr (9, [.ref R, o1, o2, .int (nI (n - 2)), mf])))
  | 0, e0, l2, hi => by
    refine s_ildn (p' := 3) rfl rfl rfl ?_
    refine s_aldn (p' := 4) rfl rfl rfl ?_
    refine s_gf (p' := 7) rfl hC rfl rfl ?_
    refine s_icmp (p' := 39) true rfl ((ci_ge (by omega) (by omega)).trans (decide_eq_true (by omega))) rfl ?_
    refine s_con (p' := 40) rfl rfl ?_
    refine s_iret rfl rfl ?_
    exact ⟨_, _, rfl, Or.inl ⟨rfl, rfl, rfl⟩⟩
  | k + 1, e0, l2, hi => by
    have hCR : C ≠ R := fun e => by rw [e, hR] at hC; cases hC
    have ih := x_ipL bC bR hC hR hG hn k (e0 + 1)
    have hk : n - 1 - e0 = k := by omega
    cases hp : par G e0 k (e0 + 1) with
    | none =>
      refine s_ildn (p' := 3) rfl rfl rfl ?_
      refine s_aldn (p' := 4) rfl rfl rfl ?_
      refine s_gf (p' := 7) rfl hC rfl rfl ?_
      refine s_icmp (p' := 10) false rfl ((ci_ge (by omega) (by omega)).trans (decide_eq_false (by omega))) rfl ?_
      refine s_aldn (p' := 11) rfl rfl rfl ?_
      refine s_ildn (p' := 12) rfl rfl rfl ?_
      refine s_callV (p' := 15) (ls0 := [_, _, _, _]) rfl rfl rfl rfl rfl (mj_rcv_is (by repeat (first | assumption | refine rd_app ?_ | rw [rd_setn (by first | assumption | omega)] | apply rd_set (by first | assumption | decide)))) rfl (x_par hC hR hG hn (by omega)) (by decide) rfl ?_
      rw [hk, hp]
      refine s_istn (p' := 16) (ls' := [_, _, _]) rfl rfl rfl rfl ?_
      refine s_ildn (p' := 17) rfl rfl rfl ?_
      refine s_ildn (p' := 18) rfl rfl rfl ?_
      refine s_icmp (p' := 33) true rfl ((show mj_ci .le (opI none) (nI e0) = true from decide_eq_true (by rw [show opI none = nI 4294967295 from rfl, Int32.le_iff_toInt_le, mI_ti (show e0 < 2147483648 by omega), show (nI 4294967295).toInt = -1 from by decide +kernel]; omega))) rfl ?_
      refine s_inc (p' := 36) (ls' := [_, _, _]) rfl rfl rfl rfl rfl ?_
      rw [mI_add]
      refine s_goto (p' := 2) rfl rfl ?_
      refine (ih _ (by omega)).imp ?_
      rintro o ⟨r, h3, rfl, ⟨h1, h2⟩ | ⟨e, l, h1, h2⟩⟩
      · exact ⟨_, _, rfl, Or.inl ⟨by rw [fpr, hp]; exact h1, h2⟩⟩
      · exact ⟨_, _, rfl, Or.inr ⟨e, l, by rw [fpr, hp]; exact h1, h2⟩⟩
    | some l =>
      have hl := par_in _ _ hp
      refine s_ildn (p' := 3) rfl rfl rfl ?_
      refine s_aldn (p' := 4) rfl rfl rfl ?_
      refine s_gf (p' := 7) rfl hC rfl rfl ?_
      refine s_icmp (p' := 10) false rfl ((ci_ge (by omega) (by omega)).trans (decide_eq_false (by omega))) rfl ?_
      refine s_aldn (p' := 11) rfl rfl rfl ?_
      refine s_ildn (p' := 12) rfl rfl rfl ?_
      refine s_callV (p' := 15) (ls0 := [_, _, _, _]) rfl rfl rfl rfl rfl (mj_rcv_is (by repeat (first | assumption | refine rd_app ?_ | rw [rd_setn (by first | assumption | omega)] | apply rd_set (by first | assumption | decide)))) rfl (x_par hC hR hG hn (by omega)) (by decide) rfl ?_
      rw [hk, hp, show opI (some l) = nI l from rfl]
      refine s_istn (p' := 16) (ls' := [_, _, _]) rfl rfl rfl rfl ?_
      refine s_ildn (p' := 17) rfl rfl rfl ?_
      refine s_ildn (p' := 18) rfl rfl rfl ?_
      refine s_icmp (p' := 21) false rfl ((ci_le (by omega) (by omega)).trans (decide_eq_false (by omega))) rfl ?_
      refine s_aldn (p' := 22) rfl rfl rfl ?_
      refine s_ildn (p' := 23) rfl rfl rfl ?_
      refine s_callN (p' := 26) (ls0 := [_, _, _]) rfl rfl rfl rfl rfl (mj_rcv_is (by repeat (first | assumption | refine rd_app ?_ | rw [rd_setn (by first | assumption | omega)] | apply rd_set (by first | assumption | decide)))) rfl (x_rm bC bR hC hR hn (by omega)) (by decide) rfl ?_
      refine s_aldn (p' := 27) rfl rfl rfl ?_
      refine s_ildn (p' := 28) rfl rfl rfl ?_
      refine s_callN (p' := 31) (ls0 := [_, _, _]) rfl rfl rfl rfl rfl (mj_rcv_is (by repeat (first | assumption | refine rd_app ?_ | rw [rd_setn (by first | assumption | omega)] | apply rd_set (by first | assumption | decide)))) rfl (x_rm (n := n - 1) bC bR (rd_set bC ((rd_setn (Ne.symm hCR)).trans hC)) ((rd_setn hCR).trans (rd_set bR hR)) (by omega) (by omega)) (by decide) rfl ?_
      refine s_con (p' := 32) rfl rfl ?_
      refine s_iret rfl rfl ?_
      refine ⟨_, _, rfl, Or.inr ⟨e0, l, by rw [fpr, hp], rfl, shf (shf rf l n) e0 (n - 1), shf_drp (n := n - 1) (shf_drp hG (by omega)) (by omega), ?_⟩⟩
      rw [show n - 1 - 1 = n - 2 by omega, List.set_comm _ _ hCR, List.set_set, List.set_set]
theorem x_ip {h : mj_H} {C R n : Nat} {o1 o2 mf : Value} {rf : Nat → Int32} {G : Nat → Nat} (bC : C < mj_CB) (bR : R < mj_CB) (hC : mj_rd h C = some (.inr (9, [.ref R, o1, o2, .int (nI n), mf]))) (hR : mj_rd h R = some (.inl (0, (24, .inl rf)))) (hG : ∀ j, j < n → rf j = nI (G j) ∧ G j < 24) (hn : n ≤ 24) : mj_Wp 2 30 (0, [some (.ref C), none, none], [], h) (mz_V fun r h' => (fpr G n 0 = none ∧ r = .int (nI 0) ∧ h' = h) ∨ ∃ (e l : Nat), fpr G n 0 = some (e, l) ∧ r = .int (nI 1) ∧ ∃ rf', (∀ j, j < n - 2 → rf' j = nI (drp (drp G l) e j) ∧ drp (drp G l) e j < 24) ∧ h' = (h.set R (.inl (0, (24, .inl (rf'))))).set C (.inr (9, [.ref R, o1, o2, .int (nI (n - 2)), mf]))) := by
  refine s_con (p' := 1) rfl rfl ?_
  refine s_istn (p' := 2) (ls' := [_, _, _]) rfl rfl rfl rfl ?_
  exact x_ipL bC bR hC hR hG hn n 0 none (by omega)
theorem x_dpL {C R : Nat} {o1 o2 mf : Value} (bC : C < mj_CB) (bR : R < mj_CB) : ∀ (m n d i : Nat) (h : mj_H) (rf : Nat → Int32) (G : Nat → Nat), n ≤ 2 * m + 1 → n + 2 * i ≤ 24 → mj_rd h C = some (.inr (9, [.ref R, o1, o2, .int (nI (n)), mf])) → mj_rd h R = some (.inl (0, (24, .inl (rf)))) → (∀ j, j < n → rf j = nI (G j) ∧ G j < 24) → mj_Wp 3 29 (4, [some (.ref C), some (.int (nI d)), some (.int (nI i))], [], h) (mz_V fun r h' => r = .int (nI (d + (n - (smp m G n).2))) ∧ ∃ rf', (∀ j, j < (smp m G n).2 → rf' j = nI ((smp m G n).1 j) ∧ (smp m G n).1 j < 24) ∧ h' = (h.set R (.inl (0, (24, .inl (rf'))))).set C (.inr (9, [.ref R, o1, o2, .int (nI ((smp m G n).2)), mf])))
  | 0, n, d, i, h, rf, G, hm, hi, hC, hR, hG => by
    cases hf : fpr G n 0 with
    | none =>
      refine s_ildn (p' := 5) rfl rfl rfl ?_
      refine s_bip (p' := 7) rfl rfl ?_
      refine s_icmp (p' := 10) false rfl ((ci_ge (by omega) (by omega)).trans (decide_eq_false (by omega))) rfl ?_
      refine s_aldn (p' := 11) rfl rfl rfl ?_
      refine s_callEV (p' := 14) (ls0 := [_, _, _]) rfl rfl rfl rfl rfl (mj_rcv_is hC) rfl (x_ip bC bR hC hR hG (by omega)) rfl rfl ?_
      rintro _ h1 (⟨_, rfl, rfl⟩ | ⟨e, l, q, _⟩)
      rotate_left
      · rw [hf] at q; cases q
      refine s_if (p' := 26) true rfl rfl rfl ?_
      refine s_ildn (p' := 27) rfl rfl rfl ?_
      refine s_iret rfl rfl ?_
      have hCR : C ≠ R := fun e => by rw [e, hR] at hC; cases hC
      exact ⟨_, _, rfl, by rw [smp_no hf, Nat.sub_self, Nat.add_zero], rf, by rw [smp_no hf]; exact hG, by rw [smp_no hf, set_id bR hR, set_id bC hC]⟩
    | some x =>
      obtain ⟨e, l⟩ := x
      have hx := fpr_in _ _ hf
      omega
  | m + 1, n, d, i, h, rf, G, hm, hi, hC, hR, hG => by
    cases hf : fpr G n 0 with
    | none =>
      refine s_ildn (p' := 5) rfl rfl rfl ?_
      refine s_bip (p' := 7) rfl rfl ?_
      refine s_icmp (p' := 10) false rfl ((ci_ge (by omega) (by omega)).trans (decide_eq_false (by omega))) rfl ?_
      refine s_aldn (p' := 11) rfl rfl rfl ?_
      refine s_callEV (p' := 14) (ls0 := [_, _, _]) rfl rfl rfl rfl rfl (mj_rcv_is hC) rfl (x_ip bC bR hC hR hG (by omega)) rfl rfl ?_
      rintro _ h1 (⟨_, rfl, rfl⟩ | ⟨e, l, q, _⟩)
      rotate_left
      · rw [hf] at q; cases q
      refine s_if (p' := 26) true rfl rfl rfl ?_
      refine s_ildn (p' := 27) rfl rfl rfl ?_
      refine s_iret rfl rfl ?_
      have hCR : C ≠ R := fun e => by rw [e, hR] at hC; cases hC
      exact ⟨_, _, rfl, by rw [smp_no hf, Nat.sub_self, Nat.add_zero], rf, by rw [smp_no hf]; exact hG, by rw [smp_no hf, set_id bR hR, set_id bC hC]⟩
    | some x =>
      obtain ⟨e, l⟩ := x
      have hx := fpr_in _ _ hf
      have ih := x_dpL (o1 := o1) (o2 := o2) (mf := mf) bC bR m (n - 2) (d + 2) (i + 1)
      have hCR : C ≠ R := fun e => by rw [e, hR] at hC; cases hC
      refine s_ildn (p' := 5) rfl rfl rfl ?_
      refine s_bip (p' := 7) rfl rfl ?_
      refine s_icmp (p' := 10) false rfl ((ci_ge (by omega) (by omega)).trans (decide_eq_false (by omega))) rfl ?_
      refine s_aldn (p' := 11) rfl rfl rfl ?_
      refine s_callEV (p' := 14) (ls0 := [_, _, _]) rfl rfl rfl rfl rfl (mj_rcv_is hC) rfl (x_ip bC bR hC hR hG (by omega)) rfl rfl ?_
      rintro _ h1 (⟨q, _⟩ | ⟨e2, l2, q, rfl, rf', h2, rfl⟩)
      · rw [hf] at q; cases q
      rw [hf] at q
      obtain ⟨rfl, rfl⟩ := Prod.mk.inj (Option.some.inj q)
      refine s_if (p' := 17) false rfl rfl rfl ?_
      refine s_inc (p' := 20) (ls' := [_, _, _]) rfl rfl rfl rfl rfl ?_
      rw [mI_add]
      refine s_inc (p' := 23) (ls' := [_, _, _]) rfl rfl rfl rfl rfl ?_
      rw [mI_add]
      refine s_goto (p' := 4) rfl rfl ?_
      refine (ih _ rf' _ (by omega) (by omega) (rd_set bC ((rd_setn (Ne.symm hCR)).trans hC)) ((rd_setn hCR).trans (rd_set bR hR)) h2).imp ?_
      rintro o ⟨r, h3, rfl, h4, rf2, h5, rfl⟩
      have hs := smp_in (T := fun x => x < 24) m (drp (drp G l) e) (n - 2) (fun j hj => (h2 j hj).2)
      rw [smp_so hf]
      exact ⟨_, _, rfl, by rw [h4, show d + 2 + (n - 2 - (smp m (drp (drp G l) e) (n - 2)).2) = d + (n - (smp m (drp (drp G l) e) (n - 2)).2) by omega], rf2, h5, by rw [List.set_comm _ _ hCR, List.set_set, List.set_set]⟩
theorem x_dp {h : mj_H} {C R n : Nat} {o1 o2 mf : Value} {rf : Nat → Int32} {G : Nat → Nat} (bC : C < mj_CB) (bR : R < mj_CB) (hC : mj_rd h C = some (.inr (9, [.ref R, o1, o2, .int (nI n), mf]))) (hR : mj_rd h R = some (.inl (0, (24, .inl rf)))) (hG : ∀ j, j < n → rf j = nI (G j) ∧ G j < 24) (hn : n ≤ 24) : mj_Wp 3 29 (0, [some (.ref C), none, none], [], h) (mz_V fun r h' => r = .int (nI ((n - (smp 12 G n).2))) ∧ ∃ rf', (∀ j, j < (smp 12 G n).2 → rf' j = nI ((smp 12 G n).1 j) ∧ (smp 12 G n).1 j < 24) ∧ h' = (h.set R (.inl (0, (24, .inl (rf'))))).set C (.inr (9, [.ref R, o1, o2, .int (nI ((smp 12 G n).2)), mf]))) := by
  refine s_con (p' := 1) rfl rfl ?_
  refine s_istn (p' := 2) (ls' := [_, _, _]) rfl rfl rfl rfl ?_
  refine s_con (p' := 3) rfl rfl ?_
  refine s_istn (p' := 4) (ls' := [_, _, _]) rfl rfl rfl rfl ?_
  have := x_dpL (o1 := o1) (o2 := o2) (mf := mf) bC bR 12 n 0 0 h rf G (by omega) (by omega) hC hR hG
  rw [Nat.zero_add] at this
  exact this
theorem ne0 {x : Int32} {c : Bool} (h : decide (x = nI 0) = c) : mj_ci .ne x 0 = !c := by
  rw [← h]
  show decide (¬ x = nI 0) = _
  by_cases q : x = nI 0
  · rw [decide_eq_true q, decide_eq_false (fun z => z q)]
    rfl
  · rw [decide_eq_false q, decide_eq_true q]
    rfl
theorem y_ifr {h : mj_H} {a b : Nat} (ha : a < 24) (hb : b < 24) : mj_run 0 439 (0, [some (.int (nI a)), some (.int (nI b))], [], h) (.inl (some (.int (nI (bN (!(ctb b a || ctb a b)))))), h) := by
  refine s_ildn (p' := 1) rfl rfl rfl ?_
  refine s_bip (p' := 3) rfl rfl ?_
  refine s_sp (p' := 4) (ls' := _) rfl rfl rfl ?_
  refine s_con (p' := 5) rfl rfl ?_
  refine s_ildn (p' := 6) rfl rfl rfl ?_
  refine s_bip (p' := 8) rfl rfl ?_
  refine s_idiv (p' := 9) rfl (by decide +kernel) rfl ?_
  refine s_sp (p' := 10) (ls' := _) rfl rfl rfl ?_
  refine s_sp (p' := 11) (ls' := _) rfl rfl rfl ?_
  by_cases q1 : ctb b a = true
  · refine s_if (p' := 32) true rfl ((ne0 (ctb_y hb ha)).trans (by rw [q1]; rfl)) rfl ?_
    refine s_con (p' := 33) rfl rfl ?_
    exact s_iret rfl rfl (by rw [q1]; rfl)
  · refine s_if (p' := 14) false rfl ((ne0 (ctb_y hb ha)).trans (by rw [Bool.eq_false_iff.mpr q1]; rfl)) rfl ?_
    refine s_ildn (p' := 15) rfl rfl rfl ?_
    refine s_bip (p' := 17) rfl rfl ?_
    refine s_sp (p' := 18) (ls' := _) rfl rfl rfl ?_
    refine s_con (p' := 19) rfl rfl ?_
    refine s_ildn (p' := 20) rfl rfl rfl ?_
    refine s_bip (p' := 22) rfl rfl ?_
    refine s_idiv (p' := 23) rfl (by decide +kernel) rfl ?_
    refine s_sp (p' := 24) (ls' := _) rfl rfl rfl ?_
    refine s_sp (p' := 25) (ls' := _) rfl rfl rfl ?_
    by_cases q2 : ctb a b = true
    · refine s_if (p' := 32) true rfl ((ne0 (ctb_y ha hb)).trans (by rw [q2]; rfl)) rfl ?_
      refine s_con (p' := 33) rfl rfl ?_
      exact s_iret rfl rfl (by rw [q2, Bool.or_true]; rfl)
    · refine s_if (p' := 28) false rfl ((ne0 (ctb_y ha hb)).trans (by rw [Bool.eq_false_iff.mpr q2]; rfl)) rfl ?_
      refine s_con (p' := 29) rfl rfl ?_
      refine s_goto (p' := 33) rfl rfl ?_
      exact s_iret rfl rfl (by rw [Bool.eq_false_iff.mpr q1, Bool.eq_false_iff.mpr q2]; rfl)
theorem y_get {h : mj_H} {Lr E n i : Nat} {f : Nat → Nat} (hl : yLs h Lr E n f) (hi : i < n) : mj_run 4 358 (0, [some (.ref Lr), some (.int (nI i))], [], h) (.inl (some (.ref (f i))), h) := by
  obtain ⟨cap, mc, ef, hL, hE, h1, h2, h3, h4⟩ := hl
  refine s_ildn (p' := 1) rfl rfl rfl ?_
  refine s_aldn (p' := 2) rfl rfl rfl ?_
  refine s_gf (p' := 5) rfl hL rfl rfl ?_
  refine c_call (p' := 8) (kc := 3) (ls0 := [_, _]) rfl rfl rfl rfl rfl rfl rfl rfl rfl ?_
  refine s_ildn (p' := 1) rfl rfl rfl ?_
  refine s_ildn (p' := 2) rfl rfl rfl ?_
  refine s_sp (p' := 3) (ls' := _) rfl rfl rfl ?_
  refine c_call (p' := 6) (kc := 2) (ls0 := [_, _, _]) rfl rfl rfl rfl rfl rfl rfl rfl rfl ?_
  refine s_ildn (p' := 1) rfl rfl rfl ?_
  refine s_if (p' := 4) false rfl (cz_lt (by omega)) rfl ?_
  refine s_ildn (p' := 5) rfl rfl rfl ?_
  refine s_ildn (p' := 6) rfl rfl rfl ?_
  refine s_icmp (p' := 16) true rfl ((ci_lt (by omega) (by omega)).trans (decide_eq_true (by omega))) rfl ?_
  refine s_ildn (p' := 17) rfl rfl rfl ?_
  refine c_iret rfl rfl ?_
  refine c_iret rfl rfl ?_
  refine s_sp (p' := 9) (ls' := _) rfl rfl rfl ?_
  refine s_aldn (p' := 10) rfl rfl rfl ?_
  refine s_ildn (p' := 11) rfl rfl rfl ?_
  refine c_call (p' := 14) (kc := 3) (ls0 := [_, _]) rfl rfl rfl rfl rfl (mj_rcv_is hL) rfl rfl rfl ?_
  refine s_aldn (p' := 1) rfl rfl rfl ?_
  refine s_gf (p' := 4) rfl hL rfl rfl ?_
  refine s_ildn (p' := 5) rfl rfl rfl ?_
  refine s_aal (p' := 6) rfl hE (by decide) (inb_nI (by omega) (by omega)) rfl ?_
  rw [mI_cl (by omega), (h4 i hi).1, show va_rf (some (f i)) = .ref (f i) from rfl]
  refine c_aret rfl ?_
  exact s_aret rfl rfl
theorem y_siz {h : mj_H} {Lr E n : Nat} {mc : Int32} (hL : mj_rd h Lr = some (alC E n mc)) : mj_run 0 345 (0, [some (.ref Lr)], [], h) (.inl (some (.int (nI n))), h) := by
  refine s_aldn (p' := 1) rfl rfl rfl ?_
  refine s_gf (p' := 4) rfl hL rfl rfl ?_
  exact s_iret rfl rfl rfl
theorem yLs.c {h : mj_H} {Lr E n : Nat} {f : Nat → Nat} : yLs h Lr E n f → ∃ mc, mj_rd h Lr = some (alC E n mc)
  | ⟨_, mc, _, q, _⟩ => ⟨mc, q⟩
abbrev gI (G : Nat → Nat) : Nat → Nat := fun j => 1000138 + G j
theorem y_lkL {h : mj_H} {x Lr E n : Nat} {G : Nat → Nat} {a0 a1 a2 a3 a4 a5 a7 a8 a9 a10 : Value} (hX : mj_rd h x = some (.inr (17, [a0, a1, a2, a3, a4, a5, .ref Lr, a7, a8, a9, a10]))) (hl : yLs h Lr E n (gI G)) (hG : ∀ j, j < n → G j < 24) (hn : n ≤ 24) {e : Nat} (he : e < n) : ∀ (k i : Nat), i + k = n → mj_run 5 438 (4, [some (.ref x), some (.int (nI e)), some (.int (nI i))], [], h) (.inl (some (.int (opI (par G e k i)))), h)
  | 0, i, hi0 => by
    obtain ⟨mc, hL⟩ := hl.c
    refine s_ildn (p' := 5) rfl rfl rfl ?_
    refine s_aldn (p' := 6) rfl rfl rfl ?_
    refine s_gf (p' := 9) rfl hX rfl rfl ?_
    refine s_callV (p' := 14) (ls0 := [_]) rfl rfl rfl rfl rfl (mj_rcv_is hL) rfl (y_siz hL) (by decide) rfl ?_
    refine s_icmp (p' := 100) true rfl ((ci_ge (by omega) (by omega)).trans (decide_eq_true (by omega))) rfl ?_
    refine s_con (p' := 101) rfl rfl ?_
    exact s_iret rfl rfl rfl
  | k + 1, i, hi0 => by
    obtain ⟨mc, hL⟩ := hl.c
    have ih := y_lkL hX hl hG hn he k (i + 1) (by omega)
    have hi : i < n := by omega
    have hi1 := hG i hi
    have he1 := hG e he
    refine s_ildn (p' := 5) rfl rfl rfl ?_
    refine s_aldn (p' := 6) rfl rfl rfl ?_
    refine s_gf (p' := 9) rfl hX rfl rfl ?_
    refine s_callV (p' := 14) (ls0 := [_]) rfl rfl rfl rfl rfl (mj_rcv_is hL) rfl (y_siz hL) (by decide) rfl ?_
    refine s_icmp (p' := 17) false rfl ((ci_ge (by omega) (by omega)).trans (decide_eq_false (by omega))) rfl ?_
    refine s_aldn (p' := 18) rfl rfl rfl ?_
    refine s_gf (p' := 21) rfl hX rfl rfl ?_
    refine s_ildn (p' := 22) rfl rfl rfl ?_
    refine s_callV (p' := 27) (ls0 := [_, _]) rfl rfl rfl rfl rfl (mj_rcv_is hL) rfl (y_get hl hi) (by decide) rfl ?_
    refine s_cco (p' := 30) rfl (k_int _ hi1) rfl ?_
    refine c_call (p' := 33) (kc := 4) (ls0 := [_]) rfl rfl rfl rfl rfl (mj_rcv_is (k_int _ hi1)) rfl rfl rfl ?_
    refine s_aldn (p' := 1) rfl rfl rfl ?_
    refine s_gf (p' := 4) rfl (k_int _ hi1) rfl rfl ?_
    refine c_iret rfl rfl ?_
    refine s_aldn (p' := 34) rfl rfl rfl ?_
    refine s_gf (p' := 37) rfl hX rfl rfl ?_
    refine s_ildn (p' := 38) rfl rfl rfl ?_
    refine s_callV (p' := 43) (ls0 := [_, _]) rfl rfl rfl rfl rfl (mj_rcv_is hL) rfl (y_get hl he) (by decide) rfl ?_
    refine s_cco (p' := 46) rfl (k_int _ he1) rfl ?_
    refine c_call (p' := 49) (kc := 4) (ls0 := [_]) rfl rfl rfl rfl rfl (mj_rcv_is (k_int _ he1)) rfl rfl rfl ?_
    refine s_aldn (p' := 1) rfl rfl rfl ?_
    refine s_gf (p' := 4) rfl (k_int _ he1) rfl rfl ?_
    refine c_iret rfl rfl ?_
    by_cases q : G i = G e
    · refine s_icmp (p' := 52) false rfl ((ci_ne (by omega) (by omega)).trans (decide_eq_false (by omega))) rfl ?_
      refine s_ildn (p' := 53) rfl rfl rfl ?_
      exact s_iret rfl rfl (by rw [par, if_pos q]; rfl)
    · refine s_icmp (p' := 54) true rfl ((ci_ne (by omega) (by omega)).trans (decide_eq_true (by omega))) rfl ?_
      refine s_aldn (p' := 55) rfl rfl rfl ?_
      refine s_gf (p' := 58) rfl hX rfl rfl ?_
      refine s_ildn (p' := 59) rfl rfl rfl ?_
      refine s_callV (p' := 64) (ls0 := [_, _]) rfl rfl rfl rfl rfl (mj_rcv_is hL) rfl (y_get hl he) (by decide) rfl ?_
      refine s_cco (p' := 67) rfl (k_int _ he1) rfl ?_
      refine c_call (p' := 70) (kc := 4) (ls0 := [_]) rfl rfl rfl rfl rfl (mj_rcv_is (k_int _ he1)) rfl rfl rfl ?_
      refine s_aldn (p' := 1) rfl rfl rfl ?_
      refine s_gf (p' := 4) rfl (k_int _ he1) rfl rfl ?_
      refine c_iret rfl rfl ?_
      refine s_aldn (p' := 71) rfl rfl rfl ?_
      refine s_gf (p' := 74) rfl hX rfl rfl ?_
      refine s_ildn (p' := 75) rfl rfl rfl ?_
      refine s_callV (p' := 80) (ls0 := [_, _]) rfl rfl rfl rfl rfl (mj_rcv_is hL) rfl (y_get hl hi) (by decide) rfl ?_
      refine s_cco (p' := 83) rfl (k_int _ hi1) rfl ?_
      refine c_call (p' := 86) (kc := 4) (ls0 := [_]) rfl rfl rfl rfl rfl (mj_rcv_is (k_int _ hi1)) rfl rfl rfl ?_
      refine s_aldn (p' := 1) rfl rfl rfl ?_
      refine s_gf (p' := 4) rfl (k_int _ hi1) rfl rfl ?_
      refine c_iret rfl rfl ?_
      refine s_callV (p' := 89) (ls0 := [_, _]) rfl rfl rfl rfl rfl rfl rfl (y_ifr he1 hi1) (by decide) rfl ?_
      by_cases q1 : (ctb (G i) (G e) || ctb (G e) (G i)) = true
      · refine s_if (p' := 92) false rfl (by rw [q1]; rfl) rfl ?_
        refine s_con (p' := 93) rfl rfl ?_
        exact s_iret rfl rfl (by rw [par, if_neg q, if_pos q1]; rfl)
      · refine s_if (p' := 94) true rfl (by rw [Bool.eq_false_iff.mpr q1]; rfl) rfl ?_
        refine s_inc (p' := 97) (ls' := [_, _, _]) rfl rfl rfl rfl rfl ?_
        rw [mI_add]
        refine s_goto (p' := 4) rfl rfl ?_
        refine ih.eq ?_
        rw [par, if_neg q, if_neg q1]
theorem y_lk {h : mj_H} {x Lr E n : Nat} {G : Nat → Nat} {a0 a1 a2 a3 a4 a5 a7 a8 a9 a10 : Value} (hX : mj_rd h x = some (.inr (17, [a0, a1, a2, a3, a4, a5, .ref Lr, a7, a8, a9, a10]))) (hl : yLs h Lr E n (gI G)) (hG : ∀ j, j < n → G j < 24) (hn : n ≤ 24) {e : Nat} (he : e < n) : mj_run 5 438 (0, [some (.ref x), some (.int (nI e)), none], [], h) (.inl (some (.int (opI (par G e (n - 1 - e) (e + 1))))), h) := by
  refine s_ildn (p' := 1) rfl rfl rfl ?_
  refine s_con (p' := 2) rfl rfl ?_
  refine s_sp (p' := 3) (ls' := _) rfl rfl rfl ?_
  rw [mI_add]
  refine s_istn (p' := 4) (ls' := [_, _, _]) rfl rfl rfl rfl ?_
  exact y_lkL hX hl hG hn he (n - 1 - e) (e + 1) (by omega)
theorem y_fr {h : mj_H} {Lr E n i : Nat} {f : Nat → Nat} (bL : Lr < mj_CB) (hl : yLs h Lr E n f) (hi : i < n) {E0 : Nat} (hE0 : E = E0) : mj_Wp 1 423 (0, [some (.ref Lr), some (.ref E0), some (.int (nI i)), none], [], h) (mz_N fun h' => yLs h' Lr E (n - 1) (drp f i) ∧ mz_mo [Lr, E] 0 0 h h') := by
  subst hE0
  obtain ⟨cap, mc, ef, hL, hE, h1, h2, h3, h4⟩ := hl
  have bE : E < mj_CB := by omega
  have hE5 := rdA_lt hE
  have hEL : E ≠ Lr := fun e => by rw [e, hL] at hE5; cases hE5
  have hL1 : mj_rd (h.set Lr (alC E n (mc + nI 1))) Lr = some (alC E n (mc + nI 1)) := rd_set bL hL
  have hE1 : mj_rd (h.set Lr (alC E n (mc + nI 1))) E = some (alE cap ef) := (rd_setn (Ne.symm hEL)).trans hE5
  have h41 : ∀ j, j < n → ef j = some (f j) ∧ gE (h.set Lr (alC E n (mc + nI 1))) (f j) := fun j hj => ⟨(h4 j hj).1, (h4 j hj).2.st ((h4 j hj).2.neL hL)⟩
  refine s_aldn (p' := 1) rfl rfl rfl ?_
  refine s_sp (p' := 2) (ls' := _) rfl rfl rfl ?_
  refine s_gf (p' := 5) rfl hL rfl rfl ?_
  refine s_con (p' := 6) rfl rfl ?_
  refine s_sp (p' := 7) (ls' := _) rfl rfl rfl ?_
  refine s_pf (p' := 10) (fs' := [_, _, _]) rfl bL hL (Nat.blt_eq.mp rfl) rfl rfl rfl ?_
  refine s_aldn (p' := 11) rfl rfl rfl ?_
  refine s_gf (p' := 14) rfl hL1 rfl rfl ?_
  refine s_con (p' := 15) rfl rfl ?_
  refine s_sp (p' := 16) (ls' := _) rfl rfl rfl ?_
  rw [mI_sub (by omega)]
  refine s_sp (p' := 17) (ls' := _) rfl rfl rfl ?_
  refine s_istn (p' := 18) (ls' := [_, _, _, _]) rfl rfl rfl rfl ?_
  refine s_ildn (p' := 19) rfl rfl rfl ?_
  by_cases q : i < n - 1
  · refine s_icmp (p' := 22) false rfl ((ci_le (by omega) (by omega)).trans (decide_eq_false (by omega))) rfl ?_
    refine s_aldn (p' := 23) rfl rfl rfl ?_
    refine s_ildn (p' := 24) rfl rfl rfl ?_
    refine s_con (p' := 25) rfl rfl ?_
    refine s_sp (p' := 26) (ls' := _) rfl rfl rfl ?_
    rw [mI_add]
    refine s_aldn (p' := 27) rfl rfl rfl ?_
    refine s_ildn (p' := 28) rfl rfl rfl ?_
    refine s_ildn (p' := 29) rfl rfl rfl ?_
    refine s_ildn (p' := 30) rfl rfl rfl ?_
    refine s_sp (p' := 31) (ls' := _) rfl rfl rfl ?_
    rw [mI_sub (by omega)]
    refine s_primN (p' := 34) (q := 0) rfl rfl rfl rfl rfl rfl (p_cpyA (n := cap) (g := ef) (Nat.blt_eq.mpr (by omega)) (mj_rdA_is hE1 (by decide)) (mj_rdA_is hE1 (by decide)) (by simp only [Bool.and_eq_true, Nat.ble_eq, Nat.blt_eq]; omega) (cpq_is (fun j hj => ⟨_, h41 (i + 1 + j) (by omega)⟩))) rfl ?_
    refine s_aldn (p' := 35) rfl rfl rfl ?_
    refine s_aldn (p' := 36) rfl rfl rfl ?_
    refine s_ildn (p' := 37) rfl rfl rfl ?_
    refine s_sp (p' := 38) (ls' := _) rfl rfl rfl ?_
    refine s_pf (p' := 41) (fs' := [_, _, _]) rfl bL ((rd_setn hEL).trans hL1) (Nat.blt_eq.mp rfl) rfl rfl rfl ?_
    refine s_sp (p' := 42) (ls' := _) rfl rfl rfl ?_
    refine s_aasN (p' := 43) rfl bE ((rd_setn (Ne.symm hEL)).trans (rd_set bE hE1)) (by decide) (inb_nI (by omega) (by omega)) rfl ?_
    rw [mI_cl (by omega)]
    refine s_ret rfl ?_
    refine ⟨_, rfl, ?_, ?_⟩
    · rw [List.set_comm _ _ (Ne.symm hEL), List.set_set]
      refine ls_put (ef := ef) (ef' := va_up (va_cpy ef ef (i + 1) i (n - 1 - i)) (n - 1) none) bL bE hL1 hE1 (by omega) (by omega) h2 (fun j hj => ?_)
      unfold va_up va_cpy drp
      rw [if_neg (by omega)]
      by_cases r : j < i
      · rw [if_neg (by omega), if_pos r]
        exact h41 j (by omega)
      · rw [if_pos (by omega), if_neg r, show i + 1 + (j - i) = j + 1 by omega]
        exact h41 (j + 1) (by omega)
    · rw [List.set_comm _ _ (Ne.symm hEL), List.set_set]
      exact mz_mo.s (mz_mo.s (mz_mo.s (mz_mo.rf _ _ _ _) bL hL (c := alC E n (mc + nI 1)) rfl (Or.inl (by simp))) bE hE1 rfl (Or.inl (by simp))) bL ((rd_setn hEL).trans hL1) rfl (Or.inl (by simp))
  · refine s_icmp (p' := 34) true rfl ((ci_le (by omega) (by omega)).trans (decide_eq_true (by omega))) rfl ?_
    refine s_aldn (p' := 35) rfl rfl rfl ?_
    refine s_aldn (p' := 36) rfl rfl rfl ?_
    refine s_ildn (p' := 37) rfl rfl rfl ?_
    refine s_sp (p' := 38) (ls' := _) rfl rfl rfl ?_
    refine s_pf (p' := 41) (fs' := [_, _, _]) rfl bL hL1 (Nat.blt_eq.mp rfl) rfl rfl rfl ?_
    rw [List.set_set]
    refine s_sp (p' := 42) (ls' := _) rfl rfl rfl ?_
    refine s_aasN (p' := 43) rfl bE ((rd_setn (Ne.symm hEL)).trans hE5) (by decide) (inb_nI (by omega) (by omega)) rfl ?_
    rw [mI_cl (by omega)]
    refine s_ret rfl ?_
    have hcm : ∀ (a b : mj_C), (h.set Lr a).set E b = ((h.set Lr (alC E n (mc + nI 1))).set E b).set Lr a := fun a b => by rw [List.set_comm _ _ hEL, List.set_set]
    refine ⟨_, rfl, ?_, ?_⟩
    · rw [hcm]
      refine ls_put (ef := ef) (ef' := va_up ef (n - 1) none) bL bE hL1 hE1 (by omega) (by omega) h2 (fun j hj => ?_)
      unfold va_up drp
      rw [if_neg (by omega), if_pos (by omega)]
      exact h41 j (by omega)
    · rw [hcm]
      exact mz_mo.s (mz_mo.s (mz_mo.s (mz_mo.rf _ _ _ _) bL hL (c := alC E n (mc + nI 1)) rfl (Or.inl (by simp))) bE hE1 rfl (Or.inl (by simp))) bL ((rd_setn hEL).trans hL1) rfl (Or.inl (by simp))
theorem y_rm {h : mj_H} {Lr E n i : Nat} {f : Nat → Nat} (bL : Lr < mj_CB) (hl : yLs h Lr E n f) (hi : i < n) : mj_Wp 4 422 (0, [some (.ref Lr), some (.int (nI i)), none, none], [], h) (mz_V fun r h' => r = .ref (f i) ∧ yLs h' Lr E (n - 1) (drp f i) ∧ mz_mo [Lr, E] 0 0 h h') := by
  have hl0 := hl
  obtain ⟨cap, mc, ef, hL, hE, h1, h2, h3, h4⟩ := hl0
  refine s_ildn (p' := 1) rfl rfl rfl ?_
  refine s_aldn (p' := 2) rfl rfl rfl ?_
  refine s_gf (p' := 5) rfl hL rfl rfl ?_
  refine c_call (p' := 8) (kc := 3) (ls0 := [_, _]) rfl rfl rfl rfl rfl rfl rfl rfl rfl ?_
  refine s_ildn (p' := 1) rfl rfl rfl ?_
  refine s_ildn (p' := 2) rfl rfl rfl ?_
  refine s_sp (p' := 3) (ls' := _) rfl rfl rfl ?_
  refine c_call (p' := 6) (kc := 2) (ls0 := [_, _, _]) rfl rfl rfl rfl rfl rfl rfl rfl rfl ?_
  refine s_ildn (p' := 1) rfl rfl rfl ?_
  refine s_if (p' := 4) false rfl (cz_lt (by omega)) rfl ?_
  refine s_ildn (p' := 5) rfl rfl rfl ?_
  refine s_ildn (p' := 6) rfl rfl rfl ?_
  refine s_icmp (p' := 16) true rfl ((ci_lt (by omega) (by omega)).trans (decide_eq_true (by omega))) rfl ?_
  refine s_ildn (p' := 17) rfl rfl rfl ?_
  refine c_iret rfl rfl ?_
  refine c_iret rfl rfl ?_
  refine s_sp (p' := 9) (ls' := _) rfl rfl rfl ?_
  refine s_aldn (p' := 10) rfl rfl rfl ?_
  refine s_gf (p' := 13) rfl hL rfl rfl ?_
  refine s_astn (p' := 14) (ls' := [_, _, _, _]) rfl rfl rfl rfl ?_
  refine s_aldn (p' := 15) rfl rfl rfl ?_
  refine s_ildn (p' := 16) rfl rfl rfl ?_
  refine s_aal (p' := 17) rfl hE (by decide) (inb_nI (by omega) (by omega)) rfl ?_
  rw [mI_cl (by omega), (h4 i hi).1, show va_rf (some (f i)) = .ref (f i) from rfl]
  refine s_astn (p' := 18) (ls' := [_, _, _, _]) rfl rfl rfl rfl ?_
  refine s_aldn (p' := 19) rfl rfl rfl ?_
  refine s_aldn (p' := 20) rfl rfl rfl ?_
  refine s_ildn (p' := 21) rfl rfl rfl ?_
  refine s_callEN (p' := 24) (ls0 := [_, _, _, _]) rfl rfl rfl rfl rfl (mj_rcv_is hL) rfl (y_fr bL hl hi rfl) rfl rfl ?_
  rintro g ⟨k1, k2⟩
  refine s_aldn (p' := 25) rfl rfl rfl ?_
  refine s_aret rfl ?_
  exact ⟨_, _, rfl, rfl, k1, k2⟩
theorem ne_m1 {l : Nat} (h : l < 2147483648) : mj_ci .ne (nI l) (nI 4294967295) = true := decide_eq_true (fun e => by
  have h2 := congrArg Int32.toInt e
  rw [mI_ti h, show (nI 4294967295).toInt = -1 from by decide +kernel] at h2
  omega)
theorem gI_drp (G : Nat → Nat) (i : Nat) : drp (gI G) i = gI (drp G i) := funext fun j => by
  unfold drp gI
  dsimp only
  split <;> rfl
theorem y_smL {x Lr E b0 : Nat} {a0 a1 a2 a3 a4 a5 a7 a8 a9 a10 : Value} (bL : Lr < mj_CB) (hxE : x ≠ E) {Q : mj_O × mj_H → Prop} : ∀ (m n : Nat) (G : Nat → Nat) (h : mj_H), n ≤ 2 * m + 1 → n ≤ 24 → mj_rd h x = some (.inr (17, [a0, a1, a2, a3, a4, a5, .ref Lr, a7, a8, a9, a10])) → yLs h Lr E n (gI G) → (∀ j, j < n → G j < 24) → (∀ (l3 : Option Value) (h' : mj_H) (N : Nat), N = (smp m G n).2 → yLs h' Lr E N (gI (smp m G n).1) → mz_mo [Lr, E] 0 0 h h' → mj_Wp 6 437 (74, [some (.ref x), some (.int (nI b0)), some (.int (nI N)), l3], [], h') Q) → ∀ (k e : Nat) (l3 : Option Value), e + k = n → fpr G n 0 = fpr G k e → mj_Wp 6 437 (17, [some (.ref x), some (.int (nI b0)), some (.int (nI e)), l3], [], h) Q
  | 0, n, G, h, hm, hn, hX, hl, hG, hq, 0, e, l3, he, hf => by
    obtain ⟨mc, hL⟩ := hl.c
    have hxL : x ≠ Lr := fun e => by rw [e, hL] at hX; cases hX
    obtain rfl : e = n := by omega
    rw [smp_no hf] at hq
    refine s_ildn (p' := 18) rfl rfl rfl ?_
    refine s_aldn (p' := 19) rfl rfl rfl ?_
    refine s_gf (p' := 22) rfl hX rfl rfl ?_
    refine s_callV (p' := 27) (ls0 := [_]) rfl rfl rfl rfl rfl (mj_rcv_is hL) rfl (y_siz hL) (by decide) rfl ?_
    refine s_icmp (p' := 74) true rfl ((ci_ge (by omega) (by omega)).trans (decide_eq_true (by omega))) rfl ?_
    exact hq l3 h e rfl hl (mz_mo.rf _ _ _ _)
  | 0, n, G, h, hm, hn, hX, hl, hG, hq, k + 1, e, l3, he, hf => by
    obtain ⟨mc, hL⟩ := hl.c
    have hxL : x ≠ Lr := fun e => by rw [e, hL] at hX; cases hX
    have hk : n - 1 - e = k := by omega
    cases hp : par G e k (e + 1) with
    | none =>
      have ih := y_smL bL hxE 0 n G h hm hn hX hl hG hq k (e + 1)
      rw [fpr, hp] at hf
      refine s_ildn (p' := 18) rfl rfl rfl ?_
      refine s_aldn (p' := 19) rfl rfl rfl ?_
      refine s_gf (p' := 22) rfl hX rfl rfl ?_
      refine s_callV (p' := 27) (ls0 := [_]) rfl rfl rfl rfl rfl (mj_rcv_is hL) rfl (y_siz hL) (by decide) rfl ?_
      refine s_icmp (p' := 30) false rfl ((ci_ge (by omega) (by omega)).trans (decide_eq_false (by omega))) rfl ?_
      refine s_aldn (p' := 31) rfl rfl rfl ?_
      refine s_ildn (p' := 32) rfl rfl rfl ?_
      refine s_callV (p' := 35) (ls0 := [_, _, _]) rfl rfl rfl rfl rfl (mj_rcv_is (by repeat (first | assumption | refine rd_app ?_ | rw [rd_setn (by first | assumption | omega)] | apply rd_set (by first | assumption | decide)))) rfl (y_lk hX hl hG hn (by omega)) (by decide) rfl ?_
      rw [hk, hp]
      refine s_istn (p' := 36) (ls' := [_, _, _, _]) rfl rfl rfl rfl ?_
      refine s_ildn (p' := 37) rfl rfl rfl ?_
      refine s_con (p' := 38) rfl rfl ?_
      refine s_icmp (p' := 41) false rfl (by decide +kernel) rfl ?_
      refine s_inc (p' := 44) (ls' := [_, _, _, _]) rfl rfl rfl rfl rfl ?_
      rw [mI_add]
      refine s_goto (p' := 17) rfl rfl ?_
      exact ih _ (by omega) hf
    | some l =>
      have hl2 := par_in _ _ hp
      omega
  | m + 1, n, G, h, hm, hn, hX, hl, hG, hq, 0, e, l3, he, hf => by
    obtain ⟨mc, hL⟩ := hl.c
    have hxL : x ≠ Lr := fun e => by rw [e, hL] at hX; cases hX
    obtain rfl : e = n := by omega
    rw [smp_no hf] at hq
    refine s_ildn (p' := 18) rfl rfl rfl ?_
    refine s_aldn (p' := 19) rfl rfl rfl ?_
    refine s_gf (p' := 22) rfl hX rfl rfl ?_
    refine s_callV (p' := 27) (ls0 := [_]) rfl rfl rfl rfl rfl (mj_rcv_is hL) rfl (y_siz hL) (by decide) rfl ?_
    refine s_icmp (p' := 74) true rfl ((ci_ge (by omega) (by omega)).trans (decide_eq_true (by omega))) rfl ?_
    exact hq l3 h e rfl hl (mz_mo.rf _ _ _ _)
  | m + 1, n, G, h, hm, hn, hX, hl, hG, hq, k + 1, e, l3, he, hf => by
    obtain ⟨mc, hL⟩ := hl.c
    have hxL : x ≠ Lr := fun e => by rw [e, hL] at hX; cases hX
    have hk : n - 1 - e = k := by omega
    cases hp : par G e k (e + 1) with
    | none =>
      have ih := y_smL bL hxE (m + 1) n G h hm hn hX hl hG hq k (e + 1)
      rw [fpr, hp] at hf
      refine s_ildn (p' := 18) rfl rfl rfl ?_
      refine s_aldn (p' := 19) rfl rfl rfl ?_
      refine s_gf (p' := 22) rfl hX rfl rfl ?_
      refine s_callV (p' := 27) (ls0 := [_]) rfl rfl rfl rfl rfl (mj_rcv_is hL) rfl (y_siz hL) (by decide) rfl ?_
      refine s_icmp (p' := 30) false rfl ((ci_ge (by omega) (by omega)).trans (decide_eq_false (by omega))) rfl ?_
      refine s_aldn (p' := 31) rfl rfl rfl ?_
      refine s_ildn (p' := 32) rfl rfl rfl ?_
      refine s_callV (p' := 35) (ls0 := [_, _, _]) rfl rfl rfl rfl rfl (mj_rcv_is (by repeat (first | assumption | refine rd_app ?_ | rw [rd_setn (by first | assumption | omega)] | apply rd_set (by first | assumption | decide)))) rfl (y_lk hX hl hG hn (by omega)) (by decide) rfl ?_
      rw [hk, hp]
      refine s_istn (p' := 36) (ls' := [_, _, _, _]) rfl rfl rfl rfl ?_
      refine s_ildn (p' := 37) rfl rfl rfl ?_
      refine s_con (p' := 38) rfl rfl ?_
      refine s_icmp (p' := 41) false rfl (by decide +kernel) rfl ?_
      refine s_inc (p' := 44) (ls' := [_, _, _, _]) rfl rfl rfl rfl rfl ?_
      rw [mI_add]
      refine s_goto (p' := 17) rfl rfl ?_
      exact ih _ (by omega) hf
    | some l =>
      have hl2 := par_in _ _ hp
      rw [fpr, hp] at hf
      rw [smp_so hf] at hq
      refine s_ildn (p' := 18) rfl rfl rfl ?_
      refine s_aldn (p' := 19) rfl rfl rfl ?_
      refine s_gf (p' := 22) rfl hX rfl rfl ?_
      refine s_callV (p' := 27) (ls0 := [_]) rfl rfl rfl rfl rfl (mj_rcv_is hL) rfl (y_siz hL) (by decide) rfl ?_
      refine s_icmp (p' := 30) false rfl ((ci_ge (by omega) (by omega)).trans (decide_eq_false (by omega))) rfl ?_
      refine s_aldn (p' := 31) rfl rfl rfl ?_
      refine s_ildn (p' := 32) rfl rfl rfl ?_
      refine s_callV (p' := 35) (ls0 := [_, _, _]) rfl rfl rfl rfl rfl (mj_rcv_is (by repeat (first | assumption | refine rd_app ?_ | rw [rd_setn (by first | assumption | omega)] | apply rd_set (by first | assumption | decide)))) rfl (y_lk hX hl hG hn (by omega)) (by decide) rfl ?_
      rw [hk, hp, show opI (some l) = nI l from rfl]
      refine s_istn (p' := 36) (ls' := [_, _, _, _]) rfl rfl rfl rfl ?_
      refine s_ildn (p' := 37) rfl rfl rfl ?_
      refine s_con (p' := 38) rfl rfl ?_
      refine s_icmp (p' := 47) true rfl (ne_m1 (by omega)) rfl ?_
      refine s_aldn (p' := 48) rfl rfl rfl ?_
      refine s_gf (p' := 51) rfl hX rfl rfl ?_
      refine s_ildn (p' := 52) rfl rfl rfl ?_
      refine s_callEV (p' := 57) (ls0 := [_, _, _, _]) rfl rfl rfl rfl rfl (mj_rcv_is hL) rfl (y_rm bL hl (by omega)) rfl rfl ?_
      rintro _ h1 ⟨rfl, k1, k2⟩
      have hX1 := k2.1 x (by simp [hxL, hxE]) _ hX
      obtain ⟨mc1, hL1⟩ := k1.c
      refine s_sp (p' := 58) (ls' := _) rfl rfl rfl ?_
      refine s_aldn (p' := 59) rfl rfl rfl ?_
      refine s_gf (p' := 62) rfl hX1 rfl rfl ?_
      refine s_ildn (p' := 63) rfl rfl rfl ?_
      refine s_callEV (p' := 68) (ls0 := [_, _, _, _]) rfl rfl rfl rfl rfl (mj_rcv_is hL1) rfl (y_rm bL k1 (by omega)) rfl rfl ?_
      rintro _ h2 ⟨rfl, k3, k4⟩
      have hX2 := k4.1 x (by simp [hxL, hxE]) _ hX1
      rw [gI_drp, gI_drp, show n - 1 - 1 = n - 2 by omega] at k3
      have k5 := k2.tr k4 (fun y hy => Or.inl hy) (k := 0) (z := 0) (by omega) (by omega)
      refine s_sp (p' := 69) (ls' := _) rfl rfl rfl ?_
      refine s_con (p' := 70) rfl rfl ?_
      refine s_istn (p' := 71) (ls' := [_, _, _, _]) rfl rfl rfl rfl ?_
      refine s_goto (p' := 17) rfl rfl ?_
      exact y_smL bL hxE m (n - 2) (drp (drp G l) e) h2 (by omega) (by omega) hX2 k3 (drp_in (T := fun x => x < 24) (n := n - 1) (i := e) (drp_in (T := fun x => x < 24) (n := n) (i := l) hG (by omega)) (by omega)) (fun l3 h' N hN q1 q2 => hq l3 h' N hN q1 (k5.tr q2 (fun y hy => Or.inl hy) (by omega) (by omega))) (n - 2) 0 _ (by omega) rfl
