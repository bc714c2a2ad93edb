/-! Orders of circuits. -/
section REM
variable {k mi pc p' : Nat} {ls : mj_L} {st : List Value} {h : mj_H} {Q : mj_O × mj_H → Prop} {e : Nat × Nat × Nat}
theorem s_irem {x y : Int32} (hE : mj_Gg.1 mi pc = some (.irem, e)) (hy : ¬ y = 0) (hp : pc + 1 = p') (hn : mj_Wp k mi (p', ls, .int (x - x / y * y) :: st, h) Q) : mj_Wp k mi (pc, ls, .int y :: .int x :: st, h) Q := by
  refine s_sp (p' := p') (ls' := ls) (st' := .int (x - x / y * y) :: st) hE rfl ?_ hn
  show (if y = 0 then none else some (pc + 1, ls, .int (x - x / y * y) :: st)) = _
  rw [if_neg hy, hp]
theorem s_idiv {x y : Int32} (hE : mj_Gg.1 mi pc = some (.idiv, e)) (hy : ¬ y = 0) (hp : pc + 1 = p') (hn : mj_Wp k mi (p', ls, .int (x / y) :: st, h) Q) : mj_Wp k mi (pc, ls, .int y :: .int x :: st, h) Q := by
  refine s_sp (p' := p') (ls' := ls) (st' := .int (x / y) :: st) hE rfl ?_ hn
  show (if y = 0 then none else some (pc + 1, ls, .int (x / y) :: st)) = _
  rw [if_neg hy, hp]
end REM
def all16 (P : Nat → Nat → Bool) : Bool := (List.range 16).all fun a => (List.range 16).all fun b => P a b
theorem all16_of {P : Nat → Nat → Bool} (h : all16 P = true) {a b : Nat} (ha : a < 16) (hb : b < 16) : P a b = true :=
  List.all_eq_true.mp (List.all_eq_true.mp h a (List.mem_range.mpr ha)) b (List.mem_range.mpr hb)
theorem mI_rem {a b : Nat} (ha : a < 16) (hb : b < 16) (h0 : 0 < b) : nI a - nI a / nI b * nI b = nI (a % b) :=
  of_decide_eq_true (all16_of (P := fun a b => decide (0 < b → nI a - nI a / nI b * nI b = nI (a % b))) (by decide +kernel) ha hb) h0
theorem mI_lcm {a b : Nat} (ha : a < 16) (hb : b < 16) (h0 : 0 < a) : nI a / nI (Nat.gcd a b) * nI b = nI (Nat.lcm a b) :=
  of_decide_eq_true (all16_of (P := fun a b => decide (0 < a → nI a / nI (Nat.gcd a b) * nI b = nI (Nat.lcm a b))) (by decide +kernel) ha hb) h0
theorem nIz {b : Nat} (h0 : 0 < b) (hb : b < 100) : ¬ nI b = 0 := fun e => by
  have := (mI_inj (a := b) (b := 0) (by omega) (by omega)).mp e
  omega
theorem x_gcdL {x0 y0 : Int32} {h : mj_H} : ∀ (m a b i : Nat) (l5 : Option Value), b ≤ m → a < 16 → b < 16 → i + m < 64 → mj_run 1 59 (7, [some (.int x0), some (.int y0), some (.int (nI a)), some (.int (nI b)), some (.int (nI i)), l5], [], h) (.inl (some (.int (nI (Nat.gcd a b)))), h)
  | 0, a, b, i, l5, hm, ha, hb, hi => by
    obtain rfl : b = 0 := by omega
    refine s_ild (p' := 9) rfl rfl rfl ?_
    refine s_bip (p' := 11) rfl rfl ?_
    refine s_icmp (p' := 14) false rfl ((ci_ge (by omega) (by omega)).trans (decide_eq_false (by omega))) rfl ?_
    refine s_ildn (p' := 15) rfl rfl rfl ?_
    refine s_if (p' := 34) true rfl ((cz_le (by omega)).trans (decide_eq_true (by omega))) rfl ?_
    refine s_ildn (p' := 35) rfl rfl rfl ?_
    exact s_iret rfl rfl (by rw [Nat.gcd_zero_right])
  | m + 1, a, b, i, l5, hm, ha, hb, hi => by
    by_cases h0 : b = 0
    · subst h0
      refine s_ild (p' := 9) rfl rfl rfl ?_
      refine s_bip (p' := 11) rfl rfl ?_
      refine s_icmp (p' := 14) false rfl ((ci_ge (by omega) (by omega)).trans (decide_eq_false (by omega))) rfl ?_
      refine s_ildn (p' := 15) rfl rfl rfl ?_
      refine s_if (p' := 34) true rfl ((cz_le (by omega)).trans (decide_eq_true (by omega))) rfl ?_
      refine s_ildn (p' := 35) rfl rfl rfl ?_
      exact s_iret rfl rfl (by rw [Nat.gcd_zero_right])
    · have hlt : a % b < b := Nat.mod_lt a (by omega)
      have ih := x_gcdL (x0 := x0) (y0 := y0) (h := h) m b (a % b) (i + 1)
      refine s_ild (p' := 9) rfl rfl rfl ?_
      refine s_bip (p' := 11) rfl rfl ?_
      refine s_icmp (p' := 14) false rfl ((ci_ge (by omega) (by omega)).trans (decide_eq_false (by omega))) rfl ?_
      refine s_ildn (p' := 15) rfl rfl rfl ?_
      refine s_if (p' := 18) false rfl ((cz_le (by omega)).trans (decide_eq_false (by omega))) rfl ?_
      refine s_ildn (p' := 19) rfl rfl rfl ?_
      refine s_ildn (p' := 20) rfl rfl rfl ?_
      refine s_irem (p' := 21) rfl (nIz (by omega) (by omega)) rfl ?_
      rw [mI_rem ha hb (by omega)]
      refine s_ist (p' := 23) (ls' := [_, _, _, _, _, _]) rfl rfl rfl rfl ?_
      refine s_ildn (p' := 24) rfl rfl rfl ?_
      refine s_istn (p' := 25) (ls' := [_, _, _, _, _, _]) rfl rfl rfl rfl ?_
      refine s_ild (p' := 27) rfl rfl rfl ?_
      refine s_istn (p' := 28) (ls' := [_, _, _, _, _, _]) rfl rfl rfl rfl ?_
      refine s_inc (p' := 31) (ls' := [_, _, _, _, _, _]) rfl rfl rfl rfl rfl ?_
      rw [mI_add]
      refine s_goto (p' := 7) rfl rfl ?_
      refine (ih _ (by omega) (by omega) (by omega) (by omega)).eq ?_
      rw [Nat.gcd_comm b, ← Nat.gcd_rec, Nat.gcd_comm b a]
theorem x_gcd {h : mj_H} {a b : Nat} (ha : a < 16) (hb : b < 16) : mj_run 1 59 (0, [some (.int (nI a)), some (.int (nI b)), none, none, none, none], [], h) (.inl (some (.int (nI (Nat.gcd a b)))), h) := by
  refine s_ildn (p' := 1) rfl rfl rfl ?_
  refine s_istn (p' := 2) (ls' := [_, _, _, _, _, _]) rfl rfl rfl rfl ?_
  refine s_ildn (p' := 3) rfl rfl rfl ?_
  refine s_istn (p' := 4) (ls' := [_, _, _, _, _, _]) rfl rfl rfl rfl ?_
  refine s_con (p' := 5) rfl rfl ?_
  refine s_ist (p' := 7) (ls' := [_, _, _, _, _, _]) rfl rfl rfl rfl ?_
  exact x_gcdL 16 a b 0 _ (by omega) ha hb (by omega)
theorem x_lcm {h : mj_H} {a b : Nat} (ha : a < 16) (hb : b < 16) (h0 : 0 < a) : mj_run 2 58 (0, [some (.int (nI a)), some (.int (nI b)), none], [], h) (.inl (some (.int (nI (Nat.lcm a b)))), h) := by
  have hg : 0 < Nat.gcd a b := Nat.gcd_pos_of_pos_left b h0
  have hg2 : Nat.gcd a b ≤ a := Nat.le_of_dvd h0 (Nat.gcd_dvd_left a b)
  refine s_ildn (p' := 1) rfl rfl rfl ?_
  refine s_ildn (p' := 2) rfl rfl rfl ?_
  refine s_callV (p' := 5) (ls0 := [_, _, _, _, _, _]) rfl rfl rfl rfl rfl rfl rfl (x_gcd ha hb) (by decide) rfl ?_
  refine s_istn (p' := 6) (ls' := [_, _, _]) rfl rfl rfl rfl ?_
  refine s_ildn (p' := 7) rfl rfl rfl ?_
  refine s_con (p' := 8) rfl rfl ?_
  refine s_icmp (p' := 15) true rfl ((ci_ge (by omega) (by omega)).trans (decide_eq_true (by omega))) rfl ?_
  refine s_ildn (p' := 16) rfl rfl rfl ?_
  refine s_ildn (p' := 17) rfl rfl rfl ?_
  refine s_idiv (p' := 18) rfl (nIz hg (by omega)) rfl ?_
  refine s_ildn (p' := 19) rfl rfl rfl ?_
  refine s_sp (p' := 20) (ls' := _) rfl rfl rfl ?_
  rw [mI_lcm ha hb h0]
  exact s_iret rfl rfl rfl
theorem x_orL {h : mj_H} {C R : Nat} {o1 o2 mf : Value} {rf : Nat → Int32} {G : Nat → Nat} {n : Nat} (hC : mj_rd h C = some (.inr (9, [.ref R, o1, o2, .int (nI n), mf]))) (hR : mj_rd h R = some (.inl (0, (24, .inl rf)))) (hG1 : ∀ j, j < n → rf j = nI (G j)) (hG : ∀ j, j < n → isG (G j)) (hn : n ≤ 24) {U : Nat} {u0 u1 u2 u3 u4 u5 u6 u7 u8 u10 u11 u12 u13 u14 u15 u16 : Value} (hU : mj_rd h U = some (.inr (0, [u0, u1, u2, u3, u4, u5, u6, u7, u8, .ref C, u10, u11, u12, u13, u14, u15, u16]))) : ∀ (j v a : Nat), v + j = 8 → 0 < a → ock (cy (thr G n 0)) j v a ≤ 15 → mj_run 4 56 (4, [some (.ref U), some (.int (nI a)), some (.int (nI v))], [], h) (.inl (some (.int (nI (ock (cy (thr G n 0)) j v a)))), h)
  | 0, v, a, hj, ha, hb => by
    refine s_ildn (p' := 5) rfl rfl rfl ?_
    refine s_bip (p' := 7) rfl rfl ?_
    refine s_icmp (p' := 29) true rfl ((ci_ge (by omega) (by omega)).trans (decide_eq_true (by omega))) rfl ?_
    refine s_ildn (p' := 30) rfl rfl rfl ?_
    exact s_iret rfl rfl rfl
  | j + 1, v, a, hj, ha, hb => by
    have hv : v < 8 := by omega
    have hc := cy_is (P := (thr G n 0)) (fun v hv => P_lt hG hv) (fun v w hv hw => P_inj hG hv hw) hv
    have hd := (ock_iff (cy (thr G n 0)) (j + 1) v a _).mp (Nat.dvd_refl _)
    have hp := ock_pos (cy (thr G n 0)) (j + 1) v a ha (fun w h1 h2 => (cy_is (P := (thr G n 0)) (fun v hv => P_lt hG hv) (fun v w hv hw => P_inj hG hv hw) (show w < 8 by omega)).1)
    have ha2 := Nat.le_of_dvd hp hd.1
    have ih := x_orL hC hR hG1 hG hn hU j (v + 1) _ (by omega) (Nat.lcm_pos ha hc.1) hb
    refine s_ildn (p' := 5) rfl rfl rfl ?_
    refine s_bip (p' := 7) rfl rfl ?_
    refine s_icmp (p' := 10) false rfl ((ci_ge (by omega) (by omega)).trans (decide_eq_false (by omega))) rfl ?_
    refine s_ildn (p' := 11) rfl rfl rfl ?_
    refine s_aldn (p' := 12) rfl rfl rfl ?_
    refine s_gf (p' := 15) rfl hU rfl rfl ?_
    refine s_ildn (p' := 16) rfl rfl rfl ?_
    refine s_callV (p' := 19) (ls0 := [_, _, _, _]) rfl rfl rfl rfl rfl (mj_rcv_is (by repeat (first | assumption | refine rd_app ?_ | rw [rd_setn (by first | assumption | omega)] | apply rd_set (by first | assumption | decide)))) rfl (x_cyl hC hR hG1 hG hn hv) (by decide) rfl ?_
    refine s_callV (p' := 22) (ls0 := [_, _, _]) rfl rfl rfl rfl rfl rfl rfl (x_lcm (by omega) (by omega) ha) (by decide) rfl ?_
    refine s_istn (p' := 23) (ls' := [_, _, _]) rfl rfl rfl rfl ?_
    refine s_inc (p' := 26) (ls' := [_, _, _]) rfl rfl rfl rfl rfl ?_
    rw [mI_add]
    refine s_goto (p' := 4) rfl rfl ?_
    exact ih
theorem x_or {h : mj_H} {C R : Nat} {o1 o2 mf : Value} {rf : Nat → Int32} {G : Nat → Nat} {n : Nat} (hC : mj_rd h C = some (.inr (9, [.ref R, o1, o2, .int (nI n), mf]))) (hR : mj_rd h R = some (.inl (0, (24, .inl rf)))) (hG1 : ∀ j, j < n → rf j = nI (G j)) (hG : ∀ j, j < n → isG (G j)) (hn : n ≤ 24) {U : Nat} {u0 u1 u2 u3 u4 u5 u6 u7 u8 u10 u11 u12 u13 u14 u15 u16 : Value} (hU : mj_rd h U = some (.inr (0, [u0, u1, u2, u3, u4, u5, u6, u7, u8, .ref C, u10, u11, u12, u13, u14, u15, u16]))) : mj_run 4 56 (0, [some (.ref U), none, none], [], h) (.inl (some (.int (nI (oc (thr G n 0))))), h) := by
  refine s_con (p' := 1) rfl rfl ?_
  refine s_istn (p' := 2) (ls' := [_, _, _]) rfl rfl rfl rfl ?_
  refine s_con (p' := 3) rfl rfl ?_
  refine s_istn (p' := 4) (ls' := [_, _, _]) rfl rfl rfl rfl ?_
  exact x_orL hC hR hG1 hG hn hU 8 0 1 (by omega) (by omega) (oc_le (P := (thr G n 0)) (fun v hv => P_lt hG hv) (fun v w hv hw => P_inj hG hv hw))
/-- a pass over the values: does each length from v on divide a? -/
def dvk (c : Nat → Nat) (a : Nat) : Nat → Nat → Nat → Nat
  | 0, _, f => f
  | j + 1, v, f => dvk c a j (v + 1) (if a % c v = 0 then f else 0)
theorem dvk_0 (c : Nat → Nat) (a : Nat) : ∀ (j v : Nat), dvk c a j v 0 = 0
  | 0, _ => rfl
  | j + 1, v => by rw [dvk, ite_self, dvk_0 c a j]
theorem dvk_1 (c : Nat → Nat) (a : Nat) : ∀ (j v : Nat), (∀ w, v ≤ w → w < v + j → c w ∣ a) → dvk c a j v 1 = 1
  | 0, _, _ => rfl
  | j + 1, v, h => by
    rw [dvk, if_pos (Nat.mod_eq_zero_of_dvd (h v (Nat.le_refl v) (by omega)))]
    exact dvk_1 c a j (v + 1) (fun w h1 h2 => h w (by omega) (by omega))
theorem dvk_n (c : Nat → Nat) (a : Nat) : ∀ (j v : Nat), ¬ (∀ w, v ≤ w → w < v + j → c w ∣ a) → dvk c a j v 1 = 0
  | 0, _, h => absurd (fun w h1 h2 => absurd h2 (by omega)) h
  | j + 1, v, h => by
    rw [dvk]
    by_cases e : a % c v = 0
    · rw [if_pos e]
      refine dvk_n c a j (v + 1) (fun q => h fun w h1 h2 => ?_)
      by_cases e2 : w = v
      · rw [e2]
        exact Nat.dvd_of_mod_eq_zero e
      · exact q w (by omega) (by omega)
    · rw [if_neg e, dvk_0]
theorem y_orI {x Lr n : Nat} {G : Nat → Nat} (hG : ∀ j, j < n → isG (G j)) (hn : n ≤ 24) {a : Nat} (ha : a < 16) {Q : mj_O × mj_H → Prop} : ∀ (j v f : Nat) (h : mj_H), v + j = 8 → f ≤ 1 → yC x Lr n G h → h.length + 8 * j + 20 < mj_CB → (∀ h', mz_gr (8 * j) (4 * (8 * j)) h h' → mj_Wp 5 452 (47, [some (.ref x), some (.int (nI a)), some (.int (nI (dvk (cy (thr G n 0)) a j v f))), some (.int (nI 8))], [], h') Q) → mj_Wp 5 452 (17, [some (.ref x), some (.int (nI a)), some (.int (nI f)), some (.int (nI v))], [], h) Q
  | 0, v, f, h, hj, hf, hC, hb, hq => by
    obtain rfl : v = 8 := by omega
    refine s_ildn (p' := 18) rfl rfl rfl ?_
    refine s_bip (p' := 20) rfl rfl ?_
    refine s_icmp (p' := 47) true rfl ((ci_ge (by omega) (by omega)).trans (decide_eq_true (by omega))) rfl ?_
    exact hq h (mz_gr.rf _ _ _)
  | j + 1, v, f, h, hj, hf, hC, hb, hq => by
    have hv : v < 8 := by omega
    have hc := cy_is (P := (thr G n 0)) (fun v hv => P_lt hG hv) (fun v w hv hw => P_inj hG hv hw) hv
    have ih := y_orI (x := x) (Lr := Lr) hG hn ha (Q := Q) j (v + 1)
    have hm : a % cy (thr G n 0) v < 16 := Nat.lt_of_le_of_lt (Nat.mod_le _ _) ha
    refine s_ildn (p' := 18) rfl rfl rfl ?_
    refine s_bip (p' := 20) rfl rfl ?_
    refine s_icmp (p' := 23) false rfl ((ci_ge (by omega) (by omega)).trans (decide_eq_false (by omega))) rfl ?_
    refine s_ildn (p' := 24) rfl rfl rfl ?_
    refine s_ildn (p' := 25) rfl rfl rfl ?_
    refine s_aldn (p' := 26) rfl rfl rfl ?_
    refine s_ildn (p' := 27) rfl rfl rfl ?_
    refine s_callEV (p' := 30) (ls0 := [_, _, _, _]) rfl rfl rfl rfl rfl hC.rcv rfl (y_cyl hG hn hC (by omega) (hv)) rfl rfl ?_
    rintro _ h1 ⟨rfl, g1⟩
    have hC1 := hC.ext g1.1
    have gl := g1.2.2.1
    refine s_irem (p' := 31) rfl (nIz hc.1 (by omega)) rfl ?_
    rw [mI_rem ha (by omega) hc.1]
    by_cases q : a % cy (thr G n 0) v = 0
    · refine s_if (p' := 34) false rfl ((cz_ne (by omega)).trans (decide_eq_false (by omega))) rfl ?_
      refine s_con (p' := 35) rfl rfl ?_
      refine s_goto (p' := 39) rfl rfl ?_
      refine s_sp (p' := 40) (ls' := _) rfl rfl rfl ?_
      rw [b_and hf (by omega)]
      refine s_istn (p' := 41) (ls' := [_, _, _, _]) rfl rfl rfl rfl ?_
      refine s_inc (p' := 44) (ls' := [_, _, _, _]) rfl rfl rfl rfl rfl ?_
      rw [mI_add]
      refine s_goto (p' := 17) rfl rfl ?_
      refine ih (f * 1) h1 (by omega) (by omega) hC1 (by omega) (fun h2 g2 => ?_)
      have := hq h2 (g1.tr g2 (by omega) (by omega))
      rw [dvk, if_pos q, ← Nat.mul_one f] at this
      exact this
    · refine s_if (p' := 38) true rfl ((cz_ne (by omega)).trans (decide_eq_true (by omega))) rfl ?_
      refine s_con (p' := 39) rfl rfl ?_
      refine s_sp (p' := 40) (ls' := _) rfl rfl rfl ?_
      rw [b_and hf (by omega)]
      refine s_istn (p' := 41) (ls' := [_, _, _, _]) rfl rfl rfl rfl ?_
      refine s_inc (p' := 44) (ls' := [_, _, _, _]) rfl rfl rfl rfl rfl ?_
      rw [mI_add]
      refine s_goto (p' := 17) rfl rfl ?_
      refine ih (f * 0) h1 (by omega) (by omega) hC1 (by omega) (fun h2 g2 => ?_)
      have := hq h2 (g1.tr g2 (by omega) (by omega))
      rw [dvk, if_neg q, ← Nat.mul_zero f] at this
      exact this
theorem y_orL {x Lr n : Nat} {G : Nat → Nat} (hG : ∀ j, j < n → isG (G j)) (hn : n ≤ 24) {Q : mj_O × mj_H → Prop} : ∀ (m a : Nat) (l3 : Option Value) (h : mj_H), a + m = oc (thr G n 0) → 0 < a → yC x Lr n G h → h.length + 64 * m + 100 < mj_CB → (∀ h', mz_gr (64 * (m + 1)) (256 * (m + 1)) h h' → mj_Wp 5 452 (62, [some (.ref x), some (.int (nI (oc (thr G n 0)))), some (.int (nI 1)), some (.int (nI 8))], [], h') Q) → mj_Wp 5 452 (9, [some (.ref x), some (.int (nI a)), some (.int (nI 0)), l3], [], h) Q
  | 0, a, l3, h, hm, ha, hC, hb, hq => by
    have h15 := oc_le (P := (thr G n 0)) (fun v hv => P_lt hG hv) (fun v w hv hw => P_inj hG hv hw)
    have hi := ock_iff (cy (thr G n 0)) 8 0 1 a
    have hdv : dvk (cy (thr G n 0)) a 8 0 1 = if oc (thr G n 0) ∣ a then 1 else 0 := by
      by_cases q : oc (thr G n 0) ∣ a
      · rw [if_pos q, dvk_1 _ _ _ _ (hi.mp q).2]
      · rw [if_neg q, dvk_n _ _ _ _ (fun p => q (hi.mpr ⟨Nat.one_dvd _, p⟩))]
    obtain rfl : a = oc (thr G n 0) := by omega
    rw [if_pos (Nat.dvd_refl _)] at hdv
    refine s_ildn (p' := 10) rfl rfl rfl ?_
    refine s_if (p' := 13) false rfl ((cz_ne (by omega)).trans (decide_eq_false (by omega))) rfl ?_
    refine s_con (p' := 14) rfl rfl ?_
    refine s_istn (p' := 15) (ls' := [_, _, _, _]) rfl rfl rfl rfl ?_
    refine s_con (p' := 16) rfl rfl ?_
    refine s_istn (p' := 17) (ls' := [_, _, _, _]) rfl rfl rfl rfl ?_
    refine y_orI hG hn (a := oc (thr G n 0)) (by omega) 8 0 1 h (by omega) (by omega) hC (by omega) (fun h1 g1 => ?_)
    rw [hdv]
    refine s_ildn (p' := 48) rfl rfl rfl ?_
    refine s_ildn (p' := 49) rfl rfl rfl ?_
    refine s_if (p' := 52) false rfl ((cz_eq (by omega)).trans (decide_eq_false (by omega))) rfl ?_
    refine s_con (p' := 53) rfl rfl ?_
    refine s_goto (p' := 57) rfl rfl ?_
    refine s_sp (p' := 58) (ls' := _) rfl rfl rfl ?_
    rw [mI_add]
    refine s_istn (p' := 59) (ls' := [_, _, _, _]) rfl rfl rfl rfl ?_
    refine s_goto (p' := 9) rfl rfl ?_
    refine s_ildn (p' := 10) rfl rfl rfl ?_
    refine s_if (p' := 62) true rfl ((cz_ne (by omega)).trans (decide_eq_true (by omega))) rfl ?_
    exact hq h1 (g1.tr (mz_gr.rf 0 0 _) (by omega) (by omega))
  | m + 1, a, l3, h, hm, ha, hC, hb, hq => by
    have h15 := oc_le (P := (thr G n 0)) (fun v hv => P_lt hG hv) (fun v w hv hw => P_inj hG hv hw)
    have hi := ock_iff (cy (thr G n 0)) 8 0 1 a
    have hdv : dvk (cy (thr G n 0)) a 8 0 1 = if oc (thr G n 0) ∣ a then 1 else 0 := by
      by_cases q : oc (thr G n 0) ∣ a
      · rw [if_pos q, dvk_1 _ _ _ _ (hi.mp q).2]
      · rw [if_neg q, dvk_n _ _ _ _ (fun p => q (hi.mpr ⟨Nat.one_dvd _, p⟩))]
    rw [if_neg (fun q => by have := Nat.le_of_dvd ha q; omega)] at hdv
    refine s_ildn (p' := 10) rfl rfl rfl ?_
    refine s_if (p' := 13) false rfl ((cz_ne (by omega)).trans (decide_eq_false (by omega))) rfl ?_
    refine s_con (p' := 14) rfl rfl ?_
    refine s_istn (p' := 15) (ls' := [_, _, _, _]) rfl rfl rfl rfl ?_
    refine s_con (p' := 16) rfl rfl ?_
    refine s_istn (p' := 17) (ls' := [_, _, _, _]) rfl rfl rfl rfl ?_
    refine y_orI hG hn (a := a) (by omega) 8 0 1 h (by omega) (by omega) hC (by omega) (fun h1 g1 => ?_)
    have gl := g1.2.2.1
    rw [hdv]
    refine s_ildn (p' := 48) rfl rfl rfl ?_
    refine s_ildn (p' := 49) rfl rfl rfl ?_
    refine s_if (p' := 56) true rfl ((cz_eq (by omega)).trans (decide_eq_true (by omega))) rfl ?_
    refine s_con (p' := 57) rfl rfl ?_
    refine s_sp (p' := 58) (ls' := _) rfl rfl rfl ?_
    rw [mI_add]
    refine s_istn (p' := 59) (ls' := [_, _, _, _]) rfl rfl rfl rfl ?_
    refine s_goto (p' := 9) rfl rfl ?_
    refine y_orL hG hn m (a + 1) _ h1 (by omega) (by omega) (hC.ext g1.1) (by omega) (fun h2 g2 => ?_)
    exact hq h2 (g1.tr g2 (by omega) (by omega))
