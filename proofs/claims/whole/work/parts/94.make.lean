/-! A circuit made by the rule. -/
def lkb (v x : Nat) : Nat := (v ^^^ x) &&& v
def exb (v x : Nat) : Nat := (v ^^^ x) &&& x
def tzb (m : Nat) : Nat := if m % 2 = 1 then 0 else if m % 4 = 2 then 1 else 2
/-- the next gate for value v where x stands -/
def ngt (v x : Nat) : Nat := if lkb v x ≠ 0 then 8 * tzb (lkb v x) + x else 8 * tzb (exb v x) + v
def dst (v x : Nat) : Nat := (v ^^^ x) % 2 + (v ^^^ x) / 2 % 2 + (v ^^^ x) / 4 % 2
def a88 (P : Nat → Nat → Bool) : Bool := (List.range 8).all fun a => (List.range 8).all fun b => P a b
theorem a88_of {P : Nat → Nat → Bool} (h : a88 P = true) {a b : Nat} (ha : a < 8) (hb : b < 8) : P a b = true :=
  List.all_eq_true.mp (List.all_eq_true.mp h a (List.mem_range.mpr ha)) b (List.mem_range.mpr hb)
def a883 (P : Nat → Nat → Nat → Bool) : Bool := (List.range 8).all fun a => (List.range 8).all fun b => (List.range 3).all fun c => P a b c
theorem a883_of {P : Nat → Nat → Nat → Bool} (h : a883 P = true) {a b c : Nat} (ha : a < 8) (hb : b < 8) (hc : c < 3) : P a b c = true :=
  List.all_eq_true.mp (List.all_eq_true.mp (List.all_eq_true.mp h a (List.mem_range.mpr ha)) b (List.mem_range.mpr hb)) c (List.mem_range.mpr hc)
theorem ngt_ok {v x : Nat} (hv : v < 8) (hx : x < 8) (h : x ≠ v) : isG (ngt v x) ∧ dst v (gt (ngt v x) x) + 1 = dst v x :=
  of_decide_eq_true (a88_of (P := fun v x => decide (x ≠ v → (ngt v x < 24 ∧ ngt v x % 8 / 2 ^ (ngt v x / 8) % 2 = 0) ∧ dst v (gt (ngt v x) x) + 1 = dst v x)) (by decide +kernel) hv hx) h
theorem dst_3 {v x : Nat} (hv : v < 8) (hx : x < 8) : dst v x ≤ 3 ∧ (dst v x = 0 ↔ x = v) :=
  of_decide_eq_true (a88_of (P := fun v x => decide (dst v x ≤ 3 ∧ (dst v x = 0 ↔ x = v))) (by decide +kernel) hv hx)
/-- a step for value v: the row, the gates, their number -/
def stG (v : Nat) (s : (Nat → Nat) × (Nat → Nat) × Nat) : (Nat → Nat) × (Nat → Nat) × Nat := (fun w => gt (ngt v (s.1 v)) (s.1 w), upN s.2.1 s.2.2 (ngt v (s.1 v)), s.2.2 + 1)
def mkS (v : Nat) : Nat → (Nat → Nat) × (Nat → Nat) × Nat → (Nat → Nat) × (Nat → Nat) × Nat
  | 0, s => s
  | k + 1, s => if s.1 v = v then s else mkS v k (stG v s)
def mkA : Nat → Nat → (Nat → Nat) × (Nat → Nat) × Nat → (Nat → Nat) × (Nat → Nat) × Nat
  | 0, _, s => s
  | k + 1, v, s => mkA k (v + 1) (mkS v 3 s)
theorem mkS_v {v : Nat} {s : (Nat → Nat) × (Nat → Nat) × Nat} (h : s.1 v = v) : ∀ k, mkS v k s = s
  | 0 => rfl
  | k + 1 => if_pos h
theorem mkS_k {v : Nat} (hv : v < 8) : ∀ (d k j : Nat) (s : (Nat → Nat) × (Nat → Nat) × Nat), s.1 v < 8 → dst v (s.1 v) ≤ d → d ≤ k → d ≤ j → mkS v k s = mkS v j s
  | 0, k, j, s, hs, hd, _, _ => by
    have := (dst_3 hv hs).2.mp (by omega)
    rw [mkS_v this, mkS_v this]
  | d + 1, 0, _, _, _, _, hk, _ => absurd hk (by omega)
  | d + 1, _, 0, _, _, _, _, hj => absurd hj (by omega)
  | d + 1, k + 1, j + 1, s, hs, hd, hk, hj => by
    by_cases e : s.1 v = v
    · rw [mkS_v e, mkS_v e]
    · have hn := ngt_ok hv hs e
      rw [mkS, mkS, if_neg e, if_neg e]
      refine mkS_k hv d k j (stG v s) (gt_lt hn.1.1 hs) ?_ (by omega) (by omega)
      show dst v (gt (ngt v (s.1 v)) (s.1 v)) ≤ d
      omega
theorem mkS_s {v : Nat} (hv : v < 8) {s : (Nat → Nat) × (Nat → Nat) × Nat} (hs : s.1 v < 8) (e : s.1 v ≠ v) : mkS v 3 s = mkS v 3 (stG v s) := by
  have hn := ngt_ok hv hs e
  have h3 := dst_3 hv hs
  rw [show mkS v 3 s = mkS v 2 (stG v s) from if_neg e]
  refine mkS_k hv 2 2 3 (stG v s) (gt_lt hn.1.1 hs) ?_ (by omega) (by omega)
  show dst v (gt (ngt v (s.1 v)) (s.1 v)) ≤ 2
  omega
/-- what holds of a row of values, and of the gates so far -/
def okS (s : (Nat → Nat) × (Nat → Nat) × Nat) : Prop := (∀ w, w < 8 → s.1 w < 8) ∧ ∀ j, j < s.2.2 → isG (s.2.1 j)
theorem okS_st {v : Nat} (hv : v < 8) {s : (Nat → Nat) × (Nat → Nat) × Nat} (hs : okS s) (e : s.1 v ≠ v) : okS (stG v s) := by
  have hn := ngt_ok hv (hs.1 v hv) e
  refine ⟨fun w hw => gt_lt hn.1.1 (hs.1 w hw), fun j hj => ?_⟩
  show isG (upN s.2.1 s.2.2 (ngt v (s.1 v)) j)
  have hj : j < s.2.2 + 1 := hj
  unfold upN
  split
  · exact hn.1
  · exact hs.2 j (by omega)
theorem mkS_ok {v : Nat} (hv : v < 8) : ∀ (k : Nat) (s : (Nat → Nat) × (Nat → Nat) × Nat), okS s → dst v (s.1 v) ≤ k → okS (mkS v k s) ∧ (mkS v k s).1 v = v ∧ (mkS v k s).2.2 = s.2.2 + dst v (s.1 v)
  | 0, s, hs, hd => ⟨hs, (dst_3 hv (hs.1 v hv)).2.mp (by omega), by show s.2.2 = _; omega⟩
  | k + 1, s, hs, hd => by
    by_cases e : s.1 v = v
    · rw [mkS_v e]
      exact ⟨hs, e, by rw [(dst_3 hv (hs.1 v hv)).2.mpr e]; rfl⟩
    · have hn := ngt_ok hv (hs.1 v hv) e
      have h2 : dst v ((stG v s).1 v) + 1 = dst v (s.1 v) := hn.2
      have ih := mkS_ok hv k (stG v s) (okS_st hv hs e) (by omega)
      rw [show mkS v (k + 1) s = mkS v k (stG v s) from if_neg e]
      refine ⟨ih.1, ih.2.1, ?_⟩
      rw [ih.2.2]
      show s.2.2 + 1 + _ = _
      omega
/-- the phases of a value: l lines are done -/
theorem phA {v x l : Nat} (hv : v < 8) (hx : x < 8) (hl : l < 3) (h : lkb v x % 2 ^ l = 0) : (lkb v x / 2 ^ l % 2 = 1 → x ≠ v ∧ ngt v x = 8 * l + x ∧ lkb v (gt (8 * l + x) x) % 2 ^ (l + 1) = 0) ∧ (lkb v x / 2 ^ l % 2 = 0 → lkb v x % 2 ^ (l + 1) = 0) :=
  of_decide_eq_true (a883_of (P := fun v x l => decide (lkb v x % 2 ^ l = 0 → (lkb v x / 2 ^ l % 2 = 1 → x ≠ v ∧ ngt v x = 8 * l + x ∧ lkb v (gt (8 * l + x) x) % 2 ^ (l + 1) = 0) ∧ (lkb v x / 2 ^ l % 2 = 0 → lkb v x % 2 ^ (l + 1) = 0))) (by decide +kernel) hv hx hl) h
theorem phB {v x l : Nat} (hv : v < 8) (hx : x < 8) (hl : l < 3) (h : lkb v x = 0 ∧ exb v x % 2 ^ l = 0) : (exb v x / 2 ^ l % 2 = 1 → x ≠ v ∧ ngt v x = 8 * l + v ∧ lkb v (gt (8 * l + v) x) = 0 ∧ exb v (gt (8 * l + v) x) % 2 ^ (l + 1) = 0) ∧ (exb v x / 2 ^ l % 2 = 0 → exb v x % 2 ^ (l + 1) = 0) :=
  of_decide_eq_true (a883_of (P := fun v x l => decide (lkb v x = 0 ∧ exb v x % 2 ^ l = 0 → (exb v x / 2 ^ l % 2 = 1 → x ≠ v ∧ ngt v x = 8 * l + v ∧ lkb v (gt (8 * l + v) x) = 0 ∧ exb v (gt (8 * l + v) x) % 2 ^ (l + 1) = 0) ∧ (exb v x / 2 ^ l % 2 = 0 → exb v x % 2 ^ (l + 1) = 0))) (by decide +kernel) hv hx hl) h
theorem phE {v x : Nat} (hv : v < 8) (hx : x < 8) : (lkb v x % 2 ^ 3 = 0 → lkb v x = 0) ∧ (lkb v x = 0 ∧ exb v x % 2 ^ 3 = 0 → x = v) :=
  of_decide_eq_true (a88_of (P := fun v x => decide ((lkb v x % 2 ^ 3 = 0 → lkb v x = 0) ∧ (lkb v x = 0 ∧ exb v x % 2 ^ 3 = 0 → x = v))) (by decide +kernel) hv hx)
theorem tA_x {v x l : Nat} (hv : v < 8) (hx : x < 8) (hl : l < 3) : decide ((nI v &&& (nI x ^^^ nI 4294967295)) &&& (nI 1 <<< (nI l &&& 31)) = nI 0) = decide (lkb v x / 2 ^ l % 2 = 0) :=
  of_decide_eq_true (a883_of (P := fun v x l => decide (decide ((nI v &&& (nI x ^^^ nI 4294967295)) &&& (nI 1 <<< (nI l &&& 31)) = nI 0) = decide (lkb v x / 2 ^ l % 2 = 0))) (by decide +kernel) hv hx hl)
theorem tB_x {v x l : Nat} (hv : v < 8) (hx : x < 8) (hl : l < 3) : decide ((nI x &&& (nI v ^^^ nI 4294967295)) &&& (nI 1 <<< (nI l &&& 31)) = nI 0) = decide (exb v x / 2 ^ l % 2 = 0) :=
  of_decide_eq_true (a883_of (P := fun v x l => decide (decide ((nI x &&& (nI v ^^^ nI 4294967295)) &&& (nI 1 <<< (nI l &&& 31)) = nI 0) = decide (exb v x / 2 ^ l % 2 = 0))) (by decide +kernel) hv hx hl)
/-- the class's circuit with its makings: the row of values, the gates, their number -/
def cK (h : mj_H) (C R O D : Nat) (n : Nat) (s : (Nat → Nat) × (Nat → Nat) × Nat) : Prop := ∃ of df : Nat → Int32, mj_rd h C = some (.inr (9, [.ref R, .ref O, .ref D, .int (nI n), .int (nI s.2.2)])) ∧ mj_rd h O = some (.inl (0, (8, .inl of))) ∧ mj_rd h D = some (.inl (0, (24, .inl df))) ∧ (∀ w, w < 8 → of w = nI (s.1 w)) ∧ ∀ j, j < s.2.2 → df j = nI (s.2.1 j)
def paF (g i : Nat) (r : Nat → Nat) : Nat → Nat := fun w => if w < i then gt g (r w) else r w
theorem paF_s (g i : Nat) (r : Nat → Nat) {of : Nat → Int32} (h : ∀ w, w < 8 → of w = nI (paF g i r w)) : ∀ w, w < 8 → upd of i (nI (gt g (paF g i r i))) w = nI (paF g (i + 1) r w) := fun w hw => by
  unfold upd
  by_cases q : w = i
  · rw [if_pos q, q]
    unfold paF
    rw [if_neg (Nat.lt_irrefl i), if_pos (Nat.lt_succ_self i)]
  · rw [if_neg q, h w hw]
    unfold paF
    by_cases t : w < i
    · rw [if_pos t, if_pos (by omega)]
    · rw [if_neg t, if_neg (by omega)]
theorem x_mgL {h : mj_H} {C R O D n m g : Nat} {r : Nat → Nat} (bO : O < mj_CB) (hC : mj_rd h C = some (.inr (9, [.ref R, .ref O, .ref D, .int (nI n), .int (nI m)]))) (hg : g < 24) (hr : ∀ w, w < 8 → r w < 8) {o0 : Nat → Int32} (hO0 : mj_rd h O = some (.inl (0, (8, .inl (o0))))) {l1 l2 : Option Value} : ∀ (k i : Nat) (of : Nat → Int32), i + k = 8 → (∀ w, w < 8 → of w = nI (paF g i r w)) → mj_Wp 2 40 (49, [some (.ref C), l1, l2, some (.int (nI g)), some (.int (nI i))], [], h.set O (.inl (0, (8, .inl (of))))) (mz_N fun h' => ∃ of, (∀ w, w < 8 → of w = nI (gt g (r w))) ∧ h' = h.set O (.inl (0, (8, .inl (of)))))
  | 0, i, of, hi, hf => by
    have hCO : C ≠ O := fun e => by rw [e, hO0] at hC; cases hC
    obtain rfl : i = 8 := by omega
    refine s_ild (p' := 51) rfl rfl rfl ?_
    refine s_aldn (p' := 52) rfl rfl rfl ?_
    refine s_gf (p' := 55) rfl ((rd_setn (Ne.symm hCO)).trans hC) rfl rfl ?_
    refine s_len (p' := 56) rfl (mj_rdA_is (rd_set bO hO0) (by decide)) (by decide) rfl ?_
    refine s_icmp (p' := 83) true rfl ((ci_ge (by omega) (by omega)).trans (decide_eq_true (by omega))) rfl ?_
    refine s_ret rfl ?_
    exact ⟨_, rfl, of, fun w hw => by rw [hf w hw]; unfold paF; rw [if_pos hw], rfl⟩
  | k + 1, i, of, hi, hf => by
    have hCO : C ≠ O := fun e => by rw [e, hO0] at hC; cases hC
    have ih := x_mgL bO hC hg hr hO0 (l1 := l1) (l2 := l2) k (i + 1)
    have hw := hf i (by omega)
    have hp : paF g i r i < 8 := by
      unfold paF
      rw [if_neg (Nat.lt_irrefl i)]
      exact hr i (by omega)
    refine s_ild (p' := 51) rfl rfl rfl ?_
    refine s_aldn (p' := 52) rfl rfl rfl ?_
    refine s_gf (p' := 55) rfl ((rd_setn (Ne.symm hCO)).trans hC) rfl rfl ?_
    refine s_len (p' := 56) rfl (mj_rdA_is (rd_set bO hO0) (by decide)) (by decide) rfl ?_
    refine s_icmp (p' := 59) false rfl ((ci_ge (by omega) (by omega)).trans (decide_eq_false (by omega))) rfl ?_
    refine s_aldn (p' := 60) rfl rfl rfl ?_
    refine s_gf (p' := 63) rfl ((rd_setn (Ne.symm hCO)).trans hC) rfl rfl ?_
    refine s_ild (p' := 65) rfl rfl rfl ?_
    refine s_ildn (p' := 66) rfl rfl rfl ?_
    refine s_aldn (p' := 67) rfl rfl rfl ?_
    refine s_gf (p' := 70) rfl ((rd_setn (Ne.symm hCO)).trans hC) rfl rfl ?_
    refine s_ild (p' := 72) rfl rfl rfl ?_
    refine s_ial (p' := 73) rfl (rd_set bO hO0) (inb_nI (by omega) (by omega)) rfl ?_
    rw [mI_cl (by omega), hw]
    refine s_callV (p' := 76) (ls0 := [_, _, _]) rfl rfl rfl rfl rfl rfl rfl x_pass (by decide) rfl ?_
    rw [gt_cls hg hp]
    refine s_ias (p' := 77) rfl bO (rd_set bO hO0) (inb_nI (by omega) (by omega)) rfl ?_
    rw [List.set_set, mI_cl (by omega)]
    refine s_inc (p' := 80) (ls' := [_, _, _, _, _]) rfl rfl rfl rfl rfl ?_
    rw [mI_add]
    refine s_goto (p' := 49) rfl rfl ?_
    exact ih _ (by omega) (paF_s g i r hf)
theorem x_mg {h : mj_H} {C R O D n : Nat} {s : (Nat → Nat) × (Nat → Nat) × Nat} (bC : C < mj_CB) (bO : O < mj_CB) (bD : D < mj_CB) (hOD : O ≠ D) (hK : cK h C R O D n s) {l c g : Nat} (hm : s.2.2 < 24) (hr : ∀ w, w < 8 → s.1 w < 8) (hg : g < 24) (hlc : 8 * l + c = g) : mj_Wp 2 40 (0, [some (.ref C), some (.int (nI l)), some (.int (nI c)), none, none], [], h) (mz_N fun h' => cK h' C R O D n (fun w => gt g (s.1 w), upN s.2.1 s.2.2 g, s.2.2 + 1) ∧ mz_mo [C, O, D] 0 0 h h') := by
  obtain ⟨of, df, hC, hO, hD, hw, hj⟩ := hK
  have hCO : C ≠ O := fun e => by rw [e, hO] at hC; cases hC
  have hCD : C ≠ D := fun e => by rw [e, hD] at hC; cases hC
  refine s_bip (p' := 2) rfl rfl ?_
  refine s_ildn (p' := 3) rfl rfl rfl ?_
  refine s_sp (p' := 4) (ls' := _) rfl rfl rfl ?_
  rw [mI_mul]
  refine s_ildn (p' := 5) rfl rfl rfl ?_
  refine s_sp (p' := 6) (ls' := _) rfl rfl rfl ?_
  rw [mI_add, hlc]
  refine s_istn (p' := 7) (ls' := [_, _, _, _, _]) rfl rfl rfl rfl ?_
  refine s_aldn (p' := 8) rfl rfl rfl ?_
  refine s_gf (p' := 11) rfl hC rfl rfl ?_
  refine s_if (p' := 14) false rfl (cz_lt (by omega)) rfl ?_
  refine s_aldn (p' := 15) rfl rfl rfl ?_
  refine s_gf (p' := 18) rfl hC rfl rfl ?_
  refine s_aldn (p' := 19) rfl rfl rfl ?_
  refine s_gf (p' := 22) rfl hC rfl rfl ?_
  refine s_len (p' := 23) rfl (mj_rdA_is hD (by decide)) (by decide) rfl ?_
  refine s_icmp (p' := 26) false rfl ((ci_ge (by omega) (by omega)).trans (decide_eq_false (by omega))) rfl ?_
  refine s_aldn (p' := 27) rfl rfl rfl ?_
  refine s_gf (p' := 30) rfl hC rfl rfl ?_
  refine s_aldn (p' := 31) rfl rfl rfl ?_
  refine s_gf (p' := 34) rfl hC rfl rfl ?_
  refine s_ildn (p' := 35) rfl rfl rfl ?_
  refine s_ias (p' := 36) rfl bD hD (inb_nI (by omega) (by omega)) rfl ?_
  rw [mI_cl (by omega)]
  refine s_aldn (p' := 37) rfl rfl rfl ?_
  refine s_sp (p' := 38) (ls' := _) rfl rfl rfl ?_
  refine s_gf (p' := 41) rfl ((rd_setn (Ne.symm hCD)).trans hC) rfl rfl ?_
  refine s_con (p' := 42) rfl rfl ?_
  refine s_sp (p' := 43) (ls' := _) rfl rfl rfl ?_
  rw [mI_add]
  refine s_pf (p' := 46) (fs' := [_, _, _, _, _]) rfl bC ((rd_setn (Ne.symm hCD)).trans hC) (Nat.blt_eq.mp rfl) rfl rfl rfl ?_
  refine s_con (p' := 47) rfl rfl ?_
  refine s_ist (p' := 49) (ls' := [_, _, _, _, _]) rfl rfl rfl rfl ?_
  have hO1 : mj_rd ((h.set D (.inl (0, (24, .inl (upd df s.2.2 (nI g)))))).set C (.inr (9, [.ref R, .ref O, .ref D, .int (nI n), .int (nI (s.2.2 + 1))]))) O = some (.inl (0, (8, .inl (of)))) := (rd_setn hCO).trans ((rd_setn (Ne.symm hOD)).trans hO)
  have := x_mgL (m := s.2.2 + 1) (r := s.1) (l1 := some (.int (nI l))) (l2 := some (.int (nI c))) bO (rd_set bC ((rd_setn (Ne.symm hCD)).trans hC)) hg hr hO1 8 0 of (by omega) (fun w hw2 => (hw w hw2).trans (by unfold paF; rw [if_neg (Nat.not_lt_zero w)]))
  rw [set_id bO hO1] at this
  refine this.imp ?_
  rintro o ⟨h', rfl, of', k1, rfl⟩
  refine ⟨_, rfl, ⟨of', upd df s.2.2 (nI g), (rd_setn (Ne.symm hCO)).trans (rd_set bC ((rd_setn (Ne.symm hCD)).trans hC)), rd_set bO hO1, (rd_setn hOD).trans ((rd_setn hCD).trans (rd_set bD hD)), k1, fun j hj2 => ?_⟩, ?_⟩
  · show upd df s.2.2 (nI g) j = nI (upN s.2.1 s.2.2 g j)
    have hj2 : j < s.2.2 + 1 := hj2
    unfold upd upN
    by_cases q : j = s.2.2
    · rw [if_pos q, if_pos q]
    · rw [if_neg q, if_neg q]
      exact hj j (by omega)
  · exact mz_mo.s (mz_mo.s (mz_mo.s (mz_mo.rf _ _ _ _) bD hD rfl (Or.inl (by simp))) bC ((rd_setn (Ne.symm hCD)).trans hC) rfl (Or.inl (by simp))) bO hO1 rfl (Or.inl (by simp))
theorem x_phB {C R O D n : Nat} (bC : C < mj_CB) (bO : O < mj_CB) (bD : D < mj_CB) (hOD : O ≠ D) {Q : mj_O × mj_H → Prop} {v : Nat} (hv : v < 8) : ∀ (k l : Nat) (s : (Nat → Nat) × (Nat → Nat) × Nat) (h : mj_H), l + k = 3 → okS s → s.2.2 + dst v (s.1 v) ≤ 24 → cK h C R O D n s → lkb v (s.1 v) = 0 ∧ exb v (s.1 v) % 2 ^ l = 0 → (∀ (h' : mj_H) (s' : (Nat → Nat) × (Nat → Nat) × Nat), s' = mkS v 3 s → cK h' C R O D n s' → mz_mo [C, O, D] 0 0 h h' → mj_Wp 3 36 (97, [some (.ref C), some (.int (nI v)), some (.int (nI 3))], [], h') Q) → mj_Wp 3 36 (63, [some (.ref C), some (.int (nI v)), some (.int (nI l))], [], h) Q
  | 0, l, s, h, hl, hs, hm, hK, hi, hq => by
    have hx : s.1 v < 8 := hs.1 v hv
    have hK0 := hK
    obtain ⟨of, df, hC, hO, hD, hw, hj⟩ := hK0
    have hwv := hw v hv
    obtain rfl : l = 3 := by omega
    refine s_ildn (p' := 64) rfl rfl rfl ?_
    refine s_con (p' := 65) rfl rfl ?_
    refine s_icmp (p' := 97) true rfl ((ci_ge (by omega) (by omega)).trans (decide_eq_true (by omega))) rfl ?_
    exact hq h s (mkS_v ((phE hv hx).2 hi) 3).symm hK (mz_mo.rf _ _ _ _)
  | k + 1, l, s, h, hl, hs, hm, hK, hi, hq => by
    have hx : s.1 v < 8 := hs.1 v hv
    have hK0 := hK
    obtain ⟨of, df, hC, hO, hD, hw, hj⟩ := hK0
    have hwv := hw v hv
    have hp := phB hv hx (show l < 3 by omega) hi
    have hb2 : exb v (s.1 v) / 2 ^ l % 2 = 0 ∨ exb v (s.1 v) / 2 ^ l % 2 = 1 := by omega
    refine s_ildn (p' := 64) rfl rfl rfl ?_
    refine s_con (p' := 65) rfl rfl ?_
    refine s_icmp (p' := 68) false rfl ((ci_ge (by omega) (by omega)).trans (decide_eq_false (by omega))) rfl ?_
    refine s_aldn (p' := 69) rfl rfl rfl ?_
    refine s_gf (p' := 72) rfl hC rfl rfl ?_
    refine s_ildn (p' := 73) rfl rfl rfl ?_
    refine s_ial (p' := 74) rfl hO (inb_nI (by omega) (by omega)) rfl ?_
    rw [mI_cl (by omega), hwv]
    refine s_ildn (p' := 75) rfl rfl rfl ?_
    refine s_con (p' := 76) rfl rfl ?_
    refine s_sp (p' := 77) (ls' := _) rfl rfl rfl ?_
    refine s_sp (p' := 78) (ls' := _) rfl rfl rfl ?_
    refine s_con (p' := 79) rfl rfl ?_
    refine s_ildn (p' := 80) rfl rfl rfl ?_
    refine s_sp (p' := 81) (ls' := _) rfl rfl rfl ?_
    refine s_sp (p' := 82) (ls' := _) rfl rfl rfl ?_
    by_cases q : exb v (s.1 v) / 2 ^ l % 2 = 0
    · refine s_if (p' := 91) true rfl (show decide _ = _ from (tB_x hv hx (by omega)).trans (decide_eq_true q)) rfl ?_
      refine s_inc (p' := 94) (ls' := [_, _, _]) rfl rfl rfl rfl rfl ?_
      rw [mI_add]
      refine s_goto (p' := 63) rfl rfl ?_
      exact x_phB bC bO bD hOD hv k (l + 1) s h (by omega) hs hm hK ⟨hi.1, hp.2 q⟩ hq
    · refine s_if (p' := 85) false rfl (show decide _ = _ from (tB_x hv hx (by omega)).trans (decide_eq_false q)) rfl ?_
      have hq1 := hp.1 (by omega)
      have hgt := ngt_ok hv hx hq1.1
      refine s_aldn (p' := 86) rfl rfl rfl ?_
      refine s_ildn (p' := 87) rfl rfl rfl ?_
      refine s_ildn (p' := 88) rfl rfl rfl ?_
      refine s_callEN (p' := 91) (ls0 := [_, _, _, _, _]) rfl rfl rfl rfl rfl (mj_rcv_is hC) rfl (x_mg bC bO bD hOD hK (by omega) hs.1 hgt.1.1 hq1.2.1.symm) rfl rfl ?_
      rintro h1 ⟨k1, k2⟩
      replace k1 : cK h1 C R O D n (stG v s) := k1
      refine s_inc (p' := 94) (ls' := [_, _, _]) rfl rfl rfl rfl rfl ?_
      rw [mI_add]
      refine s_goto (p' := 63) rfl rfl ?_
      refine x_phB bC bO bD hOD hv k (l + 1) (stG v s) h1 (by omega) (okS_st hv hs hq1.1) (by show s.2.2 + 1 + dst v (gt (ngt v (s.1 v)) (s.1 v)) ≤ 24; omega) k1 (by show lkb v (gt (ngt v (s.1 v)) (s.1 v)) = 0 ∧ exb v (gt (ngt v (s.1 v)) (s.1 v)) % 2 ^ (l + 1) = 0; rw [hq1.2.1]; exact hq1.2.2) (fun h2 s2 e q1 q2 => hq h2 s2 (e.trans (mkS_s hv hx hq1.1).symm) q1 (k2.tr q2 (fun y hy => Or.inl hy) (by omega) (by omega)))
theorem x_phA {C R O D n : Nat} (bC : C < mj_CB) (bO : O < mj_CB) (bD : D < mj_CB) (hOD : O ≠ D) {Q : mj_O × mj_H → Prop} {v : Nat} (hv : v < 8) : ∀ (k l : Nat) (s : (Nat → Nat) × (Nat → Nat) × Nat) (h : mj_H), l + k = 3 → okS s → s.2.2 + dst v (s.1 v) ≤ 24 → cK h C R O D n s → lkb v (s.1 v) % 2 ^ l = 0 → (∀ (h' : mj_H) (s' : (Nat → Nat) × (Nat → Nat) × Nat), s' = mkS v 3 s → cK h' C R O D n s' → mz_mo [C, O, D] 0 0 h h' → mj_Wp 3 36 (97, [some (.ref C), some (.int (nI v)), some (.int (nI 3))], [], h') Q) → mj_Wp 3 36 (22, [some (.ref C), some (.int (nI v)), some (.int (nI l))], [], h) Q
  | 0, l, s, h, hl, hs, hm, hK, hi, hq => by
    have hx : s.1 v < 8 := hs.1 v hv
    have hK0 := hK
    obtain ⟨of, df, hC, hO, hD, hw, hj⟩ := hK0
    have hwv := hw v hv
    obtain rfl : l = 3 := by omega
    refine s_ildn (p' := 23) rfl rfl rfl ?_
    refine s_con (p' := 24) rfl rfl ?_
    refine s_icmp (p' := 61) true rfl ((ci_ge (by omega) (by omega)).trans (decide_eq_true (by omega))) rfl ?_
    refine s_con (p' := 62) rfl rfl ?_
    refine s_istn (p' := 63) (ls' := [_, _, _]) rfl rfl rfl rfl ?_
    exact x_phB bC bO bD hOD hv 3 0 s h (by omega) hs hm hK ⟨(phE hv hx).1 hi, Nat.mod_one _⟩ hq
  | k + 1, l, s, h, hl, hs, hm, hK, hi, hq => by
    have hx : s.1 v < 8 := hs.1 v hv
    have hK0 := hK
    obtain ⟨of, df, hC, hO, hD, hw, hj⟩ := hK0
    have hwv := hw v hv
    have hp := phA hv hx (show l < 3 by omega) hi
    have hb2 : lkb v (s.1 v) / 2 ^ l % 2 = 0 ∨ lkb v (s.1 v) / 2 ^ l % 2 = 1 := by omega
    refine s_ildn (p' := 23) rfl rfl rfl ?_
    refine s_con (p' := 24) rfl rfl ?_
    refine s_icmp (p' := 27) false rfl ((ci_ge (by omega) (by omega)).trans (decide_eq_false (by omega))) rfl ?_
    refine s_ildn (p' := 28) rfl rfl rfl ?_
    refine s_aldn (p' := 29) rfl rfl rfl ?_
    refine s_gf (p' := 32) rfl hC rfl rfl ?_
    refine s_ildn (p' := 33) rfl rfl rfl ?_
    refine s_ial (p' := 34) rfl hO (inb_nI (by omega) (by omega)) rfl ?_
    rw [mI_cl (by omega), hwv]
    refine s_con (p' := 35) rfl rfl ?_
    refine s_sp (p' := 36) (ls' := _) rfl rfl rfl ?_
    refine s_sp (p' := 37) (ls' := _) rfl rfl rfl ?_
    refine s_con (p' := 38) rfl rfl ?_
    refine s_ildn (p' := 39) rfl rfl rfl ?_
    refine s_sp (p' := 40) (ls' := _) rfl rfl rfl ?_
    refine s_sp (p' := 41) (ls' := _) rfl rfl rfl ?_
    by_cases q : lkb v (s.1 v) / 2 ^ l % 2 = 0
    · refine s_if (p' := 55) true rfl (show decide _ = _ from (tA_x hv hx (by omega)).trans (decide_eq_true q)) rfl ?_
      refine s_inc (p' := 58) (ls' := [_, _, _]) rfl rfl rfl rfl rfl ?_
      rw [mI_add]
      refine s_goto (p' := 22) rfl rfl ?_
      exact x_phA bC bO bD hOD hv k (l + 1) s h (by omega) hs hm hK (hp.2 q) hq
    · refine s_if (p' := 44) false rfl (show decide _ = _ from (tA_x hv hx (by omega)).trans (decide_eq_false q)) rfl ?_
      have hq1 := hp.1 (by omega)
      have hgt := ngt_ok hv hx hq1.1
      refine s_aldn (p' := 45) rfl rfl rfl ?_
      refine s_ildn (p' := 46) rfl rfl rfl ?_
      refine s_aldn (p' := 47) rfl rfl rfl ?_
      refine s_gf (p' := 50) rfl hC rfl rfl ?_
      refine s_ildn (p' := 51) rfl rfl rfl ?_
      refine s_ial (p' := 52) rfl hO (inb_nI (by omega) (by omega)) rfl ?_
      rw [mI_cl (by omega), hwv]
      refine s_callEN (p' := 55) (ls0 := [_, _, _, _, _]) rfl rfl rfl rfl rfl (mj_rcv_is hC) rfl (x_mg bC bO bD hOD hK (by omega) hs.1 hgt.1.1 hq1.2.1.symm) rfl rfl ?_
      rintro h1 ⟨k1, k2⟩
      replace k1 : cK h1 C R O D n (stG v s) := k1
      refine s_inc (p' := 58) (ls' := [_, _, _]) rfl rfl rfl rfl rfl ?_
      rw [mI_add]
      refine s_goto (p' := 22) rfl rfl ?_
      refine x_phA bC bO bD hOD hv k (l + 1) (stG v s) h1 (by omega) (okS_st hv hs hq1.1) (by show s.2.2 + 1 + dst v (gt (ngt v (s.1 v)) (s.1 v)) ≤ 24; omega) k1 (by show lkb v (gt (ngt v (s.1 v)) (s.1 v)) % 2 ^ (l + 1) = 0; rw [hq1.2.1]; exact hq1.2.2) (fun h2 s2 e q1 q2 => hq h2 s2 (e.trans (mkS_s hv hx hq1.1).symm) q1 (k2.tr q2 (fun y hy => Or.inl hy) (by omega) (by omega)))
theorem x_mkL {C R O D n : Nat} (bC : C < mj_CB) (bO : O < mj_CB) (bD : D < mj_CB) (hOD : O ≠ D) : ∀ (k v : Nat) (l2 : Option Value) (s : (Nat → Nat) × (Nat → Nat) × Nat) (h : mj_H), v + k = 8 → okS s → s.2.2 ≤ 3 * v → cK h C R O D n s → mj_Wp 3 36 (11, [some (.ref C), some (.int (nI v)), l2], [], h) (mz_V fun r h' => ∃ s', s' = mkA k v s ∧ r = .int (nI s'.2.2) ∧ cK h' C R O D n s' ∧ mz_mo [C, O, D] 0 0 h h')
  | 0, v, l2, s, h, hv, hs, hm, hK => by
    have hK0 := hK
    obtain ⟨of, df, hC, hO, hD, hw, hj⟩ := hK0
    obtain rfl : v = 8 := by omega
    refine s_ildn (p' := 12) rfl rfl rfl ?_
    refine s_aldn (p' := 13) rfl rfl rfl ?_
    refine s_gf (p' := 16) rfl hC rfl rfl ?_
    refine s_len (p' := 17) rfl (mj_rdA_is hO (by decide)) (by decide) rfl ?_
    refine s_icmp (p' := 103) true rfl ((ci_ge (by omega) (by omega)).trans (decide_eq_true (by omega))) rfl ?_
    refine s_aldn (p' := 104) rfl rfl rfl ?_
    refine s_gf (p' := 107) rfl hC rfl rfl ?_
    refine s_iret rfl rfl ?_
    exact ⟨_, _, rfl, s, rfl, rfl, hK, mz_mo.rf _ _ _ _⟩
  | k + 1, v, l2, s, h, hv, hs, hm, hK => by
    have hK0 := hK
    obtain ⟨of, df, hC, hO, hD, hw, hj⟩ := hK0
    have hv8 : v < 8 := by omega
    have h3 := dst_3 hv8 (hs.1 v hv8)
    have hok := mkS_ok hv8 3 s hs h3.1
    refine s_ildn (p' := 12) rfl rfl rfl ?_
    refine s_aldn (p' := 13) rfl rfl rfl ?_
    refine s_gf (p' := 16) rfl hC rfl rfl ?_
    refine s_len (p' := 17) rfl (mj_rdA_is hO (by decide)) (by decide) rfl ?_
    refine s_icmp (p' := 20) false rfl ((ci_ge (by omega) (by omega)).trans (decide_eq_false (by omega))) rfl ?_
    refine s_con (p' := 21) rfl rfl ?_
    refine s_istn (p' := 22) (ls' := [_, _, _]) rfl rfl rfl rfl ?_
    refine x_phA bC bO bD hOD hv8 3 0 s h (by omega) hs (by omega) hK (Nat.mod_one _) (fun h1 s' e0 k1 k2 => ?_)
    rw [← e0] at hok
    refine s_inc (p' := 100) (ls' := [_, _, _]) rfl rfl rfl rfl rfl ?_
    rw [mI_add]
    refine s_goto (p' := 11) rfl rfl ?_
    refine (x_mkL bC bO bD hOD k (v + 1) _ s' h1 (by omega) hok.1 (by omega) k1).imp ?_
    rintro o ⟨r, h2, rfl, s2, e, q1, q2, q3⟩
    exact ⟨_, _, rfl, s2, e.trans (by rw [e0]; rfl), q1, q2, k2.tr q3 (fun y hy => Or.inl hy) (by omega) (by omega)⟩
theorem x_toL {h : mj_H} {C R O : Nat} {n : Nat} {d mf : Value} {rf : Nat → Int32} {G : Nat → Nat} (bO : O < mj_CB) (hRO : R ≠ O) (hC : mj_rd h C = some (.inr (9, [.ref R, .ref O, d, .int (nI n), mf]))) (hR : mj_rd h R = some (.inl (0, (24, .inl rf)))) (hG : ∀ j, j < n → rf j = nI (G j) ∧ G j < 24) (hn : n ≤ 24) {o0 : Nat → Int32} (hO0 : mj_rd h O = some (.inl (0, (8, .inl (o0))))) : ∀ (k i : Nat) (of : Nat → Int32), i + k = 8 → (∀ w, w < i → of w = nI (thr G n 0 w)) → mj_Wp 2 37 (2, [some (.ref C), some (.int (nI i))], [], h.set O (.inl (0, (8, .inl (of))))) (mz_N fun h' => ∃ of, (∀ w, w < 8 → of w = nI (thr G n 0 w)) ∧ h' = h.set O (.inl (0, (8, .inl (of)))))
  | 0, i, of, hi, hf => by
    have hCO : C ≠ O := fun e => by rw [e, hO0] at hC; cases hC
    obtain rfl : i = 8 := by omega
    refine s_ildn (p' := 3) rfl rfl rfl ?_
    refine s_aldn (p' := 4) rfl rfl rfl ?_
    refine s_gf (p' := 7) rfl ((rd_setn (Ne.symm hCO)).trans hC) rfl rfl ?_
    refine s_len (p' := 8) rfl (mj_rdA_is (rd_set bO hO0) (by decide)) (by decide) rfl ?_
    refine s_icmp (p' := 28) true rfl ((ci_ge (by omega) (by omega)).trans (decide_eq_true (by omega))) rfl ?_
    refine s_ret rfl ?_
    exact ⟨_, rfl, of, hf, rfl⟩
  | k + 1, i, of, hi, hf => by
    have hCO : C ≠ O := fun e => by rw [e, hO0] at hC; cases hC
    have ih := x_toL bO hRO hC hR hG hn hO0 k (i + 1)
    refine s_ildn (p' := 3) rfl rfl rfl ?_
    refine s_aldn (p' := 4) rfl rfl rfl ?_
    refine s_gf (p' := 7) rfl ((rd_setn (Ne.symm hCO)).trans hC) rfl rfl ?_
    refine s_len (p' := 8) rfl (mj_rdA_is (rd_set bO hO0) (by decide)) (by decide) rfl ?_
    refine s_icmp (p' := 11) false rfl ((ci_ge (by omega) (by omega)).trans (decide_eq_false (by omega))) rfl ?_
    refine s_aldn (p' := 12) rfl rfl rfl ?_
    refine s_gf (p' := 15) rfl ((rd_setn (Ne.symm hCO)).trans hC) rfl rfl ?_
    refine s_ildn (p' := 16) rfl rfl rfl ?_
    refine s_aldn (p' := 17) rfl rfl rfl ?_
    refine s_ildn (p' := 18) rfl rfl rfl ?_
    refine s_callV (p' := 21) (ls0 := [_, _, _, _]) rfl rfl rfl rfl rfl (mj_rcv_is ((rd_setn (Ne.symm hCO)).trans hC)) rfl (x_out ((rd_setn (Ne.symm hCO)).trans hC) ((rd_setn (Ne.symm hRO)).trans hR) hG hn (show i < 8 by omega)) (by decide) rfl ?_
    refine s_ias (p' := 22) rfl bO (rd_set bO hO0) (inb_nI (by omega) (by omega)) rfl ?_
    rw [List.set_set, mI_cl (by omega)]
    refine s_inc (p' := 25) (ls' := [_, _]) rfl rfl rfl rfl rfl ?_
    rw [mI_add]
    refine s_goto (p' := 2) rfl rfl ?_
    refine ih _ (by omega) (fun w hw => ?_)
    unfold upd
    by_cases q : w = i
    · rw [if_pos q, q]
    · rw [if_neg q]
      exact hf w (by omega)
theorem x_to {h : mj_H} {C R O : Nat} {n : Nat} {d mf : Value} {rf : Nat → Int32} {G : Nat → Nat} (bO : O < mj_CB) (hRO : R ≠ O) (hC : mj_rd h C = some (.inr (9, [.ref R, .ref O, d, .int (nI n), mf]))) (hR : mj_rd h R = some (.inl (0, (24, .inl rf)))) (hG : ∀ j, j < n → rf j = nI (G j) ∧ G j < 24) (hn : n ≤ 24) {o0 : Nat → Int32} (hO0 : mj_rd h O = some (.inl (0, (8, .inl (o0))))) : mj_Wp 2 37 (0, [some (.ref C), none], [], h) (mz_N fun h' => ∃ of, (∀ w, w < 8 → of w = nI (thr G n 0 w)) ∧ h' = h.set O (.inl (0, (8, .inl (of))))) := by
  refine s_con (p' := 1) rfl rfl ?_
  refine s_istn (p' := 2) (ls' := [_, _]) rfl rfl rfl rfl ?_
  have := x_toL bO hRO hC hR hG hn hO0 8 0 o0 (by omega) (fun w hw => absurd hw (Nat.not_lt_zero w))
  rw [set_id bO hO0] at this
  exact this
/-- all gates made: the row, the gates, their number -/
def mkG (G : Nat → Nat) (n : Nat) : (Nat → Nat) × (Nat → Nat) × Nat := mkA 8 0 (fun w => thr G n 0 w, fun _ => 0, 0)
theorem x_mk {h : mj_H} {C R O D n : Nat} {rf d0 o0 : Nat → Int32} {G : Nat → Nat} {m0 : Value} (bC : C < mj_CB) (bO : O < mj_CB) (bD : D < mj_CB) (hOD : O ≠ D) (hRO : R ≠ O) (hC : mj_rd h C = some (.inr (9, [.ref R, .ref O, .ref D, .int (nI n), m0]))) (hR : mj_rd h R = some (.inl (0, (24, .inl rf)))) (hO0 : mj_rd h O = some (.inl (0, (8, .inl (o0))))) (hD0 : mj_rd h D = some (.inl (0, (24, .inl (d0))))) (hG : ∀ j, j < n → rf j = nI (G j) ∧ G j < 24) (hn : n ≤ 24) : mj_Wp 3 36 (0, [some (.ref C), none, none], [], h) (mz_V fun r h' => r = .int (nI (mkG G n).2.2) ∧ cK h' C R O D n (mkG G n) ∧ mz_mo [C, O, D] 0 0 h h') := by
  have hCO : C ≠ O := fun e => by rw [e, hO0] at hC; cases hC
  have hCD : C ≠ D := fun e => by rw [e, hD0] at hC; cases hC
  refine s_aldn (p' := 1) rfl rfl rfl ?_
  refine s_callEN (p' := 4) (ls0 := [_, _]) rfl rfl rfl rfl rfl (mj_rcv_is hC) rfl (x_to bO hRO hC hR hG hn hO0) rfl rfl ?_
  rintro _ ⟨of, ho, rfl⟩
  refine s_aldn (p' := 5) rfl rfl rfl ?_
  refine s_con (p' := 6) rfl rfl ?_
  refine s_pf (p' := 9) (fs' := [_, _, _, _, _]) rfl bC ((rd_setn (Ne.symm hCO)).trans hC) (Nat.blt_eq.mp rfl) rfl rfl rfl ?_
  refine s_con (p' := 10) rfl rfl ?_
  refine s_istn (p' := 11) (ls' := [_, _, _]) rfl rfl rfl rfl ?_
  refine (x_mkL bC bO bD hOD 8 0 none (fun w => thr G n 0 w, fun _ => 0, 0) _ (by omega) ⟨fun w hw => thr_lt (fun j hj => (hG j hj).2) n 0 w (by omega) hw, fun j hj => absurd hj (Nat.not_lt_zero j)⟩ (Nat.zero_le _) ⟨of, d0, rd_set bC ((rd_setn (Ne.symm hCO)).trans hC), (rd_setn hCO).trans (rd_set bO hO0), (rd_setn hCD).trans ((rd_setn hOD).trans hD0), ho, fun j hj => absurd hj (Nat.not_lt_zero j)⟩).imp ?_
  rintro o ⟨r, h2, rfl, s2, rfl, q1, q2, q3⟩
  exact ⟨_, _, rfl, q1, q2, (mz_mo.s (mz_mo.s (mz_mo.rf [C, O, D] 0 0 h) bO hO0 (c := .inl (0, (8, .inl of))) rfl (Or.inl (by simp))) bC ((rd_setn (Ne.symm hCO)).trans hC) (c := .inr (9, [.ref R, .ref O, .ref D, .int (nI n), .int (nI 0)])) rfl (Or.inl (by simp))).tr q3 (fun y hy => Or.inl hy) (by omega) (by omega)⟩
theorem x_mgt {h : mj_H} {C R O D n m i : Nat} {df : Nat → Int32} (hC : mj_rd h C = some (.inr (9, [.ref R, .ref O, .ref D, .int (nI n), .int (nI m)]))) (hD : mj_rd h D = some (.inl (0, (24, .inl (df))))) (hi : i < m) (hm : m ≤ 24) : mj_run 1 109 (0, [some (.ref C), some (.int (nI i)), none], [], h) (.inl (some (.int (df (m - 1 - i)))), h) := by
  refine s_aldn (p' := 1) rfl rfl rfl ?_
  refine s_gf (p' := 4) rfl hC rfl rfl ?_
  refine s_con (p' := 5) rfl rfl ?_
  refine s_sp (p' := 6) (ls' := _) rfl rfl rfl ?_
  rw [mI_sub (by omega)]
  refine s_ildn (p' := 7) rfl rfl rfl ?_
  refine s_sp (p' := 8) (ls' := _) rfl rfl rfl ?_
  rw [mI_sub (by omega)]
  refine s_istn (p' := 9) (ls' := [_, _, _]) rfl rfl rfl rfl ?_
  refine s_ildn (p' := 10) rfl rfl rfl ?_
  refine s_if (p' := 13) false rfl (cz_lt (by omega)) rfl ?_
  refine s_ildn (p' := 14) rfl rfl rfl ?_
  refine s_aldn (p' := 15) rfl rfl rfl ?_
  refine s_gf (p' := 18) rfl hC rfl rfl ?_
  refine s_len (p' := 19) rfl (mj_rdA_is hD (by decide)) (by decide) rfl ?_
  refine s_icmp (p' := 22) false rfl ((ci_ge (by omega) (by omega)).trans (decide_eq_false (by omega))) rfl ?_
  refine s_aldn (p' := 23) rfl rfl rfl ?_
  refine s_gf (p' := 26) rfl hC rfl rfl ?_
  refine s_ildn (p' := 27) rfl rfl rfl ?_
  refine s_ial (p' := 28) rfl hD (inb_nI (by omega) (by omega)) rfl ?_
  rw [mI_cl (by omega)]
  refine s_goto (p' := 32) rfl rfl ?_
  exact s_iret rfl rfl rfl
