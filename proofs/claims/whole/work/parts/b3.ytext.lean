/-! The reference: texts put together as lists of signs; numbers written. -/
def yS (h : mj_H) (S B : Nat) (l : List Nat) : Prop := ySB h S B l.length 0 (lF l)
def yTx (h : mj_H) (T : Nat) (l : List Nat) : Prop := yStr h T l.length 0 (lF l)
theorem cat_lF (a b : List Nat) : catF (lF a) a.length (lF b) = lF (a ++ b) := funext fun j => by
  show (if j < a.length then a.getD j 0 else b.getD (j - a.length) 0) = (a ++ b).getD j 0
  rw [List.getD_eq_getElem?_getD, List.getD_eq_getElem?_getD, List.getD_eq_getElem?_getD]
  by_cases q : j < a.length
  · rw [if_pos q, List.getElem?_append_left q]
  · rw [if_neg q, List.getElem?_append_right (by omega)]
theorem up_lF (a : List Nat) (c : Nat) : upN (lF a) a.length c = lF (a ++ [c]) := by
  rw [← cat_lF]
  funext j
  show (if j = a.length then c else lF a j) = if j < a.length then lF a j else [c].getD (j - a.length) 0
  by_cases q : j < a.length
  · rw [if_neg (by omega), if_pos q]
  · rw [if_neg q]
    by_cases q2 : j = a.length
    · rw [if_pos q2, q2, Nat.sub_self]
      rfl
    · rw [if_neg q2]
      obtain ⟨d, hd⟩ : ∃ d, j - a.length = d + 1 := ⟨j - a.length - 1, by omega⟩
      rw [hd]
      show a.getD j 0 = _
      rw [List.getD_eq_getElem?_getD, List.getElem?_eq_none (by omega)]
      rfl
theorem yS.k {h : mj_H} {S B : Nat} {l : List Nat} : yS h S B l → mj_rd h S = some (.inr (20, [.ref B, .int (nI 0), .int (nI 0), .int (nI l.length)])) ∧ B < mj_CB ∧ ∃ c, mj_rd h B = some c
  | ⟨_, L, k, ⟨bf, b1, _⟩, b, _⟩ => ⟨k, b, _, b1⟩
theorem yTx.k {h : mj_H} {T : Nat} {l : List Nat} : yTx h T l → ∃ (C : Nat) (rs : List Value), mj_rd h T = some (.inr (21, .ref C :: rs)) ∧ ∃ c, mj_rd h C = some c
  | ⟨_, C, rs, k, bf, b1, _⟩ => ⟨C, _, k, _, b1⟩
theorem yS.fr {h g : mj_H} {L : List Nat} {S B : Nat} {l : List Nat} (e : mz_fr L h g) (h1 : S ∉ L) (h2 : B ∉ L) : yS h S B l → yS g S B l
  | ⟨ok, M, k, y, b, m⟩ => ⟨ok, M, e _ h1 _ k, y.fr e h2, b, m⟩
/-- a new builder -/
theorem y_nsb {h : mj_H} {S : Nat} {v0 v1 : Value} (bS : S < mj_CB) (hb : h.length + 10 < mj_CB) (hS : mj_rd h S = some (.inr (20, [v0, v1, .int (nI 0), .int (nI 0)]))) : mj_Wp 2 244 (0, [some (.ref S)], [], h) (mz_N fun h' => yS h' S h.length [] ∧ mz_mo [S] 1 16 h h') := y_sbi bS hb hS
theorem y_aS {h : mj_H} {S B T : Nat} {a b : List Nat} (hS : yS h S B a) (hT : yTx h T b) (bS : S < mj_CB) (hb : h.length + 20 < mj_CB) (hm : a.length + b.length ≤ 120) (hd : ∀ (C : Nat) (rs : List Value), mj_rd h T = some (.inr (21, .ref C :: rs)) → C ≠ B) : mj_Wp 6 248 (0, [some (.ref S), some (.ref T)], [], h) (mz_V fun r h' => r = .ref S ∧ ∃ B', yS h' S B' (a ++ b) ∧ (B' = B ∨ h.length ≤ B' ∧ B' < h'.length) ∧ mz_mo [S, B] 1 (2 * (a.length + b.length) + 4) h h') := by
  refine (y_ap0 bS hb hS hT hm hd).imp ?_
  rintro _ ⟨r, g, rfl, e, B', k1, k2, k3⟩
  refine ⟨_, _, rfl, e, B', ?_, k2, k3.wk (fun y hy => Or.inl hy) (Nat.le_refl _) (by omega)⟩
  unfold yS
  rw [List.length_append, ← cat_lF]
  exact k1
theorem y_aC {h : mj_H} {S B c : Nat} {a : List Nat} (hS : yS h S B a) (bS : S < mj_CB) (hb : h.length + 20 < mj_CB) (hm : a.length ≤ 120) (hc : c < 256) : mj_Wp 11 272 (0, [some (.ref S), some (.int (nI c))], [], h) (mz_V fun r h' => r = .ref S ∧ ∃ B', yS h' S B' (a ++ [c]) ∧ (B' = B ∨ h.length ≤ B' ∧ B' < h'.length) ∧ mz_mo [S, B] 1 (2 * a.length + 4) h h') := by
  refine (y_ac00 bS hb hS hm hc).imp ?_
  rintro _ ⟨r, g, rfl, e, B', k1, k2, k3⟩
  refine ⟨_, _, rfl, e, B', ?_, k2, k3⟩
  unfold yS
  rw [List.length_append, ← up_lF]
  exact k1
theorem y_tS {h : mj_H} {S B : Nat} {l : List Nat} (hS : yS h S B l) (hb : h.length + 20 < mj_CB) (hm : l.length ≤ 130) : mj_Wp 10 279 (0, [some (.ref S)], [], h) (mz_V fun r h' => r = .ref h.length ∧ yTx h' h.length l ∧ (∀ (C : Nat) (rs : List Value), mj_rd h' h.length = some (.inr (21, .ref C :: rs)) → C = h.length + 1) ∧ mz_mo [] 2 (4 + 2 * l.length) h h') := y_tos0 hb hS hm
theorem k_str {T : Nat} {l : List Nat} (h : mj_H) (h1 : mj_rd h T = some (.inr (21, [.ref (T + 1), .int (nI 0)]))) (h2 : mj_rd h (T + 1) = some (.inl (1, (l.length, .inl (mj_byt l))))) (hl : ∀ j, j < l.length → lF l j < 256) : yTx h T l := ⟨⟨Nat.zero_le 1, fun j hj => ⟨by have := hl j hj; omega, fun _ => hl j hj⟩⟩, T + 1, [], h1, mj_byt l, by rw [h2, Nat.zero_add, Nat.mul_one], by omega, fun j hj => b8_fit _, fun j hj => rfl⟩
theorem k_e (h : mj_H) : yTx h 1000300 [] := k_str h rfl rfl fun j hj => absurd hj (Nat.not_lt_zero j)
theorem k_t310 (h : mj_H) : yTx h 1000310 [59] := k_str h rfl rfl fun j hj => by
  obtain rfl : j = 0 := by have : j < 1 := hj; omega
  decide
theorem k_t312 (h : mj_H) : yTx h 1000312 [58] := k_str h rfl rfl fun j hj => by
  obtain rfl : j = 0 := by have : j < 1 := hj; omega
  decide
theorem k_t314 (h : mj_H) : yTx h 1000314 [124] := k_str h rfl rfl fun j hj => by
  obtain rfl : j = 0 := by have : j < 1 := hj; omega
  decide
theorem k_t316 (h : mj_H) : yTx h 1000316 [93] := k_str h rfl rfl fun j hj => by
  obtain rfl : j = 0 := by have : j < 1 := hj; omega
  decide
theorem k_t318 (h : mj_H) : yTx h 1000318 [125] := k_str h rfl rfl fun j hj => by
  obtain rfl : j = 0 := by have : j < 1 := hj; omega
  decide
theorem k_t320 (h : mj_H) : yTx h 1000320 [126] := k_str h rfl rfl fun j hj => by
  obtain rfl : j = 0 := by have : j < 1 := hj; omega
  decide
theorem le10 {t : Nat} (ht : t < 1000) : mj_ci .le (-nI t) (nI 4294967286) = decide (10 ≤ t) := of_decide_eq_true (all1000_of (P := fun t => decide (mj_ci .le (-nI t) (nI 4294967286) = decide (10 ≤ t))) (by decide +kernel) ht)
theorem le100 {t : Nat} (ht : t < 1000) : mj_ci .le (-nI t) (nI 4294967196) = decide (100 ≤ t) := of_decide_eq_true (all1000_of (P := fun t => decide (mj_ci .le (-nI t) (nI 4294967196) = decide (100 ≤ t))) (by decide +kernel) ht)
theorem le1000 {t : Nat} (ht : t < 1000) : mj_ci .le (-nI t) (nI 4294966296) = false := of_decide_eq_true (all1000_of (P := fun t => decide (mj_ci .le (-nI t) (nI 4294966296) = false)) (by decide +kernel) ht)
theorem gt100 {t : Nat} (ht : t < 1000) : mj_ci .gt (-nI t) (nI 4294967196) = decide (t < 100) := of_decide_eq_true (all1000_of (P := fun t => decide (mj_ci .gt (-nI t) (nI 4294967196) = decide (t < 100))) (by decide +kernel) ht)
theorem ge9 {t : Nat} (ht : t < 1000) : mj_ci .ge (-nI t) (nI 4294967287) = decide (t < 10) := of_decide_eq_true (all1000_of (P := fun t => decide (mj_ci .ge (-nI t) (nI 4294967287) = decide (t < 10))) (by decide +kernel) ht)
theorem ngng {t : Nat} (ht : t < 1000) : -(-nI t) = nI t := of_decide_eq_true (all1000_of (P := fun t => decide (-(-nI t) = nI t)) (by decide +kernel) ht)
theorem dv100 {t : Nat} (ht : t < 1000) : -nI t / nI 100 = -nI (t / 100) := of_decide_eq_true (all1000_of (P := fun t => decide (-nI t / nI 100 = -nI (t / 100))) (by decide +kernel) ht)
theorem rm100 {t : Nat} (ht : t < 1000) : -nI (t / 100) * nI 100 - -nI t = nI (t % 100) := of_decide_eq_true (all1000_of (P := fun t => decide (-nI (t / 100) * nI 100 - -nI t = nI (t % 100))) (by decide +kernel) ht)
def all100 (P : Nat → Bool) : Bool := (List.range 100).all P
theorem all100_of {P : Nat → Bool} (h : all100 P = true) {a : Nat} (ha : a < 100) : P a = true := List.all_eq_true.mp h a (List.mem_range.mpr ha)
theorem dgOn {r : Nat} (h : r < 100) : mj_byt mj_dgO r = byt (48 + r % 10) := of_decide_eq_true (all100_of (P := fun r => decide (mj_byt mj_dgO r = byt (48 + r % 10))) (by decide +kernel) h)
theorem dgTe {r : Nat} (h : r < 100) : mj_byt mj_dgT r = byt (48 + r / 10) := of_decide_eq_true (all100_of (P := fun r => decide (mj_byt mj_dgT r = byt (48 + r / 10))) (by decide +kernel) h)
theorem k_dO (h : mj_H) : mj_rd h 1000002 = some (.inl (1, (100, .inl (mj_byt mj_dgO)))) := rfl
theorem k_dT (h : mj_H) : mj_rd h 1000003 = some (.inl (1, (100, .inl (mj_byt mj_dgT)))) := rfl
theorem y_sz3 {h : mj_H} {t : Nat} (ht : t < 1000) : mj_run 0 290 (16, [some (.int (-nI t)), some (.int (nI 0)), some (.int (nI 4294966296)), some (.int (nI 3))], [], h) (.inl (some (.int (nI 3))), h) := by
  refine s_ildn (p' := 17) rfl rfl rfl ?_
  refine s_bip (p' := 19) rfl rfl ?_
  refine s_icmp (p' := 22) false rfl ((ci_ge (by omega) (by omega)).trans (decide_eq_false (by omega))) rfl ?_
  refine s_ildn (p' := 23) rfl rfl rfl ?_
  refine s_ildn (p' := 24) rfl rfl rfl ?_
  refine s_icmp (p' := 27) false rfl (le1000 ht) rfl ?_
  refine s_ildn (p' := 28) rfl rfl rfl ?_
  refine s_ildn (p' := 29) rfl rfl rfl ?_
  refine s_sp (p' := 30) (ls' := _) rfl rfl rfl ?_
  exact s_iret rfl rfl rfl
theorem y_sz2 {h : mj_H} {t : Nat} (ht : t < 1000) : mj_run 0 290 (16, [some (.int (-nI t)), some (.int (nI 0)), some (.int (nI 4294967196)), some (.int (nI 2))], [], h) (.inl (some (.int (nI (if t < 100 then 2 else 3)))), h) := by
  refine s_ildn (p' := 17) rfl rfl rfl ?_
  refine s_bip (p' := 19) rfl rfl ?_
  refine s_icmp (p' := 22) false rfl ((ci_ge (by omega) (by omega)).trans (decide_eq_false (by omega))) rfl ?_
  refine s_ildn (p' := 23) rfl rfl rfl ?_
  refine s_ildn (p' := 24) rfl rfl rfl ?_
  by_cases q : 100 ≤ t
  · refine s_icmp (p' := 31) true rfl ((le100 ht).trans (decide_eq_true q)) rfl ?_
    refine s_bip (p' := 33) rfl rfl ?_
    refine s_ildn (p' := 34) rfl rfl rfl ?_
    refine s_sp (p' := 35) (ls' := _) rfl rfl rfl ?_
    rw [show nI 10 * nI 4294967196 = nI 4294966296 from by decide +kernel]
    refine s_istn (p' := 36) (ls' := [_, _, _, _]) rfl rfl rfl rfl ?_
    refine s_inc (p' := 39) (ls' := [_, _, _, _]) rfl rfl rfl rfl rfl ?_
    refine s_goto (p' := 16) rfl rfl ?_
    rw [if_neg (show ¬ t < 100 by omega)]
    exact y_sz3 ht
  · refine s_icmp (p' := 27) false rfl ((le100 ht).trans (decide_eq_false q)) rfl ?_
    refine s_ildn (p' := 28) rfl rfl rfl ?_
    refine s_ildn (p' := 29) rfl rfl rfl ?_
    refine s_sp (p' := 30) (ls' := _) rfl rfl rfl ?_
    exact s_iret rfl rfl (by rw [if_pos (show t < 100 by omega)]; rfl)
theorem y_sz1 {h : mj_H} {t : Nat} (ht : t < 1000) : mj_run 0 290 (16, [some (.int (-nI t)), some (.int (nI 0)), some (.int (nI 4294967286)), some (.int (nI 1))], [], h) (.inl (some (.int (nI (if t < 10 then 1 else if t < 100 then 2 else 3)))), h) := by
  refine s_ildn (p' := 17) rfl rfl rfl ?_
  refine s_bip (p' := 19) rfl rfl ?_
  refine s_icmp (p' := 22) false rfl ((ci_ge (by omega) (by omega)).trans (decide_eq_false (by omega))) rfl ?_
  refine s_ildn (p' := 23) rfl rfl rfl ?_
  refine s_ildn (p' := 24) rfl rfl rfl ?_
  by_cases q : 10 ≤ t
  · refine s_icmp (p' := 31) true rfl ((le10 ht).trans (decide_eq_true q)) rfl ?_
    refine s_bip (p' := 33) rfl rfl ?_
    refine s_ildn (p' := 34) rfl rfl rfl ?_
    refine s_sp (p' := 35) (ls' := _) rfl rfl rfl ?_
    rw [show nI 10 * nI 4294967286 = nI 4294967196 from by decide +kernel]
    refine s_istn (p' := 36) (ls' := [_, _, _, _]) rfl rfl rfl rfl ?_
    refine s_inc (p' := 39) (ls' := [_, _, _, _]) rfl rfl rfl rfl rfl ?_
    refine s_goto (p' := 16) rfl rfl ?_
    rw [if_neg (show ¬ t < 10 by omega)]
    exact y_sz2 ht
  · refine s_icmp (p' := 27) false rfl ((le10 ht).trans (decide_eq_false q)) rfl ?_
    refine s_ildn (p' := 28) rfl rfl rfl ?_
    refine s_ildn (p' := 29) rfl rfl rfl ?_
    refine s_sp (p' := 30) (ls' := _) rfl rfl rfl ?_
    exact s_iret rfl rfl (by rw [if_pos (show t < 10 by omega)]; rfl)
theorem y_sz {h : mj_H} {t : Nat} (ht : t < 1000) : mj_run 0 290 (0, [some (.int (nI t)), none, none, none], [], h) (.inl (some (.int (nI (if t < 10 then 1 else if t < 100 then 2 else 3)))), h) := by
  refine s_con (p' := 1) rfl rfl ?_
  refine s_istn (p' := 2) (ls' := [_, _, _, _]) rfl rfl rfl rfl ?_
  refine s_ildn (p' := 3) rfl rfl rfl ?_
  refine s_if (p' := 6) false rfl (cz_lt (by omega)) rfl ?_
  refine s_con (p' := 7) rfl rfl ?_
  refine s_istn (p' := 8) (ls' := [_, _, _, _]) rfl rfl rfl rfl ?_
  refine s_ildn (p' := 9) rfl rfl rfl ?_
  refine s_sp (p' := 10) (ls' := _) rfl rfl rfl ?_
  refine s_istn (p' := 11) (ls' := [_, _, _, _]) rfl rfl rfl rfl ?_
  refine s_bip (p' := 13) rfl rfl ?_
  refine s_istn (p' := 14) (ls' := [_, _, _, _]) rfl rfl rfl rfl ?_
  refine s_con (p' := 15) rfl rfl ?_
  refine s_istn (p' := 16) (ls' := [_, _, _, _]) rfl rfl rfl rfl ?_
  exact y_sz1 ht
theorem y_gc1 {h : mj_H} {B L e0 : Nat} {bf : Nat → Int32} (bB : B < mj_CB) (hB : mj_rd h B = some (.inl (1, (L, .inl bf)))) (he : e0 + 1 ≤ L) (hL : L < 1000) {t : Nat} {i1 i3 : Option Value} (ht : t < 10) : mj_run 0 291 (22, [some (.int (-nI t)), i1, some (.ref B), i3, none, some (.int (nI (e0 + 1))), some (.int (nI 0))], [], h) (.inl (some (.int (nI e0))), h.set B (.inl (1, (L, .inl (upd bf e0 (byt (48 + t % 10))))))) := by
  refine s_ildn (p' := 23) rfl rfl rfl ?_
  refine s_bip (p' := 25) rfl rfl ?_
  refine s_icmp (p' := 72) true rfl ((gt100 (by omega)).trans (decide_eq_true (by omega))) rfl ?_
  refine s_aldn (p' := 73) rfl rfl rfl ?_
  refine s_inc (p' := 76) (ls' := [_, _, _, _, _, _, _]) rfl rfl rfl rfl rfl ?_
  rw [mI_dec2]
  refine s_ild (p' := 78) rfl rfl rfl ?_
  refine s_sh (p' := 81) (ls' := _) (st' := .ref 1000002 :: _) (h' := _) rfl rfl rfl rfl ?_
  refine s_ildn (p' := 82) rfl rfl rfl ?_
  refine s_sp (p' := 83) (ls' := _) rfl rfl rfl ?_
  rw [ngng (by omega)]
  refine s_bal1 (p' := 84) rfl (k_dO _) (inb_nI (by omega) (by omega)) rfl ?_
  rw [mI_cl (by omega), dgOn (by omega)]
  refine s_bas1 (p' := 85) rfl bB hB (inb_nI (by omega) (by omega)) rfl ?_
  rw [byt_nar, mI_cl (by omega)]
  refine s_ildn (p' := 86) rfl rfl rfl ?_
  refine s_bip (p' := 88) rfl rfl ?_
  refine s_icmp (p' := 104) true rfl ((ge9 (by omega)).trans (decide_eq_true (by omega))) rfl ?_
  refine s_ild (p' := 106) rfl rfl rfl ?_
  refine s_if (p' := 118) true rfl (by decide +kernel) rfl ?_
  refine s_ild (p' := 120) rfl rfl rfl ?_
  exact s_iret rfl rfl rfl
theorem y_gc1i {h : mj_H} {B L e0 : Nat} {bf : Nat → Int32} (bB : B < mj_CB) (hB : mj_rd h B = some (.inl (1, (L, .inl bf)))) (he : e0 + 1 ≤ L) (hL : L < 1000) {t : Nat} {i1 i3 : Option Value} {w4 : Int32} (ht : t < 10) : mj_run 0 291 (22, [some (.int (-nI t)), i1, some (.ref B), i3, some (.int w4), some (.int (nI (e0 + 1))), some (.int (nI 0))], [], h) (.inl (some (.int (nI e0))), h.set B (.inl (1, (L, .inl (upd bf e0 (byt (48 + t % 10))))))) := by
  refine s_ildn (p' := 23) rfl rfl rfl ?_
  refine s_bip (p' := 25) rfl rfl ?_
  refine s_icmp (p' := 72) true rfl ((gt100 (by omega)).trans (decide_eq_true (by omega))) rfl ?_
  refine s_aldn (p' := 73) rfl rfl rfl ?_
  refine s_inc (p' := 76) (ls' := [_, _, _, _, _, _, _]) rfl rfl rfl rfl rfl ?_
  rw [mI_dec2]
  refine s_ild (p' := 78) rfl rfl rfl ?_
  refine s_sh (p' := 81) (ls' := _) (st' := .ref 1000002 :: _) (h' := _) rfl rfl rfl rfl ?_
  refine s_ildn (p' := 82) rfl rfl rfl ?_
  refine s_sp (p' := 83) (ls' := _) rfl rfl rfl ?_
  rw [ngng (by omega)]
  refine s_bal1 (p' := 84) rfl (k_dO _) (inb_nI (by omega) (by omega)) rfl ?_
  rw [mI_cl (by omega), dgOn (by omega)]
  refine s_bas1 (p' := 85) rfl bB hB (inb_nI (by omega) (by omega)) rfl ?_
  rw [byt_nar, mI_cl (by omega)]
  refine s_ildn (p' := 86) rfl rfl rfl ?_
  refine s_bip (p' := 88) rfl rfl ?_
  refine s_icmp (p' := 104) true rfl ((ge9 (by omega)).trans (decide_eq_true (by omega))) rfl ?_
  refine s_ild (p' := 106) rfl rfl rfl ?_
  refine s_if (p' := 118) true rfl (by decide +kernel) rfl ?_
  refine s_ild (p' := 120) rfl rfl rfl ?_
  exact s_iret rfl rfl rfl
theorem y_gc2 {h : mj_H} {B L e0 : Nat} {bf : Nat → Int32} (bB : B < mj_CB) (hB : mj_rd h B = some (.inl (1, (L, .inl bf)))) (he : e0 + 2 ≤ L) (hL : L < 1000) {t : Nat} {i1 i3 : Option Value} (h10 : 10 ≤ t) (ht : t < 100) : mj_run 0 291 (22, [some (.int (-nI t)), i1, some (.ref B), i3, none, some (.int (nI (e0 + 2))), some (.int (nI 0))], [], h) (.inl (some (.int (nI e0))), h.set B (.inl (1, (L, .inl (upd (upd bf (e0 + 1) (byt (48 + t % 10))) e0 (byt (48 + t / 10))))))) := by
  refine s_ildn (p' := 23) rfl rfl rfl ?_
  refine s_bip (p' := 25) rfl rfl ?_
  refine s_icmp (p' := 72) true rfl ((gt100 (by omega)).trans (decide_eq_true (by omega))) rfl ?_
  refine s_aldn (p' := 73) rfl rfl rfl ?_
  refine s_inc (p' := 76) (ls' := [_, _, _, _, _, _, _]) rfl rfl rfl rfl rfl ?_
  rw [mI_dec2]
  refine s_ild (p' := 78) rfl rfl rfl ?_
  refine s_sh (p' := 81) (ls' := _) (st' := .ref 1000002 :: _) (h' := _) rfl rfl rfl rfl ?_
  refine s_ildn (p' := 82) rfl rfl rfl ?_
  refine s_sp (p' := 83) (ls' := _) rfl rfl rfl ?_
  rw [ngng (by omega)]
  refine s_bal1 (p' := 84) rfl (k_dO _) (inb_nI (by omega) (by omega)) rfl ?_
  rw [mI_cl (by omega), dgOn (by omega)]
  refine s_bas1 (p' := 85) rfl bB hB (inb_nI (by omega) (by omega)) rfl ?_
  rw [byt_nar, mI_cl (by omega)]
  refine s_ildn (p' := 86) rfl rfl rfl ?_
  refine s_bip (p' := 88) rfl rfl ?_
  refine s_icmp (p' := 91) false rfl ((ge9 (by omega)).trans (decide_eq_false (by omega))) rfl ?_
  refine s_aldn (p' := 92) rfl rfl rfl ?_
  refine s_inc (p' := 95) (ls' := [_, _, _, _, _, _, _]) rfl rfl rfl rfl rfl ?_
  rw [mI_dec2]
  refine s_ild (p' := 97) rfl rfl rfl ?_
  refine s_sh (p' := 100) (ls' := _) (st' := .ref 1000003 :: _) (h' := _) rfl rfl rfl rfl ?_
  refine s_ildn (p' := 101) rfl rfl rfl ?_
  refine s_sp (p' := 102) (ls' := _) rfl rfl rfl ?_
  rw [ngng (by omega)]
  refine s_bal1 (p' := 103) rfl (k_dT _) (inb_nI (by omega) (by omega)) rfl ?_
  rw [mI_cl (by omega), dgTe (by omega)]
  refine s_bas1 (p' := 104) rfl bB (rd_set bB hB) (inb_nI (by omega) (by omega)) rfl ?_
  rw [byt_nar, mI_cl (by omega), List.set_set]
  refine s_ild (p' := 106) rfl rfl rfl ?_
  refine s_if (p' := 118) true rfl (by decide +kernel) rfl ?_
  refine s_ild (p' := 120) rfl rfl rfl ?_
  exact s_iret rfl rfl rfl
theorem y_gc3 {h : mj_H} {B L e0 : Nat} {bf : Nat → Int32} (bB : B < mj_CB) (hB : mj_rd h B = some (.inl (1, (L, .inl bf)))) (he : e0 + 3 ≤ L) (hL : L < 1000) {t : Nat} {i1 i3 : Option Value} (h10 : 100 ≤ t) (ht : t < 1000) : mj_run 0 291 (22, [some (.int (-nI t)), i1, some (.ref B), i3, none, some (.int (nI (e0 + 3))), some (.int (nI 0))], [], h) (.inl (some (.int (nI e0))), h.set B (.inl (1, (L, .inl (upd (upd (upd bf (e0 + 2) (byt (48 + t % 100 % 10))) (e0 + 1) (byt (48 + t % 100 / 10))) e0 (byt (48 + t / 100 % 10))))))) := by
  refine s_ildn (p' := 23) rfl rfl rfl ?_
  refine s_bip (p' := 25) rfl rfl ?_
  refine s_icmp (p' := 28) false rfl ((gt100 (by omega)).trans (decide_eq_false (by omega))) rfl ?_
  refine s_ildn (p' := 29) rfl rfl rfl ?_
  refine s_bip (p' := 31) rfl rfl ?_
  refine s_idiv (p' := 32) rfl (by decide +kernel) rfl ?_
  rw [dv100 (by omega)]
  refine s_istn (p' := 33) (ls' := [_, _, _, _, _, _, _]) rfl rfl rfl rfl ?_
  refine s_ildn (p' := 34) rfl rfl rfl ?_
  refine s_bip (p' := 36) rfl rfl ?_
  refine s_sp (p' := 37) (ls' := _) rfl rfl rfl ?_
  refine s_ildn (p' := 38) rfl rfl rfl ?_
  refine s_sp (p' := 39) (ls' := _) rfl rfl rfl ?_
  rw [rm100 (by omega)]
  refine s_ist (p' := 41) (ls' := [_, _, _, _, _, _, _]) rfl rfl rfl rfl ?_
  refine s_ildn (p' := 42) rfl rfl rfl ?_
  refine s_istn (p' := 43) (ls' := [_, _, _, _, _, _, _]) rfl rfl rfl rfl ?_
  refine s_aldn (p' := 44) rfl rfl rfl ?_
  refine s_inc (p' := 47) (ls' := [_, _, _, _, _, _, _]) rfl rfl rfl rfl rfl ?_
  rw [mI_dec2]
  refine s_ild (p' := 49) rfl rfl rfl ?_
  refine s_sh (p' := 52) (ls' := _) (st' := .ref 1000002 :: _) (h' := _) rfl rfl rfl rfl ?_
  refine s_ild (p' := 54) rfl rfl rfl ?_
  refine s_bal1 (p' := 55) rfl (k_dO _) (inb_nI (by omega) (by omega)) rfl ?_
  rw [mI_cl (by omega), dgOn (by omega)]
  refine s_bas1 (p' := 56) rfl bB hB (inb_nI (by omega) (by omega)) rfl ?_
  rw [byt_nar, mI_cl (by omega)]
  refine s_aldn (p' := 57) rfl rfl rfl ?_
  refine s_inc (p' := 60) (ls' := [_, _, _, _, _, _, _]) rfl rfl rfl rfl rfl ?_
  rw [mI_dec2]
  refine s_ild (p' := 62) rfl rfl rfl ?_
  refine s_sh (p' := 65) (ls' := _) (st' := .ref 1000003 :: _) (h' := _) rfl rfl rfl rfl ?_
  refine s_ild (p' := 67) rfl rfl rfl ?_
  refine s_bal1 (p' := 68) rfl (k_dT _) (inb_nI (by omega) (by omega)) rfl ?_
  rw [mI_cl (by omega), dgTe (by omega)]
  refine s_bas1 (p' := 69) rfl bB (rd_set bB hB) (inb_nI (by omega) (by omega)) rfl ?_
  rw [byt_nar, mI_cl (by omega), List.set_set]
  refine s_goto (p' := 22) rfl rfl ?_
  have r := y_gc1i (i1 := i1) (i3 := some (.int (-nI (t / 100)))) (w4 := nI (t % 100)) (h := h.set B (.inl (1, (L, .inl (upd (upd bf (e0 + 2) (byt (48 + t % 100 % 10))) (e0 + 1) (byt (48 + t % 100 / 10))))))) (e0 := e0) (t := t / 100) bB (rd_set bB hB) (by omega) hL (by omega)
  rw [List.set_set] at r
  exact r
theorem y_gcs1 {h : mj_H} {B L e0 : Nat} {bf : Nat → Int32} (bB : B < mj_CB) (hB : mj_rd h B = some (.inl (1, (L, .inl bf)))) (he : e0 + 1 ≤ L) (hL : L < 1000) {t : Nat} (ht : t < 10) : mj_run 0 291 (0, [some (.int (nI t)), some (.int (nI (e0 + 1))), some (.ref B), none, none, none, none], [], h) (.inl (some (.int (nI e0))), h.set B (.inl (1, (L, .inl (upd bf e0 (byt (48 + t % 10))))))) := by
  refine s_ildn (p' := 1) rfl rfl rfl ?_
  refine s_ist (p' := 3) (ls' := [_, _, _, _, _, _, _]) rfl rfl rfl rfl ?_
  refine s_ildn (p' := 4) rfl rfl rfl ?_
  refine s_if (p' := 11) true rfl (cz_ge (by omega)) rfl ?_
  refine s_con (p' := 12) rfl rfl ?_
  refine s_ist (p' := 14) (ls' := [_, _, _, _, _, _, _]) rfl rfl rfl rfl ?_
  refine s_ild (p' := 16) rfl rfl rfl ?_
  refine s_if (p' := 19) false rfl (by decide +kernel) rfl ?_
  refine s_ildn (p' := 20) rfl rfl rfl ?_
  refine s_sp (p' := 21) (ls' := _) rfl rfl rfl ?_
  refine s_istn (p' := 22) (ls' := [_, _, _, _, _, _, _]) rfl rfl rfl rfl ?_
  exact y_gc1 bB hB he hL ht
theorem y_gcs2 {h : mj_H} {B L e0 : Nat} {bf : Nat → Int32} (bB : B < mj_CB) (hB : mj_rd h B = some (.inl (1, (L, .inl bf)))) (he : e0 + 2 ≤ L) (hL : L < 1000) {t : Nat} (h10 : 10 ≤ t) (ht : t < 100) : mj_run 0 291 (0, [some (.int (nI t)), some (.int (nI (e0 + 2))), some (.ref B), none, none, none, none], [], h) (.inl (some (.int (nI e0))), h.set B (.inl (1, (L, .inl (upd (upd bf (e0 + 1) (byt (48 + t % 10))) e0 (byt (48 + t / 10))))))) := by
  refine s_ildn (p' := 1) rfl rfl rfl ?_
  refine s_ist (p' := 3) (ls' := [_, _, _, _, _, _, _]) rfl rfl rfl rfl ?_
  refine s_ildn (p' := 4) rfl rfl rfl ?_
  refine s_if (p' := 11) true rfl (cz_ge (by omega)) rfl ?_
  refine s_con (p' := 12) rfl rfl ?_
  refine s_ist (p' := 14) (ls' := [_, _, _, _, _, _, _]) rfl rfl rfl rfl ?_
  refine s_ild (p' := 16) rfl rfl rfl ?_
  refine s_if (p' := 19) false rfl (by decide +kernel) rfl ?_
  refine s_ildn (p' := 20) rfl rfl rfl ?_
  refine s_sp (p' := 21) (ls' := _) rfl rfl rfl ?_
  refine s_istn (p' := 22) (ls' := [_, _, _, _, _, _, _]) rfl rfl rfl rfl ?_
  exact y_gc2 bB hB he hL h10 ht
theorem y_gcs3 {h : mj_H} {B L e0 : Nat} {bf : Nat → Int32} (bB : B < mj_CB) (hB : mj_rd h B = some (.inl (1, (L, .inl bf)))) (he : e0 + 3 ≤ L) (hL : L < 1000) {t : Nat} (h10 : 100 ≤ t) (ht : t < 1000) : mj_run 0 291 (0, [some (.int (nI t)), some (.int (nI (e0 + 3))), some (.ref B), none, none, none, none], [], h) (.inl (some (.int (nI e0))), h.set B (.inl (1, (L, .inl (upd (upd (upd bf (e0 + 2) (byt (48 + t % 100 % 10))) (e0 + 1) (byt (48 + t % 100 / 10))) e0 (byt (48 + t / 100 % 10))))))) := by
  refine s_ildn (p' := 1) rfl rfl rfl ?_
  refine s_ist (p' := 3) (ls' := [_, _, _, _, _, _, _]) rfl rfl rfl rfl ?_
  refine s_ildn (p' := 4) rfl rfl rfl ?_
  refine s_if (p' := 11) true rfl (cz_ge (by omega)) rfl ?_
  refine s_con (p' := 12) rfl rfl ?_
  refine s_ist (p' := 14) (ls' := [_, _, _, _, _, _, _]) rfl rfl rfl rfl ?_
  refine s_ild (p' := 16) rfl rfl rfl ?_
  refine s_if (p' := 19) false rfl (by decide +kernel) rfl ?_
  refine s_ildn (p' := 20) rfl rfl rfl ?_
  refine s_sp (p' := 21) (ls' := _) rfl rfl rfl ?_
  refine s_istn (p' := 22) (ls' := [_, _, _, _, _, _, _]) rfl rfl rfl rfl ?_
  exact y_gc3 bB hB he hL h10 ht
theorem lF_l {l p : List Nat} {j : Nat} (h : j < l.length) : lF (l ++ p) j = lF l j := by
  show (l ++ p).getD j 0 = l.getD j 0
  rw [List.getD_eq_getElem?_getD, List.getD_eq_getElem?_getD, List.getElem?_append_left h]
theorem lF_r {l p : List Nat} (k : Nat) : lF (l ++ p) (l.length + k) = lF p k := by
  show (l ++ p).getD (l.length + k) 0 = p.getD k 0
  rw [List.getD_eq_getElem?_getD, List.getD_eq_getElem?_getD, List.getElem?_append_right (Nat.le_add_right _ _), Nat.add_sub_cancel_left]
theorem y_api1 {h : mj_H} {S B t : Nat} {l : List Nat} (hS : yS h S B l) (bS : S < mj_CB) (hb : h.length + 20 < mj_CB) (hm : l.length ≤ 110) (ht : t < 10) : mj_Wp 5 289 (0, [some (.ref S), some (.int (nI t)), none, none], [], h) (mz_V fun r h' => r = .ref S ∧ ∃ B', yS h' S B' (l ++ pNum t) ∧ (B' = B ∨ h.length ≤ B' ∧ B' < h'.length) ∧ mz_mo [S, B] 1 (2 * l.length + 10) h h') := by
  obtain ⟨okS, L, kS, hy, bB, hL⟩ := hS
  have hy0 := hy
  obtain ⟨bf0, kB, _⟩ := hy0
  have hSl := rd_len bS kS
  have hBl := rd_len bB kB
  have hBS : B ≠ S := fun e => by rw [e, kS] at kB; cases kB
  have ep : pNum t = [48 + t % 10] := by unfold pNum; rw [if_neg (by omega), if_neg (by omega)]; rfl
  have el : (l ++ pNum t).length = l.length + 1 := by rw [List.length_append, ep]; rfl
  refine s_aldn (p' := 1) rfl rfl rfl ?_
  refine s_gf (p' := 4) rfl kS rfl rfl ?_
  refine s_istn (p' := 5) (ls' := [_, _, _, _]) rfl rfl rfl rfl ?_
  refine s_ildn (p' := 6) rfl rfl rfl ?_
  refine s_ildn (p' := 7) rfl rfl rfl ?_
  refine s_callV (p' := 10) (ls0 := [_, _, _, _]) rfl rfl rfl rfl rfl rfl rfl (y_sz (t := t) (by omega)) (by first | decide | omega) rfl ?_
  refine s_sp (p' := 11) (ls' := _) rfl rfl rfl ?_
  rw [show (if t < 10 then 1 else if t < 100 then 2 else 3) = 1 from by rw [if_pos ht], mI_add]
  refine s_istn (p' := 12) (ls' := [_, _, _, _]) rfl rfl rfl rfl ?_
  refine s_aldn (p' := 13) rfl rfl rfl ?_
  refine s_ildn (p' := 14) rfl rfl rfl ?_
  refine s_callEN (p' := 17) (ls0 := [_, _, _]) rfl rfl rfl rfl rfl (mj_rcv_is kS) rfl (y_ens0 bS (by omega) kS hy bB (by omega) (by omega)) rfl rfl ?_
  rintro g1 ⟨B1, L1, e1, e2, e3, e4, e5, e6, e7⟩
  have e2' := e2
  obtain ⟨bf, i1, i2, i3, i4⟩ := e2'
  have g1l := e7.2.1
  have g1u := e7.2.2.1
  have hB1S : B1 ≠ S := by omega
  have hB1l := rd_len e3 i1
  refine s_aldn (p' := 18) rfl rfl rfl ?_
  refine c_call (p' := 21) (kc := 4) (ls0 := [_]) rfl rfl rfl rfl rfl (mj_rcv_is e1) rfl rfl rfl ?_
  refine s_sh (p' := 3) (ls' := _) (st' := .int (nI 1) :: _) (h' := _) rfl rfl rfl rfl ?_
  refine s_if (p' := 6) false rfl ((cz_eq (by omega)).trans (decide_eq_false (by omega))) rfl ?_
  refine s_aldn (p' := 7) rfl rfl rfl ?_
  refine s_gf (p' := 10) rfl e1 rfl rfl ?_
  refine s_if (p' := 13) false rfl ((cz_ne (by omega)).trans (decide_eq_false (by omega))) rfl ?_
  refine s_con (p' := 14) rfl rfl ?_
  refine s_goto (p' := 18) rfl rfl ?_
  refine c_iret rfl rfl ?_
  refine s_if (p' := 24) false rfl (by decide +kernel) rfl ?_
  refine s_ildn (p' := 25) rfl rfl rfl ?_
  refine s_ildn (p' := 26) rfl rfl rfl ?_
  refine s_aldn (p' := 27) rfl rfl rfl ?_
  refine s_gf (p' := 30) rfl e1 rfl rfl ?_
  refine s_callV (p' := 33) (ls0 := [_, _, _, _, _, _, _]) rfl rfl rfl rfl rfl rfl rfl (y_gcs1 e3 i1 (by omega) (by omega) ht) (by first | decide | omega) rfl ?_
  refine s_sp (p' := 34) (ls' := _) rfl rfl rfl ?_
  refine s_goto (p' := 48) rfl rfl ?_
  refine s_aldn (p' := 49) rfl rfl rfl ?_
  refine s_ildn (p' := 50) rfl rfl rfl ?_
  refine s_pf (p' := 53) (fs' := [_, _, _, _]) rfl bS ((rd_setn hB1S).trans e1) (Nat.blt_eq.mp rfl) rfl rfl rfl ?_
  refine s_aldn (p' := 54) rfl rfl rfl ?_
  refine s_aret rfl ?_
  refine ⟨_, _, rfl, rfl, B1, ⟨?_, L1, ?_, ⟨_, (rd_setn (Ne.symm hB1S)).trans (rd_set e3 i1), by rw [el]; omega, ?_, fun j hj => ?_⟩, e3, by rw [el]; omega⟩, by simp only [List.length_set]; omega, mz_mo.s (mz_mo.s (e7.wk (L' := [S, B]) (k := 1) (z := 2 * l.length + 10) (fun y hy => Or.inl (by rw [List.mem_singleton.mp hy]; exact List.mem_cons_self)) (Nat.le_refl _) (by omega)) e3 i1 rfl (e6.elim (fun q => Or.inl (by rw [q]; exact List.mem_cons_of_mem _ List.mem_cons_self)) (fun q => Or.inr (by omega)))) bS ((rd_setn hB1S).trans e1) rfl (Or.inl (by simp))⟩
  · refine ⟨Nat.zero_le 1, fun j hj => ?_⟩
    have hd : lF (l ++ pNum t) j < 256 := by
      rw [el] at hj
      rcases Nat.lt_or_ge j l.length with q | q
      · rw [lF_l q]; exact (okS.2 j q).2 rfl
      · obtain ⟨i, rfl⟩ : ∃ i, j = l.length + i := ⟨j - l.length, by omega⟩
        rw [lF_r, ep]
        have hi : i < 1 := by omega
        obtain rfl : i = 0 := by omega
        show 48 + t % 10 < 256; omega
    exact ⟨by omega, fun _ => hd⟩
  · rw [el]; exact rd_set bS ((rd_setn hB1S).trans e1)
  · exact upd_fit i3
  · rw [el] at hj
    show _ = byt (lF (l ++ pNum t) j)
    rcases Nat.lt_or_ge j l.length with q | q
    · unfold upd
      rw [lF_l q, if_neg (by omega), i4 j (by omega)]
      rfl
    · obtain ⟨i, rfl⟩ : ∃ i, j = l.length + i := ⟨j - l.length, by omega⟩
      rw [lF_r, ep]
      have hi : i < 1 := by omega
      obtain rfl : i = 0 := by omega
      unfold upd
      rw [if_pos (by omega)]
      show byt (48 + t % 10) = byt (48 + t % 10)
      rw [show 48 + t % 10 = 48 + t % 10 by omega]
theorem y_api2 {h : mj_H} {S B t : Nat} {l : List Nat} (hS : yS h S B l) (bS : S < mj_CB) (hb : h.length + 20 < mj_CB) (hm : l.length ≤ 110) (h10 : 10 ≤ t) (ht : t < 100) : mj_Wp 5 289 (0, [some (.ref S), some (.int (nI t)), none, none], [], h) (mz_V fun r h' => r = .ref S ∧ ∃ B', yS h' S B' (l ++ pNum t) ∧ (B' = B ∨ h.length ≤ B' ∧ B' < h'.length) ∧ mz_mo [S, B] 1 (2 * l.length + 10) h h') := by
  obtain ⟨okS, L, kS, hy, bB, hL⟩ := hS
  have hy0 := hy
  obtain ⟨bf0, kB, _⟩ := hy0
  have hSl := rd_len bS kS
  have hBl := rd_len bB kB
  have hBS : B ≠ S := fun e => by rw [e, kS] at kB; cases kB
  have ep : pNum t = [48 + t / 10 % 10, 48 + t % 10] := by unfold pNum; rw [if_neg (by omega), if_pos (by omega)]; rfl
  have el : (l ++ pNum t).length = l.length + 2 := by rw [List.length_append, ep]; rfl
  refine s_aldn (p' := 1) rfl rfl rfl ?_
  refine s_gf (p' := 4) rfl kS rfl rfl ?_
  refine s_istn (p' := 5) (ls' := [_, _, _, _]) rfl rfl rfl rfl ?_
  refine s_ildn (p' := 6) rfl rfl rfl ?_
  refine s_ildn (p' := 7) rfl rfl rfl ?_
  refine s_callV (p' := 10) (ls0 := [_, _, _, _]) rfl rfl rfl rfl rfl rfl rfl (y_sz (t := t) (by omega)) (by first | decide | omega) rfl ?_
  refine s_sp (p' := 11) (ls' := _) rfl rfl rfl ?_
  rw [show (if t < 10 then 1 else if t < 100 then 2 else 3) = 2 from by rw [if_neg (by omega), if_pos ht], mI_add]
  refine s_istn (p' := 12) (ls' := [_, _, _, _]) rfl rfl rfl rfl ?_
  refine s_aldn (p' := 13) rfl rfl rfl ?_
  refine s_ildn (p' := 14) rfl rfl rfl ?_
  refine s_callEN (p' := 17) (ls0 := [_, _, _]) rfl rfl rfl rfl rfl (mj_rcv_is kS) rfl (y_ens0 bS (by omega) kS hy bB (by omega) (by omega)) rfl rfl ?_
  rintro g1 ⟨B1, L1, e1, e2, e3, e4, e5, e6, e7⟩
  have e2' := e2
  obtain ⟨bf, i1, i2, i3, i4⟩ := e2'
  have g1l := e7.2.1
  have g1u := e7.2.2.1
  have hB1S : B1 ≠ S := by omega
  have hB1l := rd_len e3 i1
  refine s_aldn (p' := 18) rfl rfl rfl ?_
  refine c_call (p' := 21) (kc := 4) (ls0 := [_]) rfl rfl rfl rfl rfl (mj_rcv_is e1) rfl rfl rfl ?_
  refine s_sh (p' := 3) (ls' := _) (st' := .int (nI 1) :: _) (h' := _) rfl rfl rfl rfl ?_
  refine s_if (p' := 6) false rfl ((cz_eq (by omega)).trans (decide_eq_false (by omega))) rfl ?_
  refine s_aldn (p' := 7) rfl rfl rfl ?_
  refine s_gf (p' := 10) rfl e1 rfl rfl ?_
  refine s_if (p' := 13) false rfl ((cz_ne (by omega)).trans (decide_eq_false (by omega))) rfl ?_
  refine s_con (p' := 14) rfl rfl ?_
  refine s_goto (p' := 18) rfl rfl ?_
  refine c_iret rfl rfl ?_
  refine s_if (p' := 24) false rfl (by decide +kernel) rfl ?_
  refine s_ildn (p' := 25) rfl rfl rfl ?_
  refine s_ildn (p' := 26) rfl rfl rfl ?_
  refine s_aldn (p' := 27) rfl rfl rfl ?_
  refine s_gf (p' := 30) rfl e1 rfl rfl ?_
  refine s_callV (p' := 33) (ls0 := [_, _, _, _, _, _, _]) rfl rfl rfl rfl rfl rfl rfl (y_gcs2 e3 i1 (by omega) (by omega) h10 ht) (by first | decide | omega) rfl ?_
  refine s_sp (p' := 34) (ls' := _) rfl rfl rfl ?_
  refine s_goto (p' := 48) rfl rfl ?_
  refine s_aldn (p' := 49) rfl rfl rfl ?_
  refine s_ildn (p' := 50) rfl rfl rfl ?_
  refine s_pf (p' := 53) (fs' := [_, _, _, _]) rfl bS ((rd_setn hB1S).trans e1) (Nat.blt_eq.mp rfl) rfl rfl rfl ?_
  refine s_aldn (p' := 54) rfl rfl rfl ?_
  refine s_aret rfl ?_
  refine ⟨_, _, rfl, rfl, B1, ⟨?_, L1, ?_, ⟨_, (rd_setn (Ne.symm hB1S)).trans (rd_set e3 i1), by rw [el]; omega, ?_, fun j hj => ?_⟩, e3, by rw [el]; omega⟩, by simp only [List.length_set]; omega, mz_mo.s (mz_mo.s (e7.wk (L' := [S, B]) (k := 1) (z := 2 * l.length + 10) (fun y hy => Or.inl (by rw [List.mem_singleton.mp hy]; exact List.mem_cons_self)) (Nat.le_refl _) (by omega)) e3 i1 rfl (e6.elim (fun q => Or.inl (by rw [q]; exact List.mem_cons_of_mem _ List.mem_cons_self)) (fun q => Or.inr (by omega)))) bS ((rd_setn hB1S).trans e1) rfl (Or.inl (by simp))⟩
  · refine ⟨Nat.zero_le 1, fun j hj => ?_⟩
    have hd : lF (l ++ pNum t) j < 256 := by
      rw [el] at hj
      rcases Nat.lt_or_ge j l.length with q | q
      · rw [lF_l q]; exact (okS.2 j q).2 rfl
      · obtain ⟨i, rfl⟩ : ∃ i, j = l.length + i := ⟨j - l.length, by omega⟩
        rw [lF_r, ep]
        have hi : i < 2 := by omega
        obtain rfl | rfl : i = 0 ∨ i = 1 := by omega
        · show 48 + t / 10 % 10 < 256; omega
        · show 48 + t % 10 < 256; omega
    exact ⟨by omega, fun _ => hd⟩
  · rw [el]; exact rd_set bS ((rd_setn hB1S).trans e1)
  · exact upd_fit (upd_fit i3)
  · rw [el] at hj
    show _ = byt (lF (l ++ pNum t) j)
    rcases Nat.lt_or_ge j l.length with q | q
    · unfold upd
      rw [lF_l q, if_neg (by omega), if_neg (by omega), i4 j (by omega)]
      rfl
    · obtain ⟨i, rfl⟩ : ∃ i, j = l.length + i := ⟨j - l.length, by omega⟩
      rw [lF_r, ep]
      have hi : i < 2 := by omega
      obtain rfl | rfl : i = 0 ∨ i = 1 := by omega
      · unfold upd
        rw [if_pos (by omega)]
        show byt (48 + t / 10) = byt (48 + t / 10 % 10)
        rw [show 48 + t / 10 = 48 + t / 10 % 10 by omega]
      · unfold upd
        rw [if_neg (by omega), if_pos (by omega)]
        show byt (48 + t % 10) = byt (48 + t % 10)
        rw [show 48 + t % 10 = 48 + t % 10 by omega]
theorem y_api3 {h : mj_H} {S B t : Nat} {l : List Nat} (hS : yS h S B l) (bS : S < mj_CB) (hb : h.length + 20 < mj_CB) (hm : l.length ≤ 110) (h10 : 100 ≤ t) (ht : t < 1000) : mj_Wp 5 289 (0, [some (.ref S), some (.int (nI t)), none, none], [], h) (mz_V fun r h' => r = .ref S ∧ ∃ B', yS h' S B' (l ++ pNum t) ∧ (B' = B ∨ h.length ≤ B' ∧ B' < h'.length) ∧ mz_mo [S, B] 1 (2 * l.length + 10) h h') := by
  obtain ⟨okS, L, kS, hy, bB, hL⟩ := hS
  have hy0 := hy
  obtain ⟨bf0, kB, _⟩ := hy0
  have hSl := rd_len bS kS
  have hBl := rd_len bB kB
  have hBS : B ≠ S := fun e => by rw [e, kS] at kB; cases kB
  have ep : pNum t = [48 + t / 100 % 10, 48 + t / 10 % 10, 48 + t % 10] := by unfold pNum; rw [if_pos (by omega), if_pos (by omega)]; rfl
  have el : (l ++ pNum t).length = l.length + 3 := by rw [List.length_append, ep]; rfl
  refine s_aldn (p' := 1) rfl rfl rfl ?_
  refine s_gf (p' := 4) rfl kS rfl rfl ?_
  refine s_istn (p' := 5) (ls' := [_, _, _, _]) rfl rfl rfl rfl ?_
  refine s_ildn (p' := 6) rfl rfl rfl ?_
  refine s_ildn (p' := 7) rfl rfl rfl ?_
  refine s_callV (p' := 10) (ls0 := [_, _, _, _]) rfl rfl rfl rfl rfl rfl rfl (y_sz (t := t) (by omega)) (by first | decide | omega) rfl ?_
  refine s_sp (p' := 11) (ls' := _) rfl rfl rfl ?_
  rw [show (if t < 10 then 1 else if t < 100 then 2 else 3) = 3 from by rw [if_neg (by omega), if_neg (by omega)], mI_add]
  refine s_istn (p' := 12) (ls' := [_, _, _, _]) rfl rfl rfl rfl ?_
  refine s_aldn (p' := 13) rfl rfl rfl ?_
  refine s_ildn (p' := 14) rfl rfl rfl ?_
  refine s_callEN (p' := 17) (ls0 := [_, _, _]) rfl rfl rfl rfl rfl (mj_rcv_is kS) rfl (y_ens0 bS (by omega) kS hy bB (by omega) (by omega)) rfl rfl ?_
  rintro g1 ⟨B1, L1, e1, e2, e3, e4, e5, e6, e7⟩
  have e2' := e2
  obtain ⟨bf, i1, i2, i3, i4⟩ := e2'
  have g1l := e7.2.1
  have g1u := e7.2.2.1
  have hB1S : B1 ≠ S := by omega
  have hB1l := rd_len e3 i1
  refine s_aldn (p' := 18) rfl rfl rfl ?_
  refine c_call (p' := 21) (kc := 4) (ls0 := [_]) rfl rfl rfl rfl rfl (mj_rcv_is e1) rfl rfl rfl ?_
  refine s_sh (p' := 3) (ls' := _) (st' := .int (nI 1) :: _) (h' := _) rfl rfl rfl rfl ?_
  refine s_if (p' := 6) false rfl ((cz_eq (by omega)).trans (decide_eq_false (by omega))) rfl ?_
  refine s_aldn (p' := 7) rfl rfl rfl ?_
  refine s_gf (p' := 10) rfl e1 rfl rfl ?_
  refine s_if (p' := 13) false rfl ((cz_ne (by omega)).trans (decide_eq_false (by omega))) rfl ?_
  refine s_con (p' := 14) rfl rfl ?_
  refine s_goto (p' := 18) rfl rfl ?_
  refine c_iret rfl rfl ?_
  refine s_if (p' := 24) false rfl (by decide +kernel) rfl ?_
  refine s_ildn (p' := 25) rfl rfl rfl ?_
  refine s_ildn (p' := 26) rfl rfl rfl ?_
  refine s_aldn (p' := 27) rfl rfl rfl ?_
  refine s_gf (p' := 30) rfl e1 rfl rfl ?_
  refine s_callV (p' := 33) (ls0 := [_, _, _, _, _, _, _]) rfl rfl rfl rfl rfl rfl rfl (y_gcs3 e3 i1 (by omega) (by omega) h10 ht) (by first | decide | omega) rfl ?_
  refine s_sp (p' := 34) (ls' := _) rfl rfl rfl ?_
  refine s_goto (p' := 48) rfl rfl ?_
  refine s_aldn (p' := 49) rfl rfl rfl ?_
  refine s_ildn (p' := 50) rfl rfl rfl ?_
  refine s_pf (p' := 53) (fs' := [_, _, _, _]) rfl bS ((rd_setn hB1S).trans e1) (Nat.blt_eq.mp rfl) rfl rfl rfl ?_
  refine s_aldn (p' := 54) rfl rfl rfl ?_
  refine s_aret rfl ?_
  refine ⟨_, _, rfl, rfl, B1, ⟨?_, L1, ?_, ⟨_, (rd_setn (Ne.symm hB1S)).trans (rd_set e3 i1), by rw [el]; omega, ?_, fun j hj => ?_⟩, e3, by rw [el]; omega⟩, by simp only [List.length_set]; omega, mz_mo.s (mz_mo.s (e7.wk (L' := [S, B]) (k := 1) (z := 2 * l.length + 10) (fun y hy => Or.inl (by rw [List.mem_singleton.mp hy]; exact List.mem_cons_self)) (Nat.le_refl _) (by omega)) e3 i1 rfl (e6.elim (fun q => Or.inl (by rw [q]; exact List.mem_cons_of_mem _ List.mem_cons_self)) (fun q => Or.inr (by omega)))) bS ((rd_setn hB1S).trans e1) rfl (Or.inl (by simp))⟩
  · refine ⟨Nat.zero_le 1, fun j hj => ?_⟩
    have hd : lF (l ++ pNum t) j < 256 := by
      rw [el] at hj
      rcases Nat.lt_or_ge j l.length with q | q
      · rw [lF_l q]; exact (okS.2 j q).2 rfl
      · obtain ⟨i, rfl⟩ : ∃ i, j = l.length + i := ⟨j - l.length, by omega⟩
        rw [lF_r, ep]
        have hi : i < 3 := by omega
        obtain rfl | rfl | rfl : i = 0 ∨ i = 1 ∨ i = 2 := by omega
        · show 48 + t / 100 % 10 < 256; omega
        · show 48 + t / 10 % 10 < 256; omega
        · show 48 + t % 10 < 256; omega
    exact ⟨by omega, fun _ => hd⟩
  · rw [el]; exact rd_set bS ((rd_setn hB1S).trans e1)
  · exact upd_fit (upd_fit (upd_fit i3))
  · rw [el] at hj
    show _ = byt (lF (l ++ pNum t) j)
    rcases Nat.lt_or_ge j l.length with q | q
    · unfold upd
      rw [lF_l q, if_neg (by omega), if_neg (by omega), if_neg (by omega), i4 j (by omega)]
      rfl
    · obtain ⟨i, rfl⟩ : ∃ i, j = l.length + i := ⟨j - l.length, by omega⟩
      rw [lF_r, ep]
      have hi : i < 3 := by omega
      obtain rfl | rfl | rfl : i = 0 ∨ i = 1 ∨ i = 2 := by omega
      · unfold upd
        rw [if_pos (by omega)]
        show byt (48 + t / 100 % 10) = byt (48 + t / 100 % 10)
        rw [show 48 + t / 100 % 10 = 48 + t / 100 % 10 by omega]
      · unfold upd
        rw [if_neg (by omega), if_pos (by omega)]
        show byt (48 + t % 100 / 10) = byt (48 + t / 10 % 10)
        rw [show 48 + t % 100 / 10 = 48 + t / 10 % 10 by omega]
      · unfold upd
        rw [if_neg (by omega), if_neg (by omega), if_pos (by omega)]
        show byt (48 + t % 100 % 10) = byt (48 + t % 10)
        rw [show 48 + t % 100 % 10 = 48 + t % 10 by omega]
theorem y_aI {h : mj_H} {S B t : Nat} {l : List Nat} (hS : yS h S B l) (bS : S < mj_CB) (hb : h.length + 20 < mj_CB) (hm : l.length ≤ 110) (ht : t < 1000) : mj_Wp 6 288 (0, [some (.ref S), some (.int (nI t))], [], h) (mz_V fun r h' => r = .ref S ∧ ∃ B', yS h' S B' (l ++ pNum t) ∧ (B' = B ∨ h.length ≤ B' ∧ B' < h'.length) ∧ mz_mo [S, B] 1 (2 * l.length + 10) h h') := by
  refine s_aldn (p' := 1) rfl rfl rfl ?_
  refine s_ildn (p' := 2) rfl rfl rfl ?_
  refine s_callEV (p' := 5) (ls0 := [_, _, _, _]) rfl rfl rfl rfl rfl (mj_rcv_is hS.k.1) rfl (show mj_Wp 5 289 _ (mz_V fun r h' => r = .ref S ∧ ∃ B', yS h' S B' (l ++ pNum t) ∧ (B' = B ∨ h.length ≤ B' ∧ B' < h'.length) ∧ mz_mo [S, B] 1 (2 * l.length + 10) h h') from by
    by_cases q : t < 10
    · exact y_api1 hS bS hb hm q
    · by_cases q2 : t < 100
      · exact y_api2 hS bS hb hm (by omega) q2
      · exact y_api3 hS bS hb hm (by omega) ht) rfl rfl ?_
  rintro _ g ⟨rfl, k⟩
  refine s_sp (p' := 6) (ls' := _) rfl rfl rfl ?_
  refine s_aldn (p' := 7) rfl rfl rfl ?_
  refine s_aret rfl ?_
  exact ⟨_, _, rfl, rfl, k⟩
