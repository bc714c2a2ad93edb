/-! Circuits: what a row of gates does. -/
/-- a gate on a value -/
def gt (g v : Nat) : Nat := if v &&& (g % 8) = g % 8 then v ^^^ 2 ^ (g / 8) else v
def gtall (P : Nat → Nat → Bool) : Bool := (List.range 24).all fun g => (List.range 8).all fun v => P g v
theorem gtall_of {P : Nat → Nat → Bool} (h : gtall P = true) {g v : Nat} (hg : g < 24) (hv : v < 8) : P g v = true :=
  List.all_eq_true.mp (List.all_eq_true.mp h g (List.mem_range.mpr hg)) v (List.mem_range.mpr hv)
theorem gt_cls {g v : Nat} (hg : g < 24) (hv : v < 8) : gpass (nI g) (nI v) = nI (gt g v) :=
  of_decide_eq_true (gtall_of (P := fun g v => decide (gpass (nI g) (nI v) = nI (gt g v))) (by decide +kernel) hg hv)
theorem gt_lt {g v : Nat} (hg : g < 24) (hv : v < 8) : gt g v < 8 :=
  of_decide_eq_true (gtall_of (P := fun g v => decide (gt g v < 8)) (by decide +kernel) hg hv)
theorem gt_ref {g v : Nat} (hg : g < 24) (hv : v < 8) : decide ((nI v &&& nI g) &&& nI 7 = nI g &&& nI 7) = decide (v &&& (g % 8) = g % 8) :=
  of_decide_eq_true (gtall_of (P := fun g v => decide (decide ((nI v &&& nI g) &&& nI 7 = nI g &&& nI 7) = decide (v &&& (g % 8) = g % 8))) (by decide +kernel) hg hv)
theorem gt_rx {g v : Nat} (hg : g < 24) (hv : v < 8) : nI v ^^^ (nI 1 <<< ((nI g / nI 8) &&& 31)) = nI (v ^^^ 2 ^ (g / 8)) :=
  of_decide_eq_true (gtall_of (P := fun g v => decide (nI v ^^^ (nI 1 <<< ((nI g / nI 8) &&& 31)) = nI (v ^^^ 2 ^ (g / 8)))) (by decide +kernel) hg hv)
/-- through a row: k gates from place j on -/
def thr (G : Nat → Nat) : Nat → Nat → Nat → Nat
  | 0, _, v => v
  | k + 1, j, v => thr G k (j + 1) (gt (G j) v)
/-- back through the first k -/
def bthr (G : Nat → Nat) : Nat → Nat → Nat
  | 0, v => v
  | k + 1, v => bthr G k (gt (G k) v)
theorem thr_lt {G : Nat → Nat} {n : Nat} (hG : ∀ j, j < n → G j < 24) : ∀ (k j v : Nat), j + k = n → v < 8 → thr G k j v < 8
  | 0, _, _, _, hv => hv
  | k + 1, j, v, hj, hv => thr_lt hG k (j + 1) _ (by omega) (gt_lt (hG j (by omega)) hv)
theorem bthr_lt {G : Nat → Nat} {n : Nat} (hG : ∀ j, j < n → G j < 24) : ∀ (k v : Nat), k ≤ n → v < 8 → bthr G k v < 8
  | 0, _, _, hv => hv
  | k + 1, v, hj, hv => bthr_lt hG k _ (by omega) (gt_lt (hG k (by omega)) hv)
theorem mI_dec1 (x : Int32) : x + nI 4294967295 = x - nI 1 := by
  rw [Int32.sub_eq_add_neg]
  rfl
theorem x_outL {h : mj_H} {C R : Nat} {o1 o2 mf : Value} {rf : Nat → Int32} {G : Nat → Nat} {n : Nat} (hC : mj_rd h C = some (.inr (9, [.ref R, o1, o2, .int (nI n), mf]))) (hR : mj_rd h R = some (.inl (0, (24, .inl rf)))) (hG : ∀ j, j < n → rf j = nI (G j) ∧ G j < 24) (hn : n ≤ 24) {v0 : Int32} : ∀ (k j v : Nat), j + k = n → v < 8 → mj_run 1 38 (4, [some (.ref C), some (.int v0), some (.int (nI v)), some (.int (nI j))], [], h) (.inl (some (.int (nI (thr G k j v)))), h)
  | 0, j, v, hj, hv => by
    obtain rfl : j = n := by omega
    refine s_ildn (p' := 5) rfl rfl rfl ?_
    refine s_aldn (p' := 6) rfl rfl rfl ?_
    refine s_gf (p' := 9) rfl (by repeat (first | assumption | refine rd_app ?_ | rw [rd_setn (by first | assumption | omega)] | apply rd_set (by first | assumption | decide))) rfl rfl ?_
    refine s_icmp (p' := 38) true rfl ((ci_ge (by omega) (by omega)).trans (decide_eq_true (by omega))) rfl ?_
    refine s_ildn (p' := 39) rfl rfl rfl ?_
    exact s_iret rfl rfl rfl
  | k + 1, j, v, hj, hv => by
    have ih := x_outL hC hR hG hn (v0 := v0) k
    have hg := hG j (by omega)
    refine s_ildn (p' := 5) rfl rfl rfl ?_
    refine s_aldn (p' := 6) rfl rfl rfl ?_
    refine s_gf (p' := 9) rfl (by repeat (first | assumption | refine rd_app ?_ | rw [rd_setn (by first | assumption | omega)] | apply rd_set (by first | assumption | decide))) rfl rfl ?_
    refine s_icmp (p' := 12) false rfl ((ci_ge (by omega) (by omega)).trans (decide_eq_false (by omega))) rfl ?_
    refine s_ildn (p' := 13) rfl rfl rfl ?_
    refine s_aldn (p' := 14) rfl rfl rfl ?_
    refine s_gf (p' := 17) rfl (by repeat (first | assumption | refine rd_app ?_ | rw [rd_setn (by first | assumption | omega)] | apply rd_set (by first | assumption | decide))) rfl rfl ?_
    refine s_len (p' := 18) rfl (mj_rdA_is (by repeat (first | assumption | refine rd_app ?_ | rw [rd_setn (by first | assumption | omega)] | apply rd_set (by first | assumption | decide))) (by decide)) (by decide) rfl ?_
    refine s_icmp (p' := 21) false rfl ((ci_ge (by omega) (by omega)).trans (decide_eq_false (by omega))) rfl ?_
    refine s_aldn (p' := 22) rfl rfl rfl ?_
    refine s_gf (p' := 25) rfl (by repeat (first | assumption | refine rd_app ?_ | rw [rd_setn (by first | assumption | omega)] | apply rd_set (by first | assumption | decide))) rfl rfl ?_
    refine s_ildn (p' := 26) rfl rfl rfl ?_
    refine s_ial (p' := 27) rfl (by repeat (first | assumption | refine rd_app ?_ | rw [rd_setn (by first | assumption | omega)] | apply rd_set (by first | assumption | decide))) (inb_nI (by omega) (by omega)) rfl ?_
    rw [mI_cl (by omega), hg.1]
    refine s_ildn (p' := 28) rfl rfl rfl ?_
    refine s_callV (p' := 31) (ls0 := [_, _, _]) rfl rfl rfl rfl rfl rfl rfl x_pass (by decide) rfl ?_
    rw [gt_cls hg.2 hv]
    refine s_istn (p' := 32) (ls' := [_, _, _, _]) rfl rfl rfl rfl ?_
    refine s_inc (p' := 35) (ls' := [_, _, _, _]) rfl rfl rfl rfl rfl ?_
    rw [mI_add]
    refine s_goto (p' := 4) rfl rfl ?_
    exact ih (j + 1) _ (by omega) (gt_lt hg.2 hv)
theorem x_out {h : mj_H} {C R : Nat} {o1 o2 mf : Value} {rf : Nat → Int32} {G : Nat → Nat} {n : Nat} (hC : mj_rd h C = some (.inr (9, [.ref R, o1, o2, .int (nI n), mf]))) (hR : mj_rd h R = some (.inl (0, (24, .inl rf)))) (hG : ∀ j, j < n → rf j = nI (G j) ∧ G j < 24) (hn : n ≤ 24) {v : Nat} (hv : v < 8) : mj_run 1 38 (0, [some (.ref C), some (.int (nI v)), none, none], [], h) (.inl (some (.int (nI (thr G n 0 v)))), h) := by
  refine s_ildn (p' := 1) rfl rfl rfl ?_
  refine s_istn (p' := 2) (ls' := [_, _, _, _]) rfl rfl rfl rfl ?_
  refine s_con (p' := 3) rfl rfl ?_
  refine s_istn (p' := 4) (ls' := [_, _, _, _]) rfl rfl rfl rfl ?_
  exact x_outL hC hR hG hn n 0 v (by omega) hv
theorem x_srcL {h : mj_H} {C R : Nat} {o1 o2 mf : Value} {rf : Nat → Int32} {G : Nat → Nat} {n : Nat} (hC : mj_rd h C = some (.inr (9, [.ref R, o1, o2, .int (nI n), mf]))) (hR : mj_rd h R = some (.inl (0, (24, .inl rf)))) (hG : ∀ j, j < n → rf j = nI (G j) ∧ G j < 24) (hn : n ≤ 24) {v0 : Int32} : ∀ (k v : Nat), k ≤ n → v < 8 → mj_run 1 107 (17, [some (.ref C), some (.int v0), some (.int (nI v)), some (.int (nI k - nI 1))], [], h) (.inl (some (.int (nI (bthr G k v)))), h)
  | 0, v, hj, hv => by
    refine s_ildn (p' := 18) rfl rfl rfl ?_
    refine s_if (p' := 38) true rfl (by decide +kernel) rfl ?_
    refine s_ildn (p' := 39) rfl rfl rfl ?_
    exact s_iret rfl rfl rfl
  | k + 1, v, hj, hv => by
    have ih := x_srcL hC hR hG hn (v0 := v0) k
    have hg := hG k (by omega)
    rw [mI_sub (show 1 ≤ k + 1 by omega), Nat.add_sub_cancel]
    refine s_ildn (p' := 18) rfl rfl rfl ?_
    refine s_if (p' := 21) false rfl (cz_lt (by omega)) rfl ?_
    refine s_aldn (p' := 22) rfl rfl rfl ?_
    refine s_gf (p' := 25) rfl (by repeat (first | assumption | refine rd_app ?_ | rw [rd_setn (by first | assumption | omega)] | apply rd_set (by first | assumption | decide))) rfl rfl ?_
    refine s_ildn (p' := 26) rfl rfl rfl ?_
    refine s_ial (p' := 27) rfl (by repeat (first | assumption | refine rd_app ?_ | rw [rd_setn (by first | assumption | omega)] | apply rd_set (by first | assumption | decide))) (inb_nI (by omega) (by omega)) rfl ?_
    rw [mI_cl (by omega), hg.1]
    refine s_ildn (p' := 28) rfl rfl rfl ?_
    refine s_callV (p' := 31) (ls0 := [_, _, _]) rfl rfl rfl rfl rfl rfl rfl x_pass (by decide) rfl ?_
    rw [gt_cls hg.2 hv]
    refine s_istn (p' := 32) (ls' := [_, _, _, _]) rfl rfl rfl rfl ?_
    refine s_inc (p' := 35) (ls' := [_, _, _, _]) rfl rfl rfl rfl rfl ?_
    rw [mI_dec1]
    refine s_goto (p' := 17) rfl rfl ?_
    exact ih _ (by omega) (gt_lt hg.2 hv)
theorem x_src {h : mj_H} {C R : Nat} {o1 o2 mf : Value} {rf : Nat → Int32} {G : Nat → Nat} {n : Nat} (hC : mj_rd h C = some (.inr (9, [.ref R, o1, o2, .int (nI n), mf]))) (hR : mj_rd h R = some (.inl (0, (24, .inl rf)))) (hG : ∀ j, j < n → rf j = nI (G j) ∧ G j < 24) (hn : n ≤ 24) {v : Nat} (hv : v < 8) : mj_run 1 107 (0, [some (.ref C), some (.int (nI v)), none, none], [], h) (.inl (some (.int (nI (bthr G n v)))), h) := by
  refine s_ildn (p' := 1) rfl rfl rfl ?_
  refine s_istn (p' := 2) (ls' := [_, _, _, _]) rfl rfl rfl rfl ?_
  refine s_aldn (p' := 3) rfl rfl rfl ?_
  refine s_gf (p' := 6) rfl (by repeat (first | assumption | refine rd_app ?_ | rw [rd_setn (by first | assumption | omega)] | apply rd_set (by first | assumption | decide))) rfl rfl ?_
  refine s_aldn (p' := 7) rfl rfl rfl ?_
  refine s_gf (p' := 10) rfl (by repeat (first | assumption | refine rd_app ?_ | rw [rd_setn (by first | assumption | omega)] | apply rd_set (by first | assumption | decide))) rfl rfl ?_
  refine s_len (p' := 11) rfl (mj_rdA_is (by repeat (first | assumption | refine rd_app ?_ | rw [rd_setn (by first | assumption | omega)] | apply rd_set (by first | assumption | decide))) (by decide)) (by decide) rfl ?_
  refine s_primV (p' := 14) (q := 5) rfl rfl rfl rfl rfl rfl (p_min (x := nI n) (y := nI 24) (z := nI n) (if_neg (by rw [mI_lt (by omega) (by omega)]; omega))) rfl ?_
  refine s_con (p' := 15) rfl rfl ?_
  refine s_sp (p' := 16) (ls' := _) rfl rfl rfl ?_
  refine s_istn (p' := 17) (ls' := [_, _, _, _]) rfl rfl rfl rfl ?_
  exact x_srcL hC hR hG hn n v (by omega) hv
theorem y_tur {h : mj_H} {g v : Nat} (hg : g < 24) (hv : v < 8) : mj_run 0 428 (0, [some (.int (nI v)), some (.int (nI g))], [], h) (.inl (some (.int (nI (gt g v)))), h) := by
  refine s_ildn (p' := 1) rfl rfl rfl ?_
  refine s_ildn (p' := 2) rfl rfl rfl ?_
  refine s_sp (p' := 3) (ls' := _) rfl rfl rfl ?_
  refine s_bip (p' := 5) rfl rfl ?_
  refine s_sp (p' := 6) (ls' := _) rfl rfl rfl ?_
  refine s_ildn (p' := 7) rfl rfl rfl ?_
  refine s_bip (p' := 9) rfl rfl ?_
  refine s_sp (p' := 10) (ls' := _) rfl rfl rfl ?_
  by_cases q : v &&& (g % 8) = g % 8
  · refine s_icmp (p' := 13) false rfl ((show mj_ci .ne _ _ = !decide ((nI v &&& nI g) &&& nI 7 = nI g &&& nI 7) from by unfold mj_ci; by_cases z : (nI v &&& nI g) &&& nI 7 = nI g &&& nI 7 <;> simp [z]).trans (by rw [gt_ref hg hv, decide_eq_true q]; rfl)) rfl ?_
    refine s_ildn (p' := 14) rfl rfl rfl ?_
    refine s_con (p' := 15) rfl rfl ?_
    refine s_ildn (p' := 16) rfl rfl rfl ?_
    refine s_bip (p' := 18) rfl rfl ?_
    refine s_sp (p' := 19) (ls' := _) rfl rfl rfl ?_
    refine s_sp (p' := 20) (ls' := _) rfl rfl rfl ?_
    refine s_sp (p' := 21) (ls' := _) rfl rfl rfl ?_
    rw [gt_rx hg hv]
    refine s_goto (p' := 25) rfl rfl ?_
    exact s_iret rfl rfl (by unfold gt; rw [if_pos q])
  · refine s_icmp (p' := 24) true rfl ((show mj_ci .ne _ _ = !decide ((nI v &&& nI g) &&& nI 7 = nI g &&& nI 7) from by unfold mj_ci; by_cases z : (nI v &&& nI g) &&& nI 7 = nI g &&& nI 7 <;> simp [z]).trans (by rw [gt_ref hg hv, decide_eq_false q]; rfl)) rfl ?_
    refine s_ildn (p' := 25) rfl rfl rfl ?_
    exact s_iret rfl rfl (by unfold gt; rw [if_neg q])
/-- Integers that stood before -/
def k_chk (g : Nat) : Bool := match mj_cst (138 + g) with
  | some (.inr (29, [.int v])) => decide (v = nI g)
  | _ => false
theorem k_int (h : mj_H) {g : Nat} (hg : g < 24) : mj_rd h (1000138 + g) = some (.inr (29, [.int (nI g)])) := by
  have h1 : k_chk g = true := List.all_eq_true.mp (show ((List.range 24).all fun g => k_chk g) = true by decide +kernel) g (List.mem_range.mpr hg)
  unfold mj_rd
  rw [if_neg (by have : mj_CB = 1000000 := rfl; omega), show 1000138 + g - mj_CB = 138 + g by have : mj_CB = 1000000 := rfl; omega]
  unfold k_chk at h1
  split at h1
  · rename_i v hv
    rw [hv, of_decide_eq_true h1]
  · cases h1
theorem rdA_app {h t : mj_H} {a : Nat} {x : Nat × vp_A} (hr : mj_rdA h a = some x) : mj_rdA (h ++ t) a = some x := by
  unfold mj_rdA at hr ⊢
  cases hc : mj_rd h a with
  | none =>
    rw [hc] at hr
    cases hr
  | some c =>
    rw [rd_app hc]
    rw [hc] at hr
    exact hr
theorem k_ocl (h : mj_H) {g : Nat} (hg : g < 24) : mj_ocl h (1000138 + g) = some 29 := mj_ocl_is (k_int h hg)
theorem y_goL {h : mj_H} {N x Lr E cap : Nat} {mc : Int32} {ef : Nat → Option Nat} {G : Nat → Nat} {n : Nat} (hN : h.length = N) (hb : N + 10 < mj_CB) (hL : mj_rd h Lr = some (.inr (18, [.ref E, .int (nI n), .int mc]))) (hE : mj_rdA h E = some (6, (cap, .inr (.inr (.inr (.inr ef)))))) (hG : ∀ j, j < n → ef j = some (1000138 + G j) ∧ G j < 24) (hn : n ≤ 24) (hcap : n ≤ cap) (hc31 : cap < 1000) {v0 : Int32} : ∀ (k j v : Nat) (lr : Int32) (l4 : Option Value), j + k = n → v < 8 → mj_Wp 3 427 (12, [some (.ref x), some (.int v0), some (.int (nI v)), some (.ref N), l4], [], h ++ [.inr (27, [.int (nI j), .int lr, .int mc, .ref Lr])]) (mz_V fun r h' => r = .int (nI (thr G k j v)) ∧ ∃ lr, h' = h ++ [.inr (27, [.int (nI n), .int lr, .int mc, .ref Lr])])
  | 0, j, v, lr, l4, hj, hv => by
    obtain rfl : j = n := by omega
    refine s_aldn (p' := 13) rfl rfl rfl ?_
    refine c_call (p' := 18) (kc := 2) (ls0 := [_]) rfl rfl rfl rfl rfl (mj_rcv_is (rd_a0 hN (by omega))) rfl rfl rfl ?_
    refine s_aldn (p' := 1) rfl rfl rfl ?_
    refine s_gf (p' := 4) rfl (rd_a0 hN (by omega)) rfl rfl ?_
    refine s_aldn (p' := 5) rfl rfl rfl ?_
    refine s_gf (p' := 8) rfl (rd_a0 hN (by omega)) rfl rfl ?_
    refine s_gf (p' := 11) rfl (rd_app hL) rfl rfl ?_
    refine s_icmp (p' := 18) true rfl ((ci_eq (by omega) (by omega)).trans (decide_eq_true (by omega))) rfl ?_
    refine s_con (p' := 19) rfl rfl ?_
    refine c_iret rfl rfl ?_
    refine s_if (p' := 45) true rfl rfl rfl ?_
    refine s_ildn (p' := 46) rfl rfl rfl ?_
    refine s_iret rfl rfl ?_
    exact ⟨_, _, rfl, rfl, lr, rfl⟩
  | k + 1, j, v, lr, l4, hj, hv => by
    have ih := y_goL hN hb hL hE hG hn hcap hc31 (x := x) (v0 := v0) k
    have hg := hG j (by omega)
    refine s_aldn (p' := 13) rfl rfl rfl ?_
    refine c_call (p' := 18) (kc := 2) (ls0 := [_]) rfl rfl rfl rfl rfl (mj_rcv_is (rd_a0 hN (by omega))) rfl rfl rfl ?_
    refine s_aldn (p' := 1) rfl rfl rfl ?_
    refine s_gf (p' := 4) rfl (rd_a0 hN (by omega)) rfl rfl ?_
    refine s_aldn (p' := 5) rfl rfl rfl ?_
    refine s_gf (p' := 8) rfl (rd_a0 hN (by omega)) rfl rfl ?_
    refine s_gf (p' := 11) rfl (rd_app hL) rfl rfl ?_
    refine s_icmp (p' := 14) false rfl ((ci_eq (by omega) (by omega)).trans (decide_eq_false (by omega))) rfl ?_
    refine s_con (p' := 15) rfl rfl ?_
    refine s_goto (p' := 19) rfl rfl ?_
    refine c_iret rfl rfl ?_
    refine s_if (p' := 21) false rfl rfl rfl ?_
    refine s_aldn (p' := 22) rfl rfl rfl ?_
    refine c_call (p' := 27) (kc := 2) (ls0 := [_, _, _]) rfl rfl rfl rfl rfl (mj_rcv_is (rd_a0 hN (by omega))) rfl rfl rfl ?_
    refine s_aldn (p' := 1) rfl rfl rfl ?_
    refine c_call (p' := 4) (kc := 1) (ls0 := [_]) rfl rfl rfl rfl rfl (mj_rcv_is (rd_a0 hN (by omega))) rfl rfl rfl ?_
    refine s_aldn (p' := 1) rfl rfl rfl ?_
    refine s_gf (p' := 4) rfl (rd_a0 hN (by omega)) rfl rfl ?_
    refine s_gf (p' := 7) rfl (rd_app hL) rfl rfl ?_
    refine s_aldn (p' := 8) rfl rfl rfl ?_
    refine s_gf (p' := 11) rfl (rd_a0 hN (by omega)) rfl rfl ?_
    refine s_icmp (p' := 22) true rfl (decide_eq_true rfl) rfl ?_
    refine c_ret rfl ?_
    refine s_aldn (p' := 5) rfl rfl rfl ?_
    refine s_gf (p' := 8) rfl (rd_a0 hN (by omega)) rfl rfl ?_
    refine s_istn (p' := 9) (ls' := [_, _, _]) rfl rfl rfl rfl ?_
    refine s_ildn (p' := 10) rfl rfl rfl ?_
    refine s_aldn (p' := 11) rfl rfl rfl ?_
    refine s_gf (p' := 14) rfl (rd_a0 hN (by omega)) rfl rfl ?_
    refine s_gf (p' := 17) rfl (rd_app hL) rfl rfl ?_
    refine s_icmp (p' := 28) true rfl ((ci_lt (by omega) (by omega)).trans (decide_eq_true (by omega))) rfl ?_
    refine s_aldn (p' := 29) rfl rfl rfl ?_
    refine s_gf (p' := 32) rfl (rd_a0 hN (by omega)) rfl rfl ?_
    refine s_gf (p' := 35) rfl (rd_app hL) rfl rfl ?_
    refine s_astn (p' := 36) (ls' := [_, _, _]) rfl rfl rfl rfl ?_
    refine s_ildn (p' := 37) rfl rfl rfl ?_
    refine s_aldn (p' := 38) rfl rfl rfl ?_
    refine s_len (p' := 39) rfl (rdA_app hE) (by decide) rfl ?_
    refine s_icmp (p' := 50) true rfl ((ci_lt (by omega) (by omega)).trans (decide_eq_true (by omega))) rfl ?_
    refine s_aldn (p' := 51) rfl rfl rfl ?_
    refine s_ildn (p' := 52) rfl rfl rfl ?_
    refine s_con (p' := 53) rfl rfl ?_
    refine s_sp (p' := 54) (ls' := _) rfl rfl rfl ?_
    rw [mI_add]
    refine s_pf (p' := 57) (fs' := [_, _, _, _]) rfl (by omega) (rd_a0 hN (by omega)) (Nat.blt_eq.mp rfl) rfl rfl rfl ?_
    rw [set_a0 hN]
    refine s_aldn (p' := 58) rfl rfl rfl ?_
    refine s_aldn (p' := 59) rfl rfl rfl ?_
    refine s_ildn (p' := 60) rfl rfl rfl ?_
    refine s_sp (p' := 61) (ls' := _) rfl rfl rfl ?_
    refine s_pf (p' := 64) (fs' := [_, _, _, _]) rfl (by omega) (rd_a0 hN (by omega)) (Nat.blt_eq.mp rfl) rfl rfl rfl ?_
    rw [set_a0 hN]
    refine s_aal (p' := 65) rfl (rdA_app hE) (by decide) (inb_nI (by omega) (by omega)) rfl ?_
    rw [mI_cl (by omega), hg.1, show va_rf (some (1000138 + G j)) = .ref (1000138 + G j) from rfl]
    refine c_aret rfl ?_
    refine s_cco (p' := 30) rfl (k_int _ hg.2) rfl ?_
    refine c_call (p' := 33) (kc := 2) (ls0 := [_]) rfl rfl rfl rfl rfl (mj_rcv_is (k_int _ hg.2)) rfl rfl rfl ?_
    refine s_aldn (p' := 1) rfl rfl rfl ?_
    refine s_gf (p' := 4) rfl (k_int _ hg.2) rfl rfl ?_
    refine c_iret rfl rfl ?_
    refine s_ist (p' := 35) (ls' := [_, _, _, _, _]) rfl rfl rfl rfl ?_
    refine s_ildn (p' := 36) rfl rfl rfl ?_
    refine s_ild (p' := 38) rfl rfl rfl ?_
    refine s_callV (p' := 41) (ls0 := [_, _]) rfl rfl rfl rfl rfl rfl rfl (y_tur hg.2 hv) (by decide) rfl ?_
    refine s_istn (p' := 42) (ls' := [_, _, _, _, _]) rfl rfl rfl rfl ?_
    refine s_goto (p' := 12) rfl rfl ?_
    exact ih (j + 1) _ _ _ (by omega) (gt_lt hg.2 hv)
theorem y_go {h : mj_H} {N x Lr E cap : Nat} {mc : Int32} {ef : Nat → Option Nat} {G : Nat → Nat} {n : Nat} (hN : h.length = N) (hb : N + 10 < mj_CB) (hL : mj_rd h Lr = some (.inr (18, [.ref E, .int (nI n), .int mc]))) (hE : mj_rdA h E = some (6, (cap, .inr (.inr (.inr (.inr ef)))))) (hG : ∀ j, j < n → ef j = some (1000138 + G j) ∧ G j < 24) (hn : n ≤ 24) (hcap : n ≤ cap) (hc31 : cap < 1000) {a0 a1 a2 a3 a4 a5 a7 a8 a9 a10 : Value} (hX : mj_rd h x = some (.inr (17, [a0, a1, a2, a3, a4, a5, .ref Lr, a7, a8, a9, a10]))) {v : Nat} (hv : v < 8) : mj_Wp 3 427 (0, [some (.ref x), some (.int (nI v)), none, none, none], [], h) (mz_V fun r h' => r = .int (nI (thr G n 0 v)) ∧ ∃ lr, h' = h ++ [.inr (27, [.int (nI n), .int lr, .int mc, .ref Lr])]) := by
  refine s_ildn (p' := 1) rfl rfl rfl ?_
  refine s_istn (p' := 2) (ls' := [_, _, _, _, _]) rfl rfl rfl rfl ?_
  refine s_aldn (p' := 3) rfl rfl rfl ?_
  refine s_gf (p' := 6) rfl hX rfl rfl ?_
  refine c_call (p' := 11) (kc := 2) (ls0 := [_]) rfl rfl rfl rfl rfl (mj_rcv_is hL) rfl rfl rfl ?_
  refine s_newz (p' := 3) (a := N) rfl hN rfl rfl ?_
  refine s_sp (p' := 4) (ls' := _) rfl rfl rfl ?_
  refine s_aldn (p' := 5) rfl rfl rfl ?_
  refine c_call (p' := 8) (kc := 1) (ls0 := [_, _]) rfl rfl rfl rfl rfl (mj_rcv_is (rd_a0 hN (by omega))) rfl rfl rfl ?_
  refine s_aldn (p' := 1) rfl rfl rfl ?_
  refine s_aldn (p' := 2) rfl rfl rfl ?_
  refine s_pf (p' := 5) (fs' := [_, _, _, _]) rfl (by omega) (rd_a0 hN (by omega)) (Nat.blt_eq.mp rfl) rfl rfl rfl ?_
  rw [set_a0 hN]
  refine s_aldn (p' := 6) rfl rfl rfl ?_
  refine s_primN (p' := 9) (q := 3) rfl rfl rfl rfl rfl rfl rfl rfl ?_
  refine s_aldn (p' := 10) rfl rfl rfl ?_
  refine s_con (p' := 11) rfl rfl ?_
  refine s_pf (p' := 14) (fs' := [_, _, _, _]) rfl (by omega) (rd_a0 hN (by omega)) (Nat.blt_eq.mp rfl) rfl rfl rfl ?_
  rw [set_a0 hN]
  refine s_aldn (p' := 15) rfl rfl rfl ?_
  refine s_aldn (p' := 16) rfl rfl rfl ?_
  refine s_gf (p' := 19) rfl (rd_a0 hN (by omega)) rfl rfl ?_
  refine s_gf (p' := 22) rfl (rd_app hL) rfl rfl ?_
  refine s_pf (p' := 25) (fs' := [_, _, _, _]) rfl (by omega) (rd_a0 hN (by omega)) (Nat.blt_eq.mp rfl) rfl rfl rfl ?_
  rw [set_a0 hN]
  refine c_ret rfl ?_
  refine c_aret rfl ?_
  refine s_astn (p' := 12) (ls' := [_, _, _, _, _]) rfl rfl rfl rfl ?_
  exact y_goL hN hb hL hE hG hn hcap hc31 n 0 v _ _ (by omega) hv
