/-! The class's search for least gates. -/
def wdN (o : Nat) (gs : List Nat) : Nat := gs.foldl (fun o g => wth g o) o
theorem wdN_n (o : Nat) : wdN o [] = o := rfl
theorem wdN_c (o g : Nat) (gs : List Nat) : wdN o (g :: gs) = wdN (wth g o) gs := rfl
def jn (o p : Nat) : Nat := wS (fun j => vP p (vP o j)) 8
theorem jn_at (o p : Nat) {j : Nat} (hj : j < 8) : vP (jn o p) j = vP p (vP o j) := wS_at 8 (fun i _ => vP_lt p _) j hj
theorem wth_at {g x j : Nat} (hg : g < 24) (hj : j < 8) : vP (wth g x) j = gt g (vP x j) := wS_at 8 (fun i _ => gt_lt hg (vP_lt x i)) j hj
theorem jn_wth {o p g : Nat} (hg : g < 24) : jn o (wth g p) = wth g (jn o p) := by
  show wS (fun j => vP (wth g p) (vP o j)) 8 = wS (fun j => gt g (vP (jn o p) j)) 8
  refine wS_cg 8 fun j hj => ?_
  rw [wth_at hg (vP_lt o j), jn_at o p hj]
theorem jn_id {o : Nat} (ho : o < 16777216) : jn o idN = o := by
  refine Eq.trans (wS_cg 8 fun j hj => ?_) (wS_eq ho)
  exact wS_at 8 (fun i hi => hi) _ (vP_lt o j)
theorem jn_wd (o : Nat) : ∀ (gs : List Nat) (p : Nat), (∀ g, g ∈ gs → isG g) → jn o (wdN p gs) = wdN (jn o p) gs
  | [], p, _ => by rw [wdN_n, wdN_n]
  | g :: gs, p, h => by
    rw [wdN_c, wdN_c, jn_wd o gs (wth g p) (fun a ha => h a (List.mem_cons_of_mem _ ha)), jn_wth (h g List.mem_cons_self).1]
theorem wdN_app (o : Nat) (a b : List Nat) : wdN o (a ++ b) = wdN (wdN o a) b := List.foldl_append
theorem rch_g : ∀ (k o : Nat), rch k o → ∃ gs : List Nat, gs.length = k ∧ (∀ g, g ∈ gs → isG g) ∧ o = wdN idN gs
  | 0, o, h => ⟨[], rfl, fun g hg => absurd hg List.not_mem_nil, by rw [wdN_n]; exact h⟩
  | k + 1, o, ⟨p, g, h, hg, e⟩ => by
    obtain ⟨gs, h1, h2, h3⟩ := rch_g k p h
    refine ⟨gs ++ [g], by rw [List.length_append, h1]; rfl, fun a ha => ?_, by rw [wdN_app, ← h3, wdN_c, wdN_n]; exact e⟩
    rcases List.mem_append.mp ha with q | q
    · exact h2 a q
    · rw [List.mem_singleton.mp q]; exact hg
theorem rch_wd : ∀ (gs : List Nat) (k o : Nat), rch k o → (∀ g, g ∈ gs → isG g) → rch (k + gs.length) (wdN o gs)
  | [], k, o, h, _ => by rw [wdN_n]; exact h
  | g :: gs, k, o, h, hg => by
    have := rch_wd gs (k + 1) (wth g o) ⟨o, g, h, hg g List.mem_cons_self, rfl⟩ (fun a ha => hg a (List.mem_cons_of_mem _ ha))
    rw [wdN_c, List.length_cons, show k + (gs.length + 1) = k + 1 + gs.length by omega]
    exact this
theorem wd_rev : ∀ (gs : List Nat) (o : Nat), o < 16777216 → (∀ g, g ∈ gs → isG g) → wdN (wdN o gs) gs.reverse = o
  | [], o, _, _ => by rw [List.reverse_nil, wdN_n, wdN_n]
  | g :: gs, o, ho, hg => by
    rw [List.reverse_cons, wdN_app, wdN_c, wdN_c, wdN_n, wd_rev gs (wth g o) (wth_lt (hg g List.mem_cons_self).1 o) (fun a ha => hg a (List.mem_cons_of_mem _ ha))]
    exact wth_wth (hg g List.mem_cons_self) ho
theorem rev_G {gs : List Nat} (h : ∀ g, g ∈ gs → isG g) : ∀ g, g ∈ gs.reverse → isG g := fun g hg => h g (List.mem_reverse.mp hg)
/-- what needs 4 + d gates is joined to what four can do by a row of d -/
theorem cmp_yes {o d : Nat} (h : LV (4 + d) o) : ∃ p m, LV d p ∧ m ≤ 4 ∧ LV m (jn o p) := by
  obtain ⟨gs, h1, h2, h3⟩ := rch_g _ o h.1
  have ha : ∀ g, g ∈ gs.take 4 → isG g := fun g hg => h2 g (List.mem_of_mem_take hg)
  have hb : ∀ g, g ∈ gs.drop 4 → isG g := fun g hg => h2 g (List.mem_of_mem_drop hg)
  have la : (gs.take 4).length = 4 := by rw [List.length_take]; omega
  have lb : (gs.drop 4).length = d := by rw [List.length_drop]; omega
  have e : o = wdN (wdN idN (gs.take 4)) (gs.drop 4) := by rw [← wdN_app, List.take_append_drop]; exact h3
  have r4 : rch 4 (wdN idN (gs.take 4)) := by
    have := rch_wd (gs.take 4) 0 idN rfl ha
    rw [la] at this
    exact this
  have rd : rch d (wdN idN (gs.drop 4).reverse) := by
    have := rch_wd (gs.drop 4).reverse 0 idN rfl (rev_G hb)
    rw [List.length_reverse, lb, Nat.zero_add] at this
    exact this
  have j1 : jn o (wdN idN (gs.drop 4).reverse) = wdN idN (gs.take 4) := by
    rw [jn_wd o _ idN (rev_G hb), jn_id h.1.pk.1]
    have := wd_rev (gs.drop 4) (wdN idN (gs.take 4)) r4.pk.1 hb
    rw [← e] at this
    exact this
  obtain ⟨m, _, hm⟩ := rch_8 r4.pk
  refine ⟨_, m, ⟨rd, fun j hj hr => ?_⟩, ?_, by rw [j1]; exact hm⟩
  · obtain ⟨c, c1, c2, c3⟩ := rch_g j _ hr
    have e2 : wdN o c = wdN idN (gs.take 4) := by
      rw [← j1, c3, jn_wd o c idN c2, jn_id h.1.pk.1]
    have e3 := wd_rev c o h.1.pk.1 c2
    rw [e2] at e3
    have := rch_wd c.reverse 4 _ r4 (rev_G c2)
    rw [e3, List.length_reverse, c1] at this
    exact h.2 (4 + j) (by omega) this
  · rcases Nat.lt_or_ge 4 m with q | q
    · exact absurd r4 (hm.2 4 q)
    · exact q
theorem cmp_no {o p d m : Nat} (ho : isPk o) (h : rch d p) (hj : rch m (jn o p)) : rch (m + d) o := by
  obtain ⟨c, c1, c2, c3⟩ := rch_g d p h
  have e2 : jn o p = wdN o c := by rw [c3, jn_wd o c idN c2, jn_id ho.1]
  have e3 := wd_rev c o ho.1 c2
  rw [← e2] at e3
  have := rch_wd c.reverse m _ hj (rev_G c2)
  rw [e3, List.length_reverse, c1] at this
  exact this
theorem jn_pk {o p : Nat} {d : Nat} (ho : isPk o) (h : rch d p) : isPk (jn o p) := by
  obtain ⟨c, c1, c2, c3⟩ := rch_g d p h
  have e2 : jn o p = wdN o c := by rw [c3, jn_wd o c idN c2, jn_id ho.1]
  rw [e2]
  have key : ∀ (c : List Nat) (o : Nat), isPk o → (∀ g, g ∈ c → isG g) → isPk (wdN o c) := by
    intro c
    induction c with
    | nil => exact fun o ho _ => by rw [wdN_n]; exact ho
    | cons g c ih => exact fun o ho hg => by rw [wdN_c]; exact ih (wth g o) (ho.g (hg g List.mem_cons_self)) (fun a ha => hg a (List.mem_cons_of_mem _ ha))
  exact key c o ho c2
theorem vP_I2 {o i : Nat} (ho : o < 2147483648) (hi : i < 8) : (nI o >>> ((nI 3 * nI i) &&& 31)) &&& nI 7 = nI (vP o i) := by
  rw [shrK (by omega) (sh3 hi) (by omega), nand, show (7 : Nat) = 2 ^ 3 - 1 from rfl, Nat.and_two_pow_sub_one_eq_mod, show (2 : Nat) ^ (3 * i) = 8 ^ i by rw [Nat.pow_mul]]
  rfl
theorem vP_kw {p l i : Nat} (hi : i < 8) : vP (p + l * 16777216) i = vP p i := by
  unfold vP
  rcases (by omega : i = 0 ∨ i = 1 ∨ i = 2 ∨ i = 3 ∨ i = 4 ∨ i = 5 ∨ i = 6 ∨ i = 7) with q | q | q | q | q | q | q | q <;> rw [q] <;> omega
theorem x_jnL2 {h : mj_H} {o p : Nat} (ho : o < 16777216) (hp : p < 2147483648) : ∀ (m i : Nat) (l4 : Option Value), i + m = 8 → mj_run 0 53 (4, [some (.int (nI o)), some (.int (nI p)), some (.int (nI (wS (fun j => vP p (vP o j)) i))), some (.int (nI i)), l4], [], h) (.inl (some (.int (nI (wS (fun j => vP p (vP o j)) 8)))), h)
  | 0, i, l4, he => by
    obtain rfl : i = 8 := by omega
    refine s_ildn (p' := 5) rfl rfl rfl ?_
    refine s_bip (p' := 7) rfl rfl ?_
    refine s_icmp (p' := 42) true rfl ((ci_ge (by omega) (by omega)).trans (decide_eq_true (by omega))) rfl ?_
    refine s_ildn (p' := 43) rfl rfl rfl ?_
    exact s_iret rfl rfl rfl
  | m + 1, i, l4, he => by
    have hi : i < 8 := by omega
    refine s_ildn (p' := 5) rfl rfl rfl ?_
    refine s_bip (p' := 7) rfl rfl ?_
    refine s_icmp (p' := 10) false rfl ((ci_ge (by omega) (by omega)).trans (decide_eq_false (by omega))) rfl ?_
    refine s_ildn (p' := 11) rfl rfl rfl ?_
    refine s_con (p' := 12) rfl rfl ?_
    refine s_ildn (p' := 13) rfl rfl rfl ?_
    refine s_sp (p' := 14) (ls' := _) rfl rfl rfl ?_
    refine s_sp (p' := 15) (ls' := _) rfl rfl rfl ?_
    refine s_bip (p' := 17) rfl rfl ?_
    refine s_sp (p' := 18) (ls' := _) rfl rfl rfl ?_
    rw [vP_I ho hi]
    refine s_ist (p' := 20) (ls' := [_, _, _, _, _]) rfl rfl rfl rfl ?_
    refine s_ildn (p' := 21) rfl rfl rfl ?_
    refine s_ildn (p' := 22) rfl rfl rfl ?_
    refine s_con (p' := 23) rfl rfl ?_
    refine s_ild (p' := 25) rfl rfl rfl ?_
    refine s_sp (p' := 26) (ls' := _) rfl rfl rfl ?_
    refine s_sp (p' := 27) (ls' := _) rfl rfl rfl ?_
    refine s_bip (p' := 29) rfl rfl ?_
    refine s_sp (p' := 30) (ls' := _) rfl rfl rfl ?_
    rw [vP_I2 hp (vP_lt o i)]
    refine s_con (p' := 31) rfl rfl ?_
    refine s_ildn (p' := 32) rfl rfl rfl ?_
    refine s_sp (p' := 33) (ls' := _) rfl rfl rfl ?_
    refine s_sp (p' := 34) (ls' := _) rfl rfl rfl ?_
    rw [shl3 (vP_lt p (vP o i)) hi]
    refine s_sp (p' := 35) (ls' := _) rfl rfl rfl ?_
    rw [nor, wS_or (F := (fun j => vP p (vP o j))) (fun j _ => vP_lt _ _)]
    refine s_istn (p' := 36) (ls' := [_, _, _, _, _]) rfl rfl rfl rfl ?_
    refine s_inc (p' := 39) (ls' := [_, _, _, _, _]) rfl rfl rfl rfl rfl ?_
    rw [mI_add]
    refine s_goto (p' := 4) rfl rfl ?_
    exact x_jnL2 ho hp m (i + 1) _ (by omega)
theorem x_jnd2 {h : mj_H} {o p : Nat} (ho : o < 16777216) (hp : p < 2147483648) : mj_run 0 53 (0, [some (.int (nI o)), some (.int (nI p)), none, none, none], [], h) (.inl (some (.int (nI (wS (fun j => vP p (vP o j)) 8)))), h) := by
  refine s_con (p' := 1) rfl rfl ?_
  refine s_istn (p' := 2) (ls' := [_, _, _, _, _]) rfl rfl rfl rfl ?_
  refine s_con (p' := 3) rfl rfl ?_
  refine s_istn (p' := 4) (ls' := [_, _, _, _, _]) rfl rfl rfl rfl ?_
  exact x_jnL2 ho hp 8 0 none rfl
theorem x_jnk {h : mj_H} {o p l : Nat} (ho : o < 16777216) (hp : isPk p) (hl : l ≤ 4) : mj_run 0 53 (0, [some (.int (nI o)), some (.int (kw p l)), none, none, none], [], h) (.inl (some (.int (nI (jn o p)))), h) := by
  have h1 := hp.1
  have e : wS (fun j => vP (p + l * 16777216) (vP o j)) 8 = jn o p := wS_cg 8 fun j _ => vP_kw (vP_lt o j)
  have := x_jnd2 (h := h) ho (show p + l * 16777216 < 2147483648 by omega)
  rw [e] at this
  exact this
theorem x_ic_z {R : mj_O × mj_H} {h : mj_H} {S T o d i : Nat} {f : Nat → Int32} (hS : mj_rd h S = some (.inr (10, [.ref T]))) (hT : mj_rd h T = some (.inl (0, (8192, .inl f)))) (hi : i < 8192) (hd : d < 100) (z : f i = 0) (ih : mj_run 3 52 (2, [some (.ref S), some (.int (nI o)), some (.int (nI d)), some (.int (nI (i + 1)))], [], h) R) : mj_run 3 52 (2, [some (.ref S), some (.int (nI o)), some (.int (nI d)), some (.int (nI i))], [], h) R := by
  refine s_ildn (p' := 3) rfl rfl rfl ?_
  refine s_aldn (p' := 4) rfl rfl rfl ?_
  refine s_gf (p' := 7) rfl hS rfl rfl ?_
  refine s_len (p' := 8) rfl (mj_rdA_is hT (by decide)) (by decide) rfl ?_
  refine s_icmp (p' := 11) false rfl ((ci_ge (by omega) (by omega)).trans (decide_eq_false (by omega))) rfl ?_
  refine s_aldn (p' := 12) rfl rfl rfl ?_
  refine s_gf (p' := 15) rfl hS rfl rfl ?_
  refine s_ildn (p' := 16) rfl rfl rfl ?_
  refine s_ial (p' := 17) rfl hT (inb_nI (by omega) (by omega)) rfl ?_
  rw [mI_cl (by omega), z]
  refine s_if (p' := 52) true rfl (by decide +kernel) rfl ?_
  refine s_inc (p' := 55) (ls' := [_, _, _, _]) rfl rfl rfl rfl rfl ?_
  rw [mI_add]
  refine s_goto (p' := 2) rfl rfl ?_
  exact ih
theorem x_ic_l {R : mj_O × mj_H} {h : mj_H} {S T o d i : Nat} {f : Nat → Int32} (hS : mj_rd h S = some (.inr (10, [.ref T]))) (hT : mj_rd h T = some (.inl (0, (8192, .inl f)))) (hi : i < 8192) (hd : d < 100) {p l : Nat} (k : tK f i p l) (hl : l ≠ d) (ih : mj_run 3 52 (2, [some (.ref S), some (.int (nI o)), some (.int (nI d)), some (.int (nI (i + 1)))], [], h) R) : mj_run 3 52 (2, [some (.ref S), some (.int (nI o)), some (.int (nI d)), some (.int (nI i))], [], h) R := by
  refine s_ildn (p' := 3) rfl rfl rfl ?_
  refine s_aldn (p' := 4) rfl rfl rfl ?_
  refine s_gf (p' := 7) rfl hS rfl rfl ?_
  refine s_len (p' := 8) rfl (mj_rdA_is hT (by decide)) (by decide) rfl ?_
  refine s_icmp (p' := 11) false rfl ((ci_ge (by omega) (by omega)).trans (decide_eq_false (by omega))) rfl ?_
  refine s_aldn (p' := 12) rfl rfl rfl ?_
  refine s_gf (p' := 15) rfl hS rfl rfl ?_
  refine s_ildn (p' := 16) rfl rfl rfl ?_
  refine s_ial (p' := 17) rfl hT (inb_nI (by omega) (by omega)) rfl ?_
  rw [mI_cl (by omega), k.1]
  refine s_if (p' := 20) false rfl (decide_eq_false (kw_ne k.2.1 k.2.2)) rfl ?_
  refine s_aldn (p' := 21) rfl rfl rfl ?_
  refine s_gf (p' := 24) rfl hS rfl rfl ?_
  refine s_ildn (p' := 25) rfl rfl rfl ?_
  refine s_ial (p' := 26) rfl hT (inb_nI (by omega) (by omega)) rfl ?_
  rw [mI_cl (by omega), k.1]
  refine s_bip (p' := 28) rfl rfl ?_
  refine s_sp (p' := 29) (ls' := _) rfl rfl rfl ?_
  rw [kw_lv k.2.1 k.2.2]
  refine s_ildn (p' := 30) rfl rfl rfl ?_
  refine s_icmp (p' := 52) true rfl ((ci_ne (by have := k.2.2; omega) (by omega)).trans (decide_eq_true hl)) rfl ?_
  refine s_inc (p' := 55) (ls' := [_, _, _, _]) rfl rfl rfl rfl rfl ?_
  rw [mI_add]
  refine s_goto (p' := 2) rfl rfl ?_
  exact ih
theorem x_ic_n {R : mj_O × mj_H} {h : mj_H} {S T o d i : Nat} {f : Nat → Int32} (hS : mj_rd h S = some (.inr (10, [.ref T]))) (hT : mj_rd h T = some (.inl (0, (8192, .inl f)))) (hi : i < 8192) (hd : d < 100) {p l : Nat} (k : tK f i p l) (hl : l = d) (ho : o < 16777216) (hk : gkept f (nI (jn o p)) = 0) (ih : mj_run 3 52 (2, [some (.ref S), some (.int (nI o)), some (.int (nI d)), some (.int (nI (i + 1)))], [], h) R) : mj_run 3 52 (2, [some (.ref S), some (.int (nI o)), some (.int (nI d)), some (.int (nI i))], [], h) R := by
  refine s_ildn (p' := 3) rfl rfl rfl ?_
  refine s_aldn (p' := 4) rfl rfl rfl ?_
  refine s_gf (p' := 7) rfl hS rfl rfl ?_
  refine s_len (p' := 8) rfl (mj_rdA_is hT (by decide)) (by decide) rfl ?_
  refine s_icmp (p' := 11) false rfl ((ci_ge (by omega) (by omega)).trans (decide_eq_false (by omega))) rfl ?_
  refine s_aldn (p' := 12) rfl rfl rfl ?_
  refine s_gf (p' := 15) rfl hS rfl rfl ?_
  refine s_ildn (p' := 16) rfl rfl rfl ?_
  refine s_ial (p' := 17) rfl hT (inb_nI (by omega) (by omega)) rfl ?_
  rw [mI_cl (by omega), k.1]
  refine s_if (p' := 20) false rfl (decide_eq_false (kw_ne k.2.1 k.2.2)) rfl ?_
  refine s_aldn (p' := 21) rfl rfl rfl ?_
  refine s_gf (p' := 24) rfl hS rfl rfl ?_
  refine s_ildn (p' := 25) rfl rfl rfl ?_
  refine s_ial (p' := 26) rfl hT (inb_nI (by omega) (by omega)) rfl ?_
  rw [mI_cl (by omega), k.1]
  refine s_bip (p' := 28) rfl rfl ?_
  refine s_sp (p' := 29) (ls' := _) rfl rfl rfl ?_
  rw [kw_lv k.2.1 k.2.2]
  refine s_ildn (p' := 30) rfl rfl rfl ?_
  refine s_icmp (p' := 33) false rfl ((ci_ne (by have := k.2.2; omega) (by omega)).trans (decide_eq_false (fun z => z hl))) rfl ?_
  refine s_aldn (p' := 34) rfl rfl rfl ?_
  refine s_ildn (p' := 35) rfl rfl rfl ?_
  refine s_aldn (p' := 36) rfl rfl rfl ?_
  refine s_gf (p' := 39) rfl hS rfl rfl ?_
  refine s_ildn (p' := 40) rfl rfl rfl ?_
  refine s_ial (p' := 41) rfl hT (inb_nI (by omega) (by omega)) rfl ?_
  rw [mI_cl (by omega), k.1]
  refine s_callV (p' := 44) (ls0 := [_, _, _, _, _]) rfl rfl rfl rfl rfl rfl rfl (x_jnk ho k.2.1 k.2.2) (by first | decide | omega) rfl ?_
  refine s_callV (p' := 47) (ls0 := [_, _]) rfl rfl rfl rfl rfl (mj_rcv_is hS) rfl (x_kept hS hT) (by first | decide | omega) rfl ?_
  rw [hk]
  refine s_if (p' := 52) true rfl (by decide +kernel) rfl ?_
  refine s_inc (p' := 55) (ls' := [_, _, _, _]) rfl rfl rfl rfl rfl ?_
  rw [mI_add]
  refine s_goto (p' := 2) rfl rfl ?_
  exact ih
theorem x_ic_y {h : mj_H} {S T o d i : Nat} {f : Nat → Int32} (hS : mj_rd h S = some (.inr (10, [.ref T]))) (hT : mj_rd h T = some (.inl (0, (8192, .inl f)))) (hi : i < 8192) (hd : d < 100) {p l : Nat} (k : tK f i p l) (hl : l = d) (ho : o < 16777216) (hk : gkept f (nI (jn o p)) ≠ 0) : mj_run 3 52 (2, [some (.ref S), some (.int (nI o)), some (.int (nI d)), some (.int (nI i))], [], h) (.inl (some (.int (nI 1))), h) := by
  refine s_ildn (p' := 3) rfl rfl rfl ?_
  refine s_aldn (p' := 4) rfl rfl rfl ?_
  refine s_gf (p' := 7) rfl hS rfl rfl ?_
  refine s_len (p' := 8) rfl (mj_rdA_is hT (by decide)) (by decide) rfl ?_
  refine s_icmp (p' := 11) false rfl ((ci_ge (by omega) (by omega)).trans (decide_eq_false (by omega))) rfl ?_
  refine s_aldn (p' := 12) rfl rfl rfl ?_
  refine s_gf (p' := 15) rfl hS rfl rfl ?_
  refine s_ildn (p' := 16) rfl rfl rfl ?_
  refine s_ial (p' := 17) rfl hT (inb_nI (by omega) (by omega)) rfl ?_
  rw [mI_cl (by omega), k.1]
  refine s_if (p' := 20) false rfl (decide_eq_false (kw_ne k.2.1 k.2.2)) rfl ?_
  refine s_aldn (p' := 21) rfl rfl rfl ?_
  refine s_gf (p' := 24) rfl hS rfl rfl ?_
  refine s_ildn (p' := 25) rfl rfl rfl ?_
  refine s_ial (p' := 26) rfl hT (inb_nI (by omega) (by omega)) rfl ?_
  rw [mI_cl (by omega), k.1]
  refine s_bip (p' := 28) rfl rfl ?_
  refine s_sp (p' := 29) (ls' := _) rfl rfl rfl ?_
  rw [kw_lv k.2.1 k.2.2]
  refine s_ildn (p' := 30) rfl rfl rfl ?_
  refine s_icmp (p' := 33) false rfl ((ci_ne (by have := k.2.2; omega) (by omega)).trans (decide_eq_false (fun z => z hl))) rfl ?_
  refine s_aldn (p' := 34) rfl rfl rfl ?_
  refine s_ildn (p' := 35) rfl rfl rfl ?_
  refine s_aldn (p' := 36) rfl rfl rfl ?_
  refine s_gf (p' := 39) rfl hS rfl rfl ?_
  refine s_ildn (p' := 40) rfl rfl rfl ?_
  refine s_ial (p' := 41) rfl hT (inb_nI (by omega) (by omega)) rfl ?_
  rw [mI_cl (by omega), k.1]
  refine s_callV (p' := 44) (ls0 := [_, _, _, _, _]) rfl rfl rfl rfl rfl rfl rfl (x_jnk ho k.2.1 k.2.2) (by first | decide | omega) rfl ?_
  refine s_callV (p' := 47) (ls0 := [_, _]) rfl rfl rfl rfl rfl (mj_rcv_is hS) rfl (x_kept hS hT) (by first | decide | omega) rfl ?_
  refine s_if (p' := 50) false rfl (decide_eq_false hk) rfl ?_
  refine s_con (p' := 51) rfl rfl ?_
  exact s_iret rfl rfl rfl
theorem x_ic_e {h : mj_H} {S T o d i : Nat} {f : Nat → Int32} (hS : mj_rd h S = some (.inr (10, [.ref T]))) (hT : mj_rd h T = some (.inl (0, (8192, .inl f)))) (hi : i = 8192) (hd : d < 100) : mj_run 3 52 (2, [some (.ref S), some (.int (nI o)), some (.int (nI d)), some (.int (nI i))], [], h) (.inl (some (.int (nI 0))), h) := by
  refine s_ildn (p' := 3) rfl rfl rfl ?_
  refine s_aldn (p' := 4) rfl rfl rfl ?_
  refine s_gf (p' := 7) rfl hS rfl rfl ?_
  refine s_len (p' := 8) rfl (mj_rdA_is hT (by decide)) (by decide) rfl ?_
  refine s_icmp (p' := 58) true rfl ((ci_ge (by omega) (by omega)).trans (decide_eq_true (by omega))) rfl ?_
  refine s_con (p' := 59) rfl rfl ?_
  exact s_iret rfl rfl rfl
theorem x_icN {h : mj_H} {S T o d : Nat} {f : Nat → Int32} (hS : mj_rd h S = some (.inr (10, [.ref T]))) (hT : mj_rd h T = some (.inl (0, (8192, .inl f)))) (hd : d < 100) (hI : tI f) (ho : o < 16777216) (hn : ∀ s p, s < 8192 → tK f s p d → gkept f (nI (jn o p)) = 0) : ∀ (m i : Nat), i + m = 8192 → mj_run 3 52 (2, [some (.ref S), some (.int (nI o)), some (.int (nI d)), some (.int (nI i))], [], h) (.inl (some (.int (nI 0))), h)
  | 0, i, he => x_ic_e hS hT (by omega) hd
  | m + 1, i, he => by
    have ih := x_icN hS hT hd hI ho hn m (i + 1) (by omega)
    rcases hI.1 i (by omega) with z | ⟨p, l, k⟩
    · exact x_ic_z hS hT (by omega) hd z ih
    · by_cases hl : l = d
      · exact x_ic_n hS hT (by omega) hd k hl ho (hn i p (by omega) (by rw [← hl]; exact k)) ih
      · exact x_ic_l hS hT (by omega) hd k hl ih
theorem x_icY {h : mj_H} {S T o d : Nat} {f : Nat → Int32} (hS : mj_rd h S = some (.inr (10, [.ref T]))) (hT : mj_rd h T = some (.inl (0, (8192, .inl f)))) (hd : d < 100) (hI : tI f) (ho : o < 16777216) {s p : Nat} (hs_ : s < 8192) (ks : tK f s p d) (hy : gkept f (nI (jn o p)) ≠ 0) : ∀ (m i : Nat), i + m = s → mj_run 3 52 (2, [some (.ref S), some (.int (nI o)), some (.int (nI d)), some (.int (nI i))], [], h) (.inl (some (.int (nI 1))), h)
  | 0, i, he => by
    obtain rfl : i = s := by omega
    exact x_ic_y hS hT hs_ hd ks rfl ho hy
  | m + 1, i, he => by
    have ih := x_icY hS hT hd hI ho hs_ ks hy m (i + 1) (by omega)
    rcases hI.1 i (by omega) with z | ⟨q, l, k⟩
    · exact x_ic_z hS hT (by omega) hd z ih
    · by_cases hl : l = d
      · by_cases w : gkept f (nI (jn o q)) = 0
        · exact x_ic_n hS hT (by omega) hd k hl ho w ih
        · exact x_ic_y hS hT (by omega) hd k hl ho w
      · exact x_ic_l hS hT (by omega) hd k hl ih
theorem x_icd1 {h : mj_H} {S T o k d : Nat} (hS : mj_rd h S = some (.inr (10, [.ref T]))) (hT : mj_rd h T = some (.inl (0, (8192, .inl (gfill fun _ => 0))))) (hv : LV (4 + d) o) (hd : d ≤ 4) : mj_run 3 52 (0, [some (.ref S), some (.int (nI o)), some (.int (nI d)), none], [], h) (.inl (some (.int (nI 1))), h) := by
  refine s_con (p' := 1) rfl rfl ?_
  refine s_istn (p' := 2) (ls' := [_, _, _, _]) rfl rfl rfl rfl ?_
  obtain ⟨p, m, h1, h2, h3⟩ := cmp_yes hv
  obtain ⟨s, h4, h5⟩ := tP_T.2.2 p d (by omega) hd h1
  exact x_icY hS hT (by omega) tP_T.1 hv.1.pk.1 h4 h5 (by rw [T_y h2 h3]; exact kw_ne h3.1.pk h2) s 0 (Nat.zero_add s)
theorem x_icd0 {h : mj_H} {S T o k d : Nat} (hS : mj_rd h S = some (.inr (10, [.ref T]))) (hT : mj_rd h T = some (.inl (0, (8192, .inl (gfill fun _ => 0))))) (hv : LV k o) (hd : 4 + d < k) : mj_run 3 52 (0, [some (.ref S), some (.int (nI o)), some (.int (nI d)), none], [], h) (.inl (some (.int (nI 0))), h) := by
  refine s_con (p' := 1) rfl rfl ?_
  refine s_istn (p' := 2) (ls' := [_, _, _, _]) rfl rfl rfl rfl ?_
  exact x_icN hS hT (by obtain ⟨j, hj, h2⟩ := rch_8 hv.1.pk; have := h2.one hv; omega) tP_T.1 hv.1.pk.1 (fun s p h1 h2 => by
    have h3 := (tP_T.2.1 s p d h1 h2).2
    have h4 := jn_pk hv.1.pk h3.1
    obtain ⟨m, _, hm⟩ := rch_8 h4
    rcases Nat.lt_or_ge 4 m with q | q
    · exact T_n q hm
    · exact absurd (cmp_no hv.1.pk h3.1 hm.1) (hv.2 (m + d) (by omega))) 8192 0 rfl
theorem x_fdL {h : mj_H} {S T o k : Nat} (hS : mj_rd h S = some (.inr (10, [.ref T]))) (hT : mj_rd h T = some (.inl (0, (8192, .inl (gfill fun _ => 0))))) (hv : LV k o) (hk : k ≤ 8) : ∀ (m g : Nat), g + m = 4 → 1 ≤ g → 4 + g ≤ k → mj_run 5 44 (30, [some (.ref S), some (.int (nI o)), some (.int (nI 0)), some (.int (nI g))], [], h) (.inl (some (.int (nI k))), h)
  | 0, g, he, h1, h2 => by
    obtain rfl : g = 4 := by omega
    obtain rfl : k = 8 := by omega
    refine s_ildn (p' := 31) rfl rfl rfl ?_
    refine s_con (p' := 32) rfl rfl ?_
    refine s_icmp (p' := 54) true rfl ((ci_ge (by omega) (by omega)).trans (decide_eq_true (by omega))) rfl ?_
    refine s_bip (p' := 56) rfl rfl ?_
    exact s_iret rfl rfl rfl
  | m + 1, g, he, h1, h2 => by
    by_cases z : k = 4 + g
    · rw [z] at hv ⊢
      refine s_ildn (p' := 31) rfl rfl rfl ?_
      refine s_con (p' := 32) rfl rfl ?_
      refine s_icmp (p' := 35) false rfl ((ci_ge (by omega) (by omega)).trans (decide_eq_false (by omega))) rfl ?_
      refine s_aldn (p' := 36) rfl rfl rfl ?_
      refine s_ildn (p' := 37) rfl rfl rfl ?_
      refine s_ildn (p' := 38) rfl rfl rfl ?_
      refine s_callV (p' := 41) (ls0 := [_, _, _, _]) rfl rfl rfl rfl rfl (mj_rcv_is hS) rfl (x_icd1 (k := k) hS hT hv (by omega)) (by first | decide | omega) rfl ?_
      refine s_if (p' := 44) false rfl (by decide +kernel) rfl ?_
      refine s_con (p' := 45) rfl rfl ?_
      refine s_ildn (p' := 46) rfl rfl rfl ?_
      refine s_sp (p' := 47) (ls' := _) rfl rfl rfl ?_
      rw [mI_add]
      exact s_iret rfl rfl rfl
    · have ih := x_fdL hS hT hv hk m (g + 1) (by omega) (by omega) (by omega)
      refine s_ildn (p' := 31) rfl rfl rfl ?_
      refine s_con (p' := 32) rfl rfl ?_
      refine s_icmp (p' := 35) false rfl ((ci_ge (by omega) (by omega)).trans (decide_eq_false (by omega))) rfl ?_
      refine s_aldn (p' := 36) rfl rfl rfl ?_
      refine s_ildn (p' := 37) rfl rfl rfl ?_
      refine s_ildn (p' := 38) rfl rfl rfl ?_
      refine s_callV (p' := 41) (ls0 := [_, _, _, _]) rfl rfl rfl rfl rfl (mj_rcv_is hS) rfl (x_icd0 hS hT hv (by omega)) (by first | decide | omega) rfl ?_
      refine s_if (p' := 48) true rfl (by decide +kernel) rfl ?_
      refine s_inc (p' := 51) (ls' := [_, _, _, _]) rfl rfl rfl rfl rfl ?_
      rw [mI_add]
      refine s_goto (p' := 30) rfl rfl ?_
      exact ih
theorem x_fd2 {h : mj_H} {S T o k : Nat} (hS : mj_rd h S = some (.inr (10, [.ref T]))) (hT : mj_rd h T = some (.inl (0, (8192, .inl (gfill fun _ => 0))))) (hv : LV k o) : mj_run 5 44 (13, [some (.ref S), some (.int (nI o)), none, none], [], h) (.inl (some (.int (nI k))), h) := by
  have hk : k ≤ 8 := by obtain ⟨j, hj, h2⟩ := rch_8 hv.1.pk; have := h2.one hv; omega
  by_cases z : k ≤ 4
  · refine s_aldn (p' := 14) rfl rfl rfl ?_
    refine s_ildn (p' := 15) rfl rfl rfl ?_
    refine s_callV (p' := 18) (ls0 := [_, _]) rfl rfl rfl rfl rfl (mj_rcv_is hS) rfl (x_kept hS hT) (by first | decide | omega) rfl ?_
    rw [T_y z hv]
    refine s_istn (p' := 19) (ls' := [_, _, _, _]) rfl rfl rfl rfl ?_
    refine s_ildn (p' := 20) rfl rfl rfl ?_
    refine s_if (p' := 23) false rfl (decide_eq_false (kw_ne hv.1.pk z)) rfl ?_
    refine s_ildn (p' := 24) rfl rfl rfl ?_
    refine s_bip (p' := 26) rfl rfl ?_
    refine s_sp (p' := 27) (ls' := _) rfl rfl rfl ?_
    rw [kw_lv hv.1.pk z]
    exact s_iret rfl rfl rfl
  · refine s_aldn (p' := 14) rfl rfl rfl ?_
    refine s_ildn (p' := 15) rfl rfl rfl ?_
    refine s_callV (p' := 18) (ls0 := [_, _]) rfl rfl rfl rfl rfl (mj_rcv_is hS) rfl (x_kept hS hT) (by first | decide | omega) rfl ?_
    rw [T_n (by omega) hv]
    refine s_istn (p' := 19) (ls' := [_, _, _, _]) rfl rfl rfl rfl ?_
    refine s_ildn (p' := 20) rfl rfl rfl ?_
    refine s_if (p' := 28) true rfl (by decide +kernel) rfl ?_
    refine s_con (p' := 29) rfl rfl ?_
    refine s_istn (p' := 30) (ls' := [_, _, _, _]) rfl rfl rfl rfl ?_
    exact x_fdL hS hT hv hk 3 1 rfl (by omega) (by omega)
theorem cs_8 (a b : Nat → Int32) : mj_cs (.inl (0, (8192, .inl a))) = mj_cs (.inl (0, (8192, .inl b))) := rfl
theorem gkept_0 : gkept (fun _ => 0) (nI 16434824) = 0 := by
  unfold gkept
  rw [gslot_0]
  decide +kernel
theorem x_fnd0 {h : mj_H} {S T o k : Nat} {f : Nat → Int32} (hS : mj_rd h S = some (.inr (10, [.ref T]))) (hT : mj_rd h T = some (.inl (0, (8192, .inl f)))) (bT : T < mj_CB) (hST : S ≠ T) (hv : LV k o) (hf : f = fun _ => 0) : mj_Wp 5 44 (0, [some (.ref S), some (.int (nI o)), none, none], [], h) (mz_V fun r g => r = .int (nI k) ∧ mj_rd g T = some (.inl (0, (8192, .inl (gfill fun _ => 0)))) ∧ mz_mo [T] 0 0 h g) := by
  refine s_aldn (p' := 1) rfl rfl rfl ?_
  refine s_sh (p' := 3) (ls' := _) (st' := .int (nI 16434824) :: _) (h' := _) rfl rfl rfl rfl ?_
  refine s_callV (p' := 6) (ls0 := [_, _]) rfl rfl rfl rfl rfl (mj_rcv_is hS) rfl (x_kept hS hT) (by first | decide | omega) rfl ?_
  rw [hf, gkept_0]
  refine s_if (p' := 9) false rfl (by decide +kernel) rfl ?_
  refine s_aldn (p' := 10) rfl rfl rfl ?_
  refine s_callN (p' := 13) (ls0 := [_, _, _]) rfl rfl rfl rfl rfl (mj_rcv_is hS) rfl (x_gfill bT hST hS hT) (by first | decide | omega) rfl ?_
  have m1 : mz_mo [T] 0 0 h (h.set T (.inl (0, (8192, .inl (gfill f))))) := mz_mo.st bT hT (cs_8 _ _)
  have hT1 : mj_rd (h.set T (.inl (0, (8192, .inl (gfill f))))) T = some (.inl (0, (8192, .inl (gfill f)))) := rd_set bT hT
  have hS1 := m1.1 S (fun q => hST (List.mem_singleton.mp q)) _ hS
  rw [hf] at m1 hT1 hS1 ⊢
  refine (x_fd2 hS1 hT1 hv).imp ?_
  rintro _ rfl
  exact ⟨_, _, rfl, rfl, hT1, m1⟩
theorem x_fnd1 {h : mj_H} {S T o k : Nat} {f : Nat → Int32} (hS : mj_rd h S = some (.inr (10, [.ref T]))) (hT : mj_rd h T = some (.inl (0, (8192, .inl f)))) (bT : T < mj_CB) (hST : S ≠ T) (hv : LV k o) (hf : f = gfill fun _ => 0) : mj_Wp 5 44 (0, [some (.ref S), some (.int (nI o)), none, none], [], h) (mz_V fun r g => r = .int (nI k) ∧ mj_rd g T = some (.inl (0, (8192, .inl (gfill fun _ => 0)))) ∧ mz_mo [T] 0 0 h g) := by
  refine s_aldn (p' := 1) rfl rfl rfl ?_
  refine s_sh (p' := 3) (ls' := _) (st' := .int (nI 16434824) :: _) (h' := _) rfl rfl rfl rfl ?_
  refine s_callV (p' := 6) (ls0 := [_, _]) rfl rfl rfl rfl rfl (mj_rcv_is hS) rfl (x_kept hS hT) (by first | decide | omega) rfl ?_
  rw [hf, gkept_id]
  refine s_if (p' := 13) true rfl (by decide +kernel) rfl ?_
  rw [hf] at hT
  refine (x_fd2 hS hT hv).imp ?_
  rintro _ rfl
  exact ⟨_, _, rfl, rfl, hT, mz_mo.rf _ _ _ _⟩
