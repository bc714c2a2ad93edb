/-! The class is sound; the mean size. -/
def bk (d : Nat → Nat) : Nat → Nat → Nat
  | 0, x => x
  | m + 1, x => bk d m (gt (d m) x)
theorem bk_cg {d e : Nat → Nat} : ∀ (m x : Nat), (∀ j, j < m → d j = e j) → bk d m x = bk e m x
  | 0, _, _ => rfl
  | m + 1, x, h => by
    rw [bk, bk, h m (Nat.lt_succ_self m)]
    exact bk_cg m _ fun j hj => h j (by omega)
def mkJ (r : Nat → Nat) (v : Nat) (s : (Nat → Nat) × (Nat → Nat) × Nat) : Prop := okS s ∧ (∀ w u, w < 8 → u < 8 → s.1 w = s.1 u → w = u) ∧ (∀ w, w < v → s.1 w = w) ∧ ∀ w, w < 8 → bk s.2.1 s.2.2 (s.1 w) = r w
theorem ngt_low {v x w : Nat} (hv : v < 8) (hx : x < 8) (hw : w < v) (h : v ≤ x) (e : x ≠ v) : gt (ngt v x) w = w := by
  have key : ∀ b : Nat, b < 8 → a88 (fun v x => decide (b < v → v ≤ x → x ≠ v → gt (ngt v x) b = b)) = true := by decide +kernel
  exact of_decide_eq_true (a88_of (key w (by omega)) hv hx) hw h e
theorem mkJ.st {r : Nat → Nat} {v : Nat} (hv : v < 8) {s : (Nat → Nat) × (Nat → Nat) × Nat} (j : mkJ r v s) (e : s.1 v ≠ v) : mkJ r v (stG v s) := by
  obtain ⟨h1, h2, h3, h4⟩ := j
  have hx := h1.1 v hv
  have hge : v ≤ s.1 v := by
    rcases Nat.lt_or_ge (s.1 v) v with q | q
    · exact absurd (h2 _ _ hx hv (h3 _ q)) e
    · exact q
  have hn := ngt_ok hv hx e
  refine ⟨okS_st hv h1 e, fun w u hw hu q => ?_, fun w hw => ?_, fun w hw => ?_⟩
  · have q : gt (ngt v (s.1 v)) (s.1 w) = gt (ngt v (s.1 v)) (s.1 u) := q
    refine h2 w u hw hu ?_
    rw [← gt_gt hn.1.1 hn.1.2 (h1.1 w hw), q, gt_gt hn.1.1 hn.1.2 (h1.1 u hu)]
  · show gt (ngt v (s.1 v)) (s.1 w) = w
    rw [h3 w hw]
    exact ngt_low hv hx hw hge e
  · show bk (upN s.2.1 s.2.2 (ngt v (s.1 v))) (s.2.2 + 1) (gt (ngt v (s.1 v)) (s.1 w)) = r w
    rw [bk, show upN s.2.1 s.2.2 (ngt v (s.1 v)) s.2.2 = ngt v (s.1 v) from if_pos rfl, gt_gt hn.1.1 hn.1.2 (h1.1 w hw), ← h4 w hw]
    exact bk_cg _ _ fun j hj => if_neg (by omega)
theorem mkJ_S {r : Nat → Nat} {v : Nat} (hv : v < 8) : ∀ (k : Nat) (s : (Nat → Nat) × (Nat → Nat) × Nat), mkJ r v s → mkJ r v (mkS v k s)
  | 0, _, j => j
  | k + 1, s, j => by
    by_cases e : s.1 v = v
    · rw [mkS_v e]; exact j
    · have e2 : mkS v (k + 1) s = mkS v k (stG v s) := if_neg e
      rw [e2]
      exact mkJ_S hv k _ (j.st hv e)
theorem mkJ_A {r : Nat → Nat} : ∀ (k v : Nat) (s : (Nat → Nat) × (Nat → Nat) × Nat), v + k = 8 → mkJ r v s → mkJ r 8 (mkA k v s)
  | 0, v, s, h, j => by
    obtain rfl : v = 8 := by omega
    exact j
  | k + 1, v, s, h, j => by
    have hv : v < 8 := by omega
    have j2 := mkJ_S hv 3 s j
    have e := (mkS_ok hv 3 s j.1 (dst_3 hv (j.1.1 v hv)).1).2.1
    refine mkJ_A k (v + 1) _ (by omega) ⟨j2.1, j2.2.1, fun w hw => ?_, j2.2.2.2⟩
    by_cases q : w = v
    · subst q; exact e
    · exact j2.2.2.1 w (by omega)
/-- what was made does the same -/
theorem mkG_J {G : Nat → Nat} {n : Nat} (hG : ∀ j, j < n → isG (G j)) {w : Nat} (hw : w < 8) : bk (mkG G n).2.1 (mkG G n).2.2 w = thr G n 0 w := by
  have j := mkJ_A (r := fun w => thr G n 0 w) 8 0 (fun w => thr G n 0 w, fun _ => 0, 0) rfl ⟨⟨fun w hw => thr_lt (fun j hj => (hG j hj).1) n 0 w (by omega) hw, fun j hj => absurd hj (Nat.not_lt_zero j)⟩, fun w u hw hu e => thr_inj hG n 0 w u (by omega) hw hu e, fun w h => absurd h (Nat.not_lt_zero w), fun w _ => rfl⟩
  have e := j.2.2.2 w hw
  rw [j.2.2.1 w hw] at e
  exact e
theorem bthr_thr {G : Nat → Nat} {n : Nat} (hG : ∀ j, j < n → isG (G j)) : ∀ (k j v : Nat), j + k = n → v < 8 → bthr G n (thr G k j v) = bthr G j v
  | 0, j, v, h, _ => by
    obtain rfl : j = n := by omega
    rfl
  | k + 1, j, v, h, hv => by
    have hg := hG j (by omega)
    rw [thr, bthr_thr hG k (j + 1) _ (by omega) (gt_lt hg.1 hv), bthr, gt_gt hg.1 hg.2 hv]
theorem x_moL {h : mj_H} {C R O D n : Nat} {s : (Nat → Nat) × (Nat → Nat) × Nat} (hC : mj_rd h C = some (.inr (9, [.ref R, .ref O, .ref D, .int (nI n), .int (nI s.2.2)]))) {df : Nat → Int32} (hD : mj_rd h D = some (.inl (0, (24, .inl df)))) (hd : ∀ j, j < s.2.2 → df j = nI (s.2.1 j) ∧ isG (s.2.1 j)) (hm : s.2.2 ≤ 24)  {v0 : Int32} : ∀ (m i v : Nat), i + m = s.2.2 → v < 8 → mj_run 2 108 (4, [some (.ref C), some (.int v0), some (.int (nI v)), some (.int (nI i))], [], h) (.inl (some (.int (nI (bk s.2.1 m v)))), h)
  | 0, i, v, hi, hv => by
    refine s_ildn (p' := 5) rfl rfl rfl ?_
    refine s_aldn (p' := 6) rfl rfl rfl ?_
    refine s_gf (p' := 9) rfl hC rfl rfl ?_
    refine s_icmp (p' := 28) true rfl ((ci_ge (by omega) (by omega)).trans (decide_eq_true (by omega))) rfl ?_
    refine s_ildn (p' := 29) rfl rfl rfl ?_
    exact s_iret rfl rfl rfl
  | m + 1, i, v, hi, hv => by
    refine s_ildn (p' := 5) rfl rfl rfl ?_
    refine s_aldn (p' := 6) rfl rfl rfl ?_
    refine s_gf (p' := 9) rfl hC rfl rfl ?_
    refine s_icmp (p' := 12) false rfl ((ci_ge (by omega) (by omega)).trans (decide_eq_false (by omega))) rfl ?_
    refine s_aldn (p' := 13) rfl rfl rfl ?_
    refine s_ildn (p' := 14) rfl rfl rfl ?_
    refine s_callV (p' := 17) (ls0 := [_, _, _]) rfl rfl rfl rfl rfl (mj_rcv_is hC) rfl (x_mgt hC hD (by omega) hm) (by first | decide | omega) rfl ?_
    rw [show s.2.2 - 1 - i = m by omega, (hd m (by omega)).1]
    refine s_ildn (p' := 18) rfl rfl rfl ?_
    refine s_callV (p' := 21) (ls0 := [_, _, _]) rfl rfl rfl rfl rfl rfl rfl x_pass (by first | decide | omega) rfl ?_
    rw [gt_cls (hd m (by omega)).2.1 hv]
    refine s_istn (p' := 22) (ls' := [_, _, _, _]) rfl rfl rfl rfl ?_
    refine s_inc (p' := 25) (ls' := [_, _, _, _]) rfl rfl rfl rfl rfl ?_
    rw [mI_add]
    refine s_goto (p' := 4) rfl rfl ?_
    exact x_moL hC hD hd hm m (i + 1) _ (by omega) (gt_lt (hd m (by omega)).2.1 hv)
theorem x_mo {h : mj_H} {C R O D n : Nat} {s : (Nat → Nat) × (Nat → Nat) × Nat} (hC : mj_rd h C = some (.inr (9, [.ref R, .ref O, .ref D, .int (nI n), .int (nI s.2.2)]))) {df : Nat → Int32} (hD : mj_rd h D = some (.inl (0, (24, .inl df)))) (hd : ∀ j, j < s.2.2 → df j = nI (s.2.1 j) ∧ isG (s.2.1 j)) (hm : s.2.2 ≤ 24) {v : Nat} (hv : v < 8) : mj_run 2 108 (0, [some (.ref C), some (.int (nI v)), none, none], [], h) (.inl (some (.int (nI (bk s.2.1 s.2.2 v)))), h) := by
  refine s_ildn (p' := 1) rfl rfl rfl ?_
  refine s_istn (p' := 2) (ls' := [_, _, _, _]) rfl rfl rfl rfl ?_
  refine s_con (p' := 3) rfl rfl ?_
  refine s_istn (p' := 4) (ls' := [_, _, _, _]) rfl rfl rfl rfl ?_
  exact x_moL hC hD hd hm s.2.2 0 v (Nat.zero_add _) hv
theorem x_icL {h : mj_H} {n : Nat} {G : Nat → Nat} {gs pl : Value} {sd be : Int64} (h0 : mj_rd h 0 = some (xC_ gs pl sd be)) (hC : mj_rd h 393 = some (.inr (9, [.ref 394, .ref 395, .ref 396, .int (nI n), .int (nI (mkG G n).2.2)]))) {rf : Nat → Int32} (hR : mj_rd h 394 = some (.inl (0, (24, .inl rf)))) (hG : ∀ j, j < n → rf j = nI (G j) ∧ isG (G j)) (hn : n ≤ 24) {df : Nat → Int32} (hD : mj_rd h 396 = some (.inl (0, (24, .inl df)))) (hd : ∀ j, j < (mkG G n).2.2 → df j = nI ((mkG G n).2.1 j) ∧ isG ((mkG G n).2.1 j)) (hm : (mkG G n).2.2 ≤ 24) : ∀ (m v : Nat) (l2 : Option Value), v + m = 8 → mj_run 3 106 (10, [some (.ref 0), some (.int (nI v)), l2], [], h) (.inl (some (.int (nI 1))), h)
  | 0, v, l2, hi => by
    refine s_ildn (p' := 11) rfl rfl rfl ?_
    refine s_bip (p' := 13) rfl rfl ?_
    refine s_icmp (p' := 57) true rfl ((ci_ge (by omega) (by omega)).trans (decide_eq_true (by omega))) rfl ?_
    refine s_con (p' := 58) rfl rfl ?_
    exact s_iret rfl rfl rfl
  | m + 1, v, l2, hi => by
    have hv : v < 8 := by omega
    have ho := thr_lt (fun j hj => (hG j hj).2.1) n 0 v (Nat.zero_add n) hv
    refine s_ildn (p' := 11) rfl rfl rfl ?_
    refine s_bip (p' := 13) rfl rfl ?_
    refine s_icmp (p' := 16) false rfl ((ci_ge (by omega) (by omega)).trans (decide_eq_false (by omega))) rfl ?_
    refine s_aldn (p' := 17) rfl rfl rfl ?_
    refine s_gf (p' := 20) rfl h0 rfl rfl ?_
    refine s_ildn (p' := 21) rfl rfl rfl ?_
    refine s_callV (p' := 24) (ls0 := [_, _, _, _]) rfl rfl rfl rfl rfl (mj_rcv_is hC) rfl (x_out hC hR (fun j hj => ⟨(hG j hj).1, (hG j hj).2.1⟩) hn hv) (by first | decide | omega) rfl ?_
    refine s_istn (p' := 25) (ls' := [_, _, _]) rfl rfl rfl rfl ?_
    refine s_aldn (p' := 26) rfl rfl rfl ?_
    refine s_gf (p' := 29) rfl h0 rfl rfl ?_
    refine s_ildn (p' := 30) rfl rfl rfl ?_
    refine s_callV (p' := 33) (ls0 := [_, _, _, _]) rfl rfl rfl rfl rfl (mj_rcv_is hC) rfl (x_src hC hR (fun j hj => ⟨(hG j hj).1, (hG j hj).2.1⟩) hn ho) (by first | decide | omega) rfl ?_
    rw [bthr_thr (fun j hj => (hG j hj).2) n 0 v (Nat.zero_add n) hv]
    refine s_ildn (p' := 34) rfl rfl rfl ?_
    refine s_icmp (p' := 37) false rfl ((cg_ne rfl).trans (decide_eq_false (fun q => q rfl))) rfl ?_
    refine s_aldn (p' := 38) rfl rfl rfl ?_
    refine s_gf (p' := 41) rfl h0 rfl rfl ?_
    refine s_ildn (p' := 42) rfl rfl rfl ?_
    refine s_callV (p' := 45) (ls0 := [_, _, _, _]) rfl rfl rfl rfl rfl (mj_rcv_is hC) rfl (x_mo hC hD hd hm hv) (by first | decide | omega) rfl ?_
    rw [mkG_J (fun j hj => (hG j hj).2) hv]
    refine s_ildn (p' := 46) rfl rfl rfl ?_
    refine s_icmp (p' := 51) true rfl ((cg_eq rfl).trans (decide_eq_true rfl)) rfl ?_
    refine s_inc (p' := 54) (ls' := [_, _, _]) rfl rfl rfl rfl rfl ?_
    rw [mI_add]
    refine s_goto (p' := 10) rfl rfl ?_
    exact x_icL h0 hC hR hG hn hD hd hm m (v + 1) _ (by omega)
theorem x_ics {h : mj_H} {n : Nat} {G : Nat → Nat} {m0 : Value} {gs pl : Value} {sd be : Int64} (h0 : mj_rd h 0 = some (xC_ gs pl sd be)) (hC : mj_rd h 393 = some (.inr (9, [.ref 394, .ref 395, .ref 396, .int (nI n), m0]))) {rf : Nat → Int32} (hR : mj_rd h 394 = some (.inl (0, (24, .inl rf)))) (hG : ∀ j, j < n → rf j = nI (G j) ∧ isG (G j)) (hn : n ≤ 24) {o0 d0 : Nat → Int32} (hO0 : mj_rd h 395 = some (.inl (0, (8, .inl (o0))))) (hD0 : mj_rd h 396 = some (.inl (0, (24, .inl (d0))))) : mj_Wp 4 106 (0, [some (.ref 0), none, none], [], h) (mz_V fun r g => r = .int (nI 1) ∧ cK g 393 394 395 396 n (mkG G n) ∧ mz_mo [393, 395, 396] 0 0 h g) := by
  refine s_aldn (p' := 1) rfl rfl rfl ?_
  refine s_gf (p' := 4) rfl h0 rfl rfl ?_
  refine s_callEV (p' := 7) (ls0 := [_, _, _]) rfl rfl rfl rfl rfl (mj_rcv_is hC) rfl (x_mk (by decide) (by decide) (by decide) (by decide) (by decide) hC hR hO0 hD0 (fun j hj => ⟨(hG j hj).1, (hG j hj).2.1⟩) hn) rfl rfl ?_
  rintro _ g1 ⟨rfl, k1, m1⟩
  have z1 := m1.1 0 (by decide) _ h0
  have r1 := m1.1 394 (by decide) _ hR
  have ok := mkG_ok (fun j hj => (hG j hj).2.1)
  have k2 := k1
  obtain ⟨of, df, b1, b2, b3, b4, b5⟩ := k1
  refine s_sp (p' := 8) (ls' := _) rfl rfl rfl ?_
  refine s_con (p' := 9) rfl rfl ?_
  refine s_istn (p' := 10) (ls' := [_, _, _]) rfl rfl rfl rfl ?_
  refine ((x_icL z1 b1 r1 hG hn b3 (fun j hj => ⟨b5 j hj, ok.1.2 j hj⟩) ok.2 8 0 _ rfl).imp ?_).mono (by decide)
  rintro _ rfl
  exact ⟨_, _, rfl, rfl, k2, m1⟩
def soL : List Nat := (List.range 76).map (· + 299)
theorem soL_m {x : Nat} : x ∈ soL ↔ 299 ≤ x ∧ x < 375 := by
  unfold soL
  rw [List.mem_map]
  constructor
  · rintro ⟨i, hi, rfl⟩
    have := List.mem_range.mp hi
    omega
  · intro h
    exact ⟨x - 299, List.mem_range.mpr (by omega), by omega⟩
/-- what a procedure's acts and text must be -/
def lOk (np : Nat) (N : Nat → Nat) (F : Nat → Nat → Nat) (K : Nat → Nat) (X : Nat → Nat → Nat → Nat) : Prop := ∀ p, p < np → N p ≤ 60 ∧ (∀ j, j < N p → F p j < 65536) ∧ rAll (N p) (F p) = .inr (N p, K p, X p)
theorem lOk.t {np p : Nat} {N : Nat → Nat} {F : Nat → Nat → Nat} {K : Nat → Nat} {X : Nat → Nat → Nat → Nat} (h : lOk np N F K X) (hp : p < np) : tRow (X p) 6 0 (K p) ∧ (pFl (X p) (K p) 0).length ≤ 60 := by
  obtain ⟨h1, h2, h3⟩ := h p hp
  have := rAll_t (fun j hj => by have := h2 j hj; omega) h3
  exact ⟨this.1, Nat.le_trans this.2.1 h1⟩
theorem wRow.sy0 {x y : Nat → Nat → Nat} {d K : Nat} (h : wRow x y d 0 K 0) : wRow y x d 0 K 0 := by
  have e := h.sym
  rw [Nat.zero_add, Nat.sub_zero] at e
  exact e
theorem wRow.ln0 {x y : Nat → Nat → Nat} {d K : Nat} (h : wRow x y d 0 K 0) : (pFl y K 0).length = (pFl x K 0).length := by
  have e := h.len
  rw [Nat.sub_zero] at e
  exact e
theorem wRow.ty0 {x y : Nat → Nat → Nat} {d K : Nat} (h : wRow x y d 0 K 0) : tRow y d 0 K := by
  have e := h.ty
  rw [Nat.zero_add, Nat.sub_zero] at e
  exact e
theorem lF_p {l : List Nat} : ∀ j c, l[j]? = some c → lF l j = c := fun _ _ h => lF_at h
theorem lsF_lF (l : List Nat) : lsF l.length (lF l) = l := by
  apply List.ext_getElem?
  intro j
  by_cases h : j < l.length
  · rw [List.getElem?_map, List.getElem?_range h, List.getElem?_eq_getElem h]
    show some (lF l j) = _
    rw [lF_at (List.getElem?_eq_getElem h)]
  · rw [List.getElem?_eq_none (by rw [lsF_len]; omega), List.getElem?_eq_none (by omega)]
theorem x_isL {h0 : mj_H} {np : Nat} {N : Nat → Nat} {F : Nat → Nat → Nat} {K : Nat → Nat} {X : Nat → Nat → Nat → Nat} {gs pl : Value} {sd be : Int64} (hk : lOk np N F K X) {Q : mj_O × mj_H → Prop} (hq : ∀ (h : mj_H) (l2 : Option Value), mz_mo soL 0 0 h0 h → cLi h np N F K X → mj_rd h 0 = some (xC_ gs pl sd be) → (∃ n f, cPx h 299 n f) → (∃ n f, cPx h 336 n f) → (∃ l, cTl h 373 374 l) → mj_Wp 110 70 (136, [some (.ref 0), some (.int (nI np)), l2], [], h) Q) : ∀ (mm i : Nat) (l2 : Option Value) (h : mj_H), i + mm = np → cLi h np N F K X → mj_rd h 0 = some (xC_ gs pl sd be) → (∃ n f, cPx h 299 n f) → (∃ n f, cPx h 336 n f) → (∃ l, cTl h 373 374 l) → mz_mo soL 0 0 h0 h → mj_Wp 110 70 (2, [some (.ref 0), some (.int (nI i)), l2], [], h) Q
  | 0, i, l2, h, hi0, hi, z0, hS1, hS2, hS3, m0 => by
    have hnp := hi.1
    obtain rfl : i = np := by omega
    refine s_ildn (p' := 3) rfl rfl rfl ?_
    refine s_aldn (p' := 4) rfl rfl rfl ?_
    refine s_gf (p' := 7) rfl z0 rfl rfl ?_
    refine c_call (p' := 10) (kc := 1) (ls0 := [_]) rfl rfl rfl rfl rfl (mj_rcv_is hi.2.1) rfl rfl rfl ?_
    refine s_aldn (p' := 1) rfl rfl rfl ?_
    refine s_gf (p' := 4) rfl hi.2.1 rfl rfl ?_
    refine c_iret rfl rfl ?_
    refine s_icmp (p' := 136) true rfl ((ci_ge (by omega) (by omega)).trans (decide_eq_true (by omega))) rfl ?_
    exact hq h l2 m0 hi z0 hS1 hS2 hS3
  | mm + 1, i, l2, h, hi0, hi, z0, hS1, hS2, hS3, m0 => by
    have hp : i < np := by omega
    have hnp := hi.1
    obtain ⟨n1, f1, p1⟩ := hS1
    obtain ⟨n2, f2, p2⟩ := hS2
    obtain ⟨l3, p3⟩ := hS3
    obtain ⟨ht, hl⟩ := hk.t hp
    obtain ⟨y, w⟩ := wRow.mk ht 0
    have w : wRow (X i) y 6 0 (K i) 0 := w
    have hty := w.ty0
    have hl60 : (pFl y (K i) 0).length ≤ 60 := by rw [w.ln0]; exact hl
    have hk30 := (hi.2.2.2.2 i hp).2.2.1
    obtain ⟨z, e1, ez⟩ := rAll_p hty rfl hl60 (f := lF (pFl y (K i) 0)) lF_p
    obtain ⟨z2, e3, ez2⟩ := rAll_p ht rfl hl (f := lF (pFl (X i) (K i) 0)) lF_p
    have hf1 : ∀ j, j < (pFl y (K i) 0).length → lF (pFl y (K i) 0) j < 65536 := fun j hj => by have := lF_lt hty.lt200 hj; omega
    have hf3 : ∀ j, j < (pFl (X i) (K i) 0).length → lF (pFl (X i) (K i) 0) j < 65536 := fun j hj => by have := lF_lt ht.lt200 hj; omega
    have w2 : wRow z (X i) 6 0 (K i) 0 := wRow.cgx (fun j _ hj q hq => (ez j hj q hq).symm) (Nat.zero_le _) w.sy0
    have w4 : wRow z2 y 6 0 (K i) 0 := wRow.cgx (fun j _ hj q hq => (ez2 j hj q hq).symm) (Nat.zero_le _) w
    refine s_ildn (p' := 3) rfl rfl rfl ?_
    refine s_aldn (p' := 4) rfl rfl rfl ?_
    refine s_gf (p' := 7) rfl z0 rfl rfl ?_
    refine c_call (p' := 10) (kc := 1) (ls0 := [_]) rfl rfl rfl rfl rfl (mj_rcv_is hi.2.1) rfl rfl rfl ?_
    refine s_aldn (p' := 1) rfl rfl rfl ?_
    refine s_gf (p' := 4) rfl hi.2.1 rfl rfl ?_
    refine c_iret rfl rfl ?_
    refine s_icmp (p' := 13) false rfl ((ci_ge (by omega) (by omega)).trans (decide_eq_false (by omega))) rfl ?_
    refine s_aldn (p' := 14) rfl rfl rfl ?_
    refine s_gf (p' := 17) rfl z0 rfl rfl ?_
    refine s_ildn (p' := 18) rfl rfl rfl ?_
    refine s_callV (p' := 21) (ls0 := [_, _]) rfl rfl rfl rfl rfl (mj_rcv_is hi.2.1) rfl (x_lcd hi.lb hp) (by first | decide | omega) rfl ?_
    refine s_astn (p' := 22) (ls' := [_, _, _]) rfl rfl rfl rfl ?_
    refine s_aldn (p' := 23) rfl rfl rfl ?_
    refine s_aldn (p' := 24) rfl rfl rfl ?_
    refine s_gf (p' := 27) rfl z0 rfl rfl ?_
    refine s_gf (p' := 30) rfl p1.1 rfl rfl ?_
    refine s_callEN (p' := 33) (ls0 := [_, _]) rfl rfl rfl rfl rfl (mj_rcv_is (hi.2.2.2.2 i hp).cd.2.1) rfl (x_wb (hi.2.2.2.2 i hp).cd (p1.t (by decide)) w hl60) (Nat.ble_eq.mpr (by omega)) rfl ?_
    rintro g1 ⟨t1, m1⟩
    have z1 := m1.1 0 (fun q => by simp only [List.mem_cons, List.not_mem_nil, or_false] at q; omega) _ z0
    have i1 := hi.fr m1.1 (fun x hx => by simp only [List.mem_cons, List.not_mem_nil, or_false] at hx; omega)
    have q1 := p1.ct m1.1 t1
    have s1 := p2.fr m1.1 (fun x hx => by simp only [List.mem_cons, List.not_mem_nil, or_false] at hx; omega)
    have u1 := p3.fr m1.1 (by decide) (by decide)
    obtain ⟨ra, rk, rp, rs, rm, rd1⟩ := q1.rd
    refine s_aldn (p' := 34) rfl rfl rfl ?_
    refine s_gf (p' := 37) rfl z1 rfl rfl ?_
    refine s_gf (p' := 40) rfl q1.1 rfl rfl ?_
    refine s_callEV (p' := 43) (ls0 := [_]) rfl rfl rfl rfl rfl (mj_rcv_is rd1) rfl (x_rdT (b := 299) (by decide) q1 hf1 e1 hk30) rfl rfl ?_
    rintro _ g2 ⟨rfl, q2, m2⟩
    have z2 := m2.1 0 (fun q => by have := mem_cL.mp q; omega) _ z1
    have i2 := i1.fr m2.1 (fun x hx => by have := mem_cL.mp hx; omega)
    have s2 := s1.fr m2.1 (fun x hx => by have := mem_cL.mp hx; omega)
    have u2 := u1.fr m2.1 (fun q => by have := mem_cL.mp q; omega) (fun q => by have := mem_cL.mp q; omega)
    have cd2 := q2.cd
    refine s_if (p' := 46) false rfl (by decide +kernel) rfl ?_
    refine s_aldn (p' := 47) rfl rfl rfl ?_
    refine s_gf (p' := 50) rfl z2 rfl rfl ?_
    refine s_gf (p' := 53) rfl q2.1 rfl rfl ?_
    refine c_call (p' := 56) (kc := 1) (ls0 := [_]) rfl rfl rfl rfl rfl (mj_rcv_is cd2.2.1) rfl rfl rfl ?_
    refine s_aldn (p' := 1) rfl rfl rfl ?_
    refine s_gf (p' := 4) rfl cd2.2.1 rfl rfl ?_
    refine c_iret rfl rfl ?_
    refine s_aldn (p' := 57) rfl rfl rfl ?_
    refine c_call (p' := 60) (kc := 1) (ls0 := [_]) rfl rfl rfl rfl rfl (mj_rcv_is (i2.2.2.2.2 i hp).cd.2.1) rfl rfl rfl ?_
    refine s_aldn (p' := 1) rfl rfl rfl ?_
    refine s_gf (p' := 4) rfl (i2.2.2.2.2 i hp).cd.2.1 rfl rfl ?_
    refine c_iret rfl rfl ?_
    refine s_icmp (p' := 65) true rfl ((cg_eq rfl).trans (decide_eq_true rfl)) rfl ?_
    refine s_aldn (p' := 66) rfl rfl rfl ?_
    refine s_gf (p' := 69) rfl z2 rfl rfl ?_
    refine s_gf (p' := 72) rfl q2.1 rfl rfl ?_
    refine s_aldn (p' := 73) rfl rfl rfl ?_
    refine s_gf (p' := 76) rfl z2 rfl rfl ?_
    refine s_gf (p' := 79) rfl s2.1 rfl rfl ?_
    refine s_callEN (p' := 82) (ls0 := [_, _]) rfl rfl rfl rfl rfl (mj_rcv_is cd2.2.1) rfl (x_wb cd2 (s2.t (by decide)) w2 (by rw [← w.ln0]; exact hl60)) rfl rfl ?_
    rintro g3 ⟨t3, m3⟩
    have z3 := m3.1 0 (fun q => by simp only [List.mem_cons, List.not_mem_nil, or_false] at q; omega) _ z2
    have i3 := i2.fr m3.1 (fun x hx => by simp only [List.mem_cons, List.not_mem_nil, or_false] at hx; omega)
    have q3 := q2.fr m3.1 (fun x hx => by simp only [List.mem_cons, List.not_mem_nil, or_false] at hx; omega)
    have s3 := s2.ct m3.1 t3
    have u3 := u2.fr m3.1 (by decide) (by decide)
    obtain ⟨sa, sk, sp, ss, sm, rd3⟩ := s3.rd
    refine s_aldn (p' := 83) rfl rfl rfl ?_
    refine s_gf (p' := 86) rfl z3 rfl rfl ?_
    refine s_gf (p' := 89) rfl s3.1 rfl rfl ?_
    refine s_callEV (p' := 92) (ls0 := [_]) rfl rfl rfl rfl rfl (mj_rcv_is rd3) rfl (x_rdT (b := 336) (by decide) s3 hf3 e3 hk30) rfl rfl ?_
    rintro _ g4 ⟨rfl, s4, m4⟩
    have z4 := m4.1 0 (fun q => by have := mem_cL.mp q; omega) _ z3
    have i4 := i3.fr m4.1 (fun x hx => by have := mem_cL.mp hx; omega)
    have q4 := q3.fr m4.1 (fun x hx => by have := mem_cL.mp hx; omega)
    have u4 := u3.fr m4.1 (fun q => by have := mem_cL.mp q; omega) (fun q => by have := mem_cL.mp q; omega)
    have cd4 := s4.cd
    refine s_if (p' := 97) true rfl (by decide +kernel) rfl ?_
    refine s_aldn (p' := 98) rfl rfl rfl ?_
    refine s_gf (p' := 101) rfl z4 rfl rfl ?_
    refine s_gf (p' := 104) rfl s4.1 rfl rfl ?_
    refine s_aldn (p' := 105) rfl rfl rfl ?_
    refine s_gf (p' := 108) rfl z4 rfl rfl ?_
    refine s_callEN (p' := 111) (ls0 := [_, _]) rfl rfl rfl rfl rfl (mj_rcv_is cd4.2.1) rfl (x_wb cd4 u4 w4 hl60) rfl rfl ?_
    rintro g5 ⟨t5, m5⟩
    have z5 := m5.1 0 (fun q => by simp only [List.mem_cons, List.not_mem_nil, or_false] at q; omega) _ z4
    have i5 := i4.fr m5.1 (fun x hx => by simp only [List.mem_cons, List.not_mem_nil, or_false] at hx; omega)
    have q5 := (q4.fr m5.1 (fun x hx => by simp only [List.mem_cons, List.not_mem_nil, or_false] at hx; omega)).px
    have s5 := (s4.fr m5.1 (fun x hx => by simp only [List.mem_cons, List.not_mem_nil, or_false] at hx; omega)).px
    have t5b := q5.t (by decide)
    rw [lsF_lF] at t5b
    refine s_aldn (p' := 112) rfl rfl rfl ?_
    refine s_gf (p' := 115) rfl z5 rfl rfl ?_
    refine s_aldn (p' := 116) rfl rfl rfl ?_
    refine s_gf (p' := 119) rfl z5 rfl rfl ?_
    refine s_gf (p' := 122) rfl q5.1 rfl rfl ?_
    refine s_callV (p' := 125) (ls0 := [_, _, _]) rfl rfl rfl rfl rfl (mj_rcv_is t5.r) rfl (x_sm t5 t5b) (by first | decide | omega) rfl ?_
    refine s_if (p' := 130) true rfl (by decide +kernel) rfl ?_
    refine s_inc (p' := 133) (ls' := [_, _, _]) rfl rfl rfl rfl rfl ?_
    rw [mI_add]
    refine s_goto (p' := 2) rfl rfl ?_
    refine x_isL hk hq mm (i + 1) _ _ (by omega) i5 z5 ⟨_, _, q5⟩ ⟨_, _, s5⟩ ⟨_, t5⟩ ?_
    exact mo00 m0 (mo00 (mo00 (mo00 (mo_L m1 (fun y hy => soL_m.mpr (by simp only [List.mem_cons, List.not_mem_nil, or_false] at hy; omega))) (mo_L m2 (fun y hy => soL_m.mpr (by have := mem_cL.mp hy; omega)))) (mo_L m3 (fun y hy => soL_m.mpr (by simp only [List.mem_cons, List.not_mem_nil, or_false] at hy; omega)))) (mo00 (mo_L m4 (fun y hy => soL_m.mpr (by have := mem_cL.mp hy; omega))) (mo_L m5 (fun y hy => soL_m.mpr (by simp only [List.mem_cons, List.not_mem_nil, or_false] at hy; omega)))))
theorem x_sou {h : mj_H} {np : Nat} {N : Nat → Nat} {F : Nat → Nat → Nat} {K : Nat → Nat} {X : Nat → Nat → Nat → Nat} (hi : cLi h np N F K X) {gs pl : Value} {sd be : Int64} (h0 : mj_rd h 0 = some (xC_ gs pl sd be)) (hk : lOk np N F K X) (hS1 : ∃ n f, cPx h 299 n f) (hS2 : ∃ n f, cPx h 336 n f) (hS3 : ∃ l, cTl h 373 374 l) {n : Nat} {G : Nat → Nat} {m0 : Value} (hC : mj_rd h 393 = some (.inr (9, [.ref 394, .ref 395, .ref 396, .int (nI n), m0]))) {rf : Nat → Int32} (hR : mj_rd h 394 = some (.inl (0, (24, .inl rf)))) (hG : ∀ j, j < n → rf j = nI (G j) ∧ isG (G j)) (hn : n ≤ 24) {o0 d0 : Nat → Int32} (hO0 : mj_rd h 395 = some (.inl (0, (8, .inl (o0))))) (hD0 : mj_rd h 396 = some (.inl (0, (24, .inl (d0))))) : mj_Wp 110 70 (0, [some (.ref 0), none, none], [], h) (mz_V fun r g => r = .int (nI 1) ∧ cLi g np N F K X ∧ (∃ n f, cPx g 299 n f) ∧ (∃ n f, cPx g 336 n f) ∧ (∃ l, cTl g 373 374 l) ∧ cK g 393 394 395 396 n (mkG G n) ∧ mz_mo (soL ++ [393, 395, 396]) 0 0 h g) := by
  refine s_con (p' := 1) rfl rfl ?_
  refine s_istn (p' := 2) (ls' := [_, _, _]) rfl rfl rfl rfl ?_
  refine x_isL hk (fun g l2 m1 i1 z1 a1 a2 a3 => ?_) np 0 none h (Nat.zero_add np) hi h0 hS1 hS2 hS3 (mz_mo.rf _ _ _ _)
  refine s_aldn (p' := 137) rfl rfl rfl ?_
  refine s_callEV (p' := 140) (ls0 := [_, _, _]) rfl rfl rfl rfl rfl (mj_rcv_is z1) rfl (x_ics z1 (m1.1 393 (fun q => by have := soL_m.mp q; omega) _ hC) (m1.1 394 (fun q => by have := soL_m.mp q; omega) _ hR) hG hn (m1.1 395 (fun q => by have := soL_m.mp q; omega) _ hO0) (m1.1 396 (fun q => by have := soL_m.mp q; omega) _ hD0)) rfl rfl ?_
  rintro _ g2 ⟨rfl, c2, m2⟩
  refine s_iret rfl rfl ?_
  exact ⟨_, _, rfl, rfl, i1.fr m2.1 (fun x hx => by simp only [List.mem_cons, List.not_mem_nil, or_false] at hx; omega), a1.imp fun n a => a.imp fun f a => a.fr m2.1 (fun x hx => by simp only [List.mem_cons, List.not_mem_nil, or_false] at hx; omega), a2.imp fun n a => a.imp fun f a => a.fr m2.1 (fun x hx => by simp only [List.mem_cons, List.not_mem_nil, or_false] at hx; omega), a3.imp fun l a => a.fr m2.1 (by decide) (by decide), c2, mo00 (mo_L m1 (fun y hy => List.mem_append_left _ hy)) (mo_L m2 (fun y hy => List.mem_append_right _ hy))⟩
