/-! The reference reads: places in texts, tests, updates. -/
theorem mo_le {L : List Nat} {k z : Nat} {h g : mj_H} (m : mz_mo L k z h g) : h.length ≤ g.length ∧ g.length ≤ h.length + k := ⟨m.2.1, m.2.2.1⟩
/-- the place of a sign in a text: the first one, or -1 -/
def fIdx (l : Nat → Nat) (c : Nat) : Nat → Nat → Nat
  | 0, _ => 4294967295
  | d + 1, i => if l i = c then i else fIdx l c d (i + 1)
theorem byt_inj {a b : Nat} (ha : a < 256) (hb : b < 256) : byt a = byt b ↔ a = b := by
  constructor
  · intro e
    have e2 : nI a = nI b := by rw [← byt_and ha, ← byt_and hb, e]
    exact (mI_inj (by omega) (by omega)).mp e2
  · rintro rfl
    rfl
theorem y_ioL {h : mj_H} {B m L c : Nat} {l : Nat → Nat} {f : Nat → Int32} (hB : mj_rd h B = some (.inl (1, (L, .inl f)))) (hm : m ≤ L) (hL : L < 1000) (hf : ∀ j, j < m → f j = byt (l j)) (hl : ∀ j, j < m → l j < 128) (hc : c < 256) : ∀ d i, i + d = m → mj_run 0 321 (7, [some (.ref B), some (.int (nI c)), some (.int (nI 0)), some (.int (nI m)), some (.int (byt c)), some (.int (nI i))], [], h) (.inl (some (.int (nI (fIdx l c d i)))), h)
  | 0, i, hi => by
    obtain rfl : i = m := by omega
    refine s_ild (p' := 9) rfl rfl rfl ?_
    refine s_ildn (p' := 10) rfl rfl rfl ?_
    refine s_icmp (p' := 31) true rfl ((ci_ge (by omega) (by omega)).trans (decide_eq_true (by omega))) rfl ?_
    refine s_con (p' := 32) rfl rfl ?_
    exact s_iret rfl rfl rfl
  | d + 1, i, hi => by
    have ih := y_ioL hB hm hL hf hl hc d (i + 1) (by omega)
    refine s_ild (p' := 9) rfl rfl rfl ?_
    refine s_ildn (p' := 10) rfl rfl rfl ?_
    refine s_icmp (p' := 13) false rfl ((ci_ge (by omega) (by omega)).trans (decide_eq_false (by omega))) rfl ?_
    refine s_aldn (p' := 14) rfl rfl rfl ?_
    refine s_ild (p' := 16) rfl rfl rfl ?_
    refine s_bal1 (p' := 17) rfl hB (inb_nI (by omega) (by omega)) rfl ?_
    rw [mI_cl (by omega), hf i (by omega)]
    refine s_ild (p' := 19) rfl rfl rfl ?_
    by_cases q : l i = c
    · refine s_icmp (p' := 22) false rfl (decide_eq_false (fun e => e ((byt_inj (by have := hl i (by omega); omega) hc).mpr q))) rfl ?_
      refine s_ild (p' := 24) rfl rfl rfl ?_
      exact s_iret rfl rfl (by rw [fIdx, if_pos q])
    · refine s_icmp (p' := 25) true rfl (decide_eq_true (fun e => q ((byt_inj (by have := hl i (by omega); omega) hc).mp e))) rfl ?_
      refine s_inc (p' := 28) (ls' := [_, _, _, _, _, _]) rfl rfl rfl rfl rfl ?_
      rw [mI_add]
      refine s_goto (p' := 7) rfl rfl ?_
      rw [fIdx, if_neg q]
      exact ih
theorem y_ioc {h : mj_H} {B m L c : Nat} {l : Nat → Nat} {f : Nat → Int32} (hB : mj_rd h B = some (.inl (1, (L, .inl f)))) (hm : m ≤ L) (hL : L < 1000) (hf : ∀ j, j < m → f j = byt (l j)) (hl : ∀ j, j < m → l j < 128) (hc : c < 256) : mj_Wp 0 321 (0, [some (.ref B), some (.int (nI c)), some (.int (nI 0)), some (.int (nI m)), none, none], [], h) (fun o => o = (.inl (some (.int (nI (fIdx l c m 0)))), h)) := by
  refine s_ildn (p' := 1) rfl rfl rfl ?_
  refine s_sp (p' := 2) (ls' := _) rfl rfl rfl ?_
  refine s_ist (p' := 4) (ls' := [_, _, _, _, _, _]) rfl rfl rfl rfl ?_
  refine s_ildn (p' := 5) rfl rfl rfl ?_
  refine s_ist (p' := 7) (ls' := [_, _, _, _, _, _]) rfl rfl rfl rfl ?_
  exact y_ioL hB hm hL hf hl hc m 0 (Nat.zero_add m)
theorem y_can {h : mj_H} {c : Nat} (hc : c < 65536) : mj_run 0 320 (0, [some (.int (nI c))], [], h) (.inl (some (.int (nI (bN (decide (c < 256)))))), h) := by
  refine s_ildn (p' := 1) rfl rfl rfl ?_
  refine s_if (p' := 4) false rfl (cz_lt (by omega)) rfl ?_
  refine s_ildn (p' := 5) rfl rfl rfl ?_
  refine s_sip (p' := 8) rfl rfl ?_
  by_cases q : 255 < c
  · refine s_icmp (p' := 15) true rfl ((ci_gt (by omega) (by omega)).trans (decide_eq_true (by omega))) rfl ?_
    refine s_con (p' := 16) rfl rfl ?_
    exact s_iret rfl rfl (by rw [decide_eq_false (by omega)]; rfl)
  · refine s_icmp (p' := 11) false rfl ((ci_gt (by omega) (by omega)).trans (decide_eq_false (by omega))) rfl ?_
    refine s_con (p' := 12) rfl rfl ?_
    refine s_goto (p' := 16) rfl rfl ?_
    exact s_iret rfl rfl (by rw [decide_eq_true (by omega)]; rfl)
theorem k_302 (h : mj_H) : mj_rd h 1000302 = some (.inr (21, [.ref 1000303, .int (nI 0)])) := rfl
theorem k_303 (h : mj_H) : mj_rd h 1000303 = some (.inl (1, (4, .inl (mj_byt [43, 45, 94, 126])))) := rfl
def tl_302 (j : Nat) : Nat := ([43, 45, 94, 126] : List Nat).getD j 0
theorem tl_302_b : ∀ j, j < 4 → tl_302 j < 128 := by decide
theorem ks_302 (h : mj_H) : yStr h 1000302 4 0 tl_302 := ⟨⟨Nat.zero_le 1, fun j hj => ⟨by have := tl_302_b j hj; omega, fun _ => by have := tl_302_b j hj; omega⟩⟩, 1000303, [], k_302 h, mj_byt [43, 45, 94, 126], k_303 h, by decide, fun j _ => byt_fit _, fun j _ => rfl⟩
theorem y_io302 {h : mj_H} {c : Nat} (hc : c < 65536) : mj_run 5 317 (0, [some (.ref 1000302), some (.int (nI c))], [], h) (.inl (some (.int (nI (if c < 256 then fIdx tl_302 c 4 0 else 4294967295)))), h) := by
  refine s_aldn (p' := 1) rfl rfl rfl ?_
  refine s_ildn (p' := 2) rfl rfl rfl ?_
  refine s_con (p' := 3) rfl rfl ?_
  refine c_call (p' := 6) (kc := 4) (ls0 := [_, _, _]) rfl rfl rfl rfl rfl (mj_rcv_is (k_302 h)) rfl rfl rfl ?_
  refine s_aldn (p' := 1) rfl rfl rfl ?_
  refine c_call (p' := 4) (kc := 2) (ls0 := [_]) rfl rfl rfl rfl rfl (mj_rcv_is (k_302 h)) rfl rfl rfl ?_
  refine s_sh (p' := 3) (ls' := _) (st' := .int (nI 1) :: _) (h' := _) rfl rfl rfl rfl ?_
  refine s_if (p' := 6) false rfl ((cz_eq (by omega)).trans (decide_eq_false (by omega))) rfl ?_
  refine s_aldn (p' := 7) rfl rfl rfl ?_
  refine s_gf (p' := 10) rfl (k_302 h) rfl rfl ?_
  refine s_if (p' := 13) false rfl ((cz_ne (by omega)).trans (decide_eq_false (by omega))) rfl ?_
  refine s_con (p' := 14) rfl rfl ?_
  refine s_goto (p' := 18) rfl rfl ?_
  refine c_iret rfl rfl ?_
  refine s_if (p' := 7) false rfl ((cz_eq (by omega)).trans (decide_eq_false (by omega))) rfl ?_
  refine s_aldn (p' := 8) rfl rfl rfl ?_
  refine s_gf (p' := 11) rfl (k_302 h) rfl rfl ?_
  refine s_ildn (p' := 12) rfl rfl rfl ?_
  refine s_ildn (p' := 13) rfl rfl rfl ?_
  refine s_aldn (p' := 14) rfl rfl rfl ?_
  refine s_callV (p' := 17) (ls0 := [_]) rfl rfl rfl rfl rfl (mj_rcv_is (k_302 h)) rfl (y_len0 (ks_302 h) (by omega)) (by first | decide | omega) rfl ?_
  refine c_call (p' := 20) (kc := 2) (ls0 := [_, _, _, _]) rfl rfl rfl rfl rfl rfl rfl rfl rfl ?_
  refine s_ildn (p' := 1) rfl rfl rfl ?_
  refine s_callV (p' := 4) (ls0 := [_]) rfl rfl rfl rfl rfl rfl rfl (y_can hc) (by first | decide | omega) rfl ?_
  by_cases q : c < 256
  · refine s_if (p' := 9) true rfl (by rw [decide_eq_true q]; rfl) rfl ?_
    refine s_ildn (p' := 10) rfl rfl rfl ?_
    refine s_con (p' := 11) rfl rfl ?_
    refine s_primV (p' := 14) (q := 4) rfl rfl rfl rfl rfl rfl rfl rfl ?_
    rw [mI_max (by omega) (by omega), show max 0 0 = 0 from rfl]
    refine s_istn (p' := 15) (ls' := [_, _, _, _]) rfl rfl rfl rfl ?_
    refine s_ildn (p' := 16) rfl rfl rfl ?_
    refine s_aldn (p' := 17) rfl rfl rfl ?_
    refine s_len (p' := 18) rfl (mj_rdA_is (k_303 h) (by decide)) (by decide) rfl ?_
    refine s_primV (p' := 21) (q := 5) rfl rfl rfl rfl rfl rfl rfl rfl ?_
    rw [mI_min (by omega) (by omega), show min 4 4 = 4 from rfl]
    refine s_istn (p' := 22) (ls' := [_, _, _, _]) rfl rfl rfl rfl ?_
    refine s_ildn (p' := 23) rfl rfl rfl ?_
    refine s_ildn (p' := 24) rfl rfl rfl ?_
    refine s_icmp (p' := 29) true rfl ((ci_lt (by omega) (by omega)).trans (decide_eq_true (by omega))) rfl ?_
    refine s_aldn (p' := 30) rfl rfl rfl ?_
    refine s_ildn (p' := 31) rfl rfl rfl ?_
    refine s_ildn (p' := 32) rfl rfl rfl ?_
    refine s_ildn (p' := 33) rfl rfl rfl ?_
    refine s_callV (p' := 36) (ls0 := [_, _, _, _, _, _]) rfl rfl rfl rfl rfl rfl rfl (y_ioc (k_303 h) (Nat.le_refl 4) (by decide) (fun j _ => rfl) (l := tl_302) tl_302_b (by omega)) (by first | decide | omega) rfl ?_
    refine c_iret rfl rfl ?_
    refine s_goto (p' := 36) rfl rfl ?_
    refine c_iret rfl rfl ?_
    exact s_iret rfl rfl (by first | rw [if_pos (by omega)] | rw [if_neg (by omega)])
  · refine s_if (p' := 7) false rfl (by rw [decide_eq_false q]; rfl) rfl ?_
    refine s_con (p' := 8) rfl rfl ?_
    refine c_iret rfl rfl ?_
    refine s_goto (p' := 36) rfl rfl ?_
    refine c_iret rfl rfl ?_
    exact s_iret rfl rfl (by first | rw [if_pos (by omega)] | rw [if_neg (by omega)])
theorem k_304 (h : mj_H) : mj_rd h 1000304 = some (.inr (21, [.ref 1000305, .int (nI 0)])) := rfl
theorem k_305 (h : mj_H) : mj_rd h 1000305 = some (.inl (1, (4, .inl (mj_byt [43, 45, 42, 38])))) := rfl
def tl_304 (j : Nat) : Nat := ([43, 45, 42, 38] : List Nat).getD j 0
theorem tl_304_b : ∀ j, j < 4 → tl_304 j < 128 := by decide
theorem ks_304 (h : mj_H) : yStr h 1000304 4 0 tl_304 := ⟨⟨Nat.zero_le 1, fun j hj => ⟨by have := tl_304_b j hj; omega, fun _ => by have := tl_304_b j hj; omega⟩⟩, 1000305, [], k_304 h, mj_byt [43, 45, 42, 38], k_305 h, by decide, fun j _ => byt_fit _, fun j _ => rfl⟩
theorem y_io304 {h : mj_H} {c : Nat} (hc : c < 65536) : mj_run 5 317 (0, [some (.ref 1000304), some (.int (nI c))], [], h) (.inl (some (.int (nI (if c < 256 then fIdx tl_304 c 4 0 else 4294967295)))), h) := by
  refine s_aldn (p' := 1) rfl rfl rfl ?_
  refine s_ildn (p' := 2) rfl rfl rfl ?_
  refine s_con (p' := 3) rfl rfl ?_
  refine c_call (p' := 6) (kc := 4) (ls0 := [_, _, _]) rfl rfl rfl rfl rfl (mj_rcv_is (k_304 h)) rfl rfl rfl ?_
  refine s_aldn (p' := 1) rfl rfl rfl ?_
  refine c_call (p' := 4) (kc := 2) (ls0 := [_]) rfl rfl rfl rfl rfl (mj_rcv_is (k_304 h)) rfl rfl rfl ?_
  refine s_sh (p' := 3) (ls' := _) (st' := .int (nI 1) :: _) (h' := _) rfl rfl rfl rfl ?_
  refine s_if (p' := 6) false rfl ((cz_eq (by omega)).trans (decide_eq_false (by omega))) rfl ?_
  refine s_aldn (p' := 7) rfl rfl rfl ?_
  refine s_gf (p' := 10) rfl (k_304 h) rfl rfl ?_
  refine s_if (p' := 13) false rfl ((cz_ne (by omega)).trans (decide_eq_false (by omega))) rfl ?_
  refine s_con (p' := 14) rfl rfl ?_
  refine s_goto (p' := 18) rfl rfl ?_
  refine c_iret rfl rfl ?_
  refine s_if (p' := 7) false rfl ((cz_eq (by omega)).trans (decide_eq_false (by omega))) rfl ?_
  refine s_aldn (p' := 8) rfl rfl rfl ?_
  refine s_gf (p' := 11) rfl (k_304 h) rfl rfl ?_
  refine s_ildn (p' := 12) rfl rfl rfl ?_
  refine s_ildn (p' := 13) rfl rfl rfl ?_
  refine s_aldn (p' := 14) rfl rfl rfl ?_
  refine s_callV (p' := 17) (ls0 := [_]) rfl rfl rfl rfl rfl (mj_rcv_is (k_304 h)) rfl (y_len0 (ks_304 h) (by omega)) (by first | decide | omega) rfl ?_
  refine c_call (p' := 20) (kc := 2) (ls0 := [_, _, _, _]) rfl rfl rfl rfl rfl rfl rfl rfl rfl ?_
  refine s_ildn (p' := 1) rfl rfl rfl ?_
  refine s_callV (p' := 4) (ls0 := [_]) rfl rfl rfl rfl rfl rfl rfl (y_can hc) (by first | decide | omega) rfl ?_
  by_cases q : c < 256
  · refine s_if (p' := 9) true rfl (by rw [decide_eq_true q]; rfl) rfl ?_
    refine s_ildn (p' := 10) rfl rfl rfl ?_
    refine s_con (p' := 11) rfl rfl ?_
    refine s_primV (p' := 14) (q := 4) rfl rfl rfl rfl rfl rfl rfl rfl ?_
    rw [mI_max (by omega) (by omega), show max 0 0 = 0 from rfl]
    refine s_istn (p' := 15) (ls' := [_, _, _, _]) rfl rfl rfl rfl ?_
    refine s_ildn (p' := 16) rfl rfl rfl ?_
    refine s_aldn (p' := 17) rfl rfl rfl ?_
    refine s_len (p' := 18) rfl (mj_rdA_is (k_305 h) (by decide)) (by decide) rfl ?_
    refine s_primV (p' := 21) (q := 5) rfl rfl rfl rfl rfl rfl rfl rfl ?_
    rw [mI_min (by omega) (by omega), show min 4 4 = 4 from rfl]
    refine s_istn (p' := 22) (ls' := [_, _, _, _]) rfl rfl rfl rfl ?_
    refine s_ildn (p' := 23) rfl rfl rfl ?_
    refine s_ildn (p' := 24) rfl rfl rfl ?_
    refine s_icmp (p' := 29) true rfl ((ci_lt (by omega) (by omega)).trans (decide_eq_true (by omega))) rfl ?_
    refine s_aldn (p' := 30) rfl rfl rfl ?_
    refine s_ildn (p' := 31) rfl rfl rfl ?_
    refine s_ildn (p' := 32) rfl rfl rfl ?_
    refine s_ildn (p' := 33) rfl rfl rfl ?_
    refine s_callV (p' := 36) (ls0 := [_, _, _, _, _, _]) rfl rfl rfl rfl rfl rfl rfl (y_ioc (k_305 h) (Nat.le_refl 4) (by decide) (fun j _ => rfl) (l := tl_304) tl_304_b (by omega)) (by first | decide | omega) rfl ?_
    refine c_iret rfl rfl ?_
    refine s_goto (p' := 36) rfl rfl ?_
    refine c_iret rfl rfl ?_
    exact s_iret rfl rfl (by first | rw [if_pos (by omega)] | rw [if_neg (by omega)])
  · refine s_if (p' := 7) false rfl (by rw [decide_eq_false q]; rfl) rfl ?_
    refine s_con (p' := 8) rfl rfl ?_
    refine c_iret rfl rfl ?_
    refine s_goto (p' := 36) rfl rfl ?_
    refine c_iret rfl rfl ?_
    exact s_iret rfl rfl (by first | rw [if_pos (by omega)] | rw [if_neg (by omega)])
theorem k_306 (h : mj_H) : mj_rd h 1000306 = some (.inr (21, [.ref 1000307, .int (nI 0)])) := rfl
theorem k_307 (h : mj_H) : mj_rd h 1000307 = some (.inl (1, (6, .inl (mj_byt [33, 63, 64, 36, 91, 123])))) := rfl
def tl_306 (j : Nat) : Nat := ([33, 63, 64, 36, 91, 123] : List Nat).getD j 0
theorem tl_306_b : ∀ j, j < 6 → tl_306 j < 128 := by decide
theorem ks_306 (h : mj_H) : yStr h 1000306 6 0 tl_306 := ⟨⟨Nat.zero_le 1, fun j hj => ⟨by have := tl_306_b j hj; omega, fun _ => by have := tl_306_b j hj; omega⟩⟩, 1000307, [], k_306 h, mj_byt [33, 63, 64, 36, 91, 123], k_307 h, by decide, fun j _ => byt_fit _, fun j _ => rfl⟩
theorem y_io306 {h : mj_H} {c : Nat} (hc : c < 65536) : mj_run 5 317 (0, [some (.ref 1000306), some (.int (nI c))], [], h) (.inl (some (.int (nI (if c < 256 then fIdx tl_306 c 6 0 else 4294967295)))), h) := by
  refine s_aldn (p' := 1) rfl rfl rfl ?_
  refine s_ildn (p' := 2) rfl rfl rfl ?_
  refine s_con (p' := 3) rfl rfl ?_
  refine c_call (p' := 6) (kc := 4) (ls0 := [_, _, _]) rfl rfl rfl rfl rfl (mj_rcv_is (k_306 h)) rfl rfl rfl ?_
  refine s_aldn (p' := 1) rfl rfl rfl ?_
  refine c_call (p' := 4) (kc := 2) (ls0 := [_]) rfl rfl rfl rfl rfl (mj_rcv_is (k_306 h)) rfl rfl rfl ?_
  refine s_sh (p' := 3) (ls' := _) (st' := .int (nI 1) :: _) (h' := _) rfl rfl rfl rfl ?_
  refine s_if (p' := 6) false rfl ((cz_eq (by omega)).trans (decide_eq_false (by omega))) rfl ?_
  refine s_aldn (p' := 7) rfl rfl rfl ?_
  refine s_gf (p' := 10) rfl (k_306 h) rfl rfl ?_
  refine s_if (p' := 13) false rfl ((cz_ne (by omega)).trans (decide_eq_false (by omega))) rfl ?_
  refine s_con (p' := 14) rfl rfl ?_
  refine s_goto (p' := 18) rfl rfl ?_
  refine c_iret rfl rfl ?_
  refine s_if (p' := 7) false rfl ((cz_eq (by omega)).trans (decide_eq_false (by omega))) rfl ?_
  refine s_aldn (p' := 8) rfl rfl rfl ?_
  refine s_gf (p' := 11) rfl (k_306 h) rfl rfl ?_
  refine s_ildn (p' := 12) rfl rfl rfl ?_
  refine s_ildn (p' := 13) rfl rfl rfl ?_
  refine s_aldn (p' := 14) rfl rfl rfl ?_
  refine s_callV (p' := 17) (ls0 := [_]) rfl rfl rfl rfl rfl (mj_rcv_is (k_306 h)) rfl (y_len0 (ks_306 h) (by omega)) (by first | decide | omega) rfl ?_
  refine c_call (p' := 20) (kc := 2) (ls0 := [_, _, _, _]) rfl rfl rfl rfl rfl rfl rfl rfl rfl ?_
  refine s_ildn (p' := 1) rfl rfl rfl ?_
  refine s_callV (p' := 4) (ls0 := [_]) rfl rfl rfl rfl rfl rfl rfl (y_can hc) (by first | decide | omega) rfl ?_
  by_cases q : c < 256
  · refine s_if (p' := 9) true rfl (by rw [decide_eq_true q]; rfl) rfl ?_
    refine s_ildn (p' := 10) rfl rfl rfl ?_
    refine s_con (p' := 11) rfl rfl ?_
    refine s_primV (p' := 14) (q := 4) rfl rfl rfl rfl rfl rfl rfl rfl ?_
    rw [mI_max (by omega) (by omega), show max 0 0 = 0 from rfl]
    refine s_istn (p' := 15) (ls' := [_, _, _, _]) rfl rfl rfl rfl ?_
    refine s_ildn (p' := 16) rfl rfl rfl ?_
    refine s_aldn (p' := 17) rfl rfl rfl ?_
    refine s_len (p' := 18) rfl (mj_rdA_is (k_307 h) (by decide)) (by decide) rfl ?_
    refine s_primV (p' := 21) (q := 5) rfl rfl rfl rfl rfl rfl rfl rfl ?_
    rw [mI_min (by omega) (by omega), show min 6 6 = 6 from rfl]
    refine s_istn (p' := 22) (ls' := [_, _, _, _]) rfl rfl rfl rfl ?_
    refine s_ildn (p' := 23) rfl rfl rfl ?_
    refine s_ildn (p' := 24) rfl rfl rfl ?_
    refine s_icmp (p' := 29) true rfl ((ci_lt (by omega) (by omega)).trans (decide_eq_true (by omega))) rfl ?_
    refine s_aldn (p' := 30) rfl rfl rfl ?_
    refine s_ildn (p' := 31) rfl rfl rfl ?_
    refine s_ildn (p' := 32) rfl rfl rfl ?_
    refine s_ildn (p' := 33) rfl rfl rfl ?_
    refine s_callV (p' := 36) (ls0 := [_, _, _, _, _, _]) rfl rfl rfl rfl rfl rfl rfl (y_ioc (k_307 h) (Nat.le_refl 6) (by decide) (fun j _ => rfl) (l := tl_306) tl_306_b (by omega)) (by first | decide | omega) rfl ?_
    refine c_iret rfl rfl ?_
    refine s_goto (p' := 36) rfl rfl ?_
    refine c_iret rfl rfl ?_
    exact s_iret rfl rfl (by first | rw [if_pos (by omega)] | rw [if_neg (by omega)])
  · refine s_if (p' := 7) false rfl (by rw [decide_eq_false q]; rfl) rfl ?_
    refine s_con (p' := 8) rfl rfl ?_
    refine c_iret rfl rfl ?_
    refine s_goto (p' := 36) rfl rfl ?_
    refine c_iret rfl rfl ?_
    exact s_iret rfl rfl (by first | rw [if_pos (by omega)] | rw [if_neg (by omega)])
theorem k_308 (h : mj_H) : mj_rd h 1000308 = some (.inr (21, [.ref 1000309, .int (nI 0)])) := rfl
theorem k_309 (h : mj_H) : mj_rd h 1000309 = some (.inl (1, (6, .inl (mj_byt [43, 45, 33, 63, 64, 36])))) := rfl
def tl_308 (j : Nat) : Nat := ([43, 45, 33, 63, 64, 36] : List Nat).getD j 0
theorem tl_308_b : ∀ j, j < 6 → tl_308 j < 128 := by decide
theorem ks_308 (h : mj_H) : yStr h 1000308 6 0 tl_308 := ⟨⟨Nat.zero_le 1, fun j hj => ⟨by have := tl_308_b j hj; omega, fun _ => by have := tl_308_b j hj; omega⟩⟩, 1000309, [], k_308 h, mj_byt [43, 45, 33, 63, 64, 36], k_309 h, by decide, fun j _ => byt_fit _, fun j _ => rfl⟩
theorem y_io308 {h : mj_H} {c : Nat} (hc : c < 65536) : mj_run 5 317 (0, [some (.ref 1000308), some (.int (nI c))], [], h) (.inl (some (.int (nI (if c < 256 then fIdx tl_308 c 6 0 else 4294967295)))), h) := by
  refine s_aldn (p' := 1) rfl rfl rfl ?_
  refine s_ildn (p' := 2) rfl rfl rfl ?_
  refine s_con (p' := 3) rfl rfl ?_
  refine c_call (p' := 6) (kc := 4) (ls0 := [_, _, _]) rfl rfl rfl rfl rfl (mj_rcv_is (k_308 h)) rfl rfl rfl ?_
  refine s_aldn (p' := 1) rfl rfl rfl ?_
  refine c_call (p' := 4) (kc := 2) (ls0 := [_]) rfl rfl rfl rfl rfl (mj_rcv_is (k_308 h)) rfl rfl rfl ?_
  refine s_sh (p' := 3) (ls' := _) (st' := .int (nI 1) :: _) (h' := _) rfl rfl rfl rfl ?_
  refine s_if (p' := 6) false rfl ((cz_eq (by omega)).trans (decide_eq_false (by omega))) rfl ?_
  refine s_aldn (p' := 7) rfl rfl rfl ?_
  refine s_gf (p' := 10) rfl (k_308 h) rfl rfl ?_
  refine s_if (p' := 13) false rfl ((cz_ne (by omega)).trans (decide_eq_false (by omega))) rfl ?_
  refine s_con (p' := 14) rfl rfl ?_
  refine s_goto (p' := 18) rfl rfl ?_
  refine c_iret rfl rfl ?_
  refine s_if (p' := 7) false rfl ((cz_eq (by omega)).trans (decide_eq_false (by omega))) rfl ?_
  refine s_aldn (p' := 8) rfl rfl rfl ?_
  refine s_gf (p' := 11) rfl (k_308 h) rfl rfl ?_
  refine s_ildn (p' := 12) rfl rfl rfl ?_
  refine s_ildn (p' := 13) rfl rfl rfl ?_
  refine s_aldn (p' := 14) rfl rfl rfl ?_
  refine s_callV (p' := 17) (ls0 := [_]) rfl rfl rfl rfl rfl (mj_rcv_is (k_308 h)) rfl (y_len0 (ks_308 h) (by omega)) (by first | decide | omega) rfl ?_
  refine c_call (p' := 20) (kc := 2) (ls0 := [_, _, _, _]) rfl rfl rfl rfl rfl rfl rfl rfl rfl ?_
  refine s_ildn (p' := 1) rfl rfl rfl ?_
  refine s_callV (p' := 4) (ls0 := [_]) rfl rfl rfl rfl rfl rfl rfl (y_can hc) (by first | decide | omega) rfl ?_
  by_cases q : c < 256
  · refine s_if (p' := 9) true rfl (by rw [decide_eq_true q]; rfl) rfl ?_
    refine s_ildn (p' := 10) rfl rfl rfl ?_
    refine s_con (p' := 11) rfl rfl ?_
    refine s_primV (p' := 14) (q := 4) rfl rfl rfl rfl rfl rfl rfl rfl ?_
    rw [mI_max (by omega) (by omega), show max 0 0 = 0 from rfl]
    refine s_istn (p' := 15) (ls' := [_, _, _, _]) rfl rfl rfl rfl ?_
    refine s_ildn (p' := 16) rfl rfl rfl ?_
    refine s_aldn (p' := 17) rfl rfl rfl ?_
    refine s_len (p' := 18) rfl (mj_rdA_is (k_309 h) (by decide)) (by decide) rfl ?_
    refine s_primV (p' := 21) (q := 5) rfl rfl rfl rfl rfl rfl rfl rfl ?_
    rw [mI_min (by omega) (by omega), show min 6 6 = 6 from rfl]
    refine s_istn (p' := 22) (ls' := [_, _, _, _]) rfl rfl rfl rfl ?_
    refine s_ildn (p' := 23) rfl rfl rfl ?_
    refine s_ildn (p' := 24) rfl rfl rfl ?_
    refine s_icmp (p' := 29) true rfl ((ci_lt (by omega) (by omega)).trans (decide_eq_true (by omega))) rfl ?_
    refine s_aldn (p' := 30) rfl rfl rfl ?_
    refine s_ildn (p' := 31) rfl rfl rfl ?_
    refine s_ildn (p' := 32) rfl rfl rfl ?_
    refine s_ildn (p' := 33) rfl rfl rfl ?_
    refine s_callV (p' := 36) (ls0 := [_, _, _, _, _, _]) rfl rfl rfl rfl rfl rfl rfl (y_ioc (k_309 h) (Nat.le_refl 6) (by decide) (fun j _ => rfl) (l := tl_308) tl_308_b (by omega)) (by first | decide | omega) rfl ?_
    refine c_iret rfl rfl ?_
    refine s_goto (p' := 36) rfl rfl ?_
    refine c_iret rfl rfl ?_
    exact s_iret rfl rfl (by first | rw [if_pos (by omega)] | rw [if_neg (by omega)])
  · refine s_if (p' := 7) false rfl (by rw [decide_eq_false q]; rfl) rfl ?_
    refine s_con (p' := 8) rfl rfl ?_
    refine c_iret rfl rfl ?_
    refine s_goto (p' := 36) rfl rfl ?_
    refine c_iret rfl rfl ?_
    exact s_iret rfl rfl (by first | rw [if_pos (by omega)] | rw [if_neg (by omega)])
abbrev ptC (s a b : Int32) (v fr to_ one oth : Value) : mj_C := .inr (24, [.int s, .int a, .int b, v, fr, to_, one, oth])
/-- cells made behind a heap -/
def frI (h : mj_H) (a : Nat) : Prop := h.length ≤ a ∧ a < mj_CB
def ySu (I : Nat → Prop) (h : mj_H) (S t p u : Nat) : Prop := ∃ (V N : Nat) (vf nf : Nat → Int32) (sg : Int32) (k : Nat), ySm h S V N vf nf sg k ∧ I S ∧ I V ∧ I N ∧ tmR t (vf 0) (nf 0) ∧ (p = 32 ∧ k = 1 ∨ p ≠ 32 ∧ k = 2 ∧ sg = nI p ∧ tmR u (vf 1) (nf 1))
/-- a part that is one act A -/
def ySim (I : Nat → Prop) (h : mj_H) (A : Nat → Nat) (p : Nat) : Prop := brS (A 0) = false ∧ I p ∧ ∃ (b : Int32) (v : Value), mj_rd h p = some (ptC (nI (A 0)) (nI (A 1)) b v .null .null .null .null) ∧ (A 0 = 126 → ∃ w, w < 8 ∧ A 2 = vT w ∧ b = nI w) ∧ (A 0 = 43 ∨ A 0 = 45 ∨ A 0 = 94 → ∃ S, v = .ref S ∧ ySu I h S (A 2) (A 3) (A 4)) ∧ (v = .null ∨ ∃ S, v = .ref S)
theorem y_smi {h : mj_H} {S : Nat} (bS : S < mj_CB) (hb : h.length + 10 < mj_CB) (hS : mj_rd h S = some (.inr (25, [.null, .null, .int 0, .int 0]))) : mj_Wp 0 330 (0, [some (.ref S)], [], h) (mz_N fun h' => ∃ vf nf, vf 0 = nI 4294967295 ∧ vf 1 = nI 4294967295 ∧ ySm h' S h.length (h.length + 1) vf nf (nI 45) 0 ∧ h'.length = h.length + 2 ∧ mz_mo [S] 2 4 h h') := by
  have hx0 : S < h.length := rd_len (by omega) hS
  have m0 : mz_mo [S] 0 0 h h := mz_mo.rf _ _ _ _
  have l0 : h.length = h.length + 0 := rfl
  refine s_aldn (p' := 1) rfl rfl rfl ?_
  refine s_primN (p' := 4) (q := 3) rfl rfl rfl rfl rfl rfl rfl rfl ?_
  refine s_aldn (p' := 5) rfl rfl rfl ?_
  refine s_con (p' := 6) rfl rfl ?_
  refine s_naz (p' := 8) (a := h.length) (n := 2) rfl rfl (Nat.ble_eq.mpr (by decide)) rfl ?_
  generalize hg1 : h ++ [_] = h1
  have l1 : h1.length = h.length + 1 := by rw [← hg1, List.length_append, l0]; rfl
  have S1 : mj_rd h1 S = some (.inr (25, [.null, .null, .int 0, .int 0])) := by rw [← hg1]; exact rd_app hS
  have V1 : mj_rd h1 h.length = some (i2C (fun _ => 0)) := by rw [← hg1]; exact rd_nw (Nat.blt_eq.mpr (by omega)) l0
  have m1 : mz_mo [S] 1 2 h h1 := by rw [← hg1]; exact m0.tr (mz_mo.ap [S] _ _) (fun y hy => Or.inl hy) (by omega) (by show 0 + 2 ≤ 2; omega)
  clear hg1
  refine s_sp (p' := 9) (ls' := _) rfl rfl rfl ?_
  refine s_con (p' := 10) rfl rfl ?_
  refine s_con (p' := 11) rfl rfl ?_
  refine s_ias (p' := 12) rfl (by omega) V1 (inb_nI (by omega) (by omega)) rfl ?_
  rw [mI_cl (by omega)]
  generalize hg2 : List.set h1 h.length _ = h2
  have l2 : h2.length = h.length + 1 := by rw [← hg2, List.length_set, l1]
  have m2 : mz_mo [S] 1 2 h h2 := by rw [← hg2]; exact mz_mo.s m1 (by omega) V1 rfl (Or.inr (by omega))
  have S2 : mj_rd h2 S = some (.inr (25, [.null, .null, .int 0, .int 0])) := by rw [← hg2]; exact (rd_setn (by omega)).trans S1
  have V2 : mj_rd h2 h.length = some (i2C (upd (fun _ => 0) 0 (nI 4294967295))) := by rw [← hg2]; exact rd_set (by omega) V1
  clear hg2
  refine s_sp (p' := 13) (ls' := _) rfl rfl rfl ?_
  refine s_con (p' := 14) rfl rfl ?_
  refine s_con (p' := 15) rfl rfl ?_
  refine s_ias (p' := 16) rfl (by omega) V2 (inb_nI (by omega) (by omega)) rfl ?_
  rw [mI_cl (by omega)]
  generalize hg3 : List.set h2 h.length _ = h3
  have l3 : h3.length = h.length + 1 := by rw [← hg3, List.length_set, l2]
  have m3 : mz_mo [S] 1 2 h h3 := by rw [← hg3]; exact mz_mo.s m2 (by omega) V2 rfl (Or.inr (by omega))
  have S3 : mj_rd h3 S = some (.inr (25, [.null, .null, .int 0, .int 0])) := by rw [← hg3]; exact (rd_setn (by omega)).trans S2
  have V3 : mj_rd h3 h.length = some (i2C (upd (upd (fun _ => 0) 0 (nI 4294967295)) 1 (nI 4294967295))) := by rw [← hg3]; exact rd_set (by omega) V2
  clear hg3
  refine s_pf (p' := 19) (fs' := [_, _, _, _]) rfl bS S3 (Nat.blt_eq.mp rfl) rfl rfl rfl ?_
  generalize hg4 : List.set h3 S _ = h4
  have l4 : h4.length = h.length + 1 := by rw [← hg4, List.length_set, l3]
  have m4 : mz_mo [S] 1 2 h h4 := by rw [← hg4]; exact mz_mo.s m3 (by omega) S3 rfl (Or.inl (by simp))
  have S4 : mj_rd h4 S = some (.inr (25, [.ref h.length, .null, .int 0, .int 0])) := by rw [← hg4]; exact rd_set (by omega) S3
  have V4 : mj_rd h4 h.length = some (i2C (upd (upd (fun _ => 0) 0 (nI 4294967295)) 1 (nI 4294967295))) := by rw [← hg4]; exact (rd_setn (by omega)).trans V3
  clear hg4
  refine s_aldn (p' := 20) rfl rfl rfl ?_
  refine s_con (p' := 21) rfl rfl ?_
  refine s_naz (p' := 23) (a := (h.length + 1)) (n := 2) rfl l4 (Nat.ble_eq.mpr (by decide)) rfl ?_
  generalize hg5 : h4 ++ [_] = h5
  have l5 : h5.length = h.length + 2 := by rw [← hg5, List.length_append, l4]; rfl
  have S5 : mj_rd h5 S = some (.inr (25, [.ref h.length, .null, .int 0, .int 0])) := by rw [← hg5]; exact rd_app S4
  have V5 : mj_rd h5 h.length = some (i2C (upd (upd (fun _ => 0) 0 (nI 4294967295)) 1 (nI 4294967295))) := by rw [← hg5]; exact rd_app V4
  have N5 : mj_rd h5 (h.length + 1) = some (i2C (fun _ => 0)) := by rw [← hg5]; exact rd_nw (Nat.blt_eq.mpr (by omega)) l4
  have m5 : mz_mo [S] 2 4 h h5 := by rw [← hg5]; exact m4.tr (mz_mo.ap [S] _ _) (fun y hy => Or.inl hy) (by omega) (by show 2 + 2 ≤ 4; omega)
  clear hg5
  refine s_pf (p' := 26) (fs' := [_, _, _, _]) rfl bS S5 (Nat.blt_eq.mp rfl) rfl rfl rfl ?_
  generalize hg6 : List.set h5 S _ = h6
  have l6 : h6.length = h.length + 2 := by rw [← hg6, List.length_set, l5]
  have m6 : mz_mo [S] 2 4 h h6 := by rw [← hg6]; exact mz_mo.s m5 (by omega) S5 rfl (Or.inl (by simp))
  have S6 : mj_rd h6 S = some (.inr (25, [.ref h.length, .ref (h.length + 1), .int 0, .int 0])) := by rw [← hg6]; exact rd_set (by omega) S5
  have V6 : mj_rd h6 h.length = some (i2C (upd (upd (fun _ => 0) 0 (nI 4294967295)) 1 (nI 4294967295))) := by rw [← hg6]; exact (rd_setn (by omega)).trans V5
  have N6 : mj_rd h6 (h.length + 1) = some (i2C (fun _ => 0)) := by rw [← hg6]; exact (rd_setn (by omega)).trans N5
  clear hg6
  refine s_aldn (p' := 27) rfl rfl rfl ?_
  refine s_bip (p' := 29) rfl rfl ?_
  refine s_pf (p' := 32) (fs' := [_, _, _, _]) rfl bS S6 (Nat.blt_eq.mp rfl) (chr_fit (by decide)) rfl rfl ?_
  generalize hg7 : List.set h6 S _ = h7
  have l7 : h7.length = h.length + 2 := by rw [← hg7, List.length_set, l6]
  have m7 : mz_mo [S] 2 4 h h7 := by rw [← hg7]; exact mz_mo.s m6 (by omega) S6 rfl (Or.inl (by simp))
  have S7 : mj_rd h7 S = some (smC h.length (h.length + 1) (nI 45) 0) := by rw [← hg7]; exact rd_set (by omega) S6
  have V7 : mj_rd h7 h.length = some (i2C (upd (upd (fun _ => 0) 0 (nI 4294967295)) 1 (nI 4294967295))) := by rw [← hg7]; exact (rd_setn (by omega)).trans V6
  have N7 : mj_rd h7 (h.length + 1) = some (i2C (fun _ => 0)) := by rw [← hg7]; exact (rd_setn (by omega)).trans N6
  clear hg7
  refine s_ret rfl ?_
  exact ⟨_, rfl, _, _, rfl, rfl, ⟨S7, V7, N7, by omega⟩, l7, m7⟩
theorem ySim.w {I : Nat → Prop} {h : mj_H} {p v w : Nat} (hw : w < 8) (i : I p) (r : mj_rd h p = some (ptC (nI 126) (nI v) (nI w) .null .null .null .null .null)) : ySim I h (ac 126 v (vT w) 32 0 0 0 0) p :=
  ⟨Bool.eq_false_iff.mpr (brS_f (s := 126) (by decide)), i, nI w, .null, r, fun _ => ⟨w, hw, rfl, rfl⟩, fun e => by have e : 126 = 43 ∨ 126 = 45 ∨ 126 = 94 := e; omega, Or.inl rfl⟩
theorem ySim.u {I : Nat → Prop} {h : mj_H} {p s v t o u S : Nat} (hs : s = 43 ∨ s = 45 ∨ s = 94) (i : I p) (r : mj_rd h p = some (ptC (nI s) (nI v) 0 (.ref S) .null .null .null .null)) (su : ySu I h S t o u) : ySim I h (ac s v t o u 0 0 0) p :=
  ⟨Bool.eq_false_iff.mpr (brS_f (s := s) (by omega)), i, 0, .ref S, r, fun e => by have e : s = 126 := e; omega, fun _ => ⟨S, rfl, su⟩, Or.inr ⟨S, rfl⟩⟩
theorem y_tsg {h : mj_H} {x T n c at_ op S : Nat} {f : Nat → Nat} (hn : n ≤ 60) (hf : ∀ j, j < n → f j < 65536) (r0 : yR h x T n c f at_ op) (ha : at_ ≤ n) {Q : mj_O × mj_H → Prop} (hq : mj_Wp 12 335 (46, [some (.ref x), some (.ref S)], [.int (nI (bN (tB (chA n f at_)))), .ref x], h) Q) : mj_Wp 12 335 (13, [some (.ref x), some (.ref S)], [], h) Q := by
  refine s_aldn (p' := 14) rfl rfl rfl ?_
  refine s_aldn (p' := 15) rfl rfl rfl ?_
  refine s_callV (p' := 18) (ls0 := [_]) rfl rfl rfl rfl rfl (mj_rcv_is r0.1) rfl (y_now hn hf r0 (by omega)) (by first | decide | omega) rfl ?_
  refine s_bip (p' := 20) rfl rfl ?_
  by_cases q60 : chA n f at_ = 60
  · refine s_icmp (p' := 41) true rfl ((ci_eq (by have := nwc_le (chA_le hf at_); omega) (by omega)).trans (decide_eq_true ((nwc_eq (by omega) (by omega)).mpr q60))) rfl ?_
    refine s_con (p' := 42) rfl rfl ?_
    refine s_goto (p' := 46) rfl rfl ?_
    rw [show tB (chA n f at_) = true from decide_eq_true (by omega)] at hq
    exact hq
  · refine s_icmp (p' := 23) false rfl ((ci_eq (by have := nwc_le (chA_le hf at_); omega) (by omega)).trans (decide_eq_false (fun e => q60 ((nwc_eq (by omega) (by omega)).mp e)))) rfl ?_
    refine s_aldn (p' := 24) rfl rfl rfl ?_
    refine s_callV (p' := 27) (ls0 := [_]) rfl rfl rfl rfl rfl (mj_rcv_is r0.1) rfl (y_now hn hf r0 (by omega)) (by first | decide | omega) rfl ?_
    refine s_bip (p' := 29) rfl rfl ?_
    by_cases q61 : chA n f at_ = 61
    · refine s_icmp (p' := 41) true rfl ((ci_eq (by have := nwc_le (chA_le hf at_); omega) (by omega)).trans (decide_eq_true ((nwc_eq (by omega) (by omega)).mpr q61))) rfl ?_
      refine s_con (p' := 42) rfl rfl ?_
      refine s_goto (p' := 46) rfl rfl ?_
      rw [show tB (chA n f at_) = true from decide_eq_true (by omega)] at hq
      exact hq
    · refine s_icmp (p' := 32) false rfl ((ci_eq (by have := nwc_le (chA_le hf at_); omega) (by omega)).trans (decide_eq_false (fun e => q61 ((nwc_eq (by omega) (by omega)).mp e)))) rfl ?_
      refine s_aldn (p' := 33) rfl rfl rfl ?_
      refine s_callV (p' := 36) (ls0 := [_]) rfl rfl rfl rfl rfl (mj_rcv_is r0.1) rfl (y_now hn hf r0 (by omega)) (by first | decide | omega) rfl ?_
      refine s_bip (p' := 38) rfl rfl ?_
      by_cases q62 : chA n f at_ = 62
      · refine s_icmp (p' := 41) false rfl ((ci_ne (by have := nwc_le (chA_le hf at_); omega) (by omega)).trans (decide_eq_false (fun e => e ((nwc_eq (by omega) (by omega)).mpr q62)))) rfl ?_
        refine s_con (p' := 42) rfl rfl ?_
        refine s_goto (p' := 46) rfl rfl ?_
        rw [show tB (chA n f at_) = true from decide_eq_true (by omega)] at hq
        exact hq
      · refine s_icmp (p' := 45) true rfl ((ci_ne (by have := nwc_le (chA_le hf at_); omega) (by omega)).trans (decide_eq_true (fun e => q62 ((nwc_eq (by omega) (by omega)).mp e)))) rfl ?_
        refine s_con (p' := 46) rfl rfl ?_
        rw [show tB (chA n f at_) = false from decide_eq_false (by omega)] at hq
        exact hq
theorem y_tst {fC : Int32 → Int32 → mj_C} (HF : HFl fC) {h : mj_H} {x T n c at_ op : Nat} {f : Nat → Nat} (hn : n ≤ 60) (hf : ∀ j, j < n → f j < 65536) (r0 : yR h x T n c f at_ op) (ha : at_ ≤ n) (bx : x < mj_CB) (hb : h.length + 40 < mj_CB) : mj_Wp 12 335 (0, [some (.ref x), none], [], h) (fun o => (∃ t p u a1 S h', rTest (chA n f) at_ = .inr (t, p, u, a1) ∧ o = (.inl (some (.ref S)), h') ∧ yR h' x T n c f a1 op ∧ ySu (frI h) h' S t p u ∧ h'.length = h.length + 3 ∧ mz_mo [x] 3 8 h h') ∨ (∃ e, rTest (chA n f) at_ = .inl e ∧ yT fC 4 16 h x e o)) := by
  have hx0 : x < h.length := rd_len (by omega) r0.1
  have m0 : mz_mo [x] 0 0 h h := mz_mo.rf _ _ _ _
  have l0 : h.length = h.length + 0 := rfl
  refine s_new (p' := 3) rfl rfl rfl ?_
  generalize hg1 : h ++ [_] = h1
  have l1 : h1.length = h.length + 1 := by rw [← hg1, List.length_append, l0]; rfl
  have X1 : mj_rd h1 x = some (.inr (22, [.ref T, .int (nI at_), .int (nI op)])) := by rw [← hg1]; exact rd_app r0.1
  have S1 : mj_rd h1 h.length = some (.inr (25, [.null, .null, .int 0, .int 0])) := by rw [← hg1]; exact rd_nw (Nat.blt_eq.mpr (by omega)) l0
  have m1 : mz_mo [x] 1 4 h h1 := by rw [← hg1]; exact m0.tr (mz_mo.ap [x] _ _) (fun y hy => Or.inl hy) (by omega) (by show 0 + 4 ≤ 4; omega)
  clear hg1
  refine s_sp (p' := 4) (ls' := _) rfl rfl rfl ?_
  refine s_callEN (p' := 7) (ls0 := [_]) rfl rfl rfl rfl rfl (mj_rcv_is S1) rfl (y_smi (by omega) (by omega) S1) rfl rfl ?_
  rintro h2 ⟨vf, nf, v0, v1, s2, l2', ml⟩
  rw [l1] at s2
  have l2 : h2.length = h.length + 3 := by have := mo_le ml; have := l1; have := l2'; omega
  have m2 : mz_mo [x] 3 8 h h2 := m1.tr ml (fun y hy => by simp only [List.mem_cons, List.not_mem_nil, or_false] at hy ⊢; omega) (by omega) (by omega)
  have X2 : mj_rd h2 x = some (.inr (22, [.ref T, .int (nI at_), .int (nI op)])) := ml.1 _ (by simp only [List.mem_cons, List.not_mem_nil, or_false]; omega) _ X1
  have r2 : yR h2 x T n c f at_ op := r0.up m2.1 X2
  refine s_astn (p' := 8) (ls' := [_, _]) rfl rfl rfl rfl ?_
  refine s_aldn (p' := 9) rfl rfl rfl ?_
  refine s_aldn (p' := 10) rfl rfl rfl ?_
  refine c_call (p' := 13) (kc := 8) (ls0 := [_, _, _, _]) rfl rfl rfl rfl rfl (mj_rcv_is r2.1) rfl rfl rfl ?_
  refine ((y_trm HF hn hf r2 (by omega) bx (by omega) (by omega) (by omega) (by omega) s2 (by decide) v0)).imp ?_
  rintro _ (⟨t, a1, h3, vf3, nf3, e1, rfl, r3, s3, q3, t3, ml3⟩ | ⟨e, e1, tt⟩)
  rotate_left
  · exact yT_K HF (yT.tr m2 (by omega) (by omega) tt) rfl (fun o t => Or.inr ⟨e, by unfold rTest; rw [e1], t⟩)
  show mj_Wp _ _ (13, _, _, _) _
  try dsimp only
  have l3 : h3.length = h.length + 3 := by have := mo_le ml3; have := l2; omega
  have m3 : mz_mo [x] 3 8 h h3 := m2.tr ml3 (fun y hy => by simp only [List.mem_cons, List.not_mem_nil, or_false] at hy ⊢; omega) (by omega) (by omega)
  have b1 := rTerm_b (chA_ok n f) ha e1
  refine y_tsg hn hf r3 (by omega) ?_
  refine s_bip (p' := 48) rfl rfl ?_
  refine c_call (p' := 51) (kc := 1) (ls0 := [_, _, _]) rfl rfl rfl rfl rfl (mj_rcv_is r3.1) rfl rfl rfl ?_
  refine ((y_wt HF hn hf r3 (by omega) bx (by omega) (b := tB (chA n f a1)) (kd := 99) (by decide))).imp ?_
  rintro _ (⟨q, rfl⟩ | ⟨q, tt⟩)
  rotate_left
  · exact yT_K HF (yT.tr m3 (by omega) (by omega) tt) rfl (fun o t => Or.inr ⟨_, by unfold rTest; rw [e1]; dsimp only; rw [if_neg (by rw [q]; decide)], t⟩)
  show mj_Wp _ _ (51, _, _, _) _
  try dsimp only
  have tq := of_decide_eq_true q
  have la := (chA_lt hf (a := a1) (by omega)).1
  refine s_aldn (p' := 52) rfl rfl rfl ?_
  refine s_aldn (p' := 53) rfl rfl rfl ?_
  refine s_callV (p' := 56) (ls0 := [_]) rfl rfl rfl rfl rfl (mj_rcv_is r3.1) rfl (y_now hn hf r3 (by omega)) (by first | decide | omega) rfl ?_
  rw [nwc_lt (by omega)]
  refine s_pf (p' := 59) (fs' := [_, _, _, _]) rfl (by omega) s3.1 (Nat.blt_eq.mp rfl) (chr_fit (by omega)) rfl rfl ?_
  generalize hg4 : List.set h3 h.length _ = h4
  have l4 : h4.length = h.length + 3 := by rw [← hg4, List.length_set, l3]
  have m4 : mz_mo [x] 3 8 h h4 := by rw [← hg4]; exact mz_mo.s m3 (by omega) s3.1 rfl (Or.inr (by omega))
  have X4 : mj_rd h4 x = some (.inr (22, [.ref T, .int (nI a1), .int (nI op)])) := by rw [← hg4]; exact (rd_setn (by omega)).trans r3.1
  have S4 : mj_rd h4 h.length = some (smC (h.length + 1) (h.length + 2) (nI (chA n f a1)) (0 + 1)) := by rw [← hg4]; exact rd_set (by omega) s3.1
  have V4 : mj_rd h4 (h.length + 1) = some (i2C vf3) := by rw [← hg4]; exact (rd_setn (by omega)).trans s3.2.1
  have N4 : mj_rd h4 (h.length + 2) = some (i2C nf3) := by rw [← hg4]; exact (rd_setn (by omega)).trans s3.2.2.1
  clear hg4
  refine s_aldn (p' := 60) rfl rfl rfl ?_
  refine s_sp (p' := 61) (ls' := _) rfl rfl rfl ?_
  refine s_gf (p' := 64) rfl X4 rfl rfl ?_
  refine s_con (p' := 65) rfl rfl ?_
  refine s_sp (p' := 66) (ls' := _) rfl rfl rfl ?_
  rw [mI_add]
  refine s_pf (p' := 69) (fs' := [_, _, _]) rfl bx X4 (Nat.blt_eq.mp rfl) rfl rfl rfl ?_
  generalize hg5 : List.set h4 x _ = h5
  have l5 : h5.length = h.length + 3 := by rw [← hg5, List.length_set, l4]
  have m5 : mz_mo [x] 3 8 h h5 := by rw [← hg5]; exact mz_mo.s m4 (by omega) X4 rfl (Or.inl (by simp))
  have X5 : mj_rd h5 x = some (.inr (22, [.ref T, .int (nI (a1 + 1)), .int (nI op)])) := by rw [← hg5]; exact rd_set (by omega) X4
  have S5 : mj_rd h5 h.length = some (smC (h.length + 1) (h.length + 2) (nI (chA n f a1)) (0 + 1)) := by rw [← hg5]; exact (rd_setn (by omega)).trans S4
  have V5 : mj_rd h5 (h.length + 1) = some (i2C vf3) := by rw [← hg5]; exact (rd_setn (by omega)).trans V4
  have N5 : mj_rd h5 (h.length + 2) = some (i2C nf3) := by rw [← hg5]; exact (rd_setn (by omega)).trans N4
  clear hg5
  have r5 : yR h5 x T n c f (a1 + 1) op := r0.up m5.1 X5
  have s5 : ySm h5 h.length (h.length + 1) (h.length + 2) vf3 nf3 (nI (chA n f a1)) (0 + 1) := ⟨S5, V5, N5, by omega⟩
  refine s_aldn (p' := 70) rfl rfl rfl ?_
  refine s_aldn (p' := 71) rfl rfl rfl ?_
  refine c_call (p' := 74) (kc := 8) (ls0 := [_, _, _, _]) rfl rfl rfl rfl rfl (mj_rcv_is r5.1) rfl rfl rfl ?_
  refine ((y_trm HF hn hf r5 (by omega) bx (by omega) (by omega) (by omega) (by omega) s5 (by decide) ((q3 1 (by decide)).1.trans v1))).imp ?_
  rintro _ (⟨u, a2, h6, vf6, nf6, e2, rfl, r6, s6, q6, t6, ml6⟩ | ⟨e, e2, tt⟩)
  rotate_left
  · exact yT_K HF (yT.tr m5 (by omega) (by omega) tt) rfl (fun o t => Or.inr ⟨e, by unfold rTest; rw [e1]; dsimp only; rw [if_pos q, e2], t⟩)
  show mj_Wp _ _ (74, _, _, _) _
  try dsimp only
  have l6 : h6.length = h.length + 3 := by have := mo_le ml6; have := l5; omega
  have m6 : mz_mo [x] 3 8 h h6 := m5.tr ml6 (fun y hy => by simp only [List.mem_cons, List.not_mem_nil, or_false] at hy ⊢; omega) (by omega) (by omega)
  refine s_aldn (p' := 75) rfl rfl rfl ?_
  refine s_aret rfl ?_
  refine Or.inl ⟨t, chA n f a1, u, a2, h.length, h6, by unfold rTest; rw [e1]; dsimp only; rw [if_pos q, e2], rfl, r6, ⟨_, _, _, _, _, _, s6, ⟨by omega, by omega⟩, ⟨by omega, by omega⟩, ⟨by omega, by omega⟩, by rw [(q6 0 (by decide)).1, (q6 0 (by decide)).2]; exact t3, Or.inr ⟨(tB_n q).1, rfl, rfl, t6⟩⟩, l6, m6⟩
theorem nwc_65 {n : Nat} {f : Nat → Nat} (hf : ∀ j, j < n → f j < 65536) (a : Nat) : nwc (chA n f a) < 65536 := by
  have h := chA_le hf a
  unfold nwc
  split
  · omega
  · rename_i q
    exact (chA_lt hf (a := a) (by omega)).2
theorem nwc_0 {c : Nat} : nwc c = 0 ↔ c = 70000 ∨ c = 0 := by
  unfold nwc
  split <;> omega
theorem tmR_eq {t w : Nat} {v m : Int32} (h : tmR t v m) (hw : w < 8) : v = nI w ↔ t = vT w := by
  rcases h with ⟨w', h1, rfl, rfl⟩ | ⟨h1, rfl, _⟩
  · constructor
    · intro e
      rw [(mI_inj (by omega) (by omega)).mp e]
    · intro e
      rw [vT_in e h1 hw]
  · constructor
    · intro e
      have := congrArg Int32.toInt e
      rw [mI_ti (n := w) (by omega), show (nI 4294967295).toInt = -1 from by decide +kernel] at this
      omega
    · intro e
      unfold vT at e
      omega
theorem io302 (c : Nat) : (if c < 256 then fIdx tl_302 c 4 0 else 4294967295) = if 43 = c then 0 else if 45 = c then 1 else if 94 = c then 2 else if 126 = c then 3 else 4294967295 := by
  show (if c < 256 then (if 43 = c then 0 else if 45 = c then 1 else if 94 = c then 2 else if 126 = c then 3 else 4294967295) else 4294967295) = _
  repeat' split
  all_goals omega
theorem io302_lt {c : Nat} (hc : c ≤ 70000) : mj_ci .lt (nI (if nwc c < 256 then fIdx tl_302 (nwc c) 4 0 else 4294967295)) 0 = !(oB c) := by
  rw [io302 (nwc c)]
  by_cases q43 : c = 43
  · rw [q43]
    decide +kernel
  by_cases q45 : c = 45
  · rw [q45]
    decide +kernel
  by_cases q94 : c = 94
  · rw [q94]
    decide +kernel
  by_cases q126 : c = 126
  · rw [q126]
    decide +kernel
  have q : ∀ w, w = nwc c → w = c ∨ w = 0 := fun w e => by rw [e]; unfold nwc; split <;> omega
  have q := q _ rfl
  rw [if_neg (by omega), if_neg (by omega), if_neg (by omega), if_neg (by omega), show oB c = false from decide_eq_false (by omega)]
  decide +kernel
theorem io304 (c : Nat) : (if c < 256 then fIdx tl_304 c 4 0 else 4294967295) = if 43 = c then 0 else if 45 = c then 1 else if 42 = c then 2 else if 38 = c then 3 else 4294967295 := by
  show (if c < 256 then (if 43 = c then 0 else if 45 = c then 1 else if 42 = c then 2 else if 38 = c then 3 else 4294967295) else 4294967295) = _
  repeat' split
  all_goals omega
theorem io304_lt {c : Nat} (hc : c ≤ 70000) : mj_ci .lt (nI (if nwc c < 256 then fIdx tl_304 (nwc c) 4 0 else 4294967295)) 0 = !(sB c) := by
  rw [io304 (nwc c)]
  by_cases q43 : c = 43
  · rw [q43]
    decide +kernel
  by_cases q45 : c = 45
  · rw [q45]
    decide +kernel
  by_cases q42 : c = 42
  · rw [q42]
    decide +kernel
  by_cases q38 : c = 38
  · rw [q38]
    decide +kernel
  have q : ∀ w, w = nwc c → w = c ∨ w = 0 := fun w e => by rw [e]; unfold nwc; split <;> omega
  have q := q _ rfl
  rw [if_neg (by omega), if_neg (by omega), if_neg (by omega), if_neg (by omega), show sB c = false from decide_eq_false (by omega)]
  decide +kernel
def aB (c : Nat) : Bool := decide (c = 33 ∨ c = 63 ∨ c = 64 ∨ c = 36 ∨ c = 91 ∨ c = 123)
theorem io306 (c : Nat) : (if c < 256 then fIdx tl_306 c 6 0 else 4294967295) = if 33 = c then 0 else if 63 = c then 1 else if 64 = c then 2 else if 36 = c then 3 else if 91 = c then 4 else if 123 = c then 5 else 4294967295 := by
  show (if c < 256 then (if 33 = c then 0 else if 63 = c then 1 else if 64 = c then 2 else if 36 = c then 3 else if 91 = c then 4 else if 123 = c then 5 else 4294967295) else 4294967295) = _
  repeat' split
  all_goals omega
theorem io306_lt {c : Nat} (hc : c ≤ 70000) : mj_ci .lt (nI (if nwc c < 256 then fIdx tl_306 (nwc c) 6 0 else 4294967295)) 0 = !(aB c) := by
  rw [io306 (nwc c)]
  by_cases q33 : c = 33
  · rw [q33]
    decide +kernel
  by_cases q63 : c = 63
  · rw [q63]
    decide +kernel
  by_cases q64 : c = 64
  · rw [q64]
    decide +kernel
  by_cases q36 : c = 36
  · rw [q36]
    decide +kernel
  by_cases q91 : c = 91
  · rw [q91]
    decide +kernel
  by_cases q123 : c = 123
  · rw [q123]
    decide +kernel
  have q : ∀ w, w = nwc c → w = c ∨ w = 0 := fun w e => by rw [e]; unfold nwc; split <;> omega
  have q := q _ rfl
  rw [if_neg (by omega), if_neg (by omega), if_neg (by omega), if_neg (by omega), if_neg (by omega), if_neg (by omega), show aB c = false from decide_eq_false (by omega)]
  decide +kernel
theorem y_usg {h : mj_H} {x T n c at_ op : Nat} {f : Nat → Nat} (hn : n ≤ 60) (hf : ∀ j, j < n → f j < 65536) (r0 : yR h x T n c f at_ op) (ha : at_ ≤ n) {l1 l2 l3 : Option Value} {Q : mj_O × mj_H → Prop} (hq : mj_Wp 12 312 (37, [some (.ref x), l1, l2, l3], .int (nI (bN (oB (chA n f at_)))) :: [.ref x], h) Q) : mj_Wp 12 312 (13, [some (.ref x), l1, l2, l3], [.ref x], h) Q := by
  refine s_aldn (p' := 14) rfl rfl rfl ?_
  refine s_callV (p' := 17) (ls0 := [_]) rfl rfl rfl rfl rfl (mj_rcv_is r0.1) rfl (y_now hn hf r0 (by omega)) (by first | decide | omega) rfl ?_
  by_cases q0 : nwc (chA n f at_) = 0
  · refine s_if (p' := 36) true rfl ((cz_eq (by have := nwc_65 hf at_; omega)).trans (decide_eq_true q0)) rfl ?_
    have q00 := nwc_0.mp q0
    refine s_con (p' := 37) rfl rfl ?_
    rw [show oB (chA n f at_) = false from decide_eq_false (by omega)] at hq
    exact hq
  · refine s_if (p' := 20) false rfl ((cz_eq (by have := nwc_65 hf at_; omega)).trans (decide_eq_false q0)) rfl ?_
    refine s_sh (p' := 22) (ls' := _) (st' := .ref 1000302 :: _) (h' := _) rfl rfl rfl rfl ?_
    refine s_aldn (p' := 23) rfl rfl rfl ?_
    refine s_callV (p' := 26) (ls0 := [_]) rfl rfl rfl rfl rfl (mj_rcv_is r0.1) rfl (y_now hn hf r0 (by omega)) (by first | decide | omega) rfl ?_
    refine s_callV (p' := 29) (ls0 := [_, _]) rfl rfl rfl rfl rfl (mj_rcv_is (k_302 _)) rfl (y_io302 (nwc_65 hf _)) (by first | decide | omega) rfl ?_
    by_cases q : oB (chA n f at_) = true
    · refine s_if (p' := 32) false rfl (by rw [io302_lt (chA_le hf _), q]; rfl) rfl ?_
      refine s_con (p' := 33) rfl rfl ?_
      refine s_goto (p' := 37) rfl rfl ?_
      rw [q] at hq
      exact hq
    · refine s_if (p' := 36) true rfl (by rw [io302_lt (chA_le hf _), Bool.eq_false_iff.mpr q]; rfl) rfl ?_
      refine s_con (p' := 37) rfl rfl ?_
      rw [Bool.eq_false_iff.mpr q] at hq
      exact hq
theorem y_ssg {h : mj_H} {x T n c at_ op : Nat} {f : Nat → Nat} (hn : n ≤ 60) (hf : ∀ j, j < n → f j < 65536) (r0 : yR h x T n c f at_ op) (ha : at_ ≤ n) {l1 l2 l3 : Option Value} {Q : mj_O × mj_H → Prop} (hy : sB (chA n f at_) = true → mj_Wp 12 312 (152, [some (.ref x), l1, l2, l3], [], h) Q) (hz : sB (chA n f at_) = false → mj_Wp 12 312 (181, [some (.ref x), l1, l2, l3], [], h) Q) : mj_Wp 12 312 (133, [some (.ref x), l1, l2, l3], [], h) Q := by
  refine s_aldn (p' := 134) rfl rfl rfl ?_
  refine s_callV (p' := 137) (ls0 := [_]) rfl rfl rfl rfl rfl (mj_rcv_is r0.1) rfl (y_now hn hf r0 (by omega)) (by first | decide | omega) rfl ?_
  by_cases q0 : nwc (chA n f at_) = 0
  · refine s_if (p' := 181) true rfl ((cz_eq (by have := nwc_65 hf at_; omega)).trans (decide_eq_true q0)) rfl ?_
    have q00 := nwc_0.mp q0
    exact hz (decide_eq_false (by omega))
  · refine s_if (p' := 140) false rfl ((cz_eq (by have := nwc_65 hf at_; omega)).trans (decide_eq_false q0)) rfl ?_
    refine s_sh (p' := 142) (ls' := _) (st' := .ref 1000304 :: _) (h' := _) rfl rfl rfl rfl ?_
    refine s_aldn (p' := 143) rfl rfl rfl ?_
    refine s_callV (p' := 146) (ls0 := [_]) rfl rfl rfl rfl rfl (mj_rcv_is r0.1) rfl (y_now hn hf r0 (by omega)) (by first | decide | omega) rfl ?_
    refine s_callV (p' := 149) (ls0 := [_, _]) rfl rfl rfl rfl rfl (mj_rcv_is (k_304 _)) rfl (y_io304 (nwc_65 hf _)) (by first | decide | omega) rfl ?_
    by_cases q : sB (chA n f at_) = true
    · refine s_if (p' := 152) false rfl (by rw [io304_lt (chA_le hf _), q]; rfl) rfl ?_
      exact hy q
    · refine s_if (p' := 181) true rfl (by rw [io304_lt (chA_le hf _), Bool.eq_false_iff.mpr q]; rfl) rfl ?_
      exact hz (Bool.eq_false_iff.mpr q)
theorem y_pti {h : mj_H} {P s : Nat} (bP : P < mj_CB) (hs : s < 65536) (hP : mj_rd h P = some (.inr (24, [.int 0, .int 0, .int 0, .null, .null, .null, .null, .null]))) : mj_Wp 0 329 (0, [some (.ref P), some (.int (nI s))], [], h) (fun o => o = (.inl none, h.set P (ptC (nI s) 0 0 .null .null .null .null .null))) := by
  refine s_aldn (p' := 1) rfl rfl rfl ?_
  refine s_primN (p' := 4) (q := 3) rfl rfl rfl rfl rfl rfl rfl rfl ?_
  refine s_aldn (p' := 5) rfl rfl rfl ?_
  refine s_ildn (p' := 6) rfl rfl rfl ?_
  refine s_pf (p' := 9) (fs' := [_, _, _, _, _, _, _, _]) rfl bP hP (Nat.blt_eq.mp rfl) (chr_fit hs) rfl rfl ?_
  exact s_ret rfl rfl
theorem y_has {h : mj_H} {S V N k t u w : Nat} {vf nf : Nat → Int32} {sg : Int32} (hS : ySm h S V N vf nf sg k) (ht : tmR t (vf 0) (nf 0)) (hu : 1 < k → tmR u (vf 1) (nf 1)) (hk : k ≤ 2) (hw : w < 8) : mj_Wp 0 332 (0, [some (.ref S), some (.int (nI w))], [], h) (fun o => o = (.inl (some (.int (nI (bN (decide (t = vT w ∨ 1 < k ∧ u = vT w)))))), h)) := by
  refine s_aldn (p' := 1) rfl rfl rfl ?_
  refine s_gf (p' := 4) rfl hS.1 rfl rfl ?_
  refine s_con (p' := 5) rfl rfl ?_
  refine s_ial (p' := 6) rfl hS.2.1 (inb_nI (by omega) (by omega)) rfl ?_
  rw [mI_cl (by omega)]
  refine s_ildn (p' := 7) rfl rfl rfl ?_
  by_cases q : t = vT w
  · refine s_icmp (p' := 28) true rfl (decide_eq_true ((tmR_eq ht hw).mpr q)) rfl ?_
    refine s_con (p' := 29) rfl rfl ?_
    refine s_goto (p' := 33) rfl rfl ?_
    exact s_iret rfl rfl (by rw [decide_eq_true (Or.inl q)]; rfl)
  · refine s_icmp (p' := 10) false rfl (decide_eq_false (fun e => q ((tmR_eq ht hw).mp e))) rfl ?_
    refine s_aldn (p' := 11) rfl rfl rfl ?_
    refine s_gf (p' := 14) rfl hS.1 rfl rfl ?_
    refine s_con (p' := 15) rfl rfl ?_
    by_cases q2 : 1 < k
    · refine s_icmp (p' := 18) false rfl ((ci_le (by omega) (by omega)).trans (decide_eq_false (by omega))) rfl ?_
      refine s_aldn (p' := 19) rfl rfl rfl ?_
      refine s_gf (p' := 22) rfl hS.1 rfl rfl ?_
      refine s_con (p' := 23) rfl rfl ?_
      refine s_ial (p' := 24) rfl hS.2.1 (inb_nI (by omega) (by omega)) rfl ?_
      rw [mI_cl (by omega)]
      refine s_ildn (p' := 25) rfl rfl rfl ?_
      by_cases q3 : u = vT w
      · refine s_icmp (p' := 28) false rfl (decide_eq_false (fun e => e ((tmR_eq (hu q2) hw).mpr q3))) rfl ?_
        refine s_con (p' := 29) rfl rfl ?_
        refine s_goto (p' := 33) rfl rfl ?_
        exact s_iret rfl rfl (by rw [decide_eq_true (Or.inr ⟨q2, q3⟩)]; rfl)
      · refine s_icmp (p' := 32) true rfl (decide_eq_true (fun e => q3 ((tmR_eq (hu q2) hw).mp e))) rfl ?_
        refine s_con (p' := 33) rfl rfl ?_
        exact s_iret rfl rfl (by rw [decide_eq_false (fun e => e.elim q (fun e => q3 e.2))]; rfl)
    · refine s_icmp (p' := 32) true rfl ((ci_le (by omega) (by omega)).trans (decide_eq_true (by omega))) rfl ?_
      refine s_con (p' := 33) rfl rfl ?_
      exact s_iret rfl rfl (by rw [decide_eq_false (fun e => e.elim q (fun e => q2 e.1))]; rfl)
theorem y_upd {fC : Int32 → Int32 → mj_C} (HF : HFl fC) {h : mj_H} {x T n c at_ op : Nat} {f : Nat → Nat} (hn : n ≤ 60) (hf : ∀ j, j < n → f j < 65536) (r0 : yR h x T n c f at_ op) (ha : at_ ≤ n) (bx : x < mj_CB) (hb : h.length + 40 < mj_CB) (hv : vB (chA n f at_) = true) {k : Nat} {a : Nat → Nat → Nat} : mj_Wp 12 312 (0, [some (.ref x), none, none, none], [], h) (fun o => (∃ s' P h', rChg (chA n f) (at_, k, a) = .inr s' ∧ o = (.inl (some (.ref P)), h') ∧ yR h' x T n c f s'.1 op ∧ s'.2.1 = k + 1 ∧ ySim (frI h) h' (s'.2.2 k) P ∧ mz_mo [x] 4 16 h h') ∨ (∃ e, rChg (chA n f) (at_, k, a) = .inl e ∧ yT fC 5 24 h x e o)) := by
  have hx0 : x < h.length := rd_len (by omega) r0.1
  have m0 : mz_mo [x] 0 0 h h := mz_mo.rf _ _ _ _
  have l0 : h.length = h.length + 0 := rfl
  have hv2 := vB_lt hv
  have hat := (chA_lt hf (a := at_) (by omega)).1
  refine s_aldn (p' := 1) rfl rfl rfl ?_
  refine s_gf (p' := 4) rfl r0.1 rfl rfl ?_
  refine s_istn (p' := 5) (ls' := [_, _, _, _]) rfl rfl rfl rfl ?_
  refine s_aldn (p' := 6) rfl rfl rfl ?_
  refine s_bip (p' := 8) rfl rfl ?_
  refine c_call (p' := 11) (kc := 7) (ls0 := [_, _]) rfl rfl rfl rfl rfl (mj_rcv_is r0.1) rfl rfl rfl ?_
  refine ((y_var HF hn hf r0 (by omega) bx (by omega) (by decide))).imp ?_
  rintro _ (⟨q1, h1, rfl, r1, ml1⟩ | ⟨q1, tt⟩)
  rotate_left
  · exact absurd hv q1
  show mj_Wp _ _ (11, _, _, _) _
  try dsimp only
  have l1 : h1.length = h.length + 0 := by have := mo_le ml1; have := l0; omega
  have m1 : mz_mo [x] 0 0 h h1 := m0.tr ml1 (fun y hy => by simp only [List.mem_cons, List.not_mem_nil, or_false] at hy ⊢; omega) (by omega) (by omega)
  refine s_istn (p' := 12) (ls' := [_, _, _, _]) rfl rfl rfl rfl ?_
  refine s_aldn (p' := 13) rfl rfl rfl ?_
  refine y_usg hn hf r1 (by omega) ?_
  refine s_bip (p' := 39) rfl rfl ?_
  refine c_call (p' := 42) (kc := 1) (ls0 := [_, _, _]) rfl rfl rfl rfl rfl (mj_rcv_is r1.1) rfl rfl rfl ?_
  refine ((y_wt HF hn hf r1 (by omega) bx (by omega) (b := oB (chA n f (at_ + 1))) (kd := 111) (by decide))).imp ?_
  rintro _ (⟨qo, rfl⟩ | ⟨q, tt⟩)
  rotate_left
  · exact yT_K HF (yT.tr m1 (by omega) (by omega) tt) rfl (fun o t => Or.inr ⟨_, by unfold rChg; dsimp only; rw [if_neg (by rw [q]; decide)], t⟩)
  show mj_Wp _ _ (42, _, _, _) _
  try dsimp only
  have qo2 := of_decide_eq_true qo
  have la := (chA_lt hf (a := at_ + 1) (by omega)).1
  refine s_newz (p' := 45) (a := h.length) rfl l1 rfl rfl ?_
  generalize hg2 : h1 ++ [_] = h2
  have l2 : h2.length = h.length + 1 := by rw [← hg2, List.length_append, l1]; rfl
  have X2 : mj_rd h2 x = some (.inr (22, [.ref T, .int (nI (at_ + 1)), .int (nI op)])) := by rw [← hg2]; exact rd_app r1.1
  have P2 : mj_rd h2 h.length = some (.inr (24, [.int 0, .int 0, .int 0, .null, .null, .null, .null, .null])) := by rw [← hg2]; exact rd_nw (Nat.blt_eq.mpr (by omega)) l1
  have m2 : mz_mo [x] 1 8 h h2 := by rw [← hg2]; exact m1.tr (mz_mo.ap [x] _ _) (fun y hy => Or.inl hy) (by omega) (by show 0 + 8 ≤ 8; omega)
  clear hg2
  have r2 : yR h2 x T n c f (at_ + 1) op := r0.up m2.1 X2
  refine s_sp (p' := 46) (ls' := _) rfl rfl rfl ?_
  refine s_aldn (p' := 47) rfl rfl rfl ?_
  refine s_callV (p' := 50) (ls0 := [_]) rfl rfl rfl rfl rfl (mj_rcv_is r2.1) rfl (y_now hn hf r2 (by omega)) (by first | decide | omega) rfl ?_
  rw [nwc_lt (by omega)]
  refine s_callN (p' := 53) (ls0 := [_, _]) rfl rfl rfl rfl rfl (mj_rcv_is P2) rfl (y_pti (by omega) (by omega) P2) (by first | decide | omega) rfl ?_
  generalize hg3 : List.set h2 h.length _ = h3
  have l3 : h3.length = h.length + 1 := by rw [← hg3, List.length_set, l2]
  have m3 : mz_mo [x] 1 8 h h3 := by rw [← hg3]; exact mz_mo.s m2 (by omega) P2 rfl (Or.inr (by omega))
  have X3 : mj_rd h3 x = some (.inr (22, [.ref T, .int (nI (at_ + 1)), .int (nI op)])) := by rw [← hg3]; exact (rd_setn (by omega)).trans X2
  have P3 : mj_rd h3 h.length = some (ptC (nI (chA n f (at_ + 1))) 0 0 .null .null .null .null .null) := by rw [← hg3]; exact rd_set (by omega) P2
  clear hg3
  refine s_astn (p' := 54) (ls' := [_, _, _, _]) rfl rfl rfl rfl ?_
  refine s_aldn (p' := 55) rfl rfl rfl ?_
  refine s_sp (p' := 56) (ls' := _) rfl rfl rfl ?_
  refine s_gf (p' := 59) rfl X3 rfl rfl ?_
  refine s_con (p' := 60) rfl rfl ?_
  refine s_sp (p' := 61) (ls' := _) rfl rfl rfl ?_
  rw [mI_add]
  refine s_pf (p' := 64) (fs' := [_, _, _]) rfl bx X3 (Nat.blt_eq.mp rfl) rfl rfl rfl ?_
  generalize hg4 : List.set h3 x _ = h4
  have l4 : h4.length = h.length + 1 := by rw [← hg4, List.length_set, l3]
  have m4 : mz_mo [x] 1 8 h h4 := by rw [← hg4]; exact mz_mo.s m3 (by omega) X3 rfl (Or.inl (by simp))
  have X4 : mj_rd h4 x = some (.inr (22, [.ref T, .int (nI (at_ + 1 + 1)), .int (nI op)])) := by rw [← hg4]; exact rd_set (by omega) X3
  have P4 : mj_rd h4 h.length = some (ptC (nI (chA n f (at_ + 1))) 0 0 .null .null .null .null .null) := by rw [← hg4]; exact (rd_setn (by omega)).trans P3
  clear hg4
  refine s_aldn (p' := 65) rfl rfl rfl ?_
  refine s_ildn (p' := 66) rfl rfl rfl ?_
  refine s_pf (p' := 69) (fs' := [_, _, _, _, _, _, _, _]) rfl (by omega) P4 (Nat.blt_eq.mp rfl) rfl rfl rfl ?_
  generalize hg5 : List.set h4 h.length _ = h5
  have l5 : h5.length = h.length + 1 := by rw [← hg5, List.length_set, l4]
  have m5 : mz_mo [x] 1 8 h h5 := by rw [← hg5]; exact mz_mo.s m4 (by omega) P4 rfl (Or.inr (by omega))
  have X5 : mj_rd h5 x = some (.inr (22, [.ref T, .int (nI (at_ + 1 + 1)), .int (nI op)])) := by rw [← hg5]; exact (rd_setn (by omega)).trans X4
  have P5 : mj_rd h5 h.length = some (ptC (nI (chA n f (at_ + 1))) (nI (chA n f at_ - 97)) 0 .null .null .null .null .null) := by rw [← hg5]; exact rd_set (by omega) P4
  clear hg5
  have r5 : yR h5 x T n c f (at_ + 1 + 1) op := r0.up m5.1 X5
  refine s_aldn (p' := 70) rfl rfl rfl ?_
  refine s_gf (p' := 73) rfl P5 rfl rfl ?_
  refine s_bip (p' := 75) rfl rfl ?_
  by_cases q126 : chA n f (at_ + 1) = 126
  · refine s_icmp (p' := 78) false rfl ((ci_ne (by omega) (by omega)).trans (decide_eq_false (fun e => e q126))) rfl ?_
    refine s_aldn (p' := 79) rfl rfl rfl ?_
    refine s_aldn (p' := 80) rfl rfl rfl ?_
    refine s_bip (p' := 82) rfl rfl ?_
    refine c_call (p' := 85) (kc := 7) (ls0 := [_, _]) rfl rfl rfl rfl rfl (mj_rcv_is r5.1) rfl rfl rfl ?_
    refine ((y_var HF hn hf r5 (by omega) bx (by omega) (by decide))).imp ?_
    rintro _ (⟨q1, h6, rfl, r6, ml6⟩ | ⟨q1, tt⟩)
    rotate_left
    · exact yT_K HF (yT.tr m5 (by omega) (by omega) tt) rfl (fun o t => Or.inr ⟨_, by unfold rChg; dsimp only; rw [if_pos qo, if_pos q126, if_neg q1], t⟩)
    show mj_Wp _ _ (85, _, _, _) _
    try dsimp only
    have l6 : h6.length = h.length + 1 := by have := mo_le ml6; have := l5; omega
    have m6 : mz_mo [x] 1 8 h h6 := m5.tr ml6 (fun y hy => by simp only [List.mem_cons, List.not_mem_nil, or_false] at hy ⊢; omega) (by omega) (by omega)
    have P6 : mj_rd h6 h.length = some (ptC (nI (chA n f (at_ + 1))) (nI (chA n f at_ - 97)) 0 .null .null .null .null .null) := ml6.1 _ (by simp only [List.mem_cons, List.not_mem_nil, or_false]; omega) _ P5
    have q12 := vB_lt q1
    have lb := (chA_lt hf (a := at_ + 1 + 1) (by omega)).1
    refine s_pf (p' := 88) (fs' := [_, _, _, _, _, _, _, _]) rfl (by omega) P6 (Nat.blt_eq.mp rfl) rfl rfl rfl ?_
    generalize hg7 : List.set h6 h.length _ = h7
    have l7 : h7.length = h.length + 1 := by rw [← hg7, List.length_set, l6]
    have m7 : mz_mo [x] 1 8 h h7 := by rw [← hg7]; exact mz_mo.s m6 (by omega) P6 rfl (Or.inr (by omega))
    have X7 : mj_rd h7 x = some (.inr (22, [.ref T, .int (nI (at_ + 1 + 1 + 1)), .int (nI op)])) := by rw [← hg7]; exact (rd_setn (by omega)).trans r6.1
    have P7 : mj_rd h7 h.length = some (ptC (nI (chA n f (at_ + 1))) (nI (chA n f at_ - 97)) (nI (chA n f (at_ + 1 + 1) - 97)) .null .null .null .null .null) := by rw [← hg7]; exact rd_set (by omega) P6
    clear hg7
    have r7 : yR h7 x T n c f (at_ + 1 + 1 + 1) op := r0.up m7.1 X7
    refine s_aldn (p' := 89) rfl rfl rfl ?_
    refine s_gf (p' := 92) rfl P7 rfl rfl ?_
    refine s_ildn (p' := 93) rfl rfl rfl ?_
    by_cases q2 : chA n f (at_ + 1 + 1) = chA n f at_
    · refine s_icmp (p' := 96) false rfl ((ci_ne (by omega) (by omega)).trans (decide_eq_false (by omega))) rfl ?_
      refine HF.2.2.1 12 h7 x T _ op _ _ _ _ bx (by omega) X7 ?_
      rw [mI_sub (by omega), show at_ + 1 + 1 + 1 - 1 = at_ + 2 by omega]
      refine Or.inr ⟨(114, at_ + 2), by unfold rChg; dsimp only; rw [if_pos qo, if_pos q126, if_pos q1, if_pos q2], h7.length, _, rfl, by omega, by omega, rd_nw (Nat.blt_eq.mpr (by omega)) rfl, ?_⟩
      exact (m7.tr (mz_mo.ap [x] _ _) (fun y hy => Or.inl hy) (by omega) (by rw [fC_cs HF]; omega))
    · refine s_icmp (p' := 112) true rfl ((ci_ne (by omega) (by omega)).trans (decide_eq_true (by omega))) rfl ?_
      refine s_aldn (p' := 113) rfl rfl rfl ?_
      refine s_aret rfl ?_
      refine Or.inl ⟨_, _, h7, by unfold rChg; dsimp only; rw [if_pos qo, if_pos q126, if_pos q1, if_neg q2], rfl, r7, rfl, ?_, m7.wk (fun y hy => Or.inl hy) (by omega) (by omega)⟩
      dsimp only
      rw [adA_at]
      rw [q126] at P7
      exact ySim.w (by have z : chA n f (at_ + 2) = chA n f (at_ + 1 + 1) := rfl; omega) ⟨by omega, by omega⟩ P7
  · refine s_icmp (p' := 114) true rfl ((ci_ne (by omega) (by omega)).trans (decide_eq_true q126)) rfl ?_
    refine s_aldn (p' := 115) rfl rfl rfl ?_
    refine s_newz (p' := 118) (a := (h.length + 1)) rfl l5 rfl rfl ?_
    generalize hg6 : h5 ++ [_] = h6
    have l6 : h6.length = h.length + 2 := by rw [← hg6, List.length_append, l5]; rfl
    have X6 : mj_rd h6 x = some (.inr (22, [.ref T, .int (nI (at_ + 1 + 1)), .int (nI op)])) := by rw [← hg6]; exact rd_app X5
    have P6 : mj_rd h6 h.length = some (ptC (nI (chA n f (at_ + 1))) (nI (chA n f at_ - 97)) 0 .null .null .null .null .null) := by rw [← hg6]; exact rd_app P5
    have S6 : mj_rd h6 (h.length + 1) = some (.inr (25, [.null, .null, .int 0, .int 0])) := by rw [← hg6]; exact rd_nw (Nat.blt_eq.mpr (by omega)) l5
    have m6 : mz_mo [x] 2 12 h h6 := by rw [← hg6]; exact m5.tr (mz_mo.ap [x] _ _) (fun y hy => Or.inl hy) (by omega) (by show 8 + 4 ≤ 12; omega)
    clear hg6
    refine s_sp (p' := 119) (ls' := _) rfl rfl rfl ?_
    refine s_callEN (p' := 122) (ls0 := [_]) rfl rfl rfl rfl rfl (mj_rcv_is S6) rfl (y_smi (by omega) (by omega) S6) rfl rfl ?_
    rintro h7 ⟨vf, nf, v0, v1, s7, l7', ml7⟩
    rw [l6] at s7
    have l7 : h7.length = h.length + 4 := by have := mo_le ml7; have := l6; have := l7'; omega
    have m7 : mz_mo [x] 4 16 h h7 := m6.tr ml7 (fun y hy => by simp only [List.mem_cons, List.not_mem_nil, or_false] at hy ⊢; omega) (by omega) (by omega)
    have X7 : mj_rd h7 x = some (.inr (22, [.ref T, .int (nI (at_ + 1 + 1)), .int (nI op)])) := ml7.1 _ (by simp only [List.mem_cons, List.not_mem_nil, or_false]; omega) _ X6
    have P7 : mj_rd h7 h.length = some (ptC (nI (chA n f (at_ + 1))) (nI (chA n f at_ - 97)) 0 .null .null .null .null .null) := ml7.1 _ (by simp only [List.mem_cons, List.not_mem_nil, or_false]; omega) _ P6
    refine s_pf (p' := 125) (fs' := [_, _, _, _, _, _, _, _]) rfl (by omega) P7 (Nat.blt_eq.mp rfl) rfl rfl rfl ?_
    generalize hg8 : List.set h7 h.length _ = h8
    have l8 : h8.length = h.length + 4 := by rw [← hg8, List.length_set, l7]
    have m8 : mz_mo [x] 4 16 h h8 := by rw [← hg8]; exact mz_mo.s m7 (by omega) P7 rfl (Or.inr (by omega))
    have X8 : mj_rd h8 x = some (.inr (22, [.ref T, .int (nI (at_ + 1 + 1)), .int (nI op)])) := by rw [← hg8]; exact (rd_setn (by omega)).trans X7
    have P8 : mj_rd h8 h.length = some (ptC (nI (chA n f (at_ + 1))) (nI (chA n f at_ - 97)) 0 (.ref (h.length + 1)) .null .null .null .null) := by rw [← hg8]; exact rd_set (by omega) P7
    have S8 : mj_rd h8 (h.length + 1) = some (smC (h.length + 2) ((h.length + 2) + 1) (nI 45) 0) := by rw [← hg8]; exact (rd_setn (by omega)).trans s7.1
    have V8 : mj_rd h8 (h.length + 2) = some (i2C vf) := by rw [← hg8]; exact (rd_setn (by omega)).trans s7.2.1
    have N8 : mj_rd h8 ((h.length + 2) + 1) = some (i2C nf) := by rw [← hg8]; exact (rd_setn (by omega)).trans s7.2.2.1
    clear hg8
    have r8 : yR h8 x T n c f (at_ + 1 + 1) op := r0.up m8.1 X8
    have s8 : ySm h8 (h.length + 1) (h.length + 2) ((h.length + 2) + 1) vf nf (nI 45) 0 := ⟨S8, V8, N8, by omega⟩
    refine s_aldn (p' := 126) rfl rfl rfl ?_
    refine s_aldn (p' := 127) rfl rfl rfl ?_
    refine s_gf (p' := 130) rfl P8 rfl rfl ?_
    refine c_call (p' := 133) (kc := 8) (ls0 := [_, _, _, _]) rfl rfl rfl rfl rfl (mj_rcv_is r8.1) rfl rfl rfl ?_
    refine ((y_trm HF hn hf r8 (by omega) bx (by omega) (by omega) (by omega) (by omega) s8 (by decide) v0)).imp ?_
    rintro _ (⟨t, a1, h9, vf9, nf9, e1, rfl, r9, s9, q9, t9, ml9⟩ | ⟨e, e1, tt⟩)
    rotate_left
    · exact yT_K HF (yT.tr m8 (by omega) (by omega) tt) rfl (fun o t => Or.inr ⟨e, by unfold rChg; dsimp only; rw [if_pos qo, if_neg q126, e1], t⟩)
    show mj_Wp _ _ (133, _, _, _) _
    try dsimp only
    have l9 : h9.length = h.length + 4 := by have := mo_le ml9; have := l8; omega
    have m9 : mz_mo [x] 4 16 h h9 := m8.tr ml9 (fun y hy => by simp only [List.mem_cons, List.not_mem_nil, or_false] at hy ⊢; omega) (by omega) (by omega)
    have P9 : mj_rd h9 h.length = some (ptC (nI (chA n f (at_ + 1))) (nI (chA n f at_ - 97)) 0 (.ref (h.length + 1)) .null .null .null .null) := ml9.1 _ (by simp only [List.mem_cons, List.not_mem_nil, or_false]; omega) _ P8
    have b1 := rTerm_b (chA_ok n f) (a := at_ + 1 + 1) (by omega) e1
    refine y_ssg hn hf r9 b1.2.1 (fun qs => ?_) (fun qs => ?_)
    · have qs2 := of_decide_eq_true qs
      have lc := (chA_lt hf (a := a1) (by omega)).1
      refine s_aldn (p' := 153) rfl rfl rfl ?_
      refine s_gf (p' := 156) rfl P9 rfl rfl ?_
      refine s_aldn (p' := 157) rfl rfl rfl ?_
      refine s_callV (p' := 160) (ls0 := [_]) rfl rfl rfl rfl rfl (mj_rcv_is r9.1) rfl (y_now hn hf r9 (by omega)) (by first | decide | omega) rfl ?_
      rw [nwc_lt (by omega)]
      refine s_pf (p' := 163) (fs' := [_, _, _, _]) rfl (by omega) s9.1 (Nat.blt_eq.mp rfl) (chr_fit (by omega)) rfl rfl ?_
      generalize hg10 : List.set h9 (h.length + 1) _ = h10
      have l10 : h10.length = h.length + 4 := by rw [← hg10, List.length_set, l9]
      have m10 : mz_mo [x] 4 16 h h10 := by rw [← hg10]; exact mz_mo.s m9 (by omega) s9.1 rfl (Or.inr (by omega))
      have X10 : mj_rd h10 x = some (.inr (22, [.ref T, .int (nI a1), .int (nI op)])) := by rw [← hg10]; exact (rd_setn (by omega)).trans r9.1
      have P10 : mj_rd h10 h.length = some (ptC (nI (chA n f (at_ + 1))) (nI (chA n f at_ - 97)) 0 (.ref (h.length + 1)) .null .null .null .null) := by rw [← hg10]; exact (rd_setn (by omega)).trans P9
      have S10 : mj_rd h10 (h.length + 1) = some (smC (h.length + 2) ((h.length + 2) + 1) (nI (chA n f a1)) (0 + 1)) := by rw [← hg10]; exact rd_set (by omega) s9.1
      have V10 : mj_rd h10 (h.length + 2) = some (i2C vf9) := by rw [← hg10]; exact (rd_setn (by omega)).trans s9.2.1
      have N10 : mj_rd h10 ((h.length + 2) + 1) = some (i2C nf9) := by rw [← hg10]; exact (rd_setn (by omega)).trans s9.2.2.1
      clear hg10
      refine s_aldn (p' := 164) rfl rfl rfl ?_
      refine s_sp (p' := 165) (ls' := _) rfl rfl rfl ?_
      refine s_gf (p' := 168) rfl X10 rfl rfl ?_
      refine s_con (p' := 169) rfl rfl ?_
      refine s_sp (p' := 170) (ls' := _) rfl rfl rfl ?_
      rw [mI_add]
      refine s_pf (p' := 173) (fs' := [_, _, _]) rfl bx X10 (Nat.blt_eq.mp rfl) rfl rfl rfl ?_
      generalize hg11 : List.set h10 x _ = h11
      have l11 : h11.length = h.length + 4 := by rw [← hg11, List.length_set, l10]
      have m11 : mz_mo [x] 4 16 h h11 := by rw [← hg11]; exact mz_mo.s m10 (by omega) X10 rfl (Or.inl (by simp))
      have X11 : mj_rd h11 x = some (.inr (22, [.ref T, .int (nI (a1 + 1)), .int (nI op)])) := by rw [← hg11]; exact rd_set (by omega) X10
      have P11 : mj_rd h11 h.length = some (ptC (nI (chA n f (at_ + 1))) (nI (chA n f at_ - 97)) 0 (.ref (h.length + 1)) .null .null .null .null) := by rw [← hg11]; exact (rd_setn (by omega)).trans P10
      have S11 : mj_rd h11 (h.length + 1) = some (smC (h.length + 2) ((h.length + 2) + 1) (nI (chA n f a1)) (0 + 1)) := by rw [← hg11]; exact (rd_setn (by omega)).trans S10
      have V11 : mj_rd h11 (h.length + 2) = some (i2C vf9) := by rw [← hg11]; exact (rd_setn (by omega)).trans V10
      have N11 : mj_rd h11 ((h.length + 2) + 1) = some (i2C nf9) := by rw [← hg11]; exact (rd_setn (by omega)).trans N10
      clear hg11
      have r11 : yR h11 x T n c f (a1 + 1) op := r0.up m11.1 X11
      have s11 : ySm h11 (h.length + 1) (h.length + 2) ((h.length + 2) + 1) vf9 nf9 (nI (chA n f a1)) (0 + 1) := ⟨S11, V11, N11, by omega⟩
      refine s_aldn (p' := 174) rfl rfl rfl ?_
      refine s_aldn (p' := 175) rfl rfl rfl ?_
      refine s_gf (p' := 178) rfl (by repeat (first | assumption | refine rd_app ?_ | rw [rd_setn (by first | assumption | omega)] | apply rd_set (by first | assumption | decide))) rfl rfl ?_
      refine c_call (p' := 181) (kc := 8) (ls0 := [_, _, _, _]) rfl rfl rfl rfl rfl (mj_rcv_is r11.1) rfl rfl rfl ?_
      refine ((y_trm HF hn hf r11 (by omega) bx (by omega) (by omega) (by omega) (by omega) s11 (by decide) ((q9 1 (by decide)).1.trans v1))).imp ?_
      rintro _ (⟨u, a2, h12, vf12, nf12, e2, rfl, r12, s12, q12, t12, ml12⟩ | ⟨e, e2, tt⟩)
      rotate_left
      · exact yT_K HF (yT.tr m11 (by omega) (by omega) tt) rfl (fun o t => Or.inr ⟨e, by unfold rChg; dsimp only; rw [if_pos qo, if_neg q126, e1]; dsimp only; rw [if_pos qs, e2], t⟩)
      show mj_Wp _ _ (181, _, _, _) _
      try dsimp only
      have l12 : h12.length = h.length + 4 := by have := mo_le ml12; have := l11; omega
      have m12 : mz_mo [x] 4 16 h h12 := m11.tr ml12 (fun y hy => by simp only [List.mem_cons, List.not_mem_nil, or_false] at hy ⊢; omega) (by omega) (by omega)
      have P12 : mj_rd h12 h.length = some (ptC (nI (chA n f (at_ + 1))) (nI (chA n f at_ - 97)) 0 (.ref (h.length + 1)) .null .null .null .null) := ml12.1 _ (by simp only [List.mem_cons, List.not_mem_nil, or_false]; omega) _ P11
      have t13 : tmR t (vf12 0) (nf12 0) := by rw [(q12 0 (by decide)).1, (q12 0 (by decide)).2]; exact t9
      refine s_aldn (p' := 182) rfl rfl rfl ?_
      refine s_gf (p' := 185) rfl P12 rfl rfl ?_
      refine s_ildn (p' := 186) rfl rfl rfl ?_
      refine s_callV (p' := 189) (ls0 := [_, _]) rfl rfl rfl rfl rfl (mj_rcv_is s12.1) rfl (y_has (u := u) s12 t13 (fun _ => t12) (by decide) (by omega)) (by first | decide | omega) rfl ?_
      by_cases qr : t = vT (chA n f at_ - 97) ∨ u = vT (chA n f at_ - 97)
      · refine s_if (p' := 192) false rfl (by rw [decide_eq_true (qr.imp id (fun e => ⟨by decide, e⟩))]; rfl) rfl ?_
        refine HF.2.2.2 12 h12 at_ _ _ _ _ (by omega) ?_
        refine Or.inr ⟨(114, at_), by unfold rChg; dsimp only; rw [if_pos qo, if_neg q126, e1]; dsimp only; rw [if_pos qs, e2]; dsimp only; rw [if_pos qr], h12.length, _, rfl, by omega, by omega, rd_nw (Nat.blt_eq.mpr (by omega)) rfl, ?_⟩
        exact (m12.tr (mz_mo.ap [x] _ _) (fun y hy => Or.inl hy) (by omega) (by rw [fC_cs HF]; omega))
      · refine s_if (p' := 203) true rfl (by rw [decide_eq_false (fun e => qr (e.imp id (fun e => e.2)))]; rfl) rfl ?_
        refine s_aldn (p' := 204) rfl rfl rfl ?_
        refine s_aret rfl ?_
        refine Or.inl ⟨_, _, h12, by unfold rChg; dsimp only; rw [if_pos qo, if_neg q126, e1]; dsimp only; rw [if_pos qs, e2]; dsimp only; rw [if_neg qr], rfl, r12, rfl, ?_, m12⟩
        dsimp only
        rw [adA_at]
        exact ySim.u (by omega) ⟨by omega, by omega⟩ P12 ⟨_, _, _, _, _, _, s12, ⟨by omega, by omega⟩, ⟨by omega, by omega⟩, ⟨by omega, by omega⟩, t13, Or.inr ⟨(sB_n qs).1, rfl, rfl, t12⟩⟩
    · refine s_aldn (p' := 182) rfl rfl rfl ?_
      refine s_gf (p' := 185) rfl P9 rfl rfl ?_
      refine s_ildn (p' := 186) rfl rfl rfl ?_
      refine s_callV (p' := 189) (ls0 := [_, _]) rfl rfl rfl rfl rfl (mj_rcv_is s9.1) rfl (y_has (u := 0) s9 t9 (fun e => absurd e (by decide)) (by decide) (by omega)) (by first | decide | omega) rfl ?_
      by_cases qr : t = vT (chA n f at_ - 97)
      · refine s_if (p' := 192) false rfl (by rw [decide_eq_true (Or.inl qr)]; rfl) rfl ?_
        refine HF.2.2.2 12 h9 at_ _ _ _ _ (by omega) ?_
        refine Or.inr ⟨(114, at_), by unfold rChg; dsimp only; rw [if_pos qo, if_neg q126, e1]; dsimp only; rw [if_neg (by rw [qs]; decide), if_pos qr], h9.length, _, rfl, by omega, by omega, rd_nw (Nat.blt_eq.mpr (by omega)) rfl, ?_⟩
        exact (m9.tr (mz_mo.ap [x] _ _) (fun y hy => Or.inl hy) (by omega) (by rw [fC_cs HF]; omega))
      · refine s_if (p' := 203) true rfl (by rw [decide_eq_false (fun e => e.elim qr (fun e => absurd e.1 (by decide)))]; rfl) rfl ?_
        refine s_aldn (p' := 204) rfl rfl rfl ?_
        refine s_aret rfl ?_
        refine Or.inl ⟨_, _, h9, by unfold rChg; dsimp only; rw [if_pos qo, if_neg q126, e1]; dsimp only; rw [if_neg (by rw [qs]; decide), if_neg qr], rfl, r9, rfl, ?_, m9⟩
        dsimp only
        rw [adA_at]
        exact ySim.u (by omega) ⟨by omega, by omega⟩ P9 ⟨_, _, _, _, _, _, s9, ⟨by omega, by omega⟩, ⟨by omega, by omega⟩, ⟨by omega, by omega⟩, t9, Or.inl ⟨rfl, rfl⟩⟩
