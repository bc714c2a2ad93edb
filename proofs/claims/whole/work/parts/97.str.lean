/-! Texts: Strings and StringBuilders. -/
def byt (x : Nat) : Int32 := (nI x).toInt8.toInt32
theorem byt_mod (f : Nat) : byt (f % 256) = byt f := by
  unfold byt nI
  rw [Int32.toInt8_ofNat', Int32.toInt8_ofNat']
  congr 1
  apply Int8.toBitVec_inj.mp
  show BitVec.ofNat 8 (f % 256) = BitVec.ofNat 8 f
  apply BitVec.eq_of_toNat_eq
  simp
theorem shr8 {f : Nat} (hf : f < 65536) : nI f >>> (nI 8 &&& 31) = nI (f / 256) := by
  apply Int32.toInt_inj.mp
  rw [mI_ti (by omega)]
  have e : (nI f >>> (nI 8 &&& 31)).toInt = (nI f).toInt >>> 8 := by
    show (nI f >>> (nI 8 &&& 31)).toBitVec.toInt = _
    rw [Int32.toBitVec_shiftRight]
    rw [show ((nI 8 &&& 31).toBitVec.smod 32) = 8#32 from by decide +kernel]
    rw [BitVec.sshiftRight_eq']
    rw [BitVec.toInt_sshiftRight]
    rfl
  rw [e, mI_ti (by omega), Int.shiftRight_eq_div_pow]
  simp
theorem nor (a b : Nat) : nI a ||| nI b = nI (a ||| b) := by
  apply Int32.toBitVec_inj.mp
  rw [Int32.toBitVec_or]
  show BitVec.ofNat 32 a ||| BitVec.ofNat 32 b = BitVec.ofNat 32 (a ||| b)
  apply BitVec.eq_of_toNat_eq
  simp [Nat.or_mod_two_pow]
theorem shl0 {a : Nat} (ha : a < 1000) : nI a <<< (nI 0 &&& 31) = nI a :=
  of_decide_eq_true (List.all_eq_true.mp (show ((List.range 1000).all fun a => decide (nI a <<< (nI 0 &&& 31) = nI a)) = true by decide +kernel) a (List.mem_range.mpr ha))
theorem shl1 {a : Nat} (ha : a < 1000) : nI a <<< (nI 1 &&& 31) = nI (2 * a) :=
  of_decide_eq_true (List.all_eq_true.mp (show ((List.range 1000).all fun a => decide (nI a <<< (nI 1 &&& 31) = nI (2 * a))) = true by decide +kernel) a (List.mem_range.mpr ha))
theorem shl8 {a : Nat} (ha : a < 256) : nI a <<< (nI 8 &&& 31) = nI (256 * a) :=
  of_decide_eq_true (List.all_eq_true.mp (show ((List.range 256).all fun a => decide (nI a <<< (nI 8 &&& 31) = nI (256 * a))) = true by decide +kernel) a (List.mem_range.mpr ha))
theorem byt_and {x : Nat} (hx : x < 256) : byt x &&& nI 255 = nI x :=
  of_decide_eq_true (List.all_eq_true.mp (show ((List.range 256).all fun x => decide (byt x &&& nI 255 = nI x)) = true by decide +kernel) x (List.mem_range.mpr hx))
theorem two_by {f : Nat} : f % 256 ||| 256 * (f / 256) = f := by
  have h := Nat.two_pow_add_eq_or_of_lt (i := 8) (b := f % 256) (Nat.mod_lt _ (by decide)) (f / 256)
  rw [Nat.or_comm]
  have : 2 ^ 8 * (f / 256) ||| f % 256 = f := by rw [← h]; omega
  exact this
/-- the bytes of a text of coder c -/
def enc (c : Nat) (f : Nat → Nat) : Nat → Int32 := fun j => if c = 0 then byt (f j) else if j % 2 = 0 then byt (f (j / 2) % 256) else byt (f (j / 2) / 256)
theorem byt_fit (x : Nat) : fits .byte (.int (byt x)) = true := b8_fit _
theorem byt_nar (x : Nat) : vp_nar .byte (byt x) = byt x := b8_nar _
theorem fit_0 : fits .byte (.int 0) = true := by decide
/-- L bytes at B, n chars of coder c first -/
def yBy (h : mj_H) (B L c n : Nat) (f : Nat → Nat) : Prop := ∃ bf : Nat → Int32, mj_rd h B = some (.inl (1, (L, .inl bf))) ∧ n * (c + 1) ≤ L ∧ (∀ j, j < L → fits .byte (.int (bf j)) = true) ∧ ∀ j, j < n * (c + 1) → bf j = enc c f j
def okT (c n : Nat) (f : Nat → Nat) : Prop := c ≤ 1 ∧ ∀ j, j < n → f j < 65536 ∧ (c = 0 → f j < 256)
def yStr (h : mj_H) (T n c : Nat) (f : Nat → Nat) : Prop := okT c n f ∧ ∃ (B : Nat) (rs : List Value), mj_rd h T = some (.inr (21, .ref B :: .int (nI c) :: rs)) ∧ yBy h B (n * (c + 1)) c n f
def ySB (h : mj_H) (S B n c : Nat) (f : Nat → Nat) : Prop := okT c n f ∧ ∃ (L : Nat), mj_rd h S = some (.inr (20, [.ref B, .int (nI c), .int (nI 0), .int (nI n)])) ∧ yBy h B L c n f ∧ B < mj_CB ∧ L ≤ (2 * n + 36) * (c + 1)
theorem yBy.fr {h g : mj_H} {M : List Nat} {B L c n : Nat} {f : Nat → Nat} (e : mz_fr M h g) (hB : B ∉ M) : yBy h B L c n f → yBy g B L c n f
  | ⟨bf, a, b⟩ => ⟨bf, e _ hB _ a, b⟩
theorem yStr.fr {h g : mj_H} {M : List Nat} {T n c : Nat} {f : Nat → Nat} (e : mz_fr M h g) (hT : T ∉ M) (hB : ∀ (B : Nat) (rs : List Value), mj_rd h T = some (.inr (21, .ref B :: rs)) → B ∉ M) : yStr h T n c f → yStr g T n c f
  | ⟨k, B, rs, a, b⟩ => ⟨k, B, rs, e _ hT _ a, b.fr e (hB _ _ a)⟩
theorem cpr_is {f : Nat → Int32} {sp n : Nat} (hf : ∀ j, j < n → fits .byte (.int (f (sp + j))) = true) : mj_cpr f sp n = true := by
  unfold mj_cpr
  rw [List.all_eq_true]
  exact fun j hj => hf j (List.mem_range.mp hj)
theorem sh0r {a : Nat} (ha : a < 65536) : nI a >>> (nI 0 &&& 31) = nI a := by
  apply Int32.toInt_inj.mp
  have e : (nI a >>> (nI 0 &&& 31)).toInt = (nI a).toInt >>> 0 := by
    show (nI a >>> (nI 0 &&& 31)).toBitVec.toInt = _
    rw [Int32.toBitVec_shiftRight]
    rw [show ((nI 0 &&& 31).toBitVec.smod 32) = 0#32 from by decide +kernel]
    rw [BitVec.sshiftRight_eq']
    rw [BitVec.toInt_sshiftRight]
    rfl
  rw [e]
  simp
theorem p_cln {h : mj_H} {a n N : Nat} {f : Nat → Int32} (ha : a < mj_CB) (hN : h.length = N) (hr : mj_rd h a = some (.inl (1, (n, .inl f)))) (hf : ∀ j, j < n → fits .byte (.int (f j)) = true) : mj_prim 2 [.ref a] h = some (some (.ref N), h ++ [.inl (1, (n, .inl f))]) := by
  show (if a < mj_CB then match mj_rdA h a with
      | some (1, (n, .inl f)) => if mj_cpr f 0 n = true then some (some (Value.ref h.length), h ++ [.inl (1, (n, .inl f))]) else none
      | _ => none
    else none) = _
  rw [if_pos ha, mj_rdA_is hr (by decide)]
  show (if mj_cpr f 0 n = true then some (some (Value.ref h.length), h ++ [.inl (1, (n, .inl f))]) else none) = _
  rw [if_pos (cpr_is (fun j hj => by rw [Nat.zero_add]; exact hf j hj)), hN]
theorem y_cpo {h : mj_H} {N B L m : Nat} {bf : Nat → Int32} (hN : h.length = N) (hb : N + 10 < mj_CB) (hB : mj_rd h B = some (.inl (1, (L, .inl bf)))) (hf : ∀ j, j < L → fits .byte (.int (bf j)) = true) (hL : L < 1000) (hm : m < 1000) (bB : B < mj_CB) : mj_Wp 2 255 (0, [some (.ref B), some (.int (nI m)), none], [], h) (mz_V fun r h' => r = .ref N ∧ ∃ bf', mj_rd h' N = some (.inl (1, (m, .inl bf'))) ∧ (∀ j, j < m → fits .byte (.int (bf' j)) = true) ∧ (∀ j, j < min L m → bf' j = bf j) ∧ mz_mo [] 1 m h h') := by
  refine s_ildn (p' := 1) rfl rfl rfl ?_
  refine s_aldn (p' := 2) rfl rfl rfl ?_
  refine s_len (p' := 3) rfl (mj_rdA_is hB (by decide)) (by decide) rfl ?_
  by_cases q : m = L
  · refine s_icmp (p' := 6) false rfl ((ci_ne (by omega) (by omega)).trans (decide_eq_false (by omega))) rfl ?_
    subst q
    refine s_aldn (p' := 7) rfl rfl rfl ?_
    refine s_primV (p' := 10) (q := 2) rfl rfl rfl rfl rfl rfl (p_cln bB hN hB hf) rfl ?_
    refine s_cca (p' := 13) rfl (Nat.blt_eq.mpr (by omega)) (rd_nw (Nat.blt_eq.mpr (by omega)) hN) rfl rfl ?_
    refine s_aret rfl ?_
    refine ⟨_, _, rfl, rfl, bf, rd_nw (Nat.blt_eq.mpr (by omega)) hN, hf, fun j hj => rfl, mz_mo.ap [] h (.inl (1, (m, .inl bf)))⟩
  · refine s_icmp (p' := 14) true rfl ((ci_ne (by omega) (by omega)).trans (decide_eq_true (by omega))) rfl ?_
    refine s_ildn (p' := 15) rfl rfl rfl ?_
    refine s_naz (p' := 17) (a := N) (n := m) rfl hN (Nat.ble_eq.mpr (by omega)) rfl ?_
    refine s_astn (p' := 18) (ls' := [_, _, _]) rfl rfl rfl rfl ?_
    refine s_aldn (p' := 19) rfl rfl rfl ?_
    refine s_con (p' := 20) rfl rfl ?_
    refine s_aldn (p' := 21) rfl rfl rfl ?_
    refine s_con (p' := 22) rfl rfl ?_
    refine s_aldn (p' := 23) rfl rfl rfl ?_
    refine s_len (p' := 24) rfl (mj_rdA_is (rd_app hB) (by decide)) (by decide) rfl ?_
    refine s_ildn (p' := 25) rfl rfl rfl ?_
    refine s_primV (p' := 28) (q := 5) rfl rfl rfl rfl rfl rfl (p_min (z := nI (min L m)) (mI_min (by omega) (by omega))) rfl ?_
    refine s_primN (p' := 31) (q := 0) rfl rfl rfl rfl rfl rfl (p_cpyB (n := m) (g := fun _ => 0) (Nat.blt_eq.mpr (by omega)) (mj_rdA_is (rd_app hB) (by decide)) (mj_rdA_is (rd_nw (Nat.blt_eq.mpr (by omega)) hN) (by decide)) (by simp only [Bool.and_eq_true, Nat.ble_eq, Nat.blt_eq]; omega) (cpr_is (fun j hj => by rw [Nat.zero_add]; exact hf j (by omega)))) rfl ?_
    refine s_aldn (p' := 32) rfl rfl rfl ?_
    refine s_aret rfl ?_
    refine ⟨_, _, rfl, rfl, va_cpy bf (fun _ => 0) 0 0 (min L m), rd_set (by omega) (rd_nw (Nat.blt_eq.mpr (by omega)) hN), fun j hj => ?_, fun j hj => ?_, mz_mo.s (mz_mo.ap [] h (.inl (1, mj_arr0 1 m))) (by omega) (rd_nw (Nat.blt_eq.mpr (by omega)) hN) rfl (Or.inr (by omega))⟩
    · unfold va_cpy
      by_cases q : 0 ≤ j ∧ j < 0 + min L m
      · rw [if_pos q, Nat.zero_add, Nat.sub_zero]
        exact hf j (by omega)
      · rw [if_neg q]
        exact fit_0
    · unfold va_cpy
      rw [if_pos ⟨Nat.zero_le j, by omega⟩, Nat.zero_add, Nat.sub_zero]
theorem y_crb {h : mj_H} {N B L m : Nat} {bf : Nat → Int32} (hN : h.length = N) (hb : N + 10 < mj_CB) (hB : mj_rd h B = some (.inl (1, (L, .inl bf)))) (hf : ∀ j, j < L → fits .byte (.int (bf j)) = true) (hL : L < 1000) (hm : m < 1000) (hmL : m ≤ L) : mj_Wp 2 286 (0, [some (.ref B), some (.int (nI 0)), some (.int (nI m)), none, none], [], h) (mz_V fun r h' => r = .ref N ∧ ∃ bf', mj_rd h' N = some (.inl (1, (m, .inl bf'))) ∧ (∀ j, j < m → fits .byte (.int (bf' j)) = true) ∧ (∀ j, j < min L m → bf' j = bf j) ∧ mz_mo [] 1 m h h') := by
  refine s_ildn (p' := 1) rfl rfl rfl ?_
  refine s_ildn (p' := 2) rfl rfl rfl ?_
  refine c_call (p' := 5) (kc := 1) (ls0 := [_, _]) rfl rfl rfl rfl rfl rfl rfl rfl rfl ?_
  refine s_ildn (p' := 1) rfl rfl rfl ?_
  refine s_ildn (p' := 2) rfl rfl rfl ?_
  refine s_icmp (p' := 37) true rfl ((ci_ge (by omega) (by omega)).trans (decide_eq_true (by omega))) rfl ?_
  refine c_ret rfl ?_
  refine s_ildn (p' := 6) rfl rfl rfl ?_
  refine s_ildn (p' := 7) rfl rfl rfl ?_
  refine s_sp (p' := 8) (ls' := _) rfl rfl rfl ?_
  rw [mI_sub (Nat.zero_le _), Nat.sub_zero]
  refine s_istn (p' := 9) (ls' := [_, _, _, _, _]) rfl rfl rfl rfl ?_
  refine s_ildn (p' := 10) rfl rfl rfl ?_
  refine s_naz (p' := 12) (a := N) (n := m) rfl hN (Nat.ble_eq.mpr (by omega)) rfl ?_
  refine s_ast (p' := 14) (ls' := [_, _, _, _, _]) rfl rfl rfl rfl ?_
  refine s_aldn (p' := 15) rfl rfl rfl ?_
  refine s_ildn (p' := 16) rfl rfl rfl ?_
  refine s_ald (p' := 18) rfl rfl rfl ?_
  refine s_con (p' := 19) rfl rfl ?_
  refine s_aldn (p' := 20) rfl rfl rfl ?_
  refine s_len (p' := 21) rfl (mj_rdA_is (rd_app hB) (by decide)) (by decide) rfl ?_
  refine s_ildn (p' := 22) rfl rfl rfl ?_
  refine s_sp (p' := 23) (ls' := _) rfl rfl rfl ?_
  rw [mI_sub (Nat.zero_le _), Nat.sub_zero]
  refine s_ildn (p' := 24) rfl rfl rfl ?_
  refine s_primV (p' := 27) (q := 5) rfl rfl rfl rfl rfl rfl (p_min (z := nI m) (by rw [mI_min (by omega) (by omega), Nat.min_eq_right hmL])) rfl ?_
  refine s_primN (p' := 30) (q := 0) rfl rfl rfl rfl rfl rfl (p_cpyB (n := m) (g := fun _ => 0) (Nat.blt_eq.mpr (by omega)) (mj_rdA_is (rd_app hB) (by decide)) (mj_rdA_is (rd_nw (Nat.blt_eq.mpr (by omega)) hN) (by decide)) (by simp only [Bool.and_eq_true, Nat.ble_eq, Nat.blt_eq]; omega) (cpr_is (fun j hj => by rw [Nat.zero_add]; exact hf j (by omega)))) rfl ?_
  refine s_ald (p' := 32) rfl rfl rfl ?_
  refine s_aret rfl ?_
  refine ⟨_, _, rfl, rfl, va_cpy bf (fun _ => 0) 0 0 m, rd_set (by omega) (rd_nw (Nat.blt_eq.mpr (by omega)) hN), fun j hj => ?_, fun j hj => ?_, mz_mo.s (mz_mo.ap [] h (.inl (1, mj_arr0 1 m))) (by omega) (rd_nw (Nat.blt_eq.mpr (by omega)) hN) rfl (Or.inr (by omega))⟩
  · unfold va_cpy
    by_cases q : 0 ≤ j ∧ j < 0 + m
    · rw [if_pos q, Nat.zero_add, Nat.sub_zero]
      exact hf j (by omega)
    · rw [if_neg q]
      exact fit_0
  · unfold va_cpy
    rw [if_pos ⟨Nat.zero_le j, by omega⟩, Nat.zero_add, Nat.sub_zero]
theorem y_crg {h : mj_H} {N B L m : Nat} {bf : Nat → Int32} (hN : h.length = N) (hb : N + 10 < mj_CB) (hB : mj_rd h B = some (.inl (1, (L, .inl bf)))) (hf : ∀ j, j < L → fits .byte (.int (bf j)) = true) (hL : L < 1000) (hm : m < 1000) (hmL : m ≤ L) (bB : B < mj_CB) : mj_Wp 3 285 (0, [some (.ref B), some (.int (nI 0)), some (.int (nI m))], [], h) (mz_V fun r h' => r = .ref N ∧ ∃ bf', mj_rd h' N = some (.inl (1, (m, .inl bf'))) ∧ (∀ j, j < m → fits .byte (.int (bf' j)) = true) ∧ (∀ j, j < min L m → bf' j = bf j) ∧ mz_mo [] 1 m h h') := by
  refine s_ildn (p' := 1) rfl rfl rfl ?_
  refine s_if (p' := 4) false rfl ((cz_ne (by omega)).trans (decide_eq_false (by omega))) rfl ?_
  refine s_ildn (p' := 5) rfl rfl rfl ?_
  refine s_aldn (p' := 6) rfl rfl rfl ?_
  refine s_len (p' := 7) rfl (mj_rdA_is hB (by decide)) (by decide) rfl ?_
  by_cases q : m = L
  · refine s_icmp (p' := 17) true rfl ((ci_eq (by omega) (by omega)).trans (decide_eq_true (by omega))) rfl ?_
    subst q
    refine s_aldn (p' := 18) rfl rfl rfl ?_
    refine s_primV (p' := 21) (q := 2) rfl rfl rfl rfl rfl rfl (p_cln bB hN hB hf) rfl ?_
    refine s_cca (p' := 24) rfl (Nat.blt_eq.mpr (by omega)) (rd_nw (Nat.blt_eq.mpr (by omega)) hN) rfl rfl ?_
    refine s_aret rfl ?_
    refine ⟨_, _, rfl, rfl, bf, rd_nw (Nat.blt_eq.mpr (by omega)) hN, hf, fun j hj => rfl, mz_mo.ap [] h (.inl (1, (m, .inl bf)))⟩
  · refine s_icmp (p' := 10) false rfl ((ci_eq (by omega) (by omega)).trans (decide_eq_false (by omega))) rfl ?_
    refine s_aldn (p' := 11) rfl rfl rfl ?_
    refine s_ildn (p' := 12) rfl rfl rfl ?_
    refine s_ildn (p' := 13) rfl rfl rfl ?_
    refine s_callEV (p' := 16) (ls0 := [_, _, _, _, _]) rfl rfl rfl rfl rfl rfl rfl (y_crb hN hb hB hf hL hm hmL) rfl rfl ?_
    rintro _ g ⟨rfl, k⟩
    refine s_aret rfl ?_
    exact ⟨_, _, rfl, rfl, k⟩
theorem y_nwl {h : mj_H} {n d m : Nat} (hn : n < 1000) (hd : d < 1000) (hm : m < 2100) (h0 : 0 < n + max d m) : mj_run 1 253 (0, [some (.int (nI n)), some (.int (nI d)), some (.int (nI m)), none], [], h) (.inl (some (.int (nI (n + max d m)))), h) := by
  refine s_ildn (p' := 1) rfl rfl rfl ?_
  refine s_ildn (p' := 2) rfl rfl rfl ?_
  refine s_ildn (p' := 3) rfl rfl rfl ?_
  refine s_primV (p' := 6) (q := 4) rfl rfl rfl rfl rfl rfl (p_max (z := nI (max d m)) (mI_max (by omega) (by omega))) rfl ?_
  refine s_sp (p' := 7) (ls' := _) rfl rfl rfl ?_
  rw [mI_add]
  refine s_istn (p' := 8) (ls' := [_, _, _, _]) rfl rfl rfl rfl ?_
  refine s_con (p' := 9) rfl rfl ?_
  refine s_ildn (p' := 10) rfl rfl rfl ?_
  refine s_icmp (p' := 13) false rfl ((ci_ge (by omega) (by omega)).trans (decide_eq_false (by omega))) rfl ?_
  refine s_ildn (p' := 14) rfl rfl rfl ?_
  refine s_sh (p' := 16) (ls' := _) (st' := .int (nI 2147483639) :: _) (h' := _) rfl rfl rfl rfl ?_
  refine s_icmp (p' := 19) false rfl ((ci_gt (by omega) (by omega)).trans (decide_eq_false (by omega))) rfl ?_
  refine s_ildn (p' := 20) rfl rfl rfl ?_
  exact s_iret rfl rfl rfl
theorem y_cod0 {h : mj_H} {T n : Nat} {f : Nat → Nat} (hT : yStr h T n 0 f) : mj_run 0 242 (0, [some (.ref T)], [], h) (.inl (some (.int (nI 0))), h) := by
  obtain ⟨ok, B, rs, hS, bf, hB, hl, hf, hv⟩ := hT
  refine s_sh (p' := 3) (ls' := _) (st' := .int (nI 1) :: _) (h' := _) rfl rfl rfl rfl ?_
  refine s_if (p' := 6) false rfl ((cz_eq (by omega)).trans (decide_eq_false (by omega))) rfl ?_
  refine s_aldn (p' := 7) rfl rfl rfl ?_
  refine s_gf (p' := 10) rfl hS rfl rfl ?_
  refine s_goto (p' := 14) rfl rfl ?_
  exact s_iret rfl (by decide +kernel) rfl
theorem y_len0 {h : mj_H} {T n : Nat} {f : Nat → Nat} (hT : yStr h T n 0 f) (hn : n ≤ 300) : mj_run 1 241 (0, [some (.ref T)], [], h) (.inl (some (.int (nI n))), h) := by
  have hT0 := hT
  obtain ⟨ok, B, rs, hS, bf, hB, hl, hf, hv⟩ := hT
  refine s_aldn (p' := 1) rfl rfl rfl ?_
  refine s_gf (p' := 4) rfl hS rfl rfl ?_
  refine s_len (p' := 5) rfl (mj_rdA_is hB (by decide)) (by decide) rfl ?_
  refine s_aldn (p' := 6) rfl rfl rfl ?_
  refine s_callV (p' := 9) (ls0 := [_]) rfl rfl rfl rfl rfl (mj_rcv_is hS) rfl (y_cod0 hT0) (by decide) rfl ?_
  refine s_sp (p' := 10) (ls' := _) rfl rfl rfl ?_
  rw [mI_shr0 (by omega), Nat.mul_one]
  exact s_iret rfl rfl rfl
theorem y_cod1 {h : mj_H} {T n : Nat} {f : Nat → Nat} (hT : yStr h T n 1 f) : mj_run 0 242 (0, [some (.ref T)], [], h) (.inl (some (.int (nI 1))), h) := by
  obtain ⟨ok, B, rs, hS, bf, hB, hl, hf, hv⟩ := hT
  refine s_sh (p' := 3) (ls' := _) (st' := .int (nI 1) :: _) (h' := _) rfl rfl rfl rfl ?_
  refine s_if (p' := 6) false rfl ((cz_eq (by omega)).trans (decide_eq_false (by omega))) rfl ?_
  refine s_aldn (p' := 7) rfl rfl rfl ?_
  refine s_gf (p' := 10) rfl hS rfl rfl ?_
  refine s_goto (p' := 14) rfl rfl ?_
  exact s_iret rfl (by decide +kernel) rfl
theorem y_len1 {h : mj_H} {T n : Nat} {f : Nat → Nat} (hT : yStr h T n 1 f) (hn : n ≤ 300) : mj_run 1 241 (0, [some (.ref T)], [], h) (.inl (some (.int (nI n))), h) := by
  have hT0 := hT
  obtain ⟨ok, B, rs, hS, bf, hB, hl, hf, hv⟩ := hT
  refine s_aldn (p' := 1) rfl rfl rfl ?_
  refine s_gf (p' := 4) rfl hS rfl rfl ?_
  refine s_len (p' := 5) rfl (mj_rdA_is hB (by decide)) (by decide) rfl ?_
  refine s_aldn (p' := 6) rfl rfl rfl ?_
  refine s_callV (p' := 9) (ls0 := [_]) rfl rfl rfl rfl rfl (mj_rcv_is hS) rfl (y_cod1 hT0) (by decide) rfl ?_
  refine s_sp (p' := 10) (ls' := _) rfl rfl rfl ?_
  rw [mI_half (by omega), show n * (1 + 1) / 2 = n by omega]
  exact s_iret rfl rfl rfl
theorem enc_lo {f : Nat → Nat} {i : Nat} : enc 1 f (2 * i) = byt (f i % 256) := by
  unfold enc
  rw [if_neg (by decide), if_pos (by omega), show 2 * i / 2 = i by omega]
theorem enc_hi {f : Nat → Nat} {i : Nat} : enc 1 f (2 * i + 1) = byt (f i / 256) := by
  unfold enc
  rw [if_neg (by decide), if_neg (by omega), show (2 * i + 1) / 2 = i by omega]
theorem i2c_n {n : Nat} (hn : n < 65536) : ((nI n).toUInt32 % 65536).toInt32 = nI n := by
  have h1 : (nI n).toUInt32 % 65536 = (nI n).toUInt32 := by
    apply UInt32.toNat_inj.mp
    rw [UInt32.toNat_mod, nI_u (by omega)]
    exact Nat.mod_eq_of_lt hn
  rw [h1]
  rfl
theorem chr_ok {n : Nat} (hn : n < 65536) : mj_nar 2 (nI n) = true := decide_eq_true (ch_nar hn)
theorem y_gch {h : mj_H} {B L n i : Nat} {f : Nat → Nat} {bf : Nat → Int32} (hB : mj_rd h B = some (.inl (1, (L, .inl bf)))) (hl : n * (1 + 1) ≤ L) (hv : ∀ j, j < n * (1 + 1) → bf j = enc 1 f j) (hi : i < n) (hn : n ≤ 300) (hfi : f i < 65536) : mj_run 1 296 (0, [some (.ref B), some (.int (nI i))], [], h) (.inl (some (.int (nI (f i)))), h) := by
  refine s_sh (p' := 3) (ls' := _) (st' := .int (nI 1) :: _) (h' := _) rfl rfl rfl rfl ?_
  refine s_if (p' := 28) true rfl ((cz_ne (by omega)).trans (decide_eq_true (by omega))) rfl ?_
  refine s_ildn (p' := 29) rfl rfl rfl ?_
  refine s_con (p' := 30) rfl rfl ?_
  refine s_sp (p' := 31) (ls' := _) rfl rfl rfl ?_
  rw [shl1 (by omega)]
  refine s_istn (p' := 32) (ls' := [_, _]) rfl rfl rfl rfl ?_
  refine s_aldn (p' := 33) rfl rfl rfl ?_
  refine s_ildn (p' := 34) rfl rfl rfl ?_
  refine s_inc (p' := 37) (ls' := [_, _]) rfl rfl rfl rfl rfl ?_
  rw [mI_add]
  refine s_bal1 (p' := 38) rfl hB (inb_nI (by omega) (by omega)) rfl ?_
  rw [mI_cl (by omega), hv _ (by omega), enc_lo]
  refine s_sip (p' := 41) rfl rfl ?_
  refine s_sp (p' := 42) (ls' := _) rfl rfl rfl ?_
  rw [byt_and (Nat.mod_lt _ (by decide))]
  refine s_sh (p' := 45) (ls' := _) (st' := .int (nI 0) :: _) (h' := _) rfl rfl rfl rfl ?_
  refine s_sp (p' := 46) (ls' := _) rfl rfl rfl ?_
  rw [shl0 (by have := Nat.mod_lt (f i) (show 0 < 256 by decide); omega)]
  refine s_aldn (p' := 47) rfl rfl rfl ?_
  refine s_ildn (p' := 48) rfl rfl rfl ?_
  refine s_bal1 (p' := 49) rfl hB (inb_nI (by omega) (by omega)) rfl ?_
  rw [mI_cl (by omega), hv _ (by omega), enc_hi]
  refine s_sip (p' := 52) rfl rfl ?_
  refine s_sp (p' := 53) (ls' := _) rfl rfl rfl ?_
  rw [byt_and (by omega)]
  refine s_sh (p' := 56) (ls' := _) (st' := .int (nI 8) :: _) (h' := _) rfl rfl rfl rfl ?_
  refine s_sp (p' := 57) (ls' := _) rfl rfl rfl ?_
  rw [shl8 (by omega)]
  refine s_sp (p' := 58) (ls' := _) rfl rfl rfl ?_
  rw [nor, two_by]
  refine s_sp (p' := 59) (ls' := _) rfl rfl rfl ?_
  rw [i2c_n hfi]
  exact s_iret rfl (chr_ok hfi) rfl
theorem y_chr0 {h : mj_H} {T n i : Nat} {f : Nat → Nat} (hT : yStr h T n 0 f) (hn : n ≤ 300) (hi : i < n) : mj_run 4 306 (0, [some (.ref T), some (.int (nI i))], [], h) (.inl (some (.int (nI (f i)))), h) := by
  obtain ⟨ok, B, rs, hS, bf, hB, hl, hf, hv⟩ := hT
  refine s_aldn (p' := 1) rfl rfl rfl ?_
  refine c_call (p' := 4) (kc := 3) (ls0 := [_]) rfl rfl rfl rfl rfl (mj_rcv_is hS) rfl rfl rfl ?_
  refine s_sh (p' := 3) (ls' := _) (st' := .int (nI 1) :: _) (h' := _) rfl rfl rfl rfl ?_
  refine s_if (p' := 6) false rfl ((cz_eq (by omega)).trans (decide_eq_false (by omega))) rfl ?_
  refine s_aldn (p' := 7) rfl rfl rfl ?_
  refine s_gf (p' := 10) rfl hS rfl rfl ?_
  refine s_if (p' := 13) false rfl ((cz_ne (by omega)).trans (decide_eq_false (by omega))) rfl ?_
  refine s_con (p' := 14) rfl rfl ?_
  refine s_goto (p' := 18) rfl rfl ?_
  refine c_iret rfl rfl ?_
  refine s_if (p' := 7) false rfl ((cz_eq (by omega)).trans (decide_eq_false (by omega))) rfl ?_
  refine s_aldn (p' := 8) rfl rfl rfl ?_
  refine s_gf (p' := 11) rfl hS rfl rfl ?_
  refine s_ildn (p' := 12) rfl rfl rfl ?_
  refine c_call (p' := 15) (kc := 3) (ls0 := [_, _]) rfl rfl rfl rfl rfl rfl rfl rfl rfl ?_
  refine s_ildn (p' := 1) rfl rfl rfl ?_
  refine s_aldn (p' := 2) rfl rfl rfl ?_
  refine s_len (p' := 3) rfl (mj_rdA_is hB (by decide)) (by decide) rfl ?_
  refine c_call (p' := 6) (kc := 2) (ls0 := [_, _]) rfl rfl rfl rfl rfl rfl rfl rfl rfl ?_
  refine s_ildn (p' := 1) rfl rfl rfl ?_
  refine s_ildn (p' := 2) rfl rfl rfl ?_
  refine s_sh (p' := 5) (ls' := _) (st' := .retAddr 0 :: _) (h' := _) rfl rfl rfl rfl ?_
  refine c_call (p' := 8) (kc := 1) (ls0 := [_, _, _]) rfl rfl rfl rfl rfl rfl rfl rfl rfl ?_
  refine s_ildn (p' := 1) rfl rfl rfl ?_
  refine s_if (p' := 4) false rfl (cz_lt (by omega)) rfl ?_
  refine s_ildn (p' := 5) rfl rfl rfl ?_
  refine s_ildn (p' := 6) rfl rfl rfl ?_
  refine s_icmp (p' := 16) true rfl ((ci_lt (by omega) (by omega)).trans (decide_eq_true (by omega))) rfl ?_
  refine s_ildn (p' := 17) rfl rfl rfl ?_
  refine c_iret rfl rfl ?_
  refine s_sp (p' := 9) (ls' := _) rfl rfl rfl ?_
  refine c_ret rfl ?_
  refine s_aldn (p' := 7) rfl rfl rfl ?_
  refine s_ildn (p' := 8) rfl rfl rfl ?_
  refine s_bal1 (p' := 9) rfl hB (inb_nI (by omega) (by omega)) rfl ?_
  rw [mI_cl (by omega), hv _ (by omega), show enc 0 f i = byt (f i) from rfl]
  refine s_sip (p' := 12) rfl rfl ?_
  refine s_sp (p' := 13) (ls' := _) rfl rfl rfl ?_
  rw [byt_and ((ok.2 i hi).2 rfl)]
  refine s_sp (p' := 14) (ls' := _) rfl rfl rfl ?_
  rw [i2c_n (ok.2 i hi).1]
  refine c_iret rfl (chr_ok (ok.2 i hi).1) ?_
  exact s_iret rfl (chr_ok (ok.2 i hi).1) rfl
theorem y_chr1 {h : mj_H} {T n i : Nat} {f : Nat → Nat} (hT : yStr h T n 1 f) (hn : n ≤ 300) (hi : i < n) : mj_run 5 306 (0, [some (.ref T), some (.int (nI i))], [], h) (.inl (some (.int (nI (f i)))), h) := by
  obtain ⟨ok, B, rs, hS, bf, hB, hl, hf, hv⟩ := hT
  refine s_aldn (p' := 1) rfl rfl rfl ?_
  refine c_call (p' := 4) (kc := 4) (ls0 := [_]) rfl rfl rfl rfl rfl (mj_rcv_is hS) rfl rfl rfl ?_
  refine s_sh (p' := 3) (ls' := _) (st' := .int (nI 1) :: _) (h' := _) rfl rfl rfl rfl ?_
  refine s_if (p' := 6) false rfl ((cz_eq (by omega)).trans (decide_eq_false (by omega))) rfl ?_
  refine s_aldn (p' := 7) rfl rfl rfl ?_
  refine s_gf (p' := 10) rfl hS rfl rfl ?_
  refine s_if (p' := 17) true rfl ((cz_ne (by omega)).trans (decide_eq_true (by omega))) rfl ?_
  refine s_con (p' := 18) rfl rfl ?_
  refine c_iret rfl rfl ?_
  refine s_if (p' := 16) true rfl ((cz_eq (by omega)).trans (decide_eq_true (by omega))) rfl ?_
  refine s_aldn (p' := 17) rfl rfl rfl ?_
  refine s_gf (p' := 20) rfl hS rfl rfl ?_
  refine s_ildn (p' := 21) rfl rfl rfl ?_
  refine c_call (p' := 24) (kc := 4) (ls0 := [_, _]) rfl rfl rfl rfl rfl rfl rfl rfl rfl ?_
  refine s_ildn (p' := 1) rfl rfl rfl ?_
  refine s_aldn (p' := 2) rfl rfl rfl ?_
  refine c_call (p' := 5) (kc := 3) (ls0 := [_, _]) rfl rfl rfl rfl rfl rfl rfl rfl rfl ?_
  refine s_ildn (p' := 1) rfl rfl rfl ?_
  refine s_aldn (p' := 2) rfl rfl rfl ?_
  refine c_call (p' := 5) (kc := 2) (ls0 := [_]) rfl rfl rfl rfl rfl rfl rfl rfl rfl ?_
  refine s_aldn (p' := 1) rfl rfl rfl ?_
  refine s_len (p' := 2) rfl (mj_rdA_is hB (by decide)) (by decide) rfl ?_
  refine s_con (p' := 3) rfl rfl ?_
  refine s_sp (p' := 4) (ls' := _) rfl rfl rfl ?_
  rw [mI_half (by omega), show n * (1 + 1) / 2 = n by omega]
  refine c_iret rfl rfl ?_
  refine c_call (p' := 8) (kc := 2) (ls0 := [_, _]) rfl rfl rfl rfl rfl rfl rfl rfl rfl ?_
  refine s_ildn (p' := 1) rfl rfl rfl ?_
  refine s_ildn (p' := 2) rfl rfl rfl ?_
  refine s_sh (p' := 5) (ls' := _) (st' := .retAddr 0 :: _) (h' := _) rfl rfl rfl rfl ?_
  refine c_call (p' := 8) (kc := 1) (ls0 := [_, _, _]) rfl rfl rfl rfl rfl rfl rfl rfl rfl ?_
  refine s_ildn (p' := 1) rfl rfl rfl ?_
  refine s_if (p' := 4) false rfl (cz_lt (by omega)) rfl ?_
  refine s_ildn (p' := 5) rfl rfl rfl ?_
  refine s_ildn (p' := 6) rfl rfl rfl ?_
  refine s_icmp (p' := 16) true rfl ((ci_lt (by omega) (by omega)).trans (decide_eq_true (by omega))) rfl ?_
  refine s_ildn (p' := 17) rfl rfl rfl ?_
  refine c_iret rfl rfl ?_
  refine s_sp (p' := 9) (ls' := _) rfl rfl rfl ?_
  refine c_ret rfl ?_
  refine c_ret rfl ?_
  refine s_aldn (p' := 6) rfl rfl rfl ?_
  refine s_ildn (p' := 7) rfl rfl rfl ?_
  refine s_callV (p' := 10) (ls0 := [_, _]) rfl rfl rfl rfl rfl rfl rfl (y_gch hB hl hv hi hn (ok.2 i hi).1) (by decide) rfl ?_
  refine c_iret rfl (chr_ok (ok.2 i hi).1) ?_
  exact s_iret rfl (chr_ok (ok.2 i hi).1) rfl
