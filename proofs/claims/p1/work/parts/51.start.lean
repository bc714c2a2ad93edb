/-! The law up to its loop. -/
def mc_h0 : mj_H := mc_unc 0 ++ (mc_mod 400 ++ [.inl (4, mj_arr0 4 1), .inl (5, mj_arr0 5 1)])
theorem mc_mod_len (n : Nat) : (mc_mod n).length = 12 := rfl
theorem mc_h0_len : mc_h0.length = 414 := by
  unfold mc_h0
  rw [List.length_append, mc_unc_len]
  rfl
section
variable {L pc p' : Nat} {xs : Nat → Int32} {ls : mj_L} {st : List Value} {h : mj_H} {P : mj_H → Prop}
theorem l_newz {j c y a : Nat} {fs : List Value} (hE : mj_get mj_rL.2.2 pc = some (.new j, c, y, 0)) (hl : ls.length = 10) (ha : h.length = a) (hd : mj_dfl[c]? = some fs) (hp : pc + 3 = p') (hn : mj_lrun L xs (p', ls, .ref a :: st, h ++ [.inr (c, fs)]) P) : mj_lrun L xs (pc, ls, st, h) P := l_new hE hl hd hp (ha ▸ hn)
theorem l_naz {j : ArrayType} {t y z a n : Nat} (hE : mj_get mj_rL.2.2 pc = some (.newarray j, t, y, z)) (hl : ls.length = 10) (ha : h.length = a) (hc : Nat.ble n 67108864 = true) (hp : pc + 2 = p') (hn : mj_lrun L xs (p', ls, .ref a :: st, h ++ [.inl (t, mj_arr0 t n)]) P) : mj_lrun L xs (pc, ls, .int (nI n) :: st, h) P := by
  have hc := Nat.ble_eq.mp hc
  exact l_na hE hl (lenok hc) hp (by rw [mI_cl (by omega), ha]; exact hn)
end
theorem mj_law0 {L : Nat} {xs : Nat → Int32} {P : mj_H → Prop} (hn : mj_lrun L xs (28, [some (.retAddr 1), some (.ref 0), some (.ref 400), some (.ref 412), some (.ref 413), some (.int (nI 0)), none, none, none, none], [], mc_h0) P) : mj_lrun L xs (0, mj_entry 10 [.retAddr 1], [], []) P := by
  show mj_lrun L xs (0, [some (.retAddr 1), none, none, none, none, none, none, none, none, none], [], []) P
  refine l_newz (p' := 3) (a := 0) rfl rfl rfl rfl rfl ?_
  refine l_dupr (p' := 4) rfl rfl rfl ?_
  refine l_callN (p' := 7) (ls0 := [_]) rfl rfl rfl rfl rfl rfl (mj_rcv_is (rd_a0 rfl (by decide))) rfl (x_unc (h := []) (n := 0) rfl (by decide)) (by decide) rfl ?_
  refine l_astn (p' := 8) (ls' := [_, _, _, _, _, _, _, _, _, _]) rfl rfl rfl rfl rfl ?_
  rw [List.nil_append]
  refine l_newz (p' := 11) (a := 400) rfl rfl (mc_unc_len 0) rfl rfl ?_
  refine l_dupr (p' := 12) rfl rfl rfl ?_
  refine l_callN (p' := 15) (ls0 := [_]) rfl rfl rfl rfl rfl rfl (mj_rcv_is (rd_a0 (mc_unc_len 0) (by decide))) rfl (x_mod (h := mc_unc 0) (n := 400) (mc_unc_len 0) (by decide)) (by decide) rfl ?_
  refine l_astn (p' := 16) (ls' := [_, _, _, _, _, _, _, _, _, _]) rfl rfl rfl rfl rfl ?_
  refine l_con (p' := 17) rfl rfl rfl ?_
  refine l_naz (p' := 19) (a := 412) (n := 1) rfl rfl (len_at (mc_unc_len 0) (mc_mod_len 400)) rfl rfl ?_
  refine l_astn (p' := 20) (ls' := [_, _, _, _, _, _, _, _, _, _]) rfl rfl rfl rfl rfl ?_
  refine l_con (p' := 21) rfl rfl rfl ?_
  refine l_naz (p' := 23) (a := 413) (n := 1) rfl rfl (len_a (len_at (mc_unc_len 0) (mc_mod_len 400)) rfl) rfl rfl ?_
  refine l_ast (p' := 25) (ls' := [_, _, _, _, _, _, _, _, _, _]) rfl rfl rfl rfl rfl ?_
  refine l_con (p' := 26) rfl rfl rfl ?_
  refine l_ist (p' := 28) (ls' := [_, _, _, _, _, _, _, _, _, _]) rfl rfl rfl rfl rfl ?_
  have hz : ((mc_unc 0 ++ mc_mod 400) ++ [.inl (4, mj_arr0 4 1)]) ++ [.inl (5, mj_arr0 5 1)] = mc_h0 := by
    unfold mc_h0
    rw [List.append_assoc, List.append_assoc]
    rfl
  rw [hz]
  exact hn
theorem mc_lf_38 : mc_lf 38 6 = fun j => if j < 6 then some (77 + 37 * j) else none := by
  funext j
  show (if j < 6 then some (38 + (39 + 37 * j)) else none) = _
  rw [← Nat.add_assoc]
set_option maxRecDepth 100000 in
theorem h0_0 : mj_rd mc_h0 0 = some (.inr (0, [.ref 1, .ref 38, .ref 299, .ref 336, .ref 373, .ref 375, .ref 378, .ref 381, .ref 387, .ref 393, .null, .null, .ref 397, .ref 398, .ref 399, .long (lN 0), .long (lN 0)])) := rfl
set_option maxRecDepth 100000 in
theorem h0_1 : mj_rd mc_h0 1 = some (.inr (1, [.ref 2, .ref 4, .ref 37])) := rfl
set_option maxRecDepth 100000 in
theorem h0_2 : mj_rd mc_h0 2 = some (.inr (2, [.ref 3, .int (nI 0)])) := rfl
set_option maxRecDepth 100000 in
theorem h0_3 : mj_rd mc_h0 3 = some (.inl (3, (60, .inl (fun _ => 0)))) := rfl
set_option maxRecDepth 100000 in
theorem h0_4 : mj_rd mc_h0 4 = some (.inr (3, [.ref 5, .ref 6, .int (nI 0)])) := rfl
set_option maxRecDepth 100000 in
theorem h0_37 : mj_rd mc_h0 37 = some (.inr (5, [.ref 2, .ref 4, .int (nI 0), .int (nI 0), .int (nI 32), .int (nI 0)])) := rfl
set_option maxRecDepth 100000 in
theorem h0_38 : mj_rd mc_h0 38 = some (.inr (6, [.ref 39, .ref 40, .int (nI 0)])) := rfl
theorem h0_39 : mj_rd mc_h0 39 = some (.inl (8, (6, .inr (.inr (.inr (.inr (fun j => if j < 6 then some (77 + 37 * j) else none))))))) := by
  rw [← mc_lf_38]
  rfl
set_option maxRecDepth 100000 in
theorem h0_77 : mj_rd mc_h0 77 = some (.inr (1, [.ref 78, .ref 80, .ref 113])) := rfl
set_option maxRecDepth 100000 in
theorem h0_78 : mj_rd mc_h0 78 = some (.inr (2, [.ref 79, .int (nI 0)])) := rfl
set_option maxRecDepth 100000 in
theorem h0_79 : mj_rd mc_h0 79 = some (.inl (3, (60, .inl (fun _ => 0)))) := rfl
set_option maxRecDepth 100000 in
theorem h0_80 : mj_rd mc_h0 80 = some (.inr (3, [.ref 81, .ref 82, .int (nI 0)])) := rfl
set_option maxRecDepth 100000 in
theorem h0_113 : mj_rd mc_h0 113 = some (.inr (5, [.ref 78, .ref 80, .int (nI 0), .int (nI 0), .int (nI 32), .int (nI 0)])) := rfl
set_option maxRecDepth 100000 in
theorem h0_375 : mj_rd mc_h0 375 = some (.inr (7, [.ref 376, .ref 377, .int (nI 0)])) := rfl
set_option maxRecDepth 100000 in
theorem h0_376 : mj_rd mc_h0 376 = some (.inl (0, (8, .inl (fun _ => 0)))) := rfl
set_option maxRecDepth 100000 in
theorem h0_377 : mj_rd mc_h0 377 = some (.inl (0, (20, .inl (fun _ => 0)))) := rfl
set_option maxRecDepth 100000 in
theorem h0_381 : mj_rd mc_h0 381 = some (.inr (8, [.ref 38, .ref 375, .ref 382, .ref 383, .ref 384, .ref 385, .ref 386, .int (nI 0), .int (nI 0), .int (nI 0), .int (nI 0), .int (nI 0), .int (nI 0)])) := rfl
set_option maxRecDepth 100000 in
theorem h0_393 : mj_rd mc_h0 393 = some (.inr (9, [.ref 394, .ref 395, .ref 396, .int (nI 0), .int (nI 0)])) := rfl
set_option maxRecDepth 100000 in
theorem h0_394 : mj_rd mc_h0 394 = some (.inl (0, (24, .inl (fun _ => 0)))) := rfl
set_option maxRecDepth 100000 in
theorem h0_395 : mj_rd mc_h0 395 = some (.inl (0, (8, .inl (fun _ => 0)))) := rfl
set_option maxRecDepth 100000 in
theorem h0_396 : mj_rd mc_h0 396 = some (.inl (0, (24, .inl (fun _ => 0)))) := rfl
set_option maxRecDepth 100000 in
theorem h0_397 : mj_rd mc_h0 397 = some (.inl (0, (8, .inl (fun _ => 0)))) := rfl
set_option maxRecDepth 100000 in
theorem h0_398 : mj_rd mc_h0 398 = some (.inl (0, (16, .inl (fun _ => 0)))) := rfl
set_option maxRecDepth 100000 in
theorem h0_399 : mj_rd mc_h0 399 = some (.inl (0, (8, .inl (fun _ => 0)))) := rfl
set_option maxRecDepth 100000 in
theorem h0_400 : mj_rd mc_h0 400 = some (.inr (17, [.int (nI 0), .ref 401, .ref 402, .ref 1000300, .long (lN 0), .long (lN 0), .ref 410, .null, .null, .null, .ref 411])) := rfl
set_option maxRecDepth 100000 in
theorem h0_401 : mj_rd mc_h0 401 = some (.inr (18, [.ref 1000000, .int (nI 0), .int (nI 0)])) := rfl
set_option maxRecDepth 100000 in
theorem h0_402 : mj_rd mc_h0 402 = some (.inr (19, [.ref 403, .ref 404, .ref 405, .ref 406, .ref 407, .ref 408, .ref 409, .int (nI 0), .int (nI 4294967295), .int (nI 0), .ref 400])) := rfl
set_option maxRecDepth 100000 in
theorem h0_403 : mj_rd mc_h0 403 = some (.inl (0, (8, .inl (fun _ => 0)))) := rfl
set_option maxRecDepth 100000 in
theorem h0_404 : mj_rd mc_h0 404 = some (.inl (0, (20, .inl (fun _ => 0)))) := rfl
set_option maxRecDepth 100000 in
theorem h0_410 : mj_rd mc_h0 410 = some (.inr (18, [.ref 1000000, .int (nI 0), .int (nI 0)])) := rfl
set_option maxRecDepth 100000 in
theorem h0_411 : mj_rd mc_h0 411 = some (.inl (0, (8, .inl (fun _ => 0)))) := rfl
set_option maxRecDepth 100000 in
theorem h0_412 : mj_rd mc_h0 412 = some (.inl (4, (1, .inr (.inl (fun _ => 0))))) := rfl
set_option maxRecDepth 100000 in
theorem h0_413 : mj_rd mc_h0 413 = some (.inl (5, (1, .inr (.inr (.inr (.inl (fun _ => 0))))))) := rfl
theorem mc_h0_sz : mj_sz mc_h0 ≤ 20000 := by
  decide +kernel
