/-! The class reads brackets, statements, rows. -/
theorem x_brk {h : mj_H} {b n a k : Nat} {f : Nat → Nat} {x : Nat → Nat → Nat} {fp fs tm : Int32} {ins : Nat → Nat → Int32} (bb : b + 37 ≤ 414) (hn : n ≤ 60) (hf : ∀ j, j < n → f j < 65536) (c0 : cR h b n f a fp fs tm k ins) (hag : ∀ j, j < k → ∀ q, q < 8 → ins j q = nI (x j q)) (ha : a < n) (hk : 2 * k ≤ a) {K op : Nat} {row : Nat → Nat → PS → PR} (hop : op ≤ 6) (hrow : op < 6 → ∀ (en : Nat) (s : PS) (h : mj_H), en ≤ 70000 → s.1 ≤ n → 2 * s.2.1 ≤ s.1 → cG h b n f s → mj_Wp K 83 (0, [some (.ref (b + 36)), some (.int (nI (sgn en))), some (.int (nI (op + 1))), none], [], h) (mz_V fun r h' => cQ h h' b n f (row en (op + 1) s) r)) (hrb : ∀ en op s, s.1 ≤ n → okR n s (row en op s) ∧ ∀ s', row en op s = .inr s' → chA n f s'.1 = en) {bc mc ec : Nat} (h1c : bc < 200) (h2c : mc < 200) (h3c : ec < 200) : mj_Wp (K + 7) 98 (0, [some (.ref (b + 36)), some (.int (nI bc)), some (.int (nI mc)), some (.int (nI ec)), some (.int (nI op)), none, none, none], [], h) (mz_V fun r h' => cQ h h' b n f (rBrk row (chA n f) bc mc ec op (a, k, x)) r) := by
  have hB : b + 36 < mj_CB := by have : mj_CB = 1000000 := rfl; omega
  have hI : ∀ j, j < 30 → b + 6 + j < mj_CB := fun j hj => by have : mj_CB = 1000000 := rfl; omega
  have m0 : mz_mo (cL b) 0 0 h h := mz_mo.rf _ _ _ _
  have hk30 : k < 30 := by omega
  have hR : rBrk row (chA n f) bc mc ec op (a, k, x) = (if 6 ≤ op then .inl (109, a) else match rTest (chA n f) (a + 1) with
      | .inl x => .inl x
      | .inr (t, o, u, a1) => if chA n f a1 = 58 then match row 124 (op + 1) (a1 + 1, k + 1, adA x k (ac bc 0 t o u 0 0 0)) with
          | .inl x => .inl x
          | .inr (a2, k2, x2) => match row 58 (op + 1) (a2 + 1, k2 + 1, adA x2 k2 (ac mc 0 0 32 0 0 0 0)) with
            | .inl x => .inl x
            | .inr (a3, k3, x3) => match rTest (chA n f) (a3 + 1) with
              | .inl x => .inl x
              | .inr (t2, o2, u2, a4) => if chA n f a4 = ec then .inr (a4 + 1, k3 + 1, lkA (adA x3 k3 (ac ec 0 t2 o2 u2 0 0 0)) k k2 k3) else .inl (120, a4)
        else .inl (100, a1)) := rfl
  refine s_ild (p' := 2) rfl rfl rfl ?_
  refine s_bip (p' := 4) rfl rfl ?_
  by_cases qo : op < 6
  · refine s_icmp (p' := 18) true rfl ((ci_lt (by omega) (by omega)).trans (decide_eq_true (by omega))) rfl ?_
    refine s_aldn (p' := 19) rfl rfl rfl ?_
    refine s_sp (p' := 20) (ls' := _) rfl rfl rfl ?_
    refine s_gf (p' := 23) rfl c0.1 rfl rfl ?_
    refine s_con (p' := 24) rfl rfl ?_
    refine s_sp (p' := 25) (ls' := _) rfl rfl rfl ?_
    rw [mI_add]
    refine s_pf (p' := 28) (fs' := [_, _, _, _, _, _]) rfl hB c0.1 (Nat.blt_eq.mp rfl) rfl rfl rfl ?_
    generalize hg1 : List.set h (b + 36) _ = h1
    have c1 : cR h1 b n f (a + 1) fp fs tm k ins := by rw [← hg1]; exact c0.rd bb _ _ _ _
    have m1 : mz_mo (cL b) 0 0 h h1 := mo00 m0 (by rw [← hg1]; exact c0.rdm bb _ _ _ _)
    clear hg1
    refine s_aldn (p' := 29) rfl rfl rfl ?_
    refine s_gf (p' := 32) rfl c1.1 rfl rfl ?_
    refine c_call (p' := 35) (kc := 2) (ls0 := [_]) rfl rfl rfl rfl rfl (mj_rcv_is c1.2.2.1) rfl rfl rfl ?_
    refine s_aldn (p' := 1) rfl rfl rfl ?_
    refine s_gf (p' := 4) rfl c1.2.2.1 rfl rfl ?_
    refine c_iret rfl rfl ?_
    refine s_ist (p' := 37) (ls' := [_, _, _, _, _, _, _, _]) rfl rfl rfl rfl ?_
    refine s_aldn (p' := 38) rfl rfl rfl ?_
    refine s_aldn (p' := 39) rfl rfl rfl ?_
    refine s_gf (p' := 42) rfl c1.1 rfl rfl ?_
    refine s_ildn (p' := 43) rfl rfl rfl ?_
    refine s_callEV (p' := 46) (ls0 := [_, _, _]) rfl rfl rfl rfl rfl (mj_rcv_is c1.2.2.1) rfl (x_add bb hn hf c1 hk30 (by omega)) rfl rfl ?_
    rintro _ h2 ⟨rfl, c2, m2⟩
    replace m2 := mo00 m1 m2
    rw [add0] at c2
    refine s_callEV (p' := 49) (ls0 := [_, _]) rfl rfl rfl rfl rfl (mj_rcv_is c2.1) rfl (x_tst bb hn hf c2 (by omega) (by omega) hk30) rfl rfl ?_
    rintro _ h3 ⟨⟨t, p, u, a1, e1, rfl, tm3, c3⟩ | ⟨e, e1, rfl, z1⟩, m3⟩
    rotate_left
    · refine s_if (p' := 76) true rfl (by decide +kernel) rfl ?_
      refine s_con (p' := 77) rfl rfl ?_
      refine s_iret rfl rfl ?_
      exact ⟨_, _, rfl, Or.inr ⟨e, by rw [hR]; rw [if_neg (by omega), e1], rfl, z1⟩, mo00 m2 m3⟩
    replace m3 := mo00 m2 m3
    rw [updI_updI, updI_at, fu2, fu3, fu4] at c3
    have b1 := rTest_b (chA_ok n f) (a := a + 1) (by omega) e1
    refine s_if (p' := 52) false rfl (by decide +kernel) rfl ?_
    refine s_aldn (p' := 53) rfl rfl rfl ?_
    refine s_bip (p' := 55) rfl rfl ?_
    refine s_bip (p' := 57) rfl rfl ?_
    refine s_callEV (p' := 60) (ls0 := [_, _, _]) rfl rfl rfl rfl rfl (mj_rcv_is c3.1) rfl (x_po bb hn hf c3 (by omega) (by omega) (w := 58) (l := 100) (by decide) (by decide)) rfl rfl ?_
    rintro _ h4 ⟨⟨q1, rfl, c4⟩ | ⟨q1, rfl, z1⟩, m4⟩
    rotate_left
    · refine s_if (p' := 76) true rfl (by decide +kernel) rfl ?_
      refine s_con (p' := 77) rfl rfl ?_
      refine s_iret rfl rfl ?_
      exact ⟨_, _, rfl, Or.inr ⟨_, by rw [hR]; rw [if_neg (by omega), e1]; dsimp only; rw [if_neg q1], rfl, z1⟩, mo00 m3 m4⟩
    replace m4 := mo00 m3 m4
    have q1l := (chA_lt hf (a := a1) (by omega)).1
    refine s_if (p' := 63) false rfl (by decide +kernel) rfl ?_
    refine s_aldn (p' := 64) rfl rfl rfl ?_
    refine s_bip (p' := 66) rfl rfl ?_
    refine s_ild (p' := 68) rfl rfl rfl ?_
    refine s_con (p' := 69) rfl rfl ?_
    refine s_sp (p' := 70) (ls' := _) rfl rfl rfl ?_
    rw [mI_add]
    refine s_callEV (p' := 73) (ls0 := [_, _, _, _]) rfl rfl rfl rfl rfl (mj_rcv_is c4.1) rfl (hrow qo 124 (a1 + 1, k + 1, adA x k (ac bc 0 t p u 0 0 0)) h4 (by decide) q1l (by show 2 * (k + 1) ≤ a1 + 1; omega) ⟨fp, fs, tm3, _, c4, agr hag (acN_q _ _ _ _ _ _ _ _)⟩) (Nat.ble_eq.mpr (by omega)) rfl ?_
    rintro _ h5 ⟨⟨⟨a2, k2, x2⟩, e2, rfl, fp2, fs2, tm2, ins2, c5, hag2⟩ | ⟨e, e2, rfl, z1⟩, m5⟩
    rotate_left
    · refine s_if (p' := 76) false rfl (by decide +kernel) rfl ?_
      refine s_con (p' := 77) rfl rfl ?_
      refine s_iret rfl rfl ?_
      exact ⟨_, _, rfl, Or.inr ⟨e, by rw [hR]; rw [if_neg (by omega), e1]; dsimp only; rw [if_pos q1, e2], rfl, z1⟩, mo00 m4 m5⟩
    replace m5 := mo00 m4 m5
    have b2 := (hrb 124 (op + 1) (a1 + 1, k + 1, adA x k (ac bc 0 t p u 0 0 0)) q1l).1 _ e2
    have b3 : chA n f a2 = 124 := (hrb 124 (op + 1) (a1 + 1, k + 1, adA x k (ac bc 0 t p u 0 0 0)) q1l).2 _ e2
    have b4 := (chA_lt hf (a := a2) (by omega)).1
    dsimp only at b2 c5 hag2
    have hk2 : k2 < 30 := by omega
    refine s_if (p' := 78) true rfl (by decide +kernel) rfl ?_
    refine s_aldn (p' := 79) rfl rfl rfl ?_
    refine s_sp (p' := 80) (ls' := _) rfl rfl rfl ?_
    refine s_gf (p' := 83) rfl c5.1 rfl rfl ?_
    refine s_con (p' := 84) rfl rfl ?_
    refine s_sp (p' := 85) (ls' := _) rfl rfl rfl ?_
    rw [mI_add]
    refine s_pf (p' := 88) (fs' := [_, _, _, _, _, _]) rfl hB c5.1 (Nat.blt_eq.mp rfl) rfl rfl rfl ?_
    generalize hg6 : List.set h5 (b + 36) _ = h6
    have c6 : cR h6 b n f (a2 + 1) fp2 fs2 tm2 k2 ins2 := by rw [← hg6]; exact c5.rd bb _ _ _ _
    have m6 : mz_mo (cL b) 0 0 h h6 := mo00 m5 (by rw [← hg6]; exact c5.rdm bb _ _ _ _)
    clear hg6
    refine s_aldn (p' := 89) rfl rfl rfl ?_
    refine s_gf (p' := 92) rfl c6.1 rfl rfl ?_
    refine c_call (p' := 95) (kc := 2) (ls0 := [_]) rfl rfl rfl rfl rfl (mj_rcv_is c6.2.2.1) rfl rfl rfl ?_
    refine s_aldn (p' := 1) rfl rfl rfl ?_
    refine s_gf (p' := 4) rfl c6.2.2.1 rfl rfl ?_
    refine c_iret rfl rfl ?_
    refine s_ist (p' := 97) (ls' := [_, _, _, _, _, _, _, _]) rfl rfl rfl rfl ?_
    refine s_aldn (p' := 98) rfl rfl rfl ?_
    refine s_gf (p' := 101) rfl c6.1 rfl rfl ?_
    refine s_ildn (p' := 102) rfl rfl rfl ?_
    refine s_callEV (p' := 105) (ls0 := [_, _, _]) rfl rfl rfl rfl rfl (mj_rcv_is c6.2.2.1) rfl (x_add bb hn hf c6 hk2 (by omega)) rfl rfl ?_
    rintro _ h7 ⟨rfl, c7, m7⟩
    replace m7 := mo00 m6 m7
    rw [add0] at c7
    refine s_sp (p' := 106) (ls' := _) rfl rfl rfl ?_
    refine s_aldn (p' := 107) rfl rfl rfl ?_
    refine s_bip (p' := 109) rfl rfl ?_
    refine s_ild (p' := 111) rfl rfl rfl ?_
    refine s_con (p' := 112) rfl rfl ?_
    refine s_sp (p' := 113) (ls' := _) rfl rfl rfl ?_
    rw [mI_add]
    refine s_callEV (p' := 116) (ls0 := [_, _, _, _]) rfl rfl rfl rfl rfl (mj_rcv_is c7.1) rfl (hrow qo 58 (a2 + 1, k2 + 1, adA x2 k2 (ac mc 0 0 32 0 0 0 0)) h7 (by decide) b4 (by show 2 * (k2 + 1) ≤ a2 + 1; omega) ⟨fp2, fs2, tm2, _, c7, agr hag2 (acN_q _ _ _ _ _ _ _ _)⟩) (Nat.ble_eq.mpr (by omega)) rfl ?_
    rintro _ h8 ⟨⟨⟨a3, k3, x3⟩, e3, rfl, fp3, fs3, tm4, ins3, c8, hag3⟩ | ⟨e, e3, rfl, z1⟩, m8⟩
    rotate_left
    · refine s_if (p' := 119) false rfl (by decide +kernel) rfl ?_
      refine s_con (p' := 120) rfl rfl ?_
      refine s_iret rfl rfl ?_
      exact ⟨_, _, rfl, Or.inr ⟨e, by rw [hR]; rw [if_neg (by omega), e1]; dsimp only; rw [if_pos q1, e2]; dsimp only; rw [e3], rfl, z1⟩, mo00 m7 m8⟩
    replace m8 := mo00 m7 m8
    have b5 := (hrb 58 (op + 1) (a2 + 1, k2 + 1, adA x2 k2 (ac mc 0 0 32 0 0 0 0)) b4).1 _ e3
    have b6 : chA n f a3 = 58 := (hrb 58 (op + 1) (a2 + 1, k2 + 1, adA x2 k2 (ac mc 0 0 32 0 0 0 0)) b4).2 _ e3
    have b7 := (chA_lt hf (a := a3) (by omega)).1
    dsimp only at b5 c8 hag3
    have hk3 : k3 < 30 := by omega
    refine s_if (p' := 121) true rfl (by decide +kernel) rfl ?_
    refine s_aldn (p' := 122) rfl rfl rfl ?_
    refine s_sp (p' := 123) (ls' := _) rfl rfl rfl ?_
    refine s_gf (p' := 126) rfl c8.1 rfl rfl ?_
    refine s_con (p' := 127) rfl rfl ?_
    refine s_sp (p' := 128) (ls' := _) rfl rfl rfl ?_
    rw [mI_add]
    refine s_pf (p' := 131) (fs' := [_, _, _, _, _, _]) rfl hB c8.1 (Nat.blt_eq.mp rfl) rfl rfl rfl ?_
    generalize hg9 : List.set h8 (b + 36) _ = h9
    have c9 : cR h9 b n f (a3 + 1) fp3 fs3 tm4 k3 ins3 := by rw [← hg9]; exact c8.rd bb _ _ _ _
    have m9 : mz_mo (cL b) 0 0 h h9 := mo00 m8 (by rw [← hg9]; exact c8.rdm bb _ _ _ _)
    clear hg9
    refine s_aldn (p' := 132) rfl rfl rfl ?_
    refine s_gf (p' := 135) rfl c9.1 rfl rfl ?_
    refine c_call (p' := 138) (kc := 2) (ls0 := [_]) rfl rfl rfl rfl rfl (mj_rcv_is c9.2.2.1) rfl rfl rfl ?_
    refine s_aldn (p' := 1) rfl rfl rfl ?_
    refine s_gf (p' := 4) rfl c9.2.2.1 rfl rfl ?_
    refine c_iret rfl rfl ?_
    refine s_ist (p' := 140) (ls' := [_, _, _, _, _, _, _, _]) rfl rfl rfl rfl ?_
    refine s_aldn (p' := 141) rfl rfl rfl ?_
    refine s_aldn (p' := 142) rfl rfl rfl ?_
    refine s_gf (p' := 145) rfl c9.1 rfl rfl ?_
    refine s_ildn (p' := 146) rfl rfl rfl ?_
    refine s_callEV (p' := 149) (ls0 := [_, _, _]) rfl rfl rfl rfl rfl (mj_rcv_is c9.2.2.1) rfl (x_add bb hn hf c9 hk3 (by omega)) rfl rfl ?_
    rintro _ h10 ⟨rfl, c10, m10⟩
    replace m10 := mo00 m9 m10
    rw [add0] at c10
    refine s_callEV (p' := 152) (ls0 := [_, _]) rfl rfl rfl rfl rfl (mj_rcv_is c10.1) rfl (x_tst bb hn hf c10 (by omega) (by omega) hk3) rfl rfl ?_
    rintro _ h11 ⟨⟨t2, p2, u2, a4, e4, rfl, tm5, c11⟩ | ⟨e, e4, rfl, z1⟩, m11⟩
    rotate_left
    · refine s_if (p' := 165) true rfl (by decide +kernel) rfl ?_
      refine s_con (p' := 166) rfl rfl ?_
      refine s_iret rfl rfl ?_
      exact ⟨_, _, rfl, Or.inr ⟨e, by rw [hR]; rw [if_neg (by omega), e1]; dsimp only; rw [if_pos q1, e2]; dsimp only; rw [e3]; dsimp only; rw [e4], rfl, z1⟩, mo00 m10 m11⟩
    replace m11 := mo00 m10 m11
    rw [updI_updI, updI_at, fu2, fu3, fu4] at c11
    have b8 := rTest_b (chA_ok n f) (a := a3 + 1) (by omega) e4
    refine s_if (p' := 155) false rfl (by decide +kernel) rfl ?_
    refine s_aldn (p' := 156) rfl rfl rfl ?_
    refine s_ildn (p' := 157) rfl rfl rfl ?_
    refine s_bip (p' := 159) rfl rfl ?_
    refine s_callEV (p' := 162) (ls0 := [_, _, _]) rfl rfl rfl rfl rfl (mj_rcv_is c11.1) rfl (x_po bb hn hf c11 (by omega) (by omega) (w := ec) (l := 120) (by omega) (by decide)) rfl rfl ?_
    rintro _ h12 ⟨⟨q2, rfl, c12⟩ | ⟨q2, rfl, z1⟩, m12⟩
    rotate_left
    · refine s_if (p' := 165) false rfl (by decide +kernel) rfl ?_
      refine s_con (p' := 166) rfl rfl ?_
      refine s_iret rfl rfl ?_
      exact ⟨_, _, rfl, Or.inr ⟨_, by rw [hR]; rw [if_neg (by omega), e1]; dsimp only; rw [if_pos q1, e2]; dsimp only; rw [e3]; dsimp only; rw [e4]; dsimp only; rw [if_neg q2], rfl, z1⟩, mo00 m11 m12⟩
    replace m12 := mo00 m11 m12
    refine s_if (p' := 167) true rfl (by decide +kernel) rfl ?_
    refine s_aldn (p' := 168) rfl rfl rfl ?_
    refine s_gf (p' := 171) rfl c12.1 rfl rfl ?_
    refine s_ild (p' := 173) rfl rfl rfl ?_
    refine s_ild (p' := 175) rfl rfl rfl ?_
    refine s_ild (p' := 177) rfl rfl rfl ?_
    refine s_callEN (p' := 180) (ls0 := [_, _, _, _]) rfl rfl rfl rfl rfl (mj_rcv_is c12.2.2.1) rfl (x_lnk bb c12 (by omega) (k := k) (m := k2) (e := k3) (by omega) (by omega) (by omega)) rfl rfl ?_
    rintro h13 ⟨c13, m13⟩
    refine s_con (p' := 181) rfl rfl ?_
    refine s_iret rfl rfl ?_
    exact ⟨_, _, rfl, Or.inl ⟨_, by rw [hR, if_neg (by omega), e1]; dsimp only; rw [if_pos q1, e2]; dsimp only; rw [e3]; dsimp only; rw [e4]; dsimp only; rw [if_pos q2], rfl, fp3, fs3, tm5, _, c13, lkI_ag (agr hag3 (acN_q _ _ _ _ _ _ _ _))⟩, mo00 m12 m13⟩
  · refine s_icmp (p' := 7) false rfl ((ci_lt (by omega) (by omega)).trans (decide_eq_false (by omega))) rfl ?_
    refine s_aldn (p' := 8) rfl rfl rfl ?_
    refine s_bip (p' := 10) rfl rfl ?_
    refine s_aldn (p' := 11) rfl rfl rfl ?_
    refine s_gf (p' := 14) rfl c0.1 rfl rfl ?_
    refine s_callEV (p' := 17) (ls0 := [_, _, _]) rfl rfl rfl rfl rfl (mj_rcv_is c0.1) rfl (x_fl bb hn hf c0 (by decide) (by omega)) rfl rfl ?_
    rintro _ z ⟨rfl, z1, z2⟩
    refine s_iret rfl rfl ?_
    exact ⟨_, _, rfl, Or.inr ⟨_, if_pos (by omega), rfl, z1⟩, z2⟩
theorem cQ.ri {h h' : mj_H} {b n : Nat} {f : Nat → Nat} {P : PR} {r : Value} (q : cQ h h' b n f P r) : ∃ i, r = .int (nI i) ∧ i ≤ 1 := by
  rcases q.1 with ⟨_, _, e, _⟩ | ⟨_, _, e, _⟩
  · exact ⟨1, e, by decide⟩
  · exact ⟨0, e, by decide⟩
theorem lsw {c pc : Nat} {ls : mj_L} {st : List Value} {e : Nat × Nat × Nat} (hc : c ≤ 70000) (h1 : c ≠ 33) (h2 : c ≠ 36) (h3 : c ≠ 63) (h4 : c ≠ 64) (h5 : c ≠ 91) (h6 : c ≠ 123) : mj_sp (.lookupswitch 96 #[(33, 58), (36, 65), (63, 58), (64, 65), (91, 72), (123, 84)], e) pc ls (.int (nI (sgn c)) :: st) = some (mj_jmp pc 96, ls, st) := by
  show some (mj_jmp pc (Op.lookupswitch.offset [(33, 58), (36, 65), (63, 58), (64, 65), (91, 72), (123, 84)] 96 (nI (sgn c)).toInt), ls, st) = _
  rw [sgn_ti hc]
  have hx : ∀ z : Int, 0 ≤ z → z < 70000 → (c : Int) ≠ z → (if c = 70000 then (-1 : Int) else (c : Int)) ≠ z := fun z a b q => by
    split
    · omega
    · exact q
  have e1 := hx 33 (by decide) (by decide) (by omega)
  have e2 := hx 36 (by decide) (by decide) (by omega)
  have e3 := hx 63 (by decide) (by decide) (by omega)
  have e4 := hx 64 (by decide) (by decide) (by omega)
  have e5 := hx 91 (by decide) (by decide) (by omega)
  have e6 := hx 123 (by decide) (by decide) (by omega)
  generalize (if c = 70000 then (-1 : Int) else (c : Int)) = z at e1 e2 e3 e4 e5 e6 ⊢
  simp [Op.lookupswitch.offset, e1, e2, e3, e4, e5, e6, Ne.symm e1, Ne.symm e2, Ne.symm e3, Ne.symm e4, Ne.symm e5, Ne.symm e6]
theorem x_stm {h : mj_H} {b n a k : Nat} {f : Nat → Nat} {x : Nat → Nat → Nat} {fp fs tm : Int32} {ins : Nat → Nat → Int32} (bb : b + 37 ≤ 414) (hn : n ≤ 60) (hf : ∀ j, j < n → f j < 65536) (c0 : cR h b n f a fp fs tm k ins) (hag : ∀ j, j < k → ∀ q, q < 8 → ins j q = nI (x j q)) (ha : a ≤ n) (hk : 2 * k ≤ a) {K op : Nat} {row : Nat → Nat → PS → PR} (hop : op ≤ 6) (hrow : op < 6 → ∀ (en : Nat) (s : PS) (h : mj_H), en ≤ 70000 → s.1 ≤ n → 2 * s.2.1 ≤ s.1 → cG h b n f s → mj_Wp K 83 (0, [some (.ref (b + 36)), some (.int (nI (sgn en))), some (.int (nI (op + 1))), none], [], h) (mz_V fun r h' => cQ h h' b n f (row en (op + 1) s) r)) (hrb : ∀ en op s, s.1 ≤ n → okR n s (row en op s) ∧ ∀ s', row en op s = .inr s' → chA n f s'.1 = en) : mj_Wp (K + 8) 85 (0, [some (.ref (b + 36)), some (.int (nI op)), none], [], h) (mz_V fun r h' => cQ h h' b n f (rStm row (chA n f) op (a, k, x)) r) := by
  have hB : b + 36 < mj_CB := by have : mj_CB = 1000000 := rfl; omega
  have hI : ∀ j, j < 30 → b + 6 + j < mj_CB := fun j hj => by have : mj_CB = 1000000 := rfl; omega
  have m0 : mz_mo (cL b) 0 0 h h := mz_mo.rf _ _ _ _
  refine s_aldn (p' := 1) rfl rfl rfl ?_
  refine s_callV (p' := 4) (ls0 := [_]) rfl rfl rfl rfl rfl (mj_rcv_is c0.1) rfl (x_sg bb hn hf c0 (by omega)) (by first | decide | omega) rfl ?_
  refine s_istn (p' := 5) (ls' := [_, _, _]) rfl rfl rfl rfl ?_
  refine s_ildn (p' := 6) rfl rfl rfl ?_
  refine s_callV (p' := 9) (ls0 := [_]) rfl rfl rfl rfl rfl rfl rfl (x_isv (chA_le hf _)) (by first | decide | omega) rfl ?_
  by_cases q : vB (chA n f a) = true
  · refine s_if (p' := 12) false rfl (by rw [q]; rfl) rfl ?_
    refine s_aldn (p' := 13) rfl rfl rfl ?_
    refine s_callEV (p' := 16) (ls0 := [_, _, _, _, _]) rfl rfl rfl rfl rfl (mj_rcv_is c0.1) rfl (x_chg bb hn hf c0 hag (by have := vB_lt q; have := chA_lt hf (a := a) (by omega); omega) hk q) rfl rfl ?_
    rintro r h1 hq
    obtain ⟨i, rfl, hi⟩ := hq.ri
    have hS : rStm row (chA n f) op (a, k, x) = rChg (chA n f) (a, k, x) := if_pos q
    rw [← hS] at hq
    refine s_iret rfl (nar1 hi) ?_
    exact ⟨_, _, rfl, hq⟩
  · refine s_if (p' := 17) true rfl (by rw [Bool.eq_false_iff.mpr q]; rfl) rfl ?_
    refine s_ildn (p' := 18) rfl rfl rfl ?_
    by_cases q91 : chA n f a = 91
    · rw [q91, show sgn 91 = 91 from rfl]
      refine s_sp (p' := 90) (ls' := _) rfl rfl rfl ?_
      refine s_aldn (p' := 91) rfl rfl rfl ?_
      refine s_bip (p' := 93) rfl rfl ?_
      refine s_bip (p' := 95) rfl rfl ?_
      refine s_bip (p' := 97) rfl rfl ?_
      refine s_ildn (p' := 98) rfl rfl rfl ?_
      refine s_callEV (p' := 101) (ls0 := [_, _, _, _, _, _, _, _]) rfl rfl rfl rfl rfl (mj_rcv_is c0.1) rfl (x_brk bb hn hf c0 hag (by have := chA_lt hf (a := a) (by omega); omega) hk hop hrow hrb (bc := 91) (mc := 124) (ec := 93) (by decide) (by decide) (by decide)) (Nat.ble_eq.mpr (by omega)) rfl ?_
      rintro r h1 hq
      obtain ⟨i, rfl, hi⟩ := hq.ri
      have hS : rStm row (chA n f) op (a, k, x) = rBrk row (chA n f) 91 124 93 op (a, k, x) := (by unfold rStm; dsimp only; rw [if_neg q, if_neg (by omega), if_neg (by omega), if_pos q91])
      rw [← hS] at hq
      refine s_iret rfl (nar1 hi) ?_
      exact ⟨_, _, rfl, hq⟩
    · by_cases q123 : chA n f a = 123
      · rw [q123, show sgn 123 = 123 from rfl]
        refine s_sp (p' := 102) (ls' := _) rfl rfl rfl ?_
        refine s_aldn (p' := 103) rfl rfl rfl ?_
        refine s_bip (p' := 105) rfl rfl ?_
        refine s_bip (p' := 107) rfl rfl ?_
        refine s_bip (p' := 109) rfl rfl ?_
        refine s_ildn (p' := 110) rfl rfl rfl ?_
        refine s_callEV (p' := 113) (ls0 := [_, _, _, _, _, _, _, _]) rfl rfl rfl rfl rfl (mj_rcv_is c0.1) rfl (x_brk bb hn hf c0 hag (by have := chA_lt hf (a := a) (by omega); omega) hk hop hrow hrb (bc := 123) (mc := 47) (ec := 125) (by decide) (by decide) (by decide)) (Nat.ble_eq.mpr (by omega)) rfl ?_
        rintro r h1 hq
        obtain ⟨i, rfl, hi⟩ := hq.ri
        have hS : rStm row (chA n f) op (a, k, x) = rBrk row (chA n f) 123 47 125 op (a, k, x) := (by unfold rStm; dsimp only; rw [if_neg q, if_neg (by omega), if_neg (by omega), if_neg q91, if_pos q123])
        rw [← hS] at hq
        refine s_iret rfl (nar1 hi) ?_
        exact ⟨_, _, rfl, hq⟩
      · by_cases q33 : chA n f a = 33
        · rw [q33, show sgn 33 = 33 from rfl]
          refine s_sp (p' := 76) (ls' := _) rfl rfl rfl ?_
          refine s_aldn (p' := 77) rfl rfl rfl ?_
          refine s_ildn (p' := 78) rfl rfl rfl ?_
          refine s_sp (p' := 79) (ls' := _) rfl rfl rfl ?_
          rw [i2c_n (by decide)]
          refine s_callEV (p' := 82) (ls0 := [_, _]) rfl rfl rfl rfl rfl (mj_rcv_is c0.1) rfl (x_stk bb hn hf c0 hag (by have := chA_lt hf (a := a) (by omega); omega) hk (c := 33) (by decide)) rfl rfl ?_
          rintro r h1 hq
          obtain ⟨i, rfl, hi⟩ := hq.ri
          have hS : rStm row (chA n f) op (a, k, x) = (if vB (chA n f (a + 1)) = true then .inr (a + 2, k + 1, adA x k (ac 33 (chA n f (a + 1) - 97) 0 32 0 0 0 0)) else .inl (118, a + 1)) := (by unfold rStm; dsimp only; rw [if_neg q, if_pos (Or.inl q33), q33])
          rw [← hS] at hq
          refine s_iret rfl (nar1 hi) ?_
          exact ⟨_, _, rfl, hq⟩
        · by_cases q63 : chA n f a = 63
          · rw [q63, show sgn 63 = 63 from rfl]
            refine s_sp (p' := 76) (ls' := _) rfl rfl rfl ?_
            refine s_aldn (p' := 77) rfl rfl rfl ?_
            refine s_ildn (p' := 78) rfl rfl rfl ?_
            refine s_sp (p' := 79) (ls' := _) rfl rfl rfl ?_
            rw [i2c_n (by decide)]
            refine s_callEV (p' := 82) (ls0 := [_, _]) rfl rfl rfl rfl rfl (mj_rcv_is c0.1) rfl (x_stk bb hn hf c0 hag (by have := chA_lt hf (a := a) (by omega); omega) hk (c := 63) (by decide)) rfl rfl ?_
            rintro r h1 hq
            obtain ⟨i, rfl, hi⟩ := hq.ri
            have hS : rStm row (chA n f) op (a, k, x) = (if vB (chA n f (a + 1)) = true then .inr (a + 2, k + 1, adA x k (ac 63 (chA n f (a + 1) - 97) 0 32 0 0 0 0)) else .inl (118, a + 1)) := (by unfold rStm; dsimp only; rw [if_neg q, if_pos (Or.inr q63), q63])
            rw [← hS] at hq
            refine s_iret rfl (nar1 hi) ?_
            exact ⟨_, _, rfl, hq⟩
          · by_cases q64 : chA n f a = 64
            · rw [q64, show sgn 64 = 64 from rfl]
              refine s_sp (p' := 83) (ls' := _) rfl rfl rfl ?_
              refine s_aldn (p' := 84) rfl rfl rfl ?_
              refine s_ildn (p' := 85) rfl rfl rfl ?_
              refine s_sp (p' := 86) (ls' := _) rfl rfl rfl ?_
              rw [i2c_n (by decide)]
              refine s_callEV (p' := 89) (ls0 := [_, _]) rfl rfl rfl rfl rfl (mj_rcv_is c0.1) rfl (x_cal bb hn hf c0 hag (by have := chA_lt hf (a := a) (by omega); omega) hk (c := 64) (by decide)) rfl rfl ?_
              rintro r h1 hq
              obtain ⟨i, rfl, hi⟩ := hq.ri
              have hS : rStm row (chA n f) op (a, k, x) = (if 48 ≤ chA n f (a + 1) ∧ chA n f (a + 1) ≤ 53 then .inr (a + 2, k + 1, adA x k (ac 64 (chA n f (a + 1) - 48) 0 32 0 0 0 0)) else .inl (110, a + 1)) := (by unfold rStm; dsimp only; rw [if_neg q, if_neg (by omega), if_pos (Or.inl q64), q64])
              rw [← hS] at hq
              refine s_iret rfl (nar1 hi) ?_
              exact ⟨_, _, rfl, hq⟩
            · by_cases q36 : chA n f a = 36
              · rw [q36, show sgn 36 = 36 from rfl]
                refine s_sp (p' := 83) (ls' := _) rfl rfl rfl ?_
                refine s_aldn (p' := 84) rfl rfl rfl ?_
                refine s_ildn (p' := 85) rfl rfl rfl ?_
                refine s_sp (p' := 86) (ls' := _) rfl rfl rfl ?_
                rw [i2c_n (by decide)]
                refine s_callEV (p' := 89) (ls0 := [_, _]) rfl rfl rfl rfl rfl (mj_rcv_is c0.1) rfl (x_cal bb hn hf c0 hag (by have := chA_lt hf (a := a) (by omega); omega) hk (c := 36) (by decide)) rfl rfl ?_
                rintro r h1 hq
                obtain ⟨i, rfl, hi⟩ := hq.ri
                have hS : rStm row (chA n f) op (a, k, x) = (if 48 ≤ chA n f (a + 1) ∧ chA n f (a + 1) ≤ 53 then .inr (a + 2, k + 1, adA x k (ac 36 (chA n f (a + 1) - 48) 0 32 0 0 0 0)) else .inl (110, a + 1)) := (by unfold rStm; dsimp only; rw [if_neg q, if_neg (by omega), if_pos (Or.inr q36), q36])
                rw [← hS] at hq
                refine s_iret rfl (nar1 hi) ?_
                exact ⟨_, _, rfl, hq⟩
              · refine s_sp (p' := 114) (ls' := _) rfl rfl (lsw (chA_le hf _) q33 q36 q63 q64 q91 q123) ?_
                refine s_aldn (p' := 115) rfl rfl rfl ?_
                refine s_bip (p' := 117) rfl rfl ?_
                refine s_aldn (p' := 118) rfl rfl rfl ?_
                refine s_gf (p' := 121) rfl c0.1 rfl rfl ?_
                refine s_callEV (p' := 124) (ls0 := [_, _, _]) rfl rfl rfl rfl rfl (mj_rcv_is c0.1) rfl (x_fl bb hn hf c0 (by decide) (by omega)) rfl rfl ?_
                rintro _ z ⟨rfl, z1, z2⟩
                refine s_iret rfl rfl ?_
                exact ⟨_, _, rfl, Or.inr ⟨(115, a), (by unfold rStm; dsimp only; rw [if_neg q, if_neg (by omega), if_neg (by omega), if_neg q91, if_neg q123]), rfl, z1⟩, z2⟩
theorem cQ.mo {h g h' : mj_H} {b n : Nat} {f : Nat → Nat} {P : PR} {r : Value} (m : mz_mo (cL b) 0 0 h g) (q : cQ g h' b n f P r) : cQ h h' b n f P r := ⟨q.1, mo00 m q.2⟩
theorem sgn_in {c d : Nat} (h1 : c ≤ 70000) (h2 : d ≤ 70000) : nI (sgn c) = nI (sgn d) ↔ c = d := by
  constructor
  · intro e
    have e2 := congrArg Int32.toInt e
    rw [sgn_ti h1, sgn_ti h2] at e2
    split at e2 <;> split at e2 <;> omega
  · rintro rfl
    rfl
theorem x_lpL {b n K op : Nat} {f : Nat → Nat} {st : PS → PR} (bb : b + 37 ≤ 414) (hn : n ≤ 60) (hf : ∀ j, j < n → f j < 65536) {en : Nat} (hen : en ≤ 70000) (hst : ∀ (s : PS) (h : mj_H), s.1 ≤ n → 2 * s.2.1 ≤ s.1 → cG h b n f s → mj_Wp (K + 8) 85 (0, [some (.ref (b + 36)), some (.int (nI op)), none], [], h) (mz_V fun r h' => cQ h h' b n f (st s) r)) (hsb : ∀ s, s.1 ≤ n → okR n s (st s)) : ∀ (d i : Nat) (s : PS) (h : mj_H), d + i = 60 → s.1 ≤ n → 2 * s.2.1 ≤ s.1 → cG h b n f s → mj_Wp (K + 9) 83 (12, [some (.ref (b + 36)), some (.int (nI (sgn en))), some (.int (nI op)), some (.int (nI i))], [], h) (mz_V fun r h' => cQ h h' b n f (rLp st (chA n f) en d s) r)
  | 0, i, s, h, hi, hs, hk, hg => by
    obtain rfl : i = 60 := by omega
    have hg0 := hg
    obtain ⟨fp, fs, tm, ins, c0, hag⟩ := hg0
    obtain ⟨a, k, x⟩ := s
    dsimp only at hs hk c0 hag
    have hB : b + 36 < mj_CB := by have : mj_CB = 1000000 := rfl; omega
    have hI : ∀ j, j < 30 → b + 6 + j < mj_CB := fun j hj => by have : mj_CB = 1000000 := rfl; omega
    have m0 : mz_mo (cL b) 0 0 h h := mz_mo.rf _ _ _ _
    refine s_ildn (p' := 13) rfl rfl rfl ?_
    refine s_bip (p' := 15) rfl rfl ?_
    refine s_icmp (p' := 57) true rfl ((ci_ge (by omega) (by omega)).trans (decide_eq_true (by omega))) rfl ?_
    refine s_aldn (p' := 58) rfl rfl rfl ?_
    refine s_bip (p' := 60) rfl rfl ?_
    refine s_aldn (p' := 61) rfl rfl rfl ?_
    refine s_gf (p' := 64) rfl c0.1 rfl rfl ?_
    refine s_callEV (p' := 67) (ls0 := [_, _, _]) rfl rfl rfl rfl rfl (mj_rcv_is c0.1) rfl (x_fl bb hn hf c0 (by decide) (by omega)) rfl rfl ?_
    rintro _ z ⟨rfl, z1, z2⟩
    refine s_iret rfl rfl ?_
    exact ⟨_, _, rfl, Or.inr ⟨(101, a), rfl, rfl, z1⟩, z2⟩
  | d + 1, i, s, h, hi, hs, hk, hg => by
    have hg0 := hg
    obtain ⟨fp, fs, tm, ins, c0, hag⟩ := hg0
    obtain ⟨a, k, x⟩ := s
    dsimp only at hs hk c0 hag
    have hB : b + 36 < mj_CB := by have : mj_CB = 1000000 := rfl; omega
    have hI : ∀ j, j < 30 → b + 6 + j < mj_CB := fun j hj => by have : mj_CB = 1000000 := rfl; omega
    have m0 : mz_mo (cL b) 0 0 h h := mz_mo.rf _ _ _ _
    have ih := x_lpL bb hn hf hen hst hsb d (i + 1)
    refine s_ildn (p' := 13) rfl rfl rfl ?_
    refine s_bip (p' := 15) rfl rfl ?_
    refine s_icmp (p' := 18) false rfl ((ci_ge (by omega) (by omega)).trans (decide_eq_false (by omega))) rfl ?_
    refine s_aldn (p' := 19) rfl rfl rfl ?_
    refine s_ildn (p' := 20) rfl rfl rfl ?_
    refine s_callEV (p' := 23) (ls0 := [_, _, _]) rfl rfl rfl rfl rfl (mj_rcv_is c0.1) rfl (hst (a, k, x) h hs hk hg) (Nat.ble_eq.mpr (by omega)) rfl ?_
    rintro _ h1 ⟨⟨⟨a1, k1, x1⟩, e1, rfl, hg1⟩ | ⟨e, e1, rfl, z1⟩, m1⟩
    rotate_left
    · refine s_if (p' := 26) false rfl (by decide +kernel) rfl ?_
      refine s_con (p' := 27) rfl rfl ?_
      refine s_iret rfl rfl ?_
      exact ⟨_, _, rfl, Or.inr ⟨e, by rw [rLp, e1], rfl, z1⟩, m1⟩
    have b1 := hsb (a, k, x) hs _ e1
    have hg2 := hg1
    obtain ⟨fp1, fs1, tm1, ins1, c1, hag1⟩ := hg2
    dsimp only at b1 c1 hag1
    refine s_if (p' := 28) true rfl (by decide +kernel) rfl ?_
    refine s_aldn (p' := 29) rfl rfl rfl ?_
    refine s_callV (p' := 32) (ls0 := [_]) rfl rfl rfl rfl rfl (mj_rcv_is c1.1) rfl (x_sg bb hn hf c1 (by omega)) (by first | decide | omega) rfl ?_
    refine s_ildn (p' := 33) rfl rfl rfl ?_
    by_cases q1 : chA n f a1 = en
    · refine s_icmp (p' := 36) false rfl (decide_eq_false (fun e => e ((sgn_in (chA_le hf _) hen).mpr q1))) rfl ?_
      refine s_con (p' := 37) rfl rfl ?_
      refine s_iret rfl rfl ?_
      exact ⟨_, _, rfl, Or.inl ⟨(a1, k1, x1), by rw [rLp, e1]; dsimp only; rw [if_pos q1], rfl, hg1⟩, m1⟩
    · refine s_icmp (p' := 38) true rfl (decide_eq_true (fun e => q1 ((sgn_in (chA_le hf _) hen).mp e))) rfl ?_
      refine s_aldn (p' := 39) rfl rfl rfl ?_
      refine s_bip (p' := 41) rfl rfl ?_
      refine s_bip (p' := 43) rfl rfl ?_
      refine s_callEV (p' := 46) (ls0 := [_, _, _]) rfl rfl rfl rfl rfl (mj_rcv_is c1.1) rfl (x_po bb hn hf c1 (by omega) (by omega) (w := 59) (l := 101) (by decide) (by decide)) rfl rfl ?_
      rintro _ h2 ⟨⟨q2, rfl, c2⟩ | ⟨q2, rfl, z1⟩, m2⟩
      rotate_left
      · refine s_if (p' := 49) false rfl (by decide +kernel) rfl ?_
        refine s_con (p' := 50) rfl rfl ?_
        refine s_iret rfl rfl ?_
        exact ⟨_, _, rfl, Or.inr ⟨_, by rw [rLp, e1]; dsimp only; rw [if_neg q1, if_neg q2], rfl, z1⟩, mo00 m1 m2⟩
      replace m2 := mo00 m1 m2
      have q3 := (chA_lt hf (a := a1) (by omega)).1
      refine s_if (p' := 51) true rfl (by decide +kernel) rfl ?_
      refine s_inc (p' := 54) (ls' := [_, _, _, _]) rfl rfl rfl rfl rfl ?_
      rw [mI_add]
      refine s_goto (p' := 12) rfl rfl ?_
      refine (ih (a1 + 1, k1, x1) h2 (by omega) q3 (by show 2 * k1 ≤ a1 + 1; omega) ⟨fp1, fs1, tm1, ins1, c2, hag1⟩).imp ?_
      rintro o ⟨r, h3, rfl, q⟩
      refine ⟨_, _, rfl, ?_⟩
      rw [show rLp st (chA n f) en (d + 1) (a, k, x) = rLp st (chA n f) en d (a1 + 1, k1, x1) from by rw [rLp, e1]; dsimp only; rw [if_neg q1, if_pos q2]]
      exact q.mo m2
theorem x_row {b n : Nat} {f : Nat → Nat} (bb : b + 37 ≤ 414) (hn : n ≤ 60) (hf : ∀ j, j < n → f j < 65536) : ∀ (d op en : Nat) (s : PS) (h : mj_H), op + d = 8 → op ≤ 6 → en ≤ 70000 → s.1 ≤ n → 2 * s.2.1 ≤ s.1 → cG h b n f s → mj_Wp (10 * d + 10) 83 (0, [some (.ref (b + 36)), some (.int (nI (sgn en))), some (.int (nI op)), none], [], h) (mz_V fun r h' => cQ h h' b n f (rRw (chA n f) d en op s) r)
  | 0, op, en, s, h, hd, hop, _, _, _, _ => by omega
  | d + 1, op, en, s, h, hd, hop, hen, hs, hk, hg => by
    have hg0 := hg
    obtain ⟨fp, fs, tm, ins, c0, hag⟩ := hg0
    obtain ⟨a, k, x⟩ := s
    dsimp only at hs hk c0 hag
    have hB : b + 36 < mj_CB := by have : mj_CB = 1000000 := rfl; omega
    have hI : ∀ j, j < 30 → b + 6 + j < mj_CB := fun j hj => by have : mj_CB = 1000000 := rfl; omega
    have m0 : mz_mo (cL b) 0 0 h h := mz_mo.rf _ _ _ _
    have hst : ∀ (s : PS) (h : mj_H), s.1 ≤ n → 2 * s.2.1 ≤ s.1 → cG h b n f s → mj_Wp (10 * d + 10 + 8) 85 (0, [some (.ref (b + 36)), some (.int (nI op)), none], [], h) (mz_V fun r h' => cQ h h' b n f (rStm (rRw (chA n f) d) (chA n f) op s) r) := fun s h hs hk hg => by
      obtain ⟨fp, fs, tm, ins, c0, hag⟩ := hg
      obtain ⟨a, k, x⟩ := s
      exact x_stm bb hn hf c0 hag hs hk hop (fun h6 en s h q1 q2 q3 q4 => x_row bb hn hf d (op + 1) en s h (by omega) (by omega) q1 q2 q3 q4) (fun en op s hs => rRw_b (chA_ok n f) d en op s hs)
    have hsb : ∀ s : PS, s.1 ≤ n → okR n s (rStm (rRw (chA n f) d) (chA n f) op s) := fun s hs => rStm_b (chA_ok n f) (fun en op s hs => rRw_b (chA_ok n f) d en op s hs) hs
    refine mj_Wp.mono (k := 10 * d + 10 + 9) ?_ (by omega)
    refine s_aldn (p' := 1) rfl rfl rfl ?_
    refine s_callV (p' := 4) (ls0 := [_]) rfl rfl rfl rfl rfl (mj_rcv_is c0.1) rfl (x_sg bb hn hf c0 (by omega)) (by first | decide | omega) rfl ?_
    refine s_ildn (p' := 5) rfl rfl rfl ?_
    by_cases q1 : chA n f a = en
    · refine s_icmp (p' := 8) false rfl (decide_eq_false (fun e => e ((sgn_in (chA_le hf _) hen).mpr q1))) rfl ?_
      refine s_con (p' := 9) rfl rfl ?_
      refine s_iret rfl rfl ?_
      exact ⟨_, _, rfl, Or.inl ⟨(a, k, x), if_pos q1, rfl, hg⟩, mz_mo.rf _ _ _ _⟩
    · refine s_icmp (p' := 10) true rfl (decide_eq_true (fun e => q1 ((sgn_in (chA_le hf _) hen).mp e))) rfl ?_
      refine s_con (p' := 11) rfl rfl ?_
      refine s_istn (p' := 12) (ls' := [_, _, _, _]) rfl rfl rfl rfl ?_
      rw [show rRw (chA n f) (d + 1) en op (a, k, x) = rLp (rStm (rRw (chA n f) d) (chA n f) op) (chA n f) en 60 (a, k, x) from if_neg q1]
      exact x_lpL bb hn hf hen hst hsb 60 0 (a, k, x) h rfl hs hk hg
theorem x_all {h : mj_H} {b n at_ k : Nat} {f : Nat → Nat} {fp fs tm : Int32} {ins : Nat → Nat → Int32} (bb : b + 37 ≤ 414) (hn : n ≤ 60) (hf : ∀ j, j < n → f j < 65536) (c0 : cR h b n f at_ fp fs tm k ins) : mj_Wp 100 81 (0, [some (.ref (b + 36))], [], h) (mz_V fun r h' => cQ h h' b n f (rAll n f) r) := by
  have hB : b + 36 < mj_CB := by have : mj_CB = 1000000 := rfl; omega
  have hI : ∀ j, j < 30 → b + 6 + j < mj_CB := fun j hj => by have : mj_CB = 1000000 := rfl; omega
  have m0 : mz_mo (cL b) 0 0 h h := mz_mo.rf _ _ _ _
  refine s_aldn (p' := 1) rfl rfl rfl ?_
  refine s_con (p' := 2) rfl rfl ?_
  refine s_pf (p' := 5) (fs' := [_, _, _, _, _, _]) rfl hB c0.1 (Nat.blt_eq.mp rfl) rfl rfl rfl ?_
  generalize hg1 : List.set h (b + 36) _ = h1
  have c1 : cR h1 b n f 0 fp fs tm k ins := by rw [← hg1]; exact c0.rd bb _ _ _ _
  have m1 : mz_mo (cL b) 0 0 h h1 := mo00 m0 (by rw [← hg1]; exact c0.rdm bb _ _ _ _)
  clear hg1
  refine s_aldn (p' := 6) rfl rfl rfl ?_
  refine s_gf (p' := 9) rfl c1.1 rfl rfl ?_
  refine c_call (p' := 12) (kc := 5) (ls0 := [_]) rfl rfl rfl rfl rfl (mj_rcv_is c1.2.2.1) rfl rfl rfl ?_
  refine s_aldn (p' := 1) rfl rfl rfl ?_
  refine s_con (p' := 2) rfl rfl ?_
  refine s_pf (p' := 5) (fs' := [_, _, _]) rfl (by omega) c1.2.2.1 (Nat.blt_eq.mp rfl) rfl rfl rfl ?_
  refine c_ret rfl ?_
  generalize hg2 : List.set h1 (b + 3) _ = h2
  have c2 : cR h2 b n f 0 fp fs tm 0 ins := by rw [← hg2]; exact c1.cd bb _
  have m2 : mz_mo (cL b) 0 0 h h2 := mo00 m1 (by rw [← hg2]; exact c1.cdm bb _)
  clear hg2
  refine s_aldn (p' := 13) rfl rfl rfl ?_
  refine s_con (p' := 14) rfl rfl ?_
  refine s_con (p' := 15) rfl rfl ?_
  refine s_callEV (p' := 18) (ls0 := [_, _, _, _]) rfl rfl rfl rfl rfl (mj_rcv_is c2.1) rfl (x_row bb hn hf 8 0 70000 (0, 0, fun _ _ => 0) h2 rfl (by decide) (by decide) (Nat.zero_le n) (Nat.le_refl 0) ⟨fp, fs, tm, ins, c2, fun j hj => absurd hj (Nat.not_lt_zero j)⟩) rfl rfl ?_
  rintro r h3 hq
  obtain ⟨i, rfl, hi⟩ := hq.ri
  refine s_iret rfl (nar1 hi) ?_
  exact ⟨_, _, rfl, hq.mo m2⟩
