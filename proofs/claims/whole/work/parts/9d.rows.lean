/-! The class reads brackets, statements, rows. -/
theorem x_brk {h : mj_H} {b n a k : Nat} {f : Nat → Nat} {x : Nat → Nat → Nat} {fp fs tm : Int32} {ins : Nat → Nat → Int32} (bb : b + 37 ≤ 414) (hn : n ≤ 60) (hf : ∀ j, j < n → f j < 65536) (c0 : cR h b n f a fp fs tm k ins) (hag : ∀ j, j < k → ∀ q, q < 8 → ins j q = nI (x j q)) (ha : a < n) (hk : 2 * k ≤ a) {K op : Nat} {row : Nat → Nat → PS → PR} (hop : op ≤ 6) (hrow : op < 6 → ∀ (en : Nat) (s : PS) (h : mj_H), en ≤ 70000 → s.1 ≤ n → 2 * s.2.1 ≤ s.1 → cG h b n f s → mj_Wp K 83 (0, [some (.ref (b + 36)), some (.int (nI (sgn en))), some (.int (nI (op + 1))), none], [], h) (mz_V fun r h' => cQ h h' b n f (row en (op + 1) s) r)) (hrb : ∀ en op s, s.1 ≤ n → okR n s (row en op s) ∧ ∀ s', row en op s = .inr s' → chA n f s'.1 = en) {bc mc ec : Nat} (h1c : bc < 200) (h2c : mc < 200) (h3c : ec < 200) : mj_Wp (K + 7) 98 (0, [some (.ref (b + 36)), some (.int (nI bc)), some (.int (nI mc)), some (.int (nI ec)), some (.int (nI op)), none, none, none], [], h) (mz_V fun r h' => cQ h h' b n f (rBrk row (chA n f) bc mc ec op (a, k, x)) r) := by
  have hB : b + 36 < mj_CB := by have : mj_CB = 1000000 := rfl; omega
  have hI : ∀ j, j < 30 → b + 6 + j < mj_CB := fun j hj => by have : mj_CB = 1000000 := rfl; omega
  have m0 : mz_mo (cL b) 0 0 h h := mz_mo.rf _ _ _ _
  have hk30 : k < 30 := by omega
  have hR : rBrk row (chA n f) bc mc ec op (a, k, x) = (if 6 ≤ op then .inl (109, a) else match rTest (chA n f) (a + 1) with
      | .inl x => .inl x
      | .inr (t, o, u, a1) => if chA n f a1 = 58 then match row 124 (op + 1) (a1 + 1, k + 1, adA x k (ac bc 0 t o u 0 0 0)) with
          | .inl x => .inl x
          | .inr (a2, k2, x2) => match row 58 (op + 1) (a2 + 1, k2 + 1, adA x2 k2 (ac mc 0 0 32 0 0 0 0)) with
            | .inl x => .inl x
            | .inr (a3, k3, x3) => match rTest (chA n f) (a3 + 1) with
              | .inl x => .inl x
              | .inr (t2, o2, u2, a4) => if chA n f a4 = ec then .inr (a4 + 1, k3 + 1, lkA (adA x3 k3 (ac ec 0 t2 o2 u2 0 0 0)) k k2 k3) else .inl (120, a4)
        else .inl (100, a1)) := rfl
  refine s_ild (p' := 2) rfl rfl rfl ?_
  refine s_bip (p' := 4) rfl rfl ?_
  by_cases qo : op < 6
  · refine s_icmp (p' := 18) true rfl ((ci_lt (by omega) (by omega)).trans (decide_eq_true (by omega))) rfl ?_
    refine s_aldn (p' := 19) rfl rfl rfl ?_
    refine s_sp (p' := 20) (ls' := _) rfl rfl rfl ?_
    refine s_gf (p' := 23) rfl c0.1 rfl rfl ?_
    refine s_con (p' := 24) rfl rfl ?_
    refine s_sp (p' := 25) (ls' := _) rfl rfl rfl ?_
    rw [mI_add]
    refine s_pf (p' := 28) (fs' := [_, _, _, _, _, _]) rfl hB c0.1 (Nat.blt_eq.mp rfl) rfl rfl rfl ?_
    generalize hg1 : List.set h (b + 36) _ = h1
    have c1 : cR h1 b n f (a + 1) fp fs tm k ins := by rw [← hg1]; exact c0.rd bb _ _ _ _
    have m1 : mz_mo (cL b) 0 0 h h1 := mo00 m0 (by rw [← hg1]; exact c0.rdm bb _ _ _ _)
    clear hg1
    refine s_aldn (p' := 29) rfl rfl rfl ?_
    refine s_gf (p' := 32) rfl c1.1 rfl rfl ?_
    refine c_call (p' := 35) (kc := 2) (ls0 := [_]) rfl rfl rfl rfl rfl (mj_rcv_is c1.2.2.1) rfl rfl rfl ?_
    refine s_aldn (p' := 1) rfl rfl rfl ?_
    refine s_gf (p' := 4) rfl c1.2.2.1 rfl rfl ?_
    refine c_iret rfl rfl ?_
    refine s_ist (p' := 37) (ls' := [_, _, _, _, _, _, _, _]) rfl rfl rfl rfl ?_
    refine s_aldn (p' := 38) rfl rfl rfl ?_
    refine s_aldn (p' := 39) rfl rfl rfl ?_
    refine s_gf (p' := 42) rfl c1.1 rfl rfl ?_
    refine s_ildn (p' := 43) rfl rfl rfl ?_
    refine s_callEV (p' := 46) (ls0 := [_, _, _]) rfl rfl rfl rfl rfl (mj_rcv_is c1.2.2.1) rfl (x_add bb hn hf c1 hk30 (by omega)) rfl rfl ?_
    rintro _ h2 ⟨rfl, c2, m2⟩
    replace m2 := mo00 m1 m2
    rw [add0] at c2
    refine s_callEV (p' := 49) (ls0 := [_, _]) rfl rfl rfl rfl rfl (mj_rcv_is c2.1) rfl (x_tst bb hn hf c2 (by omega) (by omega) hk30) rfl rfl ?_
    rintro _ h3 ⟨⟨t, p, u, a1, e1, rfl, tm3, c3⟩ | ⟨e, e1, rfl, z1⟩, m3⟩
    rotate_left
    · refine s_if (p' := 76) true rfl (by decide +kernel) rfl ?_
      refine s_con (p' := 77) rfl rfl ?_
      refine s_iret rfl rfl ?_
      exact ⟨_, _, rfl, Or.inr ⟨e, by rw [hR]; rw [if_neg (by omega), e1], rfl, z1⟩, mo00 m2 m3⟩
    replace m3 := mo00 m2 m3
    rw [updI_updI, updI_at, fu2, fu3, fu4] at c3
    have b1 := rTest_b (chA_ok n f) (a := a + 1) (by omega) e1
    refine s_if (p' := 52) false rfl (by decide +kernel) rfl ?_
    refine s_aldn (p' := 53) rfl rfl rfl ?_
    refine s_bip (p' := 55) rfl rfl ?_
    refine s_bip (p' := 57) rfl rfl ?_
    refine s_callEV (p' := 60) (ls0 := [_, _, _]) rfl rfl rfl rfl rfl (mj_rcv_is c3.1) rfl (x_po bb hn hf c3 (by omega) (by omega) (w := 58) (l := 100) (by decide) (by decide)) rfl rfl ?_
    rintro _ h4 ⟨⟨q1, rfl, c4⟩ | ⟨q1, rfl, z1⟩, m4⟩
    rotate_left
    · refine s_if (p' := 76) true rfl (by decide +kernel) rfl ?_
      refine s_con (p' := 77) rfl rfl ?_
      refine s_iret rfl rfl ?_
      exact ⟨_, _, rfl, Or.inr ⟨_, by rw [hR]; rw [if_neg (by omega), e1]; dsimp only; rw [if_neg q1], rfl, z1⟩, mo00 m3 m4⟩
    replace m4 := mo00 m3 m4
    have q1l := (chA_lt hf (a := a1) (by omega)).1
    refine s_if (p' := 63) false rfl (by decide +kernel) rfl ?_
    refine s_aldn (p' := 64) rfl rfl rfl ?_
    refine s_bip (p' := 66) rfl rfl ?_
    refine s_ild (p' := 68) rfl rfl rfl ?_
    refine s_con (p' := 69) rfl rfl ?_
    refine s_sp (p' := 70) (ls' := _) rfl rfl rfl ?_
    rw [mI_add]
    refine s_callEV (p' := 73) (ls0 := [_, _, _, _]) rfl rfl rfl rfl rfl (mj_rcv_is c4.1) rfl (hrow qo 124 (a1 + 1, k + 1, adA x k (ac bc 0 t p u 0 0 0)) h4 (by decide) q1l (by show 2 * (k + 1) ≤ a1 + 1; omega) ⟨fp, fs, tm3, _, c4, agr hag (acN_q _ _ _ _ _ _ _ _)⟩) (Nat.ble_eq.mpr (by omega)) rfl ?_
    rintro _ h5 ⟨⟨⟨a2, k2, x2⟩, e2, rfl, fp2, fs2, tm2, ins2, c5, hag2⟩ | ⟨e, e2, rfl, z1⟩, m5⟩
    rotate_left
    · refine s_if (p' := 76) false rfl (by decide +kernel) rfl ?_
      refine s_con (p' := 77) rfl rfl ?_
      refine s_iret rfl rfl ?_
      exact ⟨_, _, rfl, Or.inr ⟨e, by rw [hR]; rw [if_neg (by omega), e1]; dsimp only; rw [if_pos q1, e2], rfl, z1⟩, mo00 m4 m5⟩
    replace m5 := mo00 m4 m5
    have b2 := (hrb 124 (op + 1) (a1 + 1, k + 1, adA x k (ac bc 0 t p u 0 0 0)) q1l).1 _ e2
    have b3 : chA n f a2 = 124 := (hrb 124 (op + 1) (a1 + 1, k + 1, adA x k (ac bc 0 t p u 0 0 0)) q1l).2 _ e2
    have b4 := (chA_lt hf (a := a2) (by omega)).1
    dsimp only at b2 c5 hag2
    have hk2 : k2 < 30 := by omega
    refine s_if (p' := 78) true rfl (by decide +kernel) rfl ?_
    refine s_aldn (p' := 79) rfl rfl rfl ?_
    refine s_sp (p' := 80) (ls' := _) rfl rfl rfl ?_
    refine s_gf (p' := 83) rfl c5.1 rfl rfl ?_
    refine s_con (p' := 84) rfl rfl ?_
    refine s_sp (p' := 85) (ls' := _) rfl rfl rfl ?_
    rw [mI_add]
    refine s_pf (p' := 88) (fs' := [_, _, _, _, _, _]) rfl hB c5.1 (Nat.blt_eq.mp rfl) rfl rfl rfl ?_
    generalize hg6 : List.set h5 (b + 36) _ = h6
    have c6 : cR h6 b n f (a2 + 1) fp2 fs2 tm2 k2 ins2 := by rw [← hg6]; exact c5.rd bb _ _ _ _
    have m6 : mz_mo (cL b) 0 0 h h6 := mo00 m5 (by rw [← hg6]; exact c5.rdm bb _ _ _ _)
    clear hg6
    refine s_aldn (p' := 89) rfl rfl rfl ?_
    refine s_gf (p' := 92) rfl c6.1 rfl rfl ?_
    refine c_call (p' := 95) (kc := 2) (ls0 := [_]) rfl rfl rfl rfl rfl (mj_rcv_is c6.2.2.1) rfl rfl rfl ?_
    refine s_aldn (p' := 1) rfl rfl rfl ?_
    refine s_gf (p' := 4) rfl c6.2.2.1 rfl rfl ?_
    refine c_iret rfl rfl ?_
    refine s_ist (p' := 97) (ls' := [_, _, _, _, _, _, _, _]) rfl rfl rfl rfl ?_
    refine s_aldn (p' := 98) rfl rfl rfl ?_
    refine s_gf (p' := 101) rfl c6.1 rfl rfl ?_
    refine s_ildn (p' := 102) rfl rfl rfl ?_
    refine s_callEV (p' := 105) (ls0 := [_, _, _]) rfl rfl rfl rfl rfl (mj_rcv_is c6.2.2.1) rfl (x_add bb hn hf c6 hk2 (by omega)) rfl rfl ?_
    rintro _ h7 ⟨rfl, c7, m7⟩
    replace m7 := mo00 m6 m7
    rw [add0] at c7
    refine s_sp (p' := 106) (ls' := _) rfl rfl rfl ?_
    refine s_aldn (p' := 107) rfl rfl rfl ?_
    refine s_bip (p' := 109) rfl rfl ?_
    refine s_ild (p' := 111) rfl rfl rfl ?_
    refine s_con (p' := 112) rfl rfl ?_
    refine s_sp (p' := 113) (ls' := _) rfl rfl rfl ?_
    rw [mI_add]
    refine s_callEV (p' := 116) (ls0 := [_, _, _, _]) rfl rfl rfl rfl rfl (mj_rcv_is c7.1) rfl (hrow qo 58 (a2 + 1, k2 + 1, adA x2 k2 (ac mc 0 0 32 0 0 0 0)) h7 (by decide) b4 (by show 2 * (k2 + 1) ≤ a2 + 1; omega) ⟨fp2, fs2, tm2, _, c7, agr hag2 (acN_q _ _ _ _ _ _ _ _)⟩) (Nat.ble_eq.mpr (by omega)) rfl ?_
    rintro _ h8 ⟨⟨⟨a3, k3, x3⟩, e3, rfl, fp3, fs3, tm4, ins3, c8, hag3⟩ | ⟨e, e3, rfl, z1⟩, m8⟩
    rotate_left
    · refine s_if (p' := 119) false rfl (by decide +kernel) rfl ?_
      refine s_con (p' := 120) rfl rfl ?_
      refine s_iret rfl rfl ?_
      exact ⟨_, _, rfl, Or.inr ⟨e, by rw [hR]; rw [if_neg (by omega), e1]; dsimp only; rw [if_pos q1, e2]; dsimp only; rw [e3], rfl, z1⟩, mo00 m7 m8⟩
    replace m8 := mo00 m7 m8
    have b5 := (hrb 58 (op + 1) (a2 + 1, k2 + 1, adA x2 k2 (ac mc 0 0 32 0 0 0 0)) b4).1 _ e3
    have b6 : chA n f a3 = 58 := (hrb 58 (op + 1) (a2 + 1, k2 + 1, adA x2 k2 (ac mc 0 0 32 0 0 0 0)) b4).2 _ e3
    have b7 := (chA_lt hf (a := a3) (by omega)).1
    dsimp only at b5 c8 hag3
    have hk3 : k3 < 30 := by omega
    refine s_if (p' := 121) true rfl (by decide +kernel) rfl ?_
    refine s_aldn (p' := 122) rfl rfl rfl ?_
    refine s_sp (p' := 123) (ls' := _) rfl rfl rfl ?_
    refine s_gf (p' := 126) rfl c8.1 rfl rfl ?_
    refine s_con (p' := 127) rfl rfl ?_
    refine s_sp (p' := 128) (ls' := _) rfl rfl rfl ?_
    rw [mI_add]
    refine s_pf (p' := 131) (fs' := [_, _, _, _, _, _]) rfl hB c8.1 (Nat.blt_eq.mp rfl) rfl rfl rfl ?_
    generalize hg9 : List.set h8 (b + 36) _ = h9
    have c9 : cR h9 b n f (a3 + 1) fp3 fs3 tm4 k3 ins3 := by rw [← hg9]; exact c8.rd bb _ _ _ _
    have m9 : mz_mo (cL b) 0 0 h h9 := mo00 m8 (by rw [← hg9]; exact c8.rdm bb _ _ _ _)
    clear hg9
    refine s_aldn (p' := 132) rfl rfl rfl ?_
    refine s_gf (p' := 135) rfl c9.1 rfl rfl ?_
    refine c_call (p' := 138) (kc := 2) (ls0 := [_]) rfl rfl rfl rfl rfl (mj_rcv_is c9.2.2.1) rfl rfl rfl ?_
    refine s_aldn (p' := 1) rfl rfl rfl ?_
    refine s_gf (p' := 4) rfl c9.2.2.1 rfl rfl ?_
    refine c_iret rfl rfl ?_
    refine s_ist (p' := 140) (ls' := [_, _, _, _, _, _, _, _]) rfl rfl rfl rfl ?_
    refine s_aldn (p' := 141) rfl rfl rfl ?_
    refine s_aldn (p' := 142) rfl rfl rfl ?_
    refine s_gf (p' := 145) rfl c9.1 rfl rfl ?_
    refine s_ildn (p' := 146) rfl rfl rfl ?_
    refine s_callEV (p' := 149) (ls0 := [_, _, _]) rfl rfl rfl rfl rfl (mj_rcv_is c9.2.2.1) rfl (x_add bb hn hf c9 hk3 (by omega)) rfl rfl ?_
    rintro _ h10 ⟨rfl, c10, m10⟩
    replace m10 := mo00 m9 m10
    rw [add0] at c10
    refine s_callEV (p' := 152) (ls0 := [_, _]) rfl rfl rfl rfl rfl (mj_rcv_is c10.1) rfl (x_tst bb hn hf c10 (by omega) (by omega) hk3) rfl rfl ?_
    rintro _ h11 ⟨⟨t2, p2, u2, a4, e4, rfl, tm5, c11⟩ | ⟨e, e4, rfl, z1⟩, m11⟩
    rotate_left
    · refine s_if (p' := 165) true rfl (by decide +kernel) rfl ?_
      refine s_con (p' := 166) rfl rfl ?_
      refine s_iret rfl rfl ?_
      exact ⟨_, _, rfl, Or.inr ⟨e, by rw [hR]; rw [if_neg (by omega), e1]; dsimp only; rw [if_pos q1, e2]; dsimp only; rw [e3]; dsimp only; rw [e4], rfl, z1⟩, mo00 m10 m11⟩
    replace m11 := mo00 m10 m11
    rw [updI_updI, updI_at, fu2, fu3, fu4] at c11
    have b8 := rTest_b (chA_ok n f) (a := a3 + 1) (by omega) e4
    refine s_if (p' := 155) false rfl (by decide +kernel) rfl ?_
    refine s_aldn (p' := 156) rfl rfl rfl ?_
    refine s_ildn (p' := 157) rfl rfl rfl ?_
    refine s_bip (p' := 159) rfl rfl ?_
    refine s_callEV (p' := 162) (ls0 := [_, _, _]) rfl rfl rfl rfl rfl (mj_rcv_is c11.1) rfl (x_po bb hn hf c11 (by omega) (by omega) (w := ec) (l := 120) (by omega) (by decide)) rfl rfl ?_
    rintro _ h12 ⟨⟨q2, rfl, c12⟩ | ⟨q2, rfl, z1⟩, m12⟩
    rotate_left
    · refine s_if (p' := 165) false rfl (by decide +kernel) rfl ?_
      refine s_con (p' := 166) rfl rfl ?_
      refine s_iret rfl rfl ?_
      exact ⟨_, _, rfl, Or.inr ⟨_, by rw [hR]; rw [if_neg (by omega), e1]; dsimp only; rw [if_pos q1, e2]; dsimp only; rw [e3]; dsimp only; rw [e4]; dsimp only; rw [if_neg q2], rfl, z1⟩, mo00 m11 m12⟩
    replace m12 := mo00 m11 m12
    refine s_if (p' := 167) true rfl (by decide +kernel) rfl ?_
    refine s_aldn (p' := 168) rfl rfl rfl ?_
    refine s_gf (p' := 171) rfl c12.1 rfl rfl ?_
    refine s_ild (p' := 173) rfl rfl rfl ?_
    refine s_ild (p' := 175) rfl rfl rfl ?_
    refine s_ild (p' := 177) rfl rfl rfl ?_
    refine s_callEN (p' := 180) (ls0 := [_, _, _, _]) rfl rfl rfl rfl rfl (mj_rcv_is c12.2.2.1) rfl (x_lnk bb c12 (by omega) (k := k) (m := k2) (e := k3) (by omega) (by omega) (by omega)) rfl rfl ?_
    rintro h13 ⟨c13, m13⟩
    refine s_con (p' := 181) rfl rfl ?_
    refine s_iret rfl rfl ?_
    exact ⟨_, _, rfl, Or.inl ⟨_, by rw [hR, if_neg (by omega), e1]; dsimp only; rw [if_pos q1, e2]; dsimp only; rw [e3]; dsimp only; rw [e4]; dsimp only; rw [if_pos q2], rfl, fp3, fs3, tm5, _, c13, lkI_ag (agr hag3 (acN_q _ _ _ _ _ _ _ _))⟩, mo00 m12 m13⟩
  · refine s_icmp (p' := 7) false rfl ((ci_lt (by omega) (by omega)).trans (decide_eq_false (by omega))) rfl ?_
    refine s_aldn (p' := 8) rfl rfl rfl ?_
    refine s_bip (p' := 10) rfl rfl ?_
    refine s_aldn (p' := 11) rfl rfl rfl ?_
    refine s_gf (p' := 14) rfl c0.1 rfl rfl ?_
    refine s_callEV (p' := 17) (ls0 := [_, _, _]) rfl rfl rfl rfl rfl (mj_rcv_is c0.1) rfl (x_fl bb hn hf c0 (by decide) (by omega)) rfl rfl ?_
    rintro _ z ⟨rfl, z1, z2⟩
    refine s_iret rfl rfl ?_
    exact ⟨_, _, rfl, Or.inr ⟨_, if_pos (by omega), rfl, z1⟩, z2⟩
