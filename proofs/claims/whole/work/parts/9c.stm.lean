/-! The class reads statements and rows. -/
def acN (s t f p u x m c : Nat) : Nat → Int32 := fun q => nI (ac s t f p u x m c q)
section ACN
variable {s t f p u x m c v : Nat}
theorem fu1 : updF (acN s t f p u x m c) 1 (nI v) = acN s v f p u x m c := funext fun q => by
  unfold updF
  by_cases h : q = 1
  · rw [if_pos h, h]
    rfl
  · rw [if_neg h]
    match q with
    | 0 => rfl
    | 1 => exact absurd rfl h
    | 2 => rfl
    | 3 => rfl
    | 4 => rfl
    | 5 => rfl
    | 6 => rfl
    | q + 7 => rfl
theorem fu2 : updF (acN s t f p u x m c) 2 (nI v) = acN s t v p u x m c := funext fun q => by
  unfold updF
  by_cases h : q = 2
  · rw [if_pos h, h]
    rfl
  · rw [if_neg h]
    match q with
    | 0 => rfl
    | 1 => rfl
    | 2 => exact absurd rfl h
    | 3 => rfl
    | 4 => rfl
    | 5 => rfl
    | 6 => rfl
    | q + 7 => rfl
theorem fu3 : updF (acN s t f p u x m c) 3 (nI v) = acN s t f v u x m c := funext fun q => by
  unfold updF
  by_cases h : q = 3
  · rw [if_pos h, h]
    rfl
  · rw [if_neg h]
    match q with
    | 0 => rfl
    | 1 => rfl
    | 2 => rfl
    | 3 => exact absurd rfl h
    | 4 => rfl
    | 5 => rfl
    | 6 => rfl
    | q + 7 => rfl
theorem fu4 : updF (acN s t f p u x m c) 4 (nI v) = acN s t f p v x m c := funext fun q => by
  unfold updF
  by_cases h : q = 4
  · rw [if_pos h, h]
    rfl
  · rw [if_neg h]
    match q with
    | 0 => rfl
    | 1 => rfl
    | 2 => rfl
    | 3 => rfl
    | 4 => exact absurd rfl h
    | 5 => rfl
    | 6 => rfl
    | q + 7 => rfl
theorem fu5 : updF (acN s t f p u x m c) 5 (nI v) = acN s t f p u v m c := funext fun q => by
  unfold updF
  by_cases h : q = 5
  · rw [if_pos h, h]
    rfl
  · rw [if_neg h]
    match q with
    | 0 => rfl
    | 1 => rfl
    | 2 => rfl
    | 3 => rfl
    | 4 => rfl
    | 5 => exact absurd rfl h
    | 6 => rfl
    | q + 7 => rfl
theorem fu6 : updF (acN s t f p u x m c) 6 (nI v) = acN s t f p u x v c := funext fun q => by
  unfold updF
  by_cases h : q = 6
  · rw [if_pos h, h]
    rfl
  · rw [if_neg h]
    match q with
    | 0 => rfl
    | 1 => rfl
    | 2 => rfl
    | 3 => rfl
    | 4 => rfl
    | 5 => rfl
    | 6 => exact absurd rfl h
    | q + 7 => rfl
end ACN
theorem add0 (ins : Nat → Nat → Int32) (k s : Nat) : updI ins k (fun q => nI (ac s 0 0 32 0 0 0 0 q)) = updI ins k (acN s 0 0 32 0 0 0 0) := rfl
theorem acN_q (s t f p u x m c : Nat) : ∀ q, q < 8 → acN s t f p u x m c q = nI (ac s t f p u x m c q) := fun q _ => rfl
theorem x_chC {h : mj_H} {b n at_ k : Nat} {f : Nat → Nat} {fp fs tm : Int32} {ins : Nat → Nat → Int32} (bb : b + 37 ≤ 414) (hn : n ≤ 60) (hf : ∀ j, j < n → f j < 65536) (c0 : cR h b n f at_ fp fs tm k ins) (hk : k ≤ 30) {a j v t p u s : Nat} {l2 l3 : Option Value} (hj : j < 30) (hv : v < 8) (ht : okTm t) (hu : okTm u) (hp : p < 100) (hx : ins j = acN s v t p u 0 0 0) : mj_Wp 5 87 (169, [some (.ref (b + 36)), some (.int (nI a)), l2, l3, some (.ref (b + 6 + j))], [], h) (mz_V fun r h' => ((¬ (t = vT v ∨ p ≠ 32 ∧ u = vT v) ∧ r = .int (nI 1) ∧ cR h' b n f at_ fp fs tm k ins) ∨ ((t = vT v ∨ p ≠ 32 ∧ u = vT v) ∧ r = .int (nI 0) ∧ cF h' b n f (114, a))) ∧ mz_mo (cL b) 0 0 h h') := by
  have hB : b + 36 < mj_CB := by have : mj_CB = 1000000 := rfl; omega
  have hI : ∀ j, j < 30 → b + 6 + j < mj_CB := fun j hj => by have : mj_CB = 1000000 := rfl; omega
  have m0 : mz_mo (cL b) 0 0 h h := mz_mo.rf _ _ _ _
  refine s_ald (p' := 171) rfl rfl rfl ?_
  refine s_callV (p' := 174) (ls0 := [_, _]) rfl rfl rfl rfl rfl rfl rfl (x_os (c0.2.2.2.2 j hj) hv (by rw [hx]; rfl) (by rw [hx]; rfl) (by rw [hx]; rfl) (by rw [hx]; rfl) ht hu hp) (by decide) rfl ?_
  by_cases q : t = vT v ∨ p ≠ 32 ∧ u = vT v
  · refine s_if (p' := 177) false rfl (by rw [decide_eq_true q]; rfl) rfl ?_
    refine s_aldn (p' := 178) rfl rfl rfl ?_
    refine s_bip (p' := 180) rfl rfl ?_
    refine s_ildn (p' := 181) rfl rfl rfl ?_
    refine s_callEV (p' := 184) (ls0 := [_, _, _]) rfl rfl rfl rfl rfl (mj_rcv_is c0.1) rfl (x_fl bb hn hf c0 (by decide) hk) rfl rfl ?_
    rintro _ z ⟨rfl, z1, z2⟩
    refine s_if (p' := 191) true rfl (by decide +kernel) rfl ?_
    refine s_con (p' := 192) rfl rfl ?_
    refine s_iret rfl rfl ?_
    exact ⟨_, _, rfl, Or.inr ⟨q, rfl, z1⟩, z2⟩
  · refine s_if (p' := 187) true rfl (by rw [decide_eq_false q]; rfl) rfl ?_
    refine s_con (p' := 188) rfl rfl ?_
    refine s_goto (p' := 192) rfl rfl ?_
    refine s_iret rfl rfl ?_
    exact ⟨_, _, rfl, Or.inl ⟨q, rfl, c0⟩, m0⟩
theorem x_chB {h : mj_H} {b n a k : Nat} {f : Nat → Nat} {x : Nat → Nat → Nat} {fp fs tm : Int32} {ins : Nat → Nat → Int32} (bb : b + 37 ≤ 414) (hn : n ≤ 60) (hf : ∀ j, j < n → f j < 65536) (c0 : cR h b n f (a + 1) fp fs tm k ins) (hag : ∀ j, j < k → ∀ q, q < 8 → ins j q = nI (x j q)) (ha : a < n) (hk : 2 * k ≤ a) (hv : vB (chA n f a) = true) (ho : oB (chA n f (a + 1)) = true) : mj_Wp 6 87 (63, [some (.ref (b + 36)), some (.int (nI a)), some (.int (nI (chA n f a - 97))), some (.int (nI (chA n f (a + 1)))), none], [], h) (mz_V fun r h' => cQ h h' b n f (rChg (chA n f) (a, k, x)) r) := by
  have hB : b + 36 < mj_CB := by have : mj_CB = 1000000 := rfl; omega
  have hI : ∀ j, j < 30 → b + 6 + j < mj_CB := fun j hj => by have : mj_CB = 1000000 := rfl; omega
  have m0 : mz_mo (cL b) 0 0 h h := mz_mo.rf _ _ _ _
  have hv2 := vB_lt hv
  have ho2 : chA n f (a + 1) = 43 ∨ chA n f (a + 1) = 45 ∨ chA n f (a + 1) = 94 ∨ chA n f (a + 1) = 126 := of_decide_eq_true ho
  have hc1 := chA_lt hf (a := a + 1) (by omega)
  have hk30 : k < 30 := by omega
  have hR : rChg (chA n f) (a, k, x) = (if chA n f (a + 1) = 126 then
        if vB (chA n f (a + 2)) = true then
          if chA n f (a + 2) = chA n f a then .inl (114, a + 2)
          else .inr (a + 3, k + 1, adA x k (ac 126 (chA n f a - 97) (vT (chA n f (a + 2) - 97)) 32 0 0 0 0))
        else .inl (118, a + 2)
      else match rTerm (chA n f) (a + 2) with
        | .inl e => .inl e
        | .inr (t, a1) => if sB (chA n f a1) = true then match rTerm (chA n f) (a1 + 1) with
            | .inl e => .inl e
            | .inr (u, a2) => if t = vT (chA n f a - 97) ∨ u = vT (chA n f a - 97) then .inl (114, a)
              else .inr (a2, k + 1, adA x k (ac (chA n f (a + 1)) (chA n f a - 97) t (chA n f a1) u 0 0 0))
          else if t = vT (chA n f a - 97) then .inl (114, a)
          else .inr (a1, k + 1, adA x k (ac (chA n f (a + 1)) (chA n f a - 97) t 32 0 0 0 0))) := if_pos ho
  refine s_aldn (p' := 64) rfl rfl rfl ?_
  refine s_sp (p' := 65) (ls' := _) rfl rfl rfl ?_
  refine s_gf (p' := 68) rfl c0.1 rfl rfl ?_
  refine s_con (p' := 69) rfl rfl ?_
  refine s_sp (p' := 70) (ls' := _) rfl rfl rfl ?_
  rw [mI_add]
  refine s_pf (p' := 73) (fs' := [_, _, _, _, _, _]) rfl hB c0.1 (Nat.blt_eq.mp rfl) rfl rfl rfl ?_
  generalize hg1 : List.set h (b + 36) _ = h1
  have c1 : cR h1 b n f (a + 2) fp fs tm k ins := by rw [← hg1]; exact c0.rd bb _ _ _ _
  have m1 : mz_mo (cL b) 0 0 h h1 := mo00 m0 (by rw [← hg1]; exact c0.rdm bb _ _ _ _)
  clear hg1
  refine s_aldn (p' := 74) rfl rfl rfl ?_
  refine s_gf (p' := 77) rfl c1.1 rfl rfl ?_
  refine s_ildn (p' := 78) rfl rfl rfl ?_
  refine s_sp (p' := 79) (ls' := _) rfl rfl rfl ?_
  rw [i2c_n (by omega)]
  refine s_callEV (p' := 82) (ls0 := [_, _, _]) rfl rfl rfl rfl rfl (mj_rcv_is c1.2.2.1) rfl (x_add bb hn hf c1 hk30 (by omega)) rfl rfl ?_
  rintro _ h2 ⟨rfl, c2, m2⟩
  replace m2 := mo00 m1 m2
  rw [add0] at c2
  refine s_ast (p' := 84) (ls' := [_, _, _, _, _]) rfl rfl rfl rfl ?_
  refine s_ald (p' := 86) rfl rfl rfl ?_
  refine s_ildn (p' := 87) rfl rfl rfl ?_
  refine s_pf (p' := 90) (fs' := [_, _, _, _, _, _, _, _]) rfl (hI k hk30) (c2.2.2.2.2 k hk30) (Nat.blt_eq.mp rfl) rfl rfl rfl ?_
  generalize hg3 : List.set h2 (b + 6 + k) _ = h3
  have c3 : cR h3 b n f (a + 2) fp fs tm (k + 1) (updI (updI ins k (acN (chA n f (a + 1)) 0 0 32 0 0 0 0)) k (updF ((updI ins k (acN (chA n f (a + 1)) 0 0 32 0 0 0 0)) k) 1 (nI (chA n f a - 97)))) := by rw [← hg3]; exact c2.in bb hk30 ((updF ((updI ins k (acN (chA n f (a + 1)) 0 0 32 0 0 0 0)) k) 1 (nI (chA n f a - 97))))
  have m3 : mz_mo (cL b) 0 0 h h3 := mo00 m2 (by rw [← hg3]; exact c2.inm bb hk30 ((updF ((updI ins k (acN (chA n f (a + 1)) 0 0 32 0 0 0 0)) k) 1 (nI (chA n f a - 97)))))
  clear hg3
  rw [updI_updI, updI_at, fu1] at c3
  refine s_ildn (p' := 91) rfl rfl rfl ?_
  refine s_bip (p' := 93) rfl rfl ?_
  by_cases q126 : chA n f (a + 1) = 126
  · refine s_icmp (p' := 96) false rfl ((ci_ne (by omega) (by omega)).trans (decide_eq_false (by omega))) rfl ?_
    refine s_aldn (p' := 97) rfl rfl rfl ?_
    refine s_ald (p' := 99) rfl rfl rfl ?_
    refine s_callEV (p' := 102) (ls0 := [_, _]) rfl rfl rfl rfl rfl (mj_rcv_is c3.1) rfl (x_prt bb hn hf c3 (by omega) (by omega) hk30 (v := (chA n f a - 97)) (by omega) (by rw [updI_at]; rfl)) rfl rfl ?_
    rintro _ h4 ⟨⟨q1, q2, rfl, c4⟩ | ⟨q1, q2, rfl, z1⟩ | ⟨q1, rfl, z1⟩, m4⟩
    · refine s_iret rfl rfl ?_
      rw [updI_updI, updI_at, fu2] at c4
      refine ⟨_, _, rfl, Or.inl ⟨_, by rw [hR, if_pos q126, if_pos q1, if_neg (by have := vB_lt q1; omega)], rfl, fp, fs, tm, _, c4, agr hag ?_⟩, mo00 m3 m4⟩
      rw [q126]
      exact acN_q _ _ _ _ _ _ _ _
    · refine s_iret rfl rfl ?_
      exact ⟨_, _, rfl, Or.inr ⟨_, by rw [hR, if_pos q126, if_pos q1, if_pos (by have := vB_lt q1; omega)], rfl, z1⟩, mo00 m3 m4⟩
    · refine s_iret rfl rfl ?_
      exact ⟨_, _, rfl, Or.inr ⟨_, by rw [hR, if_pos q126, if_neg q1], rfl, z1⟩, mo00 m3 m4⟩
  · refine s_icmp (p' := 103) true rfl ((ci_ne (by omega) (by omega)).trans (decide_eq_true (by omega))) rfl ?_
    refine s_aldn (p' := 104) rfl rfl rfl ?_
    refine s_callEV (p' := 107) (ls0 := [_, _]) rfl rfl rfl rfl rfl (mj_rcv_is c3.1) rfl (x_trm bb hn hf c3 (by omega) (by omega)) rfl rfl ?_
    rintro _ h4 ⟨⟨t, a1, e1, rfl, c4⟩ | ⟨e, e1, rfl, z1⟩, m4⟩
    rotate_left
    · refine s_if (p' := 110) false rfl (by decide +kernel) rfl ?_
      refine s_con (p' := 111) rfl rfl ?_
      refine s_iret rfl rfl ?_
      exact ⟨_, _, rfl, Or.inr ⟨e, by rw [hR]; rw [if_neg q126, e1], rfl, z1⟩, mo00 m3 m4⟩
    replace m4 := mo00 m3 m4
    have b1 := rTerm_b (chA_ok n f) (a := a + 2) (by omega) e1
    refine s_if (p' := 112) true rfl (by decide +kernel) rfl ?_
    refine s_ald (p' := 114) rfl rfl rfl ?_
    refine s_aldn (p' := 115) rfl rfl rfl ?_
    refine s_gf (p' := 118) rfl c4.1 rfl rfl ?_
    refine s_pf (p' := 121) (fs' := [_, _, _, _, _, _, _, _]) rfl (hI k hk30) (c4.2.2.2.2 k hk30) (Nat.blt_eq.mp rfl) rfl rfl rfl ?_
    generalize hg5 : List.set h4 (b + 6 + k) _ = h5
    have c5 : cR h5 b n f a1 fp fs (nI t) (k + 1) (updI (updI ins k (acN (chA n f (a + 1)) (chA n f a - 97) 0 32 0 0 0 0)) k (updF ((updI ins k (acN (chA n f (a + 1)) (chA n f a - 97) 0 32 0 0 0 0)) k) 2 (nI t))) := by rw [← hg5]; exact c4.in bb hk30 ((updF ((updI ins k (acN (chA n f (a + 1)) (chA n f a - 97) 0 32 0 0 0 0)) k) 2 (nI t)))
    have m5 : mz_mo (cL b) 0 0 h h5 := mo00 m4 (by rw [← hg5]; exact c4.inm bb hk30 ((updF ((updI ins k (acN (chA n f (a + 1)) (chA n f a - 97) 0 32 0 0 0 0)) k) 2 (nI t))))
    clear hg5
    rw [updI_updI, updI_at, fu2] at c5
    refine s_aldn (p' := 122) rfl rfl rfl ?_
    refine s_callV (p' := 125) (ls0 := [_]) rfl rfl rfl rfl rfl (mj_rcv_is c5.1) rfl (x_sg bb hn hf c5 (by omega)) (by decide) rfl ?_
    refine s_callV (p' := 128) (ls0 := [_]) rfl rfl rfl rfl rfl rfl rfl (x_iss (chA_le hf _)) (by decide) rfl ?_
    by_cases qs : sB (chA n f a1) = true
    · refine s_if (p' := 131) false rfl (by rw [qs]; rfl) rfl ?_
      refine s_ald (p' := 133) rfl rfl rfl ?_
      refine s_aldn (p' := 134) rfl rfl rfl ?_
      refine s_callV (p' := 137) (ls0 := [_]) rfl rfl rfl rfl rfl (mj_rcv_is c5.1) rfl (x_sg bb hn hf c5 (by omega)) (by decide) rfl ?_
      have qs2 : chA n f a1 = 43 ∨ chA n f a1 = 45 ∨ chA n f a1 = 42 ∨ chA n f a1 = 38 := of_decide_eq_true qs
      have qs3 := chA_lt hf (a := a1) (by omega)
      refine s_sp (p' := 138) (ls' := _) rfl rfl rfl ?_
      rw [sgn_lt (by omega), i2c_n (by omega)]
      refine s_pf (p' := 141) (fs' := [_, _, _, _, _, _, _, _]) rfl (hI k hk30) (c5.2.2.2.2 k hk30) (Nat.blt_eq.mp rfl) (chr_fit (by omega)) rfl rfl ?_
      generalize hg6 : List.set h5 (b + 6 + k) _ = h6
      have c6 : cR h6 b n f a1 fp fs (nI t) (k + 1) (updI (updI ins k (acN (chA n f (a + 1)) (chA n f a - 97) t 32 0 0 0 0)) k (updF ((updI ins k (acN (chA n f (a + 1)) (chA n f a - 97) t 32 0 0 0 0)) k) 3 (nI (chA n f a1)))) := by rw [← hg6]; exact c5.in bb hk30 ((updF ((updI ins k (acN (chA n f (a + 1)) (chA n f a - 97) t 32 0 0 0 0)) k) 3 (nI (chA n f a1))))
      have m6 : mz_mo (cL b) 0 0 h h6 := mo00 m5 (by rw [← hg6]; exact c5.inm bb hk30 ((updF ((updI ins k (acN (chA n f (a + 1)) (chA n f a - 97) t 32 0 0 0 0)) k) 3 (nI (chA n f a1)))))
      clear hg6
      rw [updI_updI, updI_at, fu3] at c6
      refine s_aldn (p' := 142) rfl rfl rfl ?_
      refine s_sp (p' := 143) (ls' := _) rfl rfl rfl ?_
      refine s_gf (p' := 146) rfl c6.1 rfl rfl ?_
      refine s_con (p' := 147) rfl rfl ?_
      refine s_sp (p' := 148) (ls' := _) rfl rfl rfl ?_
      rw [mI_add]
      refine s_pf (p' := 151) (fs' := [_, _, _, _, _, _]) rfl hB c6.1 (Nat.blt_eq.mp rfl) rfl rfl rfl ?_
      generalize hg7 : List.set h6 (b + 36) _ = h7
      have c7 : cR h7 b n f (a1 + 1) fp fs (nI t) (k + 1) (updI ins k (acN (chA n f (a + 1)) (chA n f a - 97) t (chA n f a1) 0 0 0 0)) := by rw [← hg7]; exact c6.rd bb _ _ _ _
      have m7 : mz_mo (cL b) 0 0 h h7 := mo00 m6 (by rw [← hg7]; exact c6.rdm bb _ _ _ _)
      clear hg7
      refine s_aldn (p' := 152) rfl rfl rfl ?_
      refine s_callEV (p' := 155) (ls0 := [_, _]) rfl rfl rfl rfl rfl (mj_rcv_is c7.1) rfl (x_trm bb hn hf c7 (by omega) (by omega)) rfl rfl ?_
      rintro _ h8 ⟨⟨u, a2, e2, rfl, c8⟩ | ⟨e, e2, rfl, z1⟩, m8⟩
      rotate_left
      · refine s_if (p' := 158) false rfl (by decide +kernel) rfl ?_
        refine s_con (p' := 159) rfl rfl ?_
        refine s_iret rfl rfl ?_
        exact ⟨_, _, rfl, Or.inr ⟨e, by rw [hR]; rw [if_neg q126, e1]; dsimp only; rw [if_pos qs, e2], rfl, z1⟩, mo00 m7 m8⟩
      replace m8 := mo00 m7 m8
      have b2 := rTerm_b (chA_ok n f) (a := a1 + 1) (by omega) e2
      refine s_if (p' := 160) true rfl (by decide +kernel) rfl ?_
      refine s_ald (p' := 162) rfl rfl rfl ?_
      refine s_aldn (p' := 163) rfl rfl rfl ?_
      refine s_gf (p' := 166) rfl c8.1 rfl rfl ?_
      refine s_pf (p' := 169) (fs' := [_, _, _, _, _, _, _, _]) rfl (hI k hk30) (c8.2.2.2.2 k hk30) (Nat.blt_eq.mp rfl) rfl rfl rfl ?_
      generalize hg9 : List.set h8 (b + 6 + k) _ = h9
      have c9 : cR h9 b n f a2 fp fs (nI u) (k + 1) (updI (updI ins k (acN (chA n f (a + 1)) (chA n f a - 97) t (chA n f a1) 0 0 0 0)) k (updF ((updI ins k (acN (chA n f (a + 1)) (chA n f a - 97) t (chA n f a1) 0 0 0 0)) k) 4 (nI u))) := by rw [← hg9]; exact c8.in bb hk30 ((updF ((updI ins k (acN (chA n f (a + 1)) (chA n f a - 97) t (chA n f a1) 0 0 0 0)) k) 4 (nI u)))
      have m9 : mz_mo (cL b) 0 0 h h9 := mo00 m8 (by rw [← hg9]; exact c8.inm bb hk30 ((updF ((updI ins k (acN (chA n f (a + 1)) (chA n f a - 97) t (chA n f a1) 0 0 0 0)) k) 4 (nI u))))
      clear hg9
      rw [updI_updI, updI_at, fu4] at c9
      refine (mj_Wp.mono (x_chC bb hn hf c9 (by omega) hk30 (by omega) b1.2.2 b2.2.2 (by omega) (updI_at _ _ _)) (by decide)).imp ?_
      rintro o ⟨r, h10, rfl, ⟨w1, rfl, c10⟩ | ⟨w1, rfl, z1⟩, m10⟩
      · exact ⟨_, _, rfl, Or.inl ⟨_, by rw [hR, if_neg q126, e1]; dsimp only; rw [if_pos qs, e2]; dsimp only; rw [if_neg (by omega)], rfl, fp, fs, _, _, c10, agr hag (acN_q _ _ _ _ _ _ _ _)⟩, mo00 m9 m10⟩
      · exact ⟨_, _, rfl, Or.inr ⟨_, by rw [hR, if_neg q126, e1]; dsimp only; rw [if_pos qs, e2]; dsimp only; rw [if_pos (by omega)], rfl, z1⟩, mo00 m9 m10⟩
    · refine s_if (p' := 169) true rfl (by rw [Bool.eq_false_iff.mpr qs]; rfl) rfl ?_
      refine (mj_Wp.mono (x_chC bb hn hf c5 (by omega) hk30 (by omega) b1.2.2 (Or.inl (by decide)) (by decide) (updI_at _ _ _)) (by decide)).imp ?_
      rintro o ⟨r, h10, rfl, ⟨w1, rfl, c10⟩ | ⟨w1, rfl, z1⟩, m10⟩
      · exact ⟨_, _, rfl, Or.inl ⟨_, by rw [hR, if_neg q126, e1]; dsimp only; rw [if_neg qs, if_neg (by omega)], rfl, fp, fs, _, _, c10, agr hag (acN_q _ _ _ _ _ _ _ _)⟩, mo00 m5 m10⟩
      · exact ⟨_, _, rfl, Or.inr ⟨_, by rw [hR, if_neg q126, e1]; dsimp only; rw [if_neg qs, if_pos (by omega)], rfl, z1⟩, mo00 m5 m10⟩
theorem x_chg {h : mj_H} {b n a k : Nat} {f : Nat → Nat} {x : Nat → Nat → Nat} {fp fs tm : Int32} {ins : Nat → Nat → Int32} (bb : b + 37 ≤ 414) (hn : n ≤ 60) (hf : ∀ j, j < n → f j < 65536) (c0 : cR h b n f a fp fs tm k ins) (hag : ∀ j, j < k → ∀ q, q < 8 → ins j q = nI (x j q)) (ha : a < n) (hk : 2 * k ≤ a) (hv : vB (chA n f a) = true) : mj_Wp 6 87 (0, [some (.ref (b + 36)), none, none, none, none], [], h) (mz_V fun r h' => cQ h h' b n f (rChg (chA n f) (a, k, x)) r) := by
  have hB : b + 36 < mj_CB := by have : mj_CB = 1000000 := rfl; omega
  have hI : ∀ j, j < 30 → b + 6 + j < mj_CB := fun j hj => by have : mj_CB = 1000000 := rfl; omega
  have m0 : mz_mo (cL b) 0 0 h h := mz_mo.rf _ _ _ _
  refine s_aldn (p' := 1) rfl rfl rfl ?_
  refine s_gf (p' := 4) rfl c0.1 rfl rfl ?_
  refine s_istn (p' := 5) (ls' := [_, _, _, _, _]) rfl rfl rfl rfl ?_
  refine s_aldn (p' := 6) rfl rfl rfl ?_
  refine s_callV (p' := 9) (ls0 := [_]) rfl rfl rfl rfl rfl (mj_rcv_is c0.1) rfl (x_sg bb hn hf c0 (by omega)) (by decide) rfl ?_
  refine s_bip (p' := 11) rfl rfl ?_
  have hv2 := vB_lt hv
  refine s_sp (p' := 12) (ls' := _) rfl rfl rfl ?_
  rw [sgn_lt (by omega), mI_sub (by omega)]
  refine s_istn (p' := 13) (ls' := [_, _, _, _, _]) rfl rfl rfl rfl ?_
  refine s_aldn (p' := 14) rfl rfl rfl ?_
  refine s_sp (p' := 15) (ls' := _) rfl rfl rfl ?_
  refine s_gf (p' := 18) rfl c0.1 rfl rfl ?_
  refine s_con (p' := 19) rfl rfl ?_
  refine s_sp (p' := 20) (ls' := _) rfl rfl rfl ?_
  rw [mI_add]
  refine s_pf (p' := 23) (fs' := [_, _, _, _, _, _]) rfl hB c0.1 (Nat.blt_eq.mp rfl) rfl rfl rfl ?_
  generalize hg1 : List.set h (b + 36) _ = h1
  have c1 : cR h1 b n f (a + 1) fp fs tm k ins := by rw [← hg1]; exact c0.rd bb _ _ _ _
  have m1 : mz_mo (cL b) 0 0 h h1 := mo00 m0 (by rw [← hg1]; exact c0.rdm bb _ _ _ _)
  clear hg1
  refine s_aldn (p' := 24) rfl rfl rfl ?_
  refine s_callV (p' := 27) (ls0 := [_]) rfl rfl rfl rfl rfl (mj_rcv_is c1.1) rfl (x_sg bb hn hf c1 (by omega)) (by decide) rfl ?_
  refine s_istn (p' := 28) (ls' := [_, _, _, _, _]) rfl rfl rfl rfl ?_
  refine s_ildn (p' := 29) rfl rfl rfl ?_
  refine s_bip (p' := 31) rfl rfl ?_
  by_cases q43 : chA n f (a + 1) = 43
  · refine s_icmp (p' := 63) true rfl ((si_eq (chA_le hf _) (by decide)).trans (decide_eq_true q43)) rfl ?_
    rw [sgn_lt (by omega)]
    refine (mj_Wp.mono (x_chB bb hn hf c1 hag ha hk hv (decide_eq_true (by omega))) (by decide)).imp ?_
    rintro o ⟨r, h3, rfl, q⟩
    exact ⟨_, _, rfl, q.1, mo00 m1 q.2⟩
  · refine s_icmp (p' := 34) false rfl ((si_eq (chA_le hf _) (by decide)).trans (decide_eq_false q43)) rfl ?_
    refine s_ildn (p' := 35) rfl rfl rfl ?_
    refine s_bip (p' := 37) rfl rfl ?_
    by_cases q45 : chA n f (a + 1) = 45
    · refine s_icmp (p' := 63) true rfl ((si_eq (chA_le hf _) (by decide)).trans (decide_eq_true q45)) rfl ?_
      rw [sgn_lt (by omega)]
      refine (mj_Wp.mono (x_chB bb hn hf c1 hag ha hk hv (decide_eq_true (by omega))) (by decide)).imp ?_
      rintro o ⟨r, h3, rfl, q⟩
      exact ⟨_, _, rfl, q.1, mo00 m1 q.2⟩
    · refine s_icmp (p' := 40) false rfl ((si_eq (chA_le hf _) (by decide)).trans (decide_eq_false q45)) rfl ?_
      refine s_ildn (p' := 41) rfl rfl rfl ?_
      refine s_bip (p' := 43) rfl rfl ?_
      by_cases q94 : chA n f (a + 1) = 94
      · refine s_icmp (p' := 63) true rfl ((si_eq (chA_le hf _) (by decide)).trans (decide_eq_true q94)) rfl ?_
        rw [sgn_lt (by omega)]
        refine (mj_Wp.mono (x_chB bb hn hf c1 hag ha hk hv (decide_eq_true (by omega))) (by decide)).imp ?_
        rintro o ⟨r, h3, rfl, q⟩
        exact ⟨_, _, rfl, q.1, mo00 m1 q.2⟩
      · refine s_icmp (p' := 46) false rfl ((si_eq (chA_le hf _) (by decide)).trans (decide_eq_false q94)) rfl ?_
        refine s_ildn (p' := 47) rfl rfl rfl ?_
        refine s_bip (p' := 49) rfl rfl ?_
        by_cases q126 : chA n f (a + 1) = 126
        · refine s_icmp (p' := 63) true rfl ((si_eq (chA_le hf _) (by decide)).trans (decide_eq_true q126)) rfl ?_
          rw [sgn_lt (by omega)]
          refine (mj_Wp.mono (x_chB bb hn hf c1 hag ha hk hv (decide_eq_true (by omega))) (by decide)).imp ?_
          rintro o ⟨r, h3, rfl, q⟩
          exact ⟨_, _, rfl, q.1, mo00 m1 q.2⟩
        · refine s_icmp (p' := 52) false rfl ((si_eq (chA_le hf _) (by decide)).trans (decide_eq_false q126)) rfl ?_
          refine s_aldn (p' := 53) rfl rfl rfl ?_
          refine s_bip (p' := 55) rfl rfl ?_
          refine s_aldn (p' := 56) rfl rfl rfl ?_
          refine s_gf (p' := 59) rfl c1.1 rfl rfl ?_
          refine s_callEV (p' := 62) (ls0 := [_, _, _]) rfl rfl rfl rfl rfl (mj_rcv_is c1.1) rfl (x_fl bb hn hf c1 (by decide) (by omega)) rfl rfl ?_
          rintro _ z ⟨rfl, z1, z2⟩
          replace z2 := mo00 m1 z2
          refine s_iret rfl rfl ?_
          exact ⟨_, _, rfl, Or.inr ⟨_, (if_neg (fun e => by have e2 : chA n f (a + 1) = 43 ∨ chA n f (a + 1) = 45 ∨ chA n f (a + 1) = 94 ∨ chA n f (a + 1) = 126 := of_decide_eq_true e; omega) : rChg (chA n f) (a, k, x) = _), rfl, z1⟩, z2⟩
theorem x_stk {h : mj_H} {b n a k : Nat} {f : Nat → Nat} {x : Nat → Nat → Nat} {fp fs tm : Int32} {ins : Nat → Nat → Int32} (bb : b + 37 ≤ 414) (hn : n ≤ 60) (hf : ∀ j, j < n → f j < 65536) (c0 : cR h b n f a fp fs tm k ins) (hag : ∀ j, j < k → ∀ q, q < 8 → ins j q = nI (x j q)) (ha : a < n) (hk : 2 * k ≤ a) {c : Nat} (hc : c < 65536) : mj_Wp 6 96 (0, [some (.ref (b + 36)), some (.int (nI c))], [], h) (mz_V fun r h' => cQ h h' b n f (if vB (chA n f (a + 1)) = true then .inr (a + 2, k + 1, adA x k (ac c (chA n f (a + 1) - 97) 0 32 0 0 0 0)) else .inl (118, a + 1)) r) := by
  have hB : b + 36 < mj_CB := by have : mj_CB = 1000000 := rfl; omega
  have hI : ∀ j, j < 30 → b + 6 + j < mj_CB := fun j hj => by have : mj_CB = 1000000 := rfl; omega
  have m0 : mz_mo (cL b) 0 0 h h := mz_mo.rf _ _ _ _
  have hk30 : k < 30 := by omega
  refine s_aldn (p' := 1) rfl rfl rfl ?_
  refine s_sp (p' := 2) (ls' := _) rfl rfl rfl ?_
  refine s_gf (p' := 5) rfl c0.1 rfl rfl ?_
  refine s_con (p' := 6) rfl rfl ?_
  refine s_sp (p' := 7) (ls' := _) rfl rfl rfl ?_
  rw [mI_add]
  refine s_pf (p' := 10) (fs' := [_, _, _, _, _, _]) rfl hB c0.1 (Nat.blt_eq.mp rfl) rfl rfl rfl ?_
  generalize hg1 : List.set h (b + 36) _ = h1
  have c1 : cR h1 b n f (a + 1) fp fs tm k ins := by rw [← hg1]; exact c0.rd bb _ _ _ _
  have m1 : mz_mo (cL b) 0 0 h h1 := mo00 m0 (by rw [← hg1]; exact c0.rdm bb _ _ _ _)
  clear hg1
  refine s_aldn (p' := 11) rfl rfl rfl ?_
  refine s_callV (p' := 14) (ls0 := [_]) rfl rfl rfl rfl rfl (mj_rcv_is c1.1) rfl (x_sg bb hn hf c1 (by omega)) (by decide) rfl ?_
  refine s_callV (p' := 17) (ls0 := [_]) rfl rfl rfl rfl rfl rfl rfl (x_isv (chA_le hf _)) (by decide) rfl ?_
  by_cases q : vB (chA n f (a + 1)) = true
  · refine s_if (p' := 31) true rfl (by rw [q]; rfl) rfl ?_
    refine s_aldn (p' := 32) rfl rfl rfl ?_
    refine s_gf (p' := 35) rfl c1.1 rfl rfl ?_
    refine s_ildn (p' := 36) rfl rfl rfl ?_
    refine s_callEV (p' := 39) (ls0 := [_, _, _]) rfl rfl rfl rfl rfl (mj_rcv_is c1.2.2.1) rfl (x_add bb hn hf c1 hk30 hc) rfl rfl ?_
    rintro _ h2 ⟨rfl, c2, m2⟩
    replace m2 := mo00 m1 m2
    rw [add0] at c2
    refine s_aldn (p' := 40) rfl rfl rfl ?_
    have q2 := vB_lt q
    refine s_callV (p' := 43) (ls0 := [_]) rfl rfl rfl rfl rfl (mj_rcv_is c2.1) rfl (x_sg bb hn hf c2 (by omega)) (by decide) rfl ?_
    refine s_bip (p' := 45) rfl rfl ?_
    refine s_sp (p' := 46) (ls' := _) rfl rfl rfl ?_
    rw [sgn_lt (by omega), mI_sub (by omega)]
    refine s_pf (p' := 49) (fs' := [_, _, _, _, _, _, _, _]) rfl (hI k hk30) (c2.2.2.2.2 k hk30) (Nat.blt_eq.mp rfl) rfl rfl rfl ?_
    generalize hg3 : List.set h2 (b + 6 + k) _ = h3
    have c3 : cR h3 b n f (a + 1) fp fs tm (k + 1) (updI (updI ins k (acN c 0 0 32 0 0 0 0)) k (updF ((updI ins k (acN c 0 0 32 0 0 0 0)) k) 1 (nI (chA n f (a + 1) - 97)))) := by rw [← hg3]; exact c2.in bb hk30 ((updF ((updI ins k (acN c 0 0 32 0 0 0 0)) k) 1 (nI (chA n f (a + 1) - 97))))
    have m3 : mz_mo (cL b) 0 0 h h3 := mo00 m2 (by rw [← hg3]; exact c2.inm bb hk30 ((updF ((updI ins k (acN c 0 0 32 0 0 0 0)) k) 1 (nI (chA n f (a + 1) - 97)))))
    clear hg3
    rw [updI_updI, updI_at, fu1] at c3
    refine s_aldn (p' := 50) rfl rfl rfl ?_
    refine s_sp (p' := 51) (ls' := _) rfl rfl rfl ?_
    refine s_gf (p' := 54) rfl c3.1 rfl rfl ?_
    refine s_con (p' := 55) rfl rfl ?_
    refine s_sp (p' := 56) (ls' := _) rfl rfl rfl ?_
    rw [mI_add]
    refine s_pf (p' := 59) (fs' := [_, _, _, _, _, _]) rfl hB c3.1 (Nat.blt_eq.mp rfl) rfl rfl rfl ?_
    generalize hg4 : List.set h3 (b + 36) _ = h4
    have c4 : cR h4 b n f (a + 2) fp fs tm (k + 1) (updI ins k (acN c (chA n f (a + 1) - 97) 0 32 0 0 0 0)) := by rw [← hg4]; exact c3.rd bb _ _ _ _
    have m4 : mz_mo (cL b) 0 0 h h4 := mo00 m3 (by rw [← hg4]; exact c3.rdm bb _ _ _ _)
    clear hg4
    refine s_con (p' := 60) rfl rfl ?_
    refine s_iret rfl rfl ?_
    exact ⟨_, _, rfl, Or.inl ⟨_, if_pos q, rfl, fp, fs, _, _, c4, agr hag (acN_q _ _ _ _ _ _ _ _)⟩, m4⟩
  · refine s_if (p' := 20) false rfl (by rw [Bool.eq_false_iff.mpr q]; rfl) rfl ?_
    refine s_aldn (p' := 21) rfl rfl rfl ?_
    refine s_bip (p' := 23) rfl rfl ?_
    refine s_aldn (p' := 24) rfl rfl rfl ?_
    refine s_gf (p' := 27) rfl c1.1 rfl rfl ?_
    refine s_callEV (p' := 30) (ls0 := [_, _, _]) rfl rfl rfl rfl rfl (mj_rcv_is c1.1) rfl (x_fl bb hn hf c1 (by decide) (by omega)) rfl rfl ?_
    rintro _ z ⟨rfl, z1, z2⟩
    refine s_iret rfl rfl ?_
    exact ⟨_, _, rfl, Or.inr ⟨_, if_neg q, rfl, z1⟩, mo00 m1 z2⟩
theorem x_cal {h : mj_H} {b n a k : Nat} {f : Nat → Nat} {x : Nat → Nat → Nat} {fp fs tm : Int32} {ins : Nat → Nat → Int32} (bb : b + 37 ≤ 414) (hn : n ≤ 60) (hf : ∀ j, j < n → f j < 65536) (c0 : cR h b n f a fp fs tm k ins) (hag : ∀ j, j < k → ∀ q, q < 8 → ins j q = nI (x j q)) (ha : a < n) (hk : 2 * k ≤ a) {c : Nat} (hc : c < 65536) : mj_Wp 6 97 (0, [some (.ref (b + 36)), some (.int (nI c))], [], h) (mz_V fun r h' => cQ h h' b n f (if 48 ≤ chA n f (a + 1) ∧ chA n f (a + 1) ≤ 53 then .inr (a + 2, k + 1, adA x k (ac c (chA n f (a + 1) - 48) 0 32 0 0 0 0)) else .inl (110, a + 1)) r) := by
  have hB : b + 36 < mj_CB := by have : mj_CB = 1000000 := rfl; omega
  have hI : ∀ j, j < 30 → b + 6 + j < mj_CB := fun j hj => by have : mj_CB = 1000000 := rfl; omega
  have m0 : mz_mo (cL b) 0 0 h h := mz_mo.rf _ _ _ _
  have hk30 : k < 30 := by omega
  refine s_aldn (p' := 1) rfl rfl rfl ?_
  refine s_sp (p' := 2) (ls' := _) rfl rfl rfl ?_
  refine s_gf (p' := 5) rfl c0.1 rfl rfl ?_
  refine s_con (p' := 6) rfl rfl ?_
  refine s_sp (p' := 7) (ls' := _) rfl rfl rfl ?_
  rw [mI_add]
  refine s_pf (p' := 10) (fs' := [_, _, _, _, _, _]) rfl hB c0.1 (Nat.blt_eq.mp rfl) rfl rfl rfl ?_
  generalize hg1 : List.set h (b + 36) _ = h1
  have c1 : cR h1 b n f (a + 1) fp fs tm k ins := by rw [← hg1]; exact c0.rd bb _ _ _ _
  have m1 : mz_mo (cL b) 0 0 h h1 := mo00 m0 (by rw [← hg1]; exact c0.rdm bb _ _ _ _)
  clear hg1
  refine s_aldn (p' := 11) rfl rfl rfl ?_
  refine s_callV (p' := 14) (ls0 := [_]) rfl rfl rfl rfl rfl (mj_rcv_is c1.1) rfl (x_sg bb hn hf c1 (by omega)) (by decide) rfl ?_
  refine s_bip (p' := 16) rfl rfl ?_
  by_cases q : chA n f (a + 1) < 48 ∨ chA n f (a + 1) = 70000
  · refine s_icmp (p' := 28) true rfl ((si_lt (chA_le hf _) (by decide)).trans (decide_eq_true q)) rfl ?_
    refine s_aldn (p' := 29) rfl rfl rfl ?_
    refine s_bip (p' := 31) rfl rfl ?_
    refine s_aldn (p' := 32) rfl rfl rfl ?_
    refine s_gf (p' := 35) rfl c1.1 rfl rfl ?_
    refine s_callEV (p' := 38) (ls0 := [_, _, _]) rfl rfl rfl rfl rfl (mj_rcv_is c1.1) rfl (x_fl bb hn hf c1 (by decide) (by omega)) rfl rfl ?_
    rintro _ z ⟨rfl, z1, z2⟩
    refine s_iret rfl rfl ?_
    exact ⟨_, _, rfl, Or.inr ⟨_, if_neg (by omega), rfl, z1⟩, mo00 m1 z2⟩
  · refine s_icmp (p' := 19) false rfl ((si_lt (chA_le hf _) (by decide)).trans (decide_eq_false q)) rfl ?_
    refine s_aldn (p' := 20) rfl rfl rfl ?_
    refine s_callV (p' := 23) (ls0 := [_]) rfl rfl rfl rfl rfl (mj_rcv_is c1.1) rfl (x_sg bb hn hf c1 (by omega)) (by decide) rfl ?_
    refine s_bip (p' := 25) rfl rfl ?_
    by_cases q3 : chA n f (a + 1) ≤ 53 ∨ chA n f (a + 1) = 70000
    · refine s_icmp (p' := 39) true rfl ((si_le (chA_le hf _) (by decide)).trans (decide_eq_true q3)) rfl ?_
      refine s_aldn (p' := 40) rfl rfl rfl ?_
      refine s_gf (p' := 43) rfl c1.1 rfl rfl ?_
      refine s_ildn (p' := 44) rfl rfl rfl ?_
      refine s_callEV (p' := 47) (ls0 := [_, _, _]) rfl rfl rfl rfl rfl (mj_rcv_is c1.2.2.1) rfl (x_add bb hn hf c1 hk30 hc) rfl rfl ?_
      rintro _ h2 ⟨rfl, c2, m2⟩
      replace m2 := mo00 m1 m2
      rw [add0] at c2
      refine s_aldn (p' := 48) rfl rfl rfl ?_
      refine s_callV (p' := 51) (ls0 := [_]) rfl rfl rfl rfl rfl (mj_rcv_is c2.1) rfl (x_sg bb hn hf c2 (by omega)) (by decide) rfl ?_
      refine s_bip (p' := 53) rfl rfl ?_
      refine s_sp (p' := 54) (ls' := _) rfl rfl rfl ?_
      rw [sgn_lt (by omega), mI_sub (by omega)]
      refine s_pf (p' := 57) (fs' := [_, _, _, _, _, _, _, _]) rfl (hI k hk30) (c2.2.2.2.2 k hk30) (Nat.blt_eq.mp rfl) rfl rfl rfl ?_
      generalize hg3 : List.set h2 (b + 6 + k) _ = h3
      have c3 : cR h3 b n f (a + 1) fp fs tm (k + 1) (updI (updI ins k (acN c 0 0 32 0 0 0 0)) k (updF ((updI ins k (acN c 0 0 32 0 0 0 0)) k) 1 (nI (chA n f (a + 1) - 48)))) := by rw [← hg3]; exact c2.in bb hk30 ((updF ((updI ins k (acN c 0 0 32 0 0 0 0)) k) 1 (nI (chA n f (a + 1) - 48))))
      have m3 : mz_mo (cL b) 0 0 h h3 := mo00 m2 (by rw [← hg3]; exact c2.inm bb hk30 ((updF ((updI ins k (acN c 0 0 32 0 0 0 0)) k) 1 (nI (chA n f (a + 1) - 48)))))
      clear hg3
      rw [updI_updI, updI_at, fu1] at c3
      refine s_aldn (p' := 58) rfl rfl rfl ?_
      refine s_sp (p' := 59) (ls' := _) rfl rfl rfl ?_
      refine s_gf (p' := 62) rfl c3.1 rfl rfl ?_
      refine s_con (p' := 63) rfl rfl ?_
      refine s_sp (p' := 64) (ls' := _) rfl rfl rfl ?_
      rw [mI_add]
      refine s_pf (p' := 67) (fs' := [_, _, _, _, _, _]) rfl hB c3.1 (Nat.blt_eq.mp rfl) rfl rfl rfl ?_
      generalize hg4 : List.set h3 (b + 36) _ = h4
      have c4 : cR h4 b n f (a + 2) fp fs tm (k + 1) (updI ins k (acN c (chA n f (a + 1) - 48) 0 32 0 0 0 0)) := by rw [← hg4]; exact c3.rd bb _ _ _ _
      have m4 : mz_mo (cL b) 0 0 h h4 := mo00 m3 (by rw [← hg4]; exact c3.rdm bb _ _ _ _)
      clear hg4
      refine s_con (p' := 68) rfl rfl ?_
      refine s_iret rfl rfl ?_
      exact ⟨_, _, rfl, Or.inl ⟨_, if_pos (by omega), rfl, fp, fs, _, _, c4, agr hag (acN_q _ _ _ _ _ _ _ _)⟩, m4⟩
    · refine s_icmp (p' := 28) false rfl ((si_le (chA_le hf _) (by decide)).trans (decide_eq_false q3)) rfl ?_
      refine s_aldn (p' := 29) rfl rfl rfl ?_
      refine s_bip (p' := 31) rfl rfl ?_
      refine s_aldn (p' := 32) rfl rfl rfl ?_
      refine s_gf (p' := 35) rfl c1.1 rfl rfl ?_
      refine s_callEV (p' := 38) (ls0 := [_, _, _]) rfl rfl rfl rfl rfl (mj_rcv_is c1.1) rfl (x_fl bb hn hf c1 (by decide) (by omega)) rfl rfl ?_
      rintro _ z ⟨rfl, z1, z2⟩
      refine s_iret rfl rfl ?_
      exact ⟨_, _, rfl, Or.inr ⟨_, if_neg (by omega), rfl, z1⟩, mo00 m1 z2⟩
theorem x_l1 {h : mj_H} {a k m e : Nat} {x : Nat → Int32} (bA : a < mj_CB) (hA : mj_rd h a = some (inC x)) : mj_run 0 103 (0, [some (.ref a), some (.int (nI k)), some (.int (nI m)), some (.int (nI e))], [], h) (.inl none, h.set a (inC (updF (updF (updF x 5 (nI k)) 6 (nI m)) 7 (nI e)))) := by
  refine s_aldn (p' := 1) rfl rfl rfl ?_
  refine s_ildn (p' := 2) rfl rfl rfl ?_
  refine s_pf (p' := 5) (fs' := [_, _, _, _, _, _, _, _]) rfl bA hA (Nat.blt_eq.mp rfl) rfl rfl rfl ?_
  refine s_aldn (p' := 6) rfl rfl rfl ?_
  refine s_ildn (p' := 7) rfl rfl rfl ?_
  refine s_pf (p' := 10) (fs' := [_, _, _, _, _, _, _, _]) rfl bA (rd_set bA hA) (Nat.blt_eq.mp rfl) rfl rfl rfl ?_
  rw [List.set_set]
  refine s_aldn (p' := 11) rfl rfl rfl ?_
  refine s_ildn (p' := 12) rfl rfl rfl ?_
  refine s_pf (p' := 15) (fs' := [_, _, _, _, _, _, _, _]) rfl bA (rd_set bA hA) (Nat.blt_eq.mp rfl) rfl rfl rfl ?_
  rw [List.set_set]
  exact s_ret rfl rfl
theorem x_cat {h : mj_H} {b n at_ k j : Nat} {f : Nat → Nat} {fp fs tm : Int32} {ins : Nat → Nat → Int32} (c0 : cR h b n f at_ fp fs tm k ins) (hj : j < k) (hk : k ≤ 30) : mj_run 0 74 (0, [some (.ref (b + 3)), some (.int (nI j))], [], h) (.inl (some (.ref (b + 6 + j))), h) := by
  have ⟨rw, h1, h2⟩ := c0.2.2.2.1
  refine s_ildn (p' := 1) rfl rfl rfl ?_
  refine s_if (p' := 4) false rfl (cz_lt (by omega)) rfl ?_
  refine s_ildn (p' := 5) rfl rfl rfl ?_
  refine s_aldn (p' := 6) rfl rfl rfl ?_
  refine s_gf (p' := 9) rfl c0.2.2.1 rfl rfl ?_
  refine s_icmp (p' := 12) false rfl ((ci_ge (by omega) (by omega)).trans (decide_eq_false (by omega))) rfl ?_
  refine s_ildn (p' := 13) rfl rfl rfl ?_
  refine s_aldn (p' := 14) rfl rfl rfl ?_
  refine s_gf (p' := 17) rfl c0.2.2.1 rfl rfl ?_
  refine s_len (p' := 18) rfl (mj_rdA_is h1 (by decide)) (by decide) rfl ?_
  refine s_icmp (p' := 21) false rfl ((ci_ge (by omega) (by omega)).trans (decide_eq_false (by omega))) rfl ?_
  refine s_aldn (p' := 22) rfl rfl rfl ?_
  refine s_gf (p' := 25) rfl c0.2.2.1 rfl rfl ?_
  refine s_ildn (p' := 26) rfl rfl rfl ?_
  refine s_aal (p' := 27) rfl (mj_rdA_is h1 (by decide)) (by decide) (inb_nI (by omega) (by omega)) rfl ?_
  rw [mI_cl (by omega), h2 j (by omega), show va_rf (some (b + 6 + j)) = .ref (b + 6 + j) from rfl]
  refine s_goto (p' := 34) rfl rfl ?_
  exact s_aret rfl rfl
/-- the three acts of a bracket linked -/
def lkI (ins : Nat → Nat → Int32) (k m e : Nat) : Nat → Nat → Int32 := fun j q => if j = k ∨ j = m ∨ j = e then if q = 5 then nI k else if q = 6 then nI m else if q = 7 then nI e else ins j q else ins j q
theorem updI_ne {i j : Nat} (ins : Nat → Nat → Int32) (x : Nat → Int32) (h : i ≠ j) : updI ins j x i = ins i := if_neg h
theorem rowL (x : Nat → Int32) (a b c : Int32) (q : Nat) : updF (updF (updF x 5 a) 6 b) 7 c q = if q = 5 then a else if q = 6 then b else if q = 7 then c else x q := by
  unfold updF
  by_cases p7 : q = 7
  · subst p7
    rfl
  · by_cases p6 : q = 6
    · subst p6
      rfl
    · by_cases p5 : q = 5
      · subst p5
        rfl
      · rw [if_neg p7, if_neg p6, if_neg p5, if_neg p5, if_neg p6, if_neg p7]
theorem lkI_is (ins : Nat → Nat → Int32) {k m e : Nat} (h1 : k < m) (h2 : m < e) : (updI (updI (updI ins k (updF (updF (updF (ins k) 5 (nI k)) 6 (nI m)) 7 (nI e))) m (updF (updF (updF ((updI ins k (updF (updF (updF (ins k) 5 (nI k)) 6 (nI m)) 7 (nI e))) m) 5 (nI k)) 6 (nI m)) 7 (nI e))) e (updF (updF (updF ((updI (updI ins k (updF (updF (updF (ins k) 5 (nI k)) 6 (nI m)) 7 (nI e))) m (updF (updF (updF ((updI ins k (updF (updF (updF (ins k) 5 (nI k)) 6 (nI m)) 7 (nI e))) m) 5 (nI k)) 6 (nI m)) 7 (nI e))) e) 5 (nI k)) 6 (nI m)) 7 (nI e))) = lkI ins k m e := funext fun j => funext fun q => by
  rw [updI_ne (j := k) (i := m) _ _ (by omega), updI_ne (j := m) (i := e) _ _ (by omega), updI_ne (j := k) (i := e) _ _ (by omega)]
  unfold lkI
  by_cases a : j = e
  · rw [a, updI_at, rowL, if_pos (Or.inr (Or.inr rfl))]
  · rw [updI_ne _ _ a]
    by_cases a2 : j = m
    · rw [a2, updI_at, rowL, if_pos (Or.inr (Or.inl rfl))]
    · rw [updI_ne _ _ a2]
      by_cases a3 : j = k
      · rw [a3, updI_at, rowL, if_pos (Or.inl rfl)]
      · rw [updI_ne _ _ a3, if_neg (by omega)]
theorem lkI_ag {ins : Nat → Nat → Int32} {x : Nat → Nat → Nat} {k m e kk : Nat} (h : ∀ j, j < kk → ∀ q, q < 8 → ins j q = nI (x j q)) : ∀ j, j < kk → ∀ q, q < 8 → lkI ins k m e j q = nI (lkA x k m e j q) := fun j hj q hq => by
  unfold lkI lkA
  split
  · split
    · rfl
    · split
      · rfl
      · split
        · rfl
        · exact h j hj q hq
  · exact h j hj q hq
theorem x_lnk {h : mj_H} {b n at_ kk k m e : Nat} {f : Nat → Nat} {fp fs tm : Int32} {ins : Nat → Nat → Int32} (bb : b + 37 ≤ 414) (c0 : cR h b n f at_ fp fs tm kk ins) (hk : kk ≤ 30) (g1 : k < m) (g2 : m < e) (g3 : e < kk) : mj_Wp 1 102 (0, [some (.ref (b + 3)), some (.int (nI k)), some (.int (nI m)), some (.int (nI e))], [], h) (mz_N fun h' => cR h' b n f at_ fp fs tm kk (lkI ins k m e) ∧ mz_mo (cL b) 0 0 h h') := by
  have hB : b + 36 < mj_CB := by have : mj_CB = 1000000 := rfl; omega
  have hI : ∀ j, j < 30 → b + 6 + j < mj_CB := fun j hj => by have : mj_CB = 1000000 := rfl; omega
  have m0 : mz_mo (cL b) 0 0 h h := mz_mo.rf _ _ _ _
  refine s_aldn (p' := 1) rfl rfl rfl ?_
  refine s_ildn (p' := 2) rfl rfl rfl ?_
  refine s_callV (p' := 5) (ls0 := [_, _]) rfl rfl rfl rfl rfl (mj_rcv_is c0.2.2.1) rfl (x_cat c0 (by omega) hk) (by decide) rfl ?_
  refine s_ildn (p' := 6) rfl rfl rfl ?_
  refine s_ildn (p' := 7) rfl rfl rfl ?_
  refine s_ildn (p' := 8) rfl rfl rfl ?_
  refine s_callN (p' := 11) (ls0 := [_, _, _, _]) rfl rfl rfl rfl rfl rfl rfl (x_l1 (hI k (by omega)) (c0.2.2.2.2 k (by omega))) (by decide) rfl ?_
  generalize hg1 : List.set h (b + 6 + k) _ = h1
  have c1 : cR h1 b n f at_ fp fs tm kk (updI ins k (updF (updF (updF (ins k) 5 (nI k)) 6 (nI m)) 7 (nI e))) := by rw [← hg1]; exact c0.in bb (show k < 30 by omega) ((updF (updF (updF (ins k) 5 (nI k)) 6 (nI m)) 7 (nI e)))
  have m1 : mz_mo (cL b) 0 0 h h1 := mo00 m0 (by rw [← hg1]; exact c0.inm bb (show k < 30 by omega) ((updF (updF (updF (ins k) 5 (nI k)) 6 (nI m)) 7 (nI e))))
  clear hg1
  refine s_aldn (p' := 12) rfl rfl rfl ?_
  refine s_ildn (p' := 13) rfl rfl rfl ?_
  refine s_callV (p' := 16) (ls0 := [_, _]) rfl rfl rfl rfl rfl (mj_rcv_is c1.2.2.1) rfl (x_cat c1 (by omega) hk) (by decide) rfl ?_
  refine s_ildn (p' := 17) rfl rfl rfl ?_
  refine s_ildn (p' := 18) rfl rfl rfl ?_
  refine s_ildn (p' := 19) rfl rfl rfl ?_
  refine s_callN (p' := 22) (ls0 := [_, _, _, _]) rfl rfl rfl rfl rfl rfl rfl (x_l1 (hI m (by omega)) (c1.2.2.2.2 m (by omega))) (by decide) rfl ?_
  generalize hg2 : List.set h1 (b + 6 + m) _ = h2
  have c2 : cR h2 b n f at_ fp fs tm kk (updI (updI ins k (updF (updF (updF (ins k) 5 (nI k)) 6 (nI m)) 7 (nI e))) m (updF (updF (updF ((updI ins k (updF (updF (updF (ins k) 5 (nI k)) 6 (nI m)) 7 (nI e))) m) 5 (nI k)) 6 (nI m)) 7 (nI e))) := by rw [← hg2]; exact c1.in bb (show m < 30 by omega) ((updF (updF (updF ((updI ins k (updF (updF (updF (ins k) 5 (nI k)) 6 (nI m)) 7 (nI e))) m) 5 (nI k)) 6 (nI m)) 7 (nI e)))
  have m2 : mz_mo (cL b) 0 0 h h2 := mo00 m1 (by rw [← hg2]; exact c1.inm bb (show m < 30 by omega) ((updF (updF (updF ((updI ins k (updF (updF (updF (ins k) 5 (nI k)) 6 (nI m)) 7 (nI e))) m) 5 (nI k)) 6 (nI m)) 7 (nI e))))
  clear hg2
  refine s_aldn (p' := 23) rfl rfl rfl ?_
  refine s_ildn (p' := 24) rfl rfl rfl ?_
  refine s_callV (p' := 27) (ls0 := [_, _]) rfl rfl rfl rfl rfl (mj_rcv_is c2.2.2.1) rfl (x_cat c2 (by omega) hk) (by decide) rfl ?_
  refine s_ildn (p' := 28) rfl rfl rfl ?_
  refine s_ildn (p' := 29) rfl rfl rfl ?_
  refine s_ildn (p' := 30) rfl rfl rfl ?_
  refine s_callN (p' := 33) (ls0 := [_, _, _, _]) rfl rfl rfl rfl rfl rfl rfl (x_l1 (hI e (by omega)) (c2.2.2.2.2 e (by omega))) (by decide) rfl ?_
  generalize hg3 : List.set h2 (b + 6 + e) _ = h3
  have c3 : cR h3 b n f at_ fp fs tm kk (updI (updI (updI ins k (updF (updF (updF (ins k) 5 (nI k)) 6 (nI m)) 7 (nI e))) m (updF (updF (updF ((updI ins k (updF (updF (updF (ins k) 5 (nI k)) 6 (nI m)) 7 (nI e))) m) 5 (nI k)) 6 (nI m)) 7 (nI e))) e (updF (updF (updF ((updI (updI ins k (updF (updF (updF (ins k) 5 (nI k)) 6 (nI m)) 7 (nI e))) m (updF (updF (updF ((updI ins k (updF (updF (updF (ins k) 5 (nI k)) 6 (nI m)) 7 (nI e))) m) 5 (nI k)) 6 (nI m)) 7 (nI e))) e) 5 (nI k)) 6 (nI m)) 7 (nI e))) := by rw [← hg3]; exact c2.in bb (show e < 30 by omega) ((updF (updF (updF ((updI (updI ins k (updF (updF (updF (ins k) 5 (nI k)) 6 (nI m)) 7 (nI e))) m (updF (updF (updF ((updI ins k (updF (updF (updF (ins k) 5 (nI k)) 6 (nI m)) 7 (nI e))) m) 5 (nI k)) 6 (nI m)) 7 (nI e))) e) 5 (nI k)) 6 (nI m)) 7 (nI e)))
  have m3 : mz_mo (cL b) 0 0 h h3 := mo00 m2 (by rw [← hg3]; exact c2.inm bb (show e < 30 by omega) ((updF (updF (updF ((updI (updI ins k (updF (updF (updF (ins k) 5 (nI k)) 6 (nI m)) 7 (nI e))) m (updF (updF (updF ((updI ins k (updF (updF (updF (ins k) 5 (nI k)) 6 (nI m)) 7 (nI e))) m) 5 (nI k)) 6 (nI m)) 7 (nI e))) e) 5 (nI k)) 6 (nI m)) 7 (nI e))))
  clear hg3
  refine s_ret rfl ?_
  rw [lkI_is ins g1 g2] at c3
  exact ⟨_, rfl, c3, m3⟩
