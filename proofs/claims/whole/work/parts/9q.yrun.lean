/-! The reference runs: sums, tests, statements. -/
theorem tmR_c {t : Nat} {v m : Int32} (h : tmR t v m) : (t < 1000 ∧ v = nI 4294967295 ∧ m = nI t) ∨ (¬ t < 1000 ∧ ∃ w, w < 8 ∧ t = vT w ∧ v = nI w) := by
  rcases h with ⟨w, h1, h2, h3⟩ | h
  · exact Or.inr ⟨by rw [h2]; unfold vT; omega, w, h1, h2, h3⟩
  · exact Or.inl h
theorem n1_ne {w : Nat} (h : w < 8) : ¬ nI w = nI 4294967295 := fun e => by
  have := congrArg Int32.toInt e
  rw [mI_ti (by omega), show (nI 4294967295).toInt = -1 from by decide +kernel] at this
  omega
theorem y_tv0 {k0 S V N A t kk : Nat} {vf nf rf v : Nat → Int32} {sg : Int32} {h : mj_H} {l2 l3 : Option Value} {Q : mj_O × mj_H → Prop} (hS : ySm h S V N vf nf sg kk) (hA : mj_rd h A = some (.inl (0, (8, .inl rf)))) (hr : ∀ j, j < 8 → rf j = v j) (ht : tmR t (vf 0) (nf 0)) (hn : mj_Wp k0 394 (27, [some (.ref S), some (.ref A), l2, l3], [.int (tvl v t)], h) Q) : mj_Wp k0 394 (0, [some (.ref S), some (.ref A), l2, l3], [], h) Q := by
  rcases tmR_c ht with ⟨q, e1, e2⟩ | ⟨q, w, hw, rfl, e1⟩
  · refine s_aldn (p' := 1) rfl rfl rfl ?_
    refine s_gf (p' := 4) rfl hS.1 rfl rfl ?_
    refine s_con (p' := 5) rfl rfl ?_
    refine s_ial (p' := 6) rfl hS.2.1 (inb_nI (by omega) (by omega)) rfl ?_
    rw [mI_cl (by omega), e1]
    refine s_con (p' := 7) rfl rfl ?_
    refine s_icmp (p' := 10) false rfl (by decide +kernel) rfl ?_
    refine s_aldn (p' := 11) rfl rfl rfl ?_
    refine s_gf (p' := 14) rfl hS.1 rfl rfl ?_
    refine s_con (p' := 15) rfl rfl ?_
    refine s_ial (p' := 16) rfl hS.2.2.1 (inb_nI (by omega) (by omega)) rfl ?_
    rw [mI_cl (by omega), e2]
    refine s_goto (p' := 27) rfl rfl ?_
    rw [tvl_n q] at hn
    exact hn
  · refine s_aldn (p' := 1) rfl rfl rfl ?_
    refine s_gf (p' := 4) rfl hS.1 rfl rfl ?_
    refine s_con (p' := 5) rfl rfl ?_
    refine s_ial (p' := 6) rfl hS.2.1 (inb_nI (by omega) (by omega)) rfl ?_
    rw [mI_cl (by omega), e1]
    refine s_con (p' := 7) rfl rfl ?_
    refine s_icmp (p' := 19) true rfl (decide_eq_true (n1_ne hw)) rfl ?_
    refine s_aldn (p' := 20) rfl rfl rfl ?_
    refine s_aldn (p' := 21) rfl rfl rfl ?_
    refine s_gf (p' := 24) rfl hS.1 rfl rfl ?_
    refine s_con (p' := 25) rfl rfl ?_
    refine s_ial (p' := 26) rfl hS.2.1 (inb_nI (by omega) (by omega)) rfl ?_
    rw [mI_cl (by omega), e1]
    refine s_ial (p' := 27) rfl hA (inb_nI (by omega) (by omega)) rfl ?_
    rw [mI_cl (by omega), hr w hw]
    rw [tvl_v hw] at hn
    exact hn
theorem y_tv1 {k0 S V N A t kk : Nat} {vf nf rf v : Nat → Int32} {sg : Int32} {h : mj_H} {l2 l3 : Option Value} {Q : mj_O × mj_H → Prop} (hS : ySm h S V N vf nf sg kk) (hA : mj_rd h A = some (.inl (0, (8, .inl rf)))) (hr : ∀ j, j < 8 → rf j = v j) (ht : tmR t (vf 1) (nf 1)) (hn : mj_Wp k0 394 (65, [some (.ref S), some (.ref A), l2, l3], [.int (tvl v t)], h) Q) : mj_Wp k0 394 (38, [some (.ref S), some (.ref A), l2, l3], [], h) Q := by
  rcases tmR_c ht with ⟨q, e1, e2⟩ | ⟨q, w, hw, rfl, e1⟩
  · refine s_aldn (p' := 39) rfl rfl rfl ?_
    refine s_gf (p' := 42) rfl hS.1 rfl rfl ?_
    refine s_con (p' := 43) rfl rfl ?_
    refine s_ial (p' := 44) rfl hS.2.1 (inb_nI (by omega) (by omega)) rfl ?_
    rw [mI_cl (by omega), e1]
    refine s_con (p' := 45) rfl rfl ?_
    refine s_icmp (p' := 48) false rfl (by decide +kernel) rfl ?_
    refine s_aldn (p' := 49) rfl rfl rfl ?_
    refine s_gf (p' := 52) rfl hS.1 rfl rfl ?_
    refine s_con (p' := 53) rfl rfl ?_
    refine s_ial (p' := 54) rfl hS.2.2.1 (inb_nI (by omega) (by omega)) rfl ?_
    rw [mI_cl (by omega), e2]
    refine s_goto (p' := 65) rfl rfl ?_
    rw [tvl_n q] at hn
    exact hn
  · refine s_aldn (p' := 39) rfl rfl rfl ?_
    refine s_gf (p' := 42) rfl hS.1 rfl rfl ?_
    refine s_con (p' := 43) rfl rfl ?_
    refine s_ial (p' := 44) rfl hS.2.1 (inb_nI (by omega) (by omega)) rfl ?_
    rw [mI_cl (by omega), e1]
    refine s_con (p' := 45) rfl rfl ?_
    refine s_icmp (p' := 57) true rfl (decide_eq_true (n1_ne hw)) rfl ?_
    refine s_aldn (p' := 58) rfl rfl rfl ?_
    refine s_aldn (p' := 59) rfl rfl rfl ?_
    refine s_gf (p' := 62) rfl hS.1 rfl rfl ?_
    refine s_con (p' := 63) rfl rfl ?_
    refine s_ial (p' := 64) rfl hS.2.1 (inb_nI (by omega) (by omega)) rfl ?_
    rw [mI_cl (by omega), e1]
    refine s_ial (p' := 65) rfl hA (inb_nI (by omega) (by omega)) rfl ?_
    rw [mI_cl (by omega), hr w hw]
    rw [tvl_v hw] at hn
    exact hn
theorem y_th0 {k0 S V N A t kk : Nat} {vf nf rf v : Nat → Int32} {sg : Int32} {h : mj_H} {l2 l3 : Option Value} {Q : mj_O × mj_H → Prop} (hS : ySm h S V N vf nf sg kk) (hA : mj_rd h A = some (.inl (0, (8, .inl rf)))) (hr : ∀ j, j < 8 → rf j = v j) (ht : tmR t (vf 0) (nf 0)) (hn : mj_Wp k0 390 (27, [some (.ref S), some (.ref A), l2, l3], [.int (tvl v t)], h) Q) : mj_Wp k0 390 (0, [some (.ref S), some (.ref A), l2, l3], [], h) Q := by
  rcases tmR_c ht with ⟨q, e1, e2⟩ | ⟨q, w, hw, rfl, e1⟩
  · refine s_aldn (p' := 1) rfl rfl rfl ?_
    refine s_gf (p' := 4) rfl hS.1 rfl rfl ?_
    refine s_con (p' := 5) rfl rfl ?_
    refine s_ial (p' := 6) rfl hS.2.1 (inb_nI (by omega) (by omega)) rfl ?_
    rw [mI_cl (by omega), e1]
    refine s_con (p' := 7) rfl rfl ?_
    refine s_icmp (p' := 10) false rfl (by decide +kernel) rfl ?_
    refine s_aldn (p' := 11) rfl rfl rfl ?_
    refine s_gf (p' := 14) rfl hS.1 rfl rfl ?_
    refine s_con (p' := 15) rfl rfl ?_
    refine s_ial (p' := 16) rfl hS.2.2.1 (inb_nI (by omega) (by omega)) rfl ?_
    rw [mI_cl (by omega), e2]
    refine s_goto (p' := 27) rfl rfl ?_
    rw [tvl_n q] at hn
    exact hn
  · refine s_aldn (p' := 1) rfl rfl rfl ?_
    refine s_gf (p' := 4) rfl hS.1 rfl rfl ?_
    refine s_con (p' := 5) rfl rfl ?_
    refine s_ial (p' := 6) rfl hS.2.1 (inb_nI (by omega) (by omega)) rfl ?_
    rw [mI_cl (by omega), e1]
    refine s_con (p' := 7) rfl rfl ?_
    refine s_icmp (p' := 19) true rfl (decide_eq_true (n1_ne hw)) rfl ?_
    refine s_aldn (p' := 20) rfl rfl rfl ?_
    refine s_aldn (p' := 21) rfl rfl rfl ?_
    refine s_gf (p' := 24) rfl hS.1 rfl rfl ?_
    refine s_con (p' := 25) rfl rfl ?_
    refine s_ial (p' := 26) rfl hS.2.1 (inb_nI (by omega) (by omega)) rfl ?_
    rw [mI_cl (by omega), e1]
    refine s_ial (p' := 27) rfl hA (inb_nI (by omega) (by omega)) rfl ?_
    rw [mI_cl (by omega), hr w hw]
    rw [tvl_v hw] at hn
    exact hn
theorem y_th1 {k0 S V N A t kk : Nat} {vf nf rf v : Nat → Int32} {sg : Int32} {h : mj_H} {l2 l3 : Option Value} {Q : mj_O × mj_H → Prop} (hS : ySm h S V N vf nf sg kk) (hA : mj_rd h A = some (.inl (0, (8, .inl rf)))) (hr : ∀ j, j < 8 → rf j = v j) (ht : tmR t (vf 1) (nf 1)) (hn : mj_Wp k0 390 (55, [some (.ref S), some (.ref A), l2, l3], [.int (tvl v t)], h) Q) : mj_Wp k0 390 (28, [some (.ref S), some (.ref A), l2, l3], [], h) Q := by
  rcases tmR_c ht with ⟨q, e1, e2⟩ | ⟨q, w, hw, rfl, e1⟩
  · refine s_aldn (p' := 29) rfl rfl rfl ?_
    refine s_gf (p' := 32) rfl hS.1 rfl rfl ?_
    refine s_con (p' := 33) rfl rfl ?_
    refine s_ial (p' := 34) rfl hS.2.1 (inb_nI (by omega) (by omega)) rfl ?_
    rw [mI_cl (by omega), e1]
    refine s_con (p' := 35) rfl rfl ?_
    refine s_icmp (p' := 38) false rfl (by decide +kernel) rfl ?_
    refine s_aldn (p' := 39) rfl rfl rfl ?_
    refine s_gf (p' := 42) rfl hS.1 rfl rfl ?_
    refine s_con (p' := 43) rfl rfl ?_
    refine s_ial (p' := 44) rfl hS.2.2.1 (inb_nI (by omega) (by omega)) rfl ?_
    rw [mI_cl (by omega), e2]
    refine s_goto (p' := 55) rfl rfl ?_
    rw [tvl_n q] at hn
    exact hn
  · refine s_aldn (p' := 29) rfl rfl rfl ?_
    refine s_gf (p' := 32) rfl hS.1 rfl rfl ?_
    refine s_con (p' := 33) rfl rfl ?_
    refine s_ial (p' := 34) rfl hS.2.1 (inb_nI (by omega) (by omega)) rfl ?_
    rw [mI_cl (by omega), e1]
    refine s_con (p' := 35) rfl rfl ?_
    refine s_icmp (p' := 47) true rfl (decide_eq_true (n1_ne hw)) rfl ?_
    refine s_aldn (p' := 48) rfl rfl rfl ?_
    refine s_aldn (p' := 49) rfl rfl rfl ?_
    refine s_gf (p' := 52) rfl hS.1 rfl rfl ?_
    refine s_con (p' := 53) rfl rfl ?_
    refine s_ial (p' := 54) rfl hS.2.1 (inb_nI (by omega) (by omega)) rfl ?_
    rw [mI_cl (by omega), e1]
    refine s_ial (p' := 55) rfl hA (inb_nI (by omega) (by omega)) rfl ?_
    rw [mI_cl (by omega), hr w hw]
    rw [tvl_v hw] at hn
    exact hn
theorem y_vlu {h : mj_H} {S A : Nat} {I : Nat → Prop} {B : Nat → Nat} {rf v : Nat → Int32} (su : ySu I h S (B 2) (B 3) (B 4)) (hA : mj_rd h A = some (.inl (0, (8, .inl rf)))) (hr : ∀ j, j < 8 → rf j = v j) (hb : B 3 = 32 ∨ B 3 = 43 ∨ B 3 = 45 ∨ B 3 = 42 ∨ B 3 = 38) : mj_run 0 394 (0, [some (.ref S), some (.ref A), none, none], [], h) (.inl (some (.int (sml v B))), h) := by
  obtain ⟨V, N, vf, nf, sg, kk, hS, _, _, _, t0, t1⟩ := su
  refine y_tv0 hS hA hr t0 ?_
  refine s_istn (p' := 28) (ls' := [_, _, _, _]) rfl rfl rfl rfl ?_
  refine s_aldn (p' := 29) rfl rfl rfl ?_
  refine s_gf (p' := 32) rfl hS.1 rfl rfl ?_
  refine s_con (p' := 33) rfl rfl ?_
  by_cases qk : kk < 2
  · refine s_icmp (p' := 36) false rfl ((ci_ge (by omega) (by omega)).trans (decide_eq_false (by omega))) rfl ?_
    refine s_ildn (p' := 37) rfl rfl rfl ?_
    exact s_iret rfl rfl (by unfold sml; rw [if_neg (by omega), if_neg (by omega), if_neg (by omega), if_neg (by omega)])
  · refine s_icmp (p' := 38) true rfl ((ci_ge (by omega) (by omega)).trans (decide_eq_true (by omega))) rfl ?_
    obtain ⟨q1, q2, q3, q4⟩ : B 3 ≠ 32 ∧ kk = 2 ∧ sg = nI (B 3) ∧ tmR (B 4) (vf 1) (nf 1) := t1.resolve_left (fun e => qk (by have := e.2; omega))
    subst q3
    refine y_tv1 hS hA hr q4 ?_
    refine s_istn (p' := 66) (ls' := [_, _, _, _]) rfl rfl rfl rfl ?_
    refine s_aldn (p' := 67) rfl rfl rfl ?_
    refine s_gf (p' := 70) rfl hS.1 rfl rfl ?_
    refine s_bip (p' := 72) rfl rfl ?_
    by_cases q43 : B 3 = 43
    · refine s_icmp (p' := 75) false rfl ((ci_ne (by omega) (by omega)).trans (decide_eq_false (by omega))) rfl ?_
      refine s_ildn (p' := 76) rfl rfl rfl ?_
      refine s_ildn (p' := 77) rfl rfl rfl ?_
      refine s_sp (p' := 78) (ls' := _) rfl rfl rfl ?_
      refine s_goto (p' := 114) rfl rfl ?_
      exact s_iret rfl rfl (by unfold sml; rw [if_pos q43])
    · refine s_icmp (p' := 81) true rfl ((ci_ne (by omega) (by omega)).trans (decide_eq_true (by omega))) rfl ?_
      refine s_aldn (p' := 82) rfl rfl rfl ?_
      refine s_gf (p' := 85) rfl hS.1 rfl rfl ?_
      refine s_bip (p' := 87) rfl rfl ?_
      by_cases q45 : B 3 = 45
      · refine s_icmp (p' := 90) false rfl ((ci_ne (by omega) (by omega)).trans (decide_eq_false (by omega))) rfl ?_
        refine s_ildn (p' := 91) rfl rfl rfl ?_
        refine s_ildn (p' := 92) rfl rfl rfl ?_
        refine s_sp (p' := 93) (ls' := _) rfl rfl rfl ?_
        refine s_goto (p' := 114) rfl rfl ?_
        exact s_iret rfl rfl (by unfold sml; rw [if_neg (by omega), if_pos q45])
      · refine s_icmp (p' := 96) true rfl ((ci_ne (by omega) (by omega)).trans (decide_eq_true (by omega))) rfl ?_
        refine s_aldn (p' := 97) rfl rfl rfl ?_
        refine s_gf (p' := 100) rfl hS.1 rfl rfl ?_
        refine s_bip (p' := 102) rfl rfl ?_
        by_cases q42 : B 3 = 42
        · refine s_icmp (p' := 105) false rfl ((ci_ne (by omega) (by omega)).trans (decide_eq_false (by omega))) rfl ?_
          refine s_ildn (p' := 106) rfl rfl rfl ?_
          refine s_ildn (p' := 107) rfl rfl rfl ?_
          refine s_sp (p' := 108) (ls' := _) rfl rfl rfl ?_
          refine s_goto (p' := 114) rfl rfl ?_
          exact s_iret rfl rfl (by unfold sml; rw [if_neg (by omega), if_neg (by omega), if_pos q42])
        · refine s_icmp (p' := 111) true rfl ((ci_ne (by omega) (by omega)).trans (decide_eq_true (by omega))) rfl ?_
          refine s_ildn (p' := 112) rfl rfl rfl ?_
          refine s_ildn (p' := 113) rfl rfl rfl ?_
          refine s_sp (p' := 114) (ls' := _) rfl rfl rfl ?_
          exact s_iret rfl rfl (by unfold sml; rw [if_neg (by omega), if_neg (by omega), if_neg (by omega), if_pos (by omega)])
theorem y_hol {h : mj_H} {S A : Nat} {I : Nat → Prop} {B : Nat → Nat} {rf v : Nat → Int32} (su : ySu I h S (B 2) (B 3) (B 4)) (hA : mj_rd h A = some (.inl (0, (8, .inl rf)))) (hr : ∀ j, j < 8 → rf j = v j) (hb : B 3 = 60 ∨ B 3 = 61 ∨ B 3 = 62) : mj_run 0 390 (0, [some (.ref S), some (.ref A), none, none], [], h) (.inl (some (.int (nI (bN (hld v B))))), h) := by
  obtain ⟨V, N, vf, nf, sg, kk, hS, _, _, _, t0, t1⟩ := su
  obtain ⟨q1, q2, q3, q4⟩ : B 3 ≠ 32 ∧ kk = 2 ∧ sg = nI (B 3) ∧ tmR (B 4) (vf 1) (nf 1) := t1.resolve_left (fun e => by have := e.1; omega)
  subst q3
  refine y_th0 hS hA hr t0 ?_
  refine s_istn (p' := 28) (ls' := [_, _, _, _]) rfl rfl rfl rfl ?_
  refine y_th1 hS hA hr q4 ?_
  refine s_istn (p' := 56) (ls' := [_, _, _, _]) rfl rfl rfl rfl ?_
  refine s_aldn (p' := 57) rfl rfl rfl ?_
  refine s_gf (p' := 60) rfl hS.1 rfl rfl ?_
  refine s_bip (p' := 62) rfl rfl ?_
  by_cases q60 : B 3 = 60
  · refine s_icmp (p' := 65) false rfl ((ci_ne (by omega) (by omega)).trans (decide_eq_false (by omega))) rfl ?_
    refine s_ildn (p' := 66) rfl rfl rfl ?_
    refine s_ildn (p' := 67) rfl rfl rfl ?_
    by_cases qc : tvl v (B 2) < tvl v (B 4)
    · refine s_icmp (p' := 70) false rfl (decide_eq_false (fun e => Int32.not_lt.mpr e qc)) rfl ?_
      refine s_con (p' := 71) rfl rfl ?_
      refine s_goto (p' := 110) rfl rfl ?_
      exact s_iret rfl rfl (by unfold hld; rw [if_pos q60]; rw [decide_eq_true qc]; rfl)
    · refine s_icmp (p' := 74) true rfl (decide_eq_true (Int32.not_lt.mp qc)) rfl ?_
      refine s_con (p' := 75) rfl rfl ?_
      refine s_goto (p' := 110) rfl rfl ?_
      exact s_iret rfl rfl (by unfold hld; rw [if_pos q60]; rw [decide_eq_false qc]; rfl)
  · refine s_icmp (p' := 78) true rfl ((ci_ne (by omega) (by omega)).trans (decide_eq_true (by omega))) rfl ?_
    refine s_aldn (p' := 79) rfl rfl rfl ?_
    refine s_gf (p' := 82) rfl hS.1 rfl rfl ?_
    refine s_bip (p' := 84) rfl rfl ?_
    by_cases q61 : B 3 = 61
    · refine s_icmp (p' := 87) false rfl ((ci_ne (by omega) (by omega)).trans (decide_eq_false (by omega))) rfl ?_
      refine s_ildn (p' := 88) rfl rfl rfl ?_
      refine s_ildn (p' := 89) rfl rfl rfl ?_
      by_cases qc : tvl v (B 2) = tvl v (B 4)
      · refine s_icmp (p' := 92) false rfl (decide_eq_false (fun e => e qc)) rfl ?_
        refine s_con (p' := 93) rfl rfl ?_
        refine s_goto (p' := 110) rfl rfl ?_
        exact s_iret rfl rfl (by unfold hld; rw [if_neg (by omega), if_neg (by omega)]; rw [decide_eq_true qc]; rfl)
      · refine s_icmp (p' := 96) true rfl (decide_eq_true qc) rfl ?_
        refine s_con (p' := 97) rfl rfl ?_
        refine s_goto (p' := 110) rfl rfl ?_
        exact s_iret rfl rfl (by unfold hld; rw [if_neg (by omega), if_neg (by omega)]; rw [decide_eq_false qc]; rfl)
    · refine s_icmp (p' := 100) true rfl ((ci_ne (by omega) (by omega)).trans (decide_eq_true (by omega))) rfl ?_
      refine s_ildn (p' := 101) rfl rfl rfl ?_
      refine s_ildn (p' := 102) rfl rfl rfl ?_
      by_cases qc : tvl v (B 4) < tvl v (B 2)
      · refine s_icmp (p' := 105) false rfl (decide_eq_false (fun e => Int32.not_lt.mpr e qc)) rfl ?_
        refine s_con (p' := 106) rfl rfl ?_
        refine s_goto (p' := 110) rfl rfl ?_
        exact s_iret rfl rfl (by unfold hld; rw [if_neg (by omega), if_pos (by omega)]; rw [decide_eq_true qc]; rfl)
      · refine s_icmp (p' := 109) true rfl (decide_eq_true (Int32.not_lt.mp qc)) rfl ?_
        refine s_con (p' := 110) rfl rfl ?_
        exact s_iret rfl rfl (by unfold hld; rw [if_neg (by omega), if_pos (by omega)]; rw [decide_eq_false qc]; rfl)
def wrC (W t c cn : Nat) : mj_C := .inr (19, [.ref (W + 1), .ref (W + 2), .ref (W + 3), .ref (W + 4), .ref (W + 5), .ref (W + 6), .ref (W + 7), .int (nI t), .int (nI c), .int (nI cn), .ref 400])
/-- the reference's store in the world at W -/
def wSt (h : mj_H) (W : Nat) (s : SV) : Prop := (∃ vf : Nat → Int32, mj_rd h (W + 1) = some (.inl (0, (8, .inl vf))) ∧ ∀ j, j < 8 → vf j = s.1 j) ∧ (∃ tf : Nat → Int32, mj_rd h (W + 2) = some (.inl (0, (20, .inl tf))) ∧ ∀ j, j < s.2.2 → tf j = s.2.1 j) ∧ s.2.2 ≤ 20
/-- its run -/
def wRn (h : mj_H) (W : Nat) : SR → Prop
  | (p, l, c, w, cp, cl, cw) => (∃ f : Nat → Int32, mj_rd h (W + 3) = some (.inl (0, (21, .inl f))) ∧ (∀ d, d < c → f d = nI (cp d)) ∧ f c = nI p) ∧ (∃ f : Nat → Int32, mj_rd h (W + 4) = some (.inl (0, (21, .inl f))) ∧ (∀ d, d < c → f d = nI (if cw d = true then cl d else cl d + 1)) ∧ f c = nI l) ∧ ∃ f : Nat → Int32, mj_rd h (W + 5) = some (.inl (2, (21, .inl f))) ∧ (∀ d, d < 21 → ∃ b, f d = nI (bN b)) ∧ (∀ d, d < c → f d = nI (bN (cw d))) ∧ f c = nI (bN w)
def wWy (h : mj_H) (W : Nat) (z : CZ) : Prop := ∃ lf nf : Nat → Int32, mj_rd h (W + 6) = some (.inl (3, (2, .inl lf))) ∧ mj_rd h (W + 7) = some (.inl (0, (2, .inl nf))) ∧ z.1 ≤ 2 ∧ (0 < z.1 → lf 0 = nI z.2.1 ∧ nf 0 = nI z.2.2.1) ∧ (1 < z.1 → lf 1 = nI z.2.2.2.1 ∧ nf 1 = nI z.2.2.2.2)
/-- the reference's world -/
def yWl (h : mj_H) (W : Nat) (s : SS) (z : CZ) : Prop := mj_rd h W = some (wrC W s.1.2.2 s.2.2.2.1 z.1) ∧ wSt h W s.1 ∧ wRn h W s.2 ∧ wWy h W z
def wML (W : Nat) : List Nat := [W, W + 1, W + 2, W + 3, W + 4, W + 5, W + 6, W + 7]
theorem wSt.fr {h g : mj_H} {L : List Nat} {W : Nat} {s : SV} (a : wSt h W s) (e : mz_fr L h g) (h1 : W + 1 ∉ L) (h2 : W + 2 ∉ L) : wSt g W s := by
  obtain ⟨⟨vf, b, b2⟩, ⟨tf, d, d2⟩, k⟩ := a
  exact ⟨⟨vf, e _ h1 _ b, b2⟩, ⟨tf, e _ h2 _ d, d2⟩, k⟩
theorem wRn.fr {h g : mj_H} {L : List Nat} {W : Nat} {r : SR} (a : wRn h W r) (e : mz_fr L h g) (h3 : W + 3 ∉ L) (h4 : W + 4 ∉ L) (h5 : W + 5 ∉ L) : wRn g W r := by
  obtain ⟨p, l, c, w, cp, cl, cw⟩ := r
  obtain ⟨⟨f1, a1, b1⟩, ⟨f2, a2, b2⟩, f3, a3, b3⟩ := a
  exact ⟨⟨f1, e _ h3 _ a1, b1⟩, ⟨f2, e _ h4 _ a2, b2⟩, f3, e _ h5 _ a3, b3⟩
theorem wWy.fr {h g : mj_H} {L : List Nat} {W : Nat} {z : CZ} (a : wWy h W z) (e : mz_fr L h g) (h6 : W + 6 ∉ L) (h7 : W + 7 ∉ L) : wWy g W z := by
  obtain ⟨lf, nf, a4, a5, b⟩ := a
  exact ⟨lf, nf, e _ h6 _ a4, e _ h7 _ a5, b⟩
theorem y_bks {h : mj_H} {W t c lt nu : Nat} {z : CZ} (bW : W + 8 < mj_CB) (hW : mj_rd h W = some (wrC W t c z.1)) (hy : wWy h W z) (hl : lt < 65536) : mj_Wp 0 388 (0, [some (.ref W), some (.int (nI lt)), some (.int (nI nu))], [], h) (mz_V fun rv h' => rv = .int (nI 0) ∧ mj_rd h' W = some (wrC W t c 1) ∧ wWy h' W (1, lt, nu, 0, 0) ∧ mz_mo [W, W + 6, W + 7] 0 0 h h') := by
  obtain ⟨lf, nf, a4, a5, _⟩ := hy
  refine s_aldn (p' := 1) rfl rfl rfl ?_
  refine s_con (p' := 2) rfl rfl ?_
  refine s_pf (p' := 5) (fs' := [_, _, _, _, _, _, _, _, _, _, _]) rfl (by omega) hW (Nat.blt_eq.mp rfl) rfl rfl rfl ?_
  refine s_aldn (p' := 6) rfl rfl rfl ?_
  refine s_gf (p' := 9) rfl (rd_set (by omega) hW) rfl rfl ?_
  refine s_con (p' := 10) rfl rfl ?_
  refine s_ildn (p' := 11) rfl rfl rfl ?_
  refine s_cas (p' := 12) rfl (by omega) ((rd_setn (by omega)).trans a4) (inb_nI (by omega) (by omega)) rfl ?_
  rw [mI_cl (by omega), ch_nar hl]
  refine s_aldn (p' := 13) rfl rfl rfl ?_
  refine s_gf (p' := 16) rfl ((rd_setn (by omega)).trans (rd_set (by omega) hW)) rfl rfl ?_
  refine s_con (p' := 17) rfl rfl ?_
  refine s_ildn (p' := 18) rfl rfl rfl ?_
  refine s_ias (p' := 19) rfl (by omega) ((rd_setn (by omega)).trans ((rd_setn (by omega)).trans a5)) (inb_nI (by omega) (by omega)) rfl ?_
  rw [mI_cl (by omega)]
  refine s_con (p' := 20) rfl rfl ?_
  refine s_iret rfl rfl ?_
  exact ⟨_, _, rfl, rfl, (rd_setn (by omega)).trans ((rd_setn (by omega)).trans (rd_set (by omega) hW)), ⟨_, _, (rd_setn (by omega)).trans (rd_set (by omega) ((rd_setn (by omega)).trans a4)), rd_set (by omega) ((rd_setn (by omega)).trans ((rd_setn (by omega)).trans a5)), by show 1 ≤ 2; decide, fun _ => ⟨rfl, rfl⟩, fun e => absurd (show 1 < 1 from e) (by decide)⟩, mz_mo.s (mz_mo.s (mz_mo.s (mz_mo.rf _ _ _ _) (by omega) hW rfl (Or.inl (by simp))) (by omega) ((rd_setn (by omega)).trans a4) rfl (Or.inl (by simp))) (by omega) ((rd_setn (by omega)).trans ((rd_setn (by omega)).trans a5)) rfl (Or.inl (by simp))⟩
/-- the top's place set -/
theorem wRn.gs {h : mj_H} {W p l c l1 : Nat} {w : Bool} {cp cl : Nat → Nat} {cw : Nat → Bool} (bW : W + 8 < mj_CB) (hR : wRn h W (p, l, c, w, cp, cl, cw)) {f : Nat → Int32} (a2 : mj_rd h (W + 4) = some (.inl (0, (21, .inl f)))) : wRn (h.set (W + 4) (.inl (0, (21, .inl (upd f c (nI l1)))))) W (p, l1, c, w, cp, cl, cw) := by
  obtain ⟨⟨f1, a1, b1⟩, ⟨f2, a2', b2⟩, f3, a3, b3⟩ := hR
  rw [a2] at a2'
  have e := (Sum.inl.inj (Prod.mk.inj (Prod.mk.inj (Sum.inl.inj (Option.some.inj a2'))).2).2)
  subst e
  refine ⟨⟨f1, (rd_setn (by omega)).trans a1, b1⟩, ⟨_, rd_set (by omega) a2, fun d hd => ?_, if_pos rfl⟩, f3, (rd_setn (by omega)).trans a3, b3⟩
  unfold upd
  rw [if_neg (by omega)]
  exact b2.1 d hd
theorem y_gos {h : mj_H} {W t p l c cn l1 : Nat} {w : Bool} {cp cl : Nat → Nat} {cw : Nat → Bool} (bW : W + 8 < mj_CB) (hc : c ≤ 20) (hW : mj_rd h W = some (wrC W t c cn)) (hR : wRn h W (p, l, c, w, cp, cl, cw)) : mj_Wp 0 391 (0, [some (.ref W), some (.int (nI l1))], [], h) (mz_V fun rv h' => rv = .int (nI 1) ∧ wRn h' W (p, l1, c, w, cp, cl, cw) ∧ mz_mo [W + 4] 0 0 h h') := by
  obtain ⟨_, ⟨f, a2, _, _⟩, _⟩ := id hR
  refine s_aldn (p' := 1) rfl rfl rfl ?_
  refine s_gf (p' := 4) rfl hW rfl rfl ?_
  refine s_aldn (p' := 5) rfl rfl rfl ?_
  refine s_gf (p' := 8) rfl hW rfl rfl ?_
  refine s_ildn (p' := 9) rfl rfl rfl ?_
  refine s_ias (p' := 10) rfl (by omega) a2 (inb_nI (by omega) (by omega)) rfl ?_
  rw [mI_cl (by omega)]
  refine s_con (p' := 11) rfl rfl ?_
  refine s_iret rfl rfl ?_
  exact ⟨_, _, rfl, rfl, hR.gs bW a2, mz_mo.s (mz_mo.rf _ _ _ _) (by omega) a2 rfl (Or.inl (by simp))⟩
theorem y_put {h : mj_H} {W c t : Nat} {v st : Nat → Int32} {z : CZ} (bW : W + 8 < mj_CB) (hW : mj_rd h W = some (wrC W t c z.1)) (hS : wSt h W (v, st, t)) (hy : wWy h W z) {a : Nat} (ha : a < 8) : mj_Wp 1 395 (0, [some (.ref W), some (.int (nI a))], [], h) (mz_V fun rv h' => ((∃ s' : SV, (if 20 ≤ t then .inr (1, 102, 20, 0, 0) else .inl (upd v a 0, upd st t (v a), t + 1) : SV ⊕ CZ) = .inl s' ∧ rv = .int (nI 1) ∧ mj_rd h' W = some (wrC W s'.2.2 c z.1) ∧ wSt h' W s' ∧ wWy h' W z) ∨ ∃ z' : CZ, (if 20 ≤ t then .inr (1, 102, 20, 0, 0) else .inl (upd v a 0, upd st t (v a), t + 1) : SV ⊕ CZ) = .inr z' ∧ rv = .int (nI 0) ∧ mj_rd h' W = some (wrC W t c z'.1) ∧ wSt h' W (v, st, t) ∧ wWy h' W z') ∧ mz_mo [W, W + 1, W + 2, W + 6, W + 7] 0 0 h h') := by
  have hS0 := hS
  obtain ⟨⟨vf, k1, k2⟩, ⟨tf, k3, k4⟩, k5⟩ := hS
  dsimp only at k2 k4 k5
  refine s_aldn (p' := 1) rfl rfl rfl ?_
  refine s_gf (p' := 4) rfl hW rfl rfl ?_
  refine s_bip (p' := 6) rfl rfl ?_
  by_cases qt : t = 20
  · refine s_icmp (p' := 9) false rfl ((ci_ne (by omega) (by omega)).trans (decide_eq_false (by omega))) rfl ?_
    refine s_aldn (p' := 10) rfl rfl rfl ?_
    refine s_bip (p' := 12) rfl rfl ?_
    refine s_bip (p' := 14) rfl rfl ?_
    refine s_callEV (p' := 17) (ls0 := [_, _, _]) rfl rfl rfl rfl rfl (mj_rcv_is hW) rfl (y_bks (lt := 102) (nu := 20) bW hW hy (by decide)) rfl rfl ?_
    rintro _ g ⟨rfl, w1, y1, m1⟩
    have s1 := hS0.fr m1.1 (by simp only [List.mem_cons, List.not_mem_nil, or_false]; omega) (by simp only [List.mem_cons, List.not_mem_nil, or_false]; omega)
    refine s_iret rfl rfl ?_
    exact ⟨_, _, rfl, Or.inr ⟨_, if_pos (by omega), rfl, w1, s1, y1⟩, m1.wk (fun y hy => Or.inl (by simp only [List.mem_cons, List.not_mem_nil, or_false] at hy ⊢; omega)) (Nat.le_refl _) (Nat.le_refl _)⟩
  · refine s_icmp (p' := 18) true rfl ((ci_ne (by omega) (by omega)).trans (decide_eq_true (by omega))) rfl ?_
    refine s_aldn (p' := 19) rfl rfl rfl ?_
    refine s_gf (p' := 22) rfl hW rfl rfl ?_
    refine s_aldn (p' := 23) rfl rfl rfl ?_
    refine s_gf (p' := 26) rfl hW rfl rfl ?_
    refine s_aldn (p' := 27) rfl rfl rfl ?_
    refine s_gf (p' := 30) rfl hW rfl rfl ?_
    refine s_ildn (p' := 31) rfl rfl rfl ?_
    refine s_ial (p' := 32) rfl k1 (inb_nI (by omega) (by omega)) rfl ?_
    rw [mI_cl (by omega), k2 a ha]
    refine s_ias (p' := 33) rfl (by omega) k3 (inb_nI (by omega) (by omega)) rfl ?_
    rw [mI_cl (by omega)]
    refine s_aldn (p' := 34) rfl rfl rfl ?_
    refine s_sp (p' := 35) (ls' := _) rfl rfl rfl ?_
    refine s_gf (p' := 38) rfl ((rd_setn (by omega)).trans hW) rfl rfl ?_
    refine s_con (p' := 39) rfl rfl ?_
    refine s_sp (p' := 40) (ls' := _) rfl rfl rfl ?_
    rw [mI_add]
    refine s_pf (p' := 43) (fs' := [_, _, _, _, _, _, _, _, _, _, _]) rfl (by omega) ((rd_setn (by omega)).trans hW) (Nat.blt_eq.mp rfl) rfl rfl rfl ?_
    refine s_aldn (p' := 44) rfl rfl rfl ?_
    refine s_gf (p' := 47) rfl (rd_set (by omega) ((rd_setn (by omega)).trans hW)) rfl rfl ?_
    refine s_ildn (p' := 48) rfl rfl rfl ?_
    refine s_con (p' := 49) rfl rfl ?_
    refine s_ias (p' := 50) rfl (by omega) ((rd_setn (by omega)).trans ((rd_setn (by omega)).trans k1)) (inb_nI (by omega) (by omega)) rfl ?_
    rw [mI_cl (by omega)]
    refine s_con (p' := 51) rfl rfl ?_
    refine s_iret rfl rfl ?_
    have m1 : mz_mo [W, W + 1, W + 2, W + 6, W + 7] 0 0 h _ := mz_mo.s (c := .inl (0, (8, .inl (upd vf a (nI 0))))) (mz_mo.s (c := wrC W (t + 1) c z.1) (mz_mo.s (c := .inl (0, (20, .inl (upd tf t (v a))))) (mz_mo.rf _ _ _ _) (by omega) k3 rfl (Or.inl (by simp))) (by omega) ((rd_setn (by omega)).trans hW) rfl (Or.inl (by simp))) (by omega) ((rd_setn (by omega)).trans ((rd_setn (by omega)).trans k1)) rfl (Or.inl (by simp))
    have f1 : mz_fr [W, W + 1, W + 2] h _ := ((mz_fr.rf [W, W + 1, W + 2] h).s (a := W + 2) (c := .inl (0, (20, .inl (upd tf t (v a))))) (by simp)).s (a := W) (c := wrC W (t + 1) c z.1) (by simp) |>.s (a := W + 1) (c := .inl (0, (8, .inl (upd vf a (nI 0))))) (by simp)
    refine ⟨_, _, rfl, Or.inl ⟨_, if_neg (by omega), rfl, (rd_setn (by omega)).trans (rd_set (by omega) ((rd_setn (by omega)).trans hW)), ⟨⟨_, rd_set (by omega) ((rd_setn (by omega)).trans ((rd_setn (by omega)).trans k1)), fun j hj => upd_ag (k2 j hj)⟩, ⟨_, (rd_setn (by omega)).trans ((rd_setn (by omega)).trans (rd_set (by omega) k3)), fun j hj => ?_⟩, by show t + 1 ≤ 20; omega⟩, hy.fr f1 (by simp) (by simp)⟩, m1⟩
    have hj : j < t + 1 := hj
    show upd tf t (v a) j = upd st t (v a) j
    unfold upd
    split
    · rfl
    · exact k4 j (by omega)
theorem y_tak {h : mj_H} {W c t : Nat} {v st : Nat → Int32} {z : CZ} (bW : W + 8 < mj_CB) (hW : mj_rd h W = some (wrC W t c z.1)) (hS : wSt h W (v, st, t)) (hy : wWy h W z) {a : Nat} (ha : a < 8) : mj_Wp 1 396 (0, [some (.ref W), some (.int (nI a))], [], h) (mz_V fun rv h' => ((∃ s' : SV, (if v a = 0 then (if t = 0 then .inr (1, 101, a, 0, 0) else .inl (upd v a (st (t - 1)), st, t - 1)) else .inr (1, 122, a, 0, 0) : SV ⊕ CZ) = .inl s' ∧ rv = .int (nI 1) ∧ mj_rd h' W = some (wrC W s'.2.2 c z.1) ∧ wSt h' W s' ∧ wWy h' W z) ∨ ∃ z' : CZ, (if v a = 0 then (if t = 0 then .inr (1, 101, a, 0, 0) else .inl (upd v a (st (t - 1)), st, t - 1)) else .inr (1, 122, a, 0, 0) : SV ⊕ CZ) = .inr z' ∧ rv = .int (nI 0) ∧ mj_rd h' W = some (wrC W t c z'.1) ∧ wSt h' W (v, st, t) ∧ wWy h' W z') ∧ mz_mo [W, W + 1, W + 2, W + 6, W + 7] 0 0 h h') := by
  have hS0 := hS
  obtain ⟨⟨vf, k1, k2⟩, ⟨tf, k3, k4⟩, k5⟩ := hS
  dsimp only at k2 k4 k5
  refine s_aldn (p' := 1) rfl rfl rfl ?_
  refine s_gf (p' := 4) rfl hW rfl rfl ?_
  refine s_ildn (p' := 5) rfl rfl rfl ?_
  refine s_ial (p' := 6) rfl k1 (inb_nI (by omega) (by omega)) rfl ?_
  rw [mI_cl (by omega), k2 a ha]
  by_cases qv : v a = 0
  · refine s_if (p' := 17) true rfl (decide_eq_true qv) rfl ?_
    refine s_aldn (p' := 18) rfl rfl rfl ?_
    refine s_gf (p' := 21) rfl hW rfl rfl ?_
    by_cases qt : t = 0
    · refine s_if (p' := 24) false rfl ((cz_ne (by omega)).trans (decide_eq_false (by omega))) rfl ?_
      refine s_aldn (p' := 25) rfl rfl rfl ?_
      refine s_bip (p' := 27) rfl rfl ?_
      refine s_ildn (p' := 28) rfl rfl rfl ?_
      refine s_callEV (p' := 31) (ls0 := [_, _, _]) rfl rfl rfl rfl rfl (mj_rcv_is hW) rfl (y_bks (lt := 101) (nu := a) bW hW hy (by decide)) rfl rfl ?_
      rintro _ g ⟨rfl, w1, y1, m1⟩
      have s1 := hS0.fr m1.1 (by simp only [List.mem_cons, List.not_mem_nil, or_false]; omega) (by simp only [List.mem_cons, List.not_mem_nil, or_false]; omega)
      refine s_iret rfl rfl ?_
      exact ⟨_, _, rfl, Or.inr ⟨_, (if_pos qv).trans (if_pos qt), rfl, w1, s1, y1⟩, m1.wk (fun y hy => Or.inl (by simp only [List.mem_cons, List.not_mem_nil, or_false] at hy ⊢; omega)) (Nat.le_refl _) (Nat.le_refl _)⟩
    · refine s_if (p' := 32) true rfl ((cz_ne (by omega)).trans (decide_eq_true (by omega))) rfl ?_
      refine s_aldn (p' := 33) rfl rfl rfl ?_
      refine s_sp (p' := 34) (ls' := _) rfl rfl rfl ?_
      refine s_gf (p' := 37) rfl hW rfl rfl ?_
      refine s_con (p' := 38) rfl rfl ?_
      refine s_sp (p' := 39) (ls' := _) rfl rfl rfl ?_
      rw [mI_sub (by omega)]
      refine s_pf (p' := 42) (fs' := [_, _, _, _, _, _, _, _, _, _, _]) rfl (by omega) hW (Nat.blt_eq.mp rfl) rfl rfl rfl ?_
      refine s_aldn (p' := 43) rfl rfl rfl ?_
      refine s_gf (p' := 46) rfl (rd_set (by omega) hW) rfl rfl ?_
      refine s_ildn (p' := 47) rfl rfl rfl ?_
      refine s_aldn (p' := 48) rfl rfl rfl ?_
      refine s_gf (p' := 51) rfl (rd_set (by omega) hW) rfl rfl ?_
      refine s_aldn (p' := 52) rfl rfl rfl ?_
      refine s_gf (p' := 55) rfl (rd_set (by omega) hW) rfl rfl ?_
      refine s_ial (p' := 56) rfl ((rd_setn (by omega)).trans k3) (inb_nI (by omega) (by omega)) rfl ?_
      rw [mI_cl (by omega), k4 (t - 1) (by omega)]
      refine s_ias (p' := 57) rfl (by omega) ((rd_setn (by omega)).trans k1) (inb_nI (by omega) (by omega)) rfl ?_
      rw [mI_cl (by omega)]
      refine s_con (p' := 58) rfl rfl ?_
      refine s_iret rfl rfl ?_
      have f1 : mz_fr [W, W + 1] h _ := ((mz_fr.rf [W, W + 1] h).s (a := W) (c := wrC W (t - 1) c z.1) (by simp)).s (a := W + 1) (c := .inl (0, (8, .inl (upd vf a (st (t - 1)))))) (by simp)
      exact ⟨_, _, rfl, Or.inl ⟨_, (if_pos qv).trans (if_neg qt), rfl, (rd_setn (by omega)).trans (rd_set (by omega) hW), ⟨⟨_, rd_set (by omega) ((rd_setn (by omega)).trans k1), fun j hj => upd_ag (k2 j hj)⟩, ⟨tf, (rd_setn (by omega)).trans ((rd_setn (by omega)).trans k3), fun j hj => k4 j (by have hj : j < t - 1 := hj; omega)⟩, by show t - 1 ≤ 20; omega⟩, hy.fr f1 (by simp) (by simp)⟩, mz_mo.s (mz_mo.s (mz_mo.rf _ _ _ _) (by omega) hW rfl (Or.inl (by simp))) (by omega) ((rd_setn (by omega)).trans k1) rfl (Or.inl (by simp))⟩
  · refine s_if (p' := 9) false rfl (decide_eq_false qv) rfl ?_
    refine s_aldn (p' := 10) rfl rfl rfl ?_
    refine s_bip (p' := 12) rfl rfl ?_
    refine s_ildn (p' := 13) rfl rfl rfl ?_
    refine s_callEV (p' := 16) (ls0 := [_, _, _]) rfl rfl rfl rfl rfl (mj_rcv_is hW) rfl (y_bks (lt := 122) (nu := a) bW hW hy (by decide)) rfl rfl ?_
    rintro _ g ⟨rfl, w1, y1, m1⟩
    have s1 := hS0.fr m1.1 (by simp only [List.mem_cons, List.not_mem_nil, or_false]; omega) (by simp only [List.mem_cons, List.not_mem_nil, or_false]; omega)
    refine s_iret rfl rfl ?_
    exact ⟨_, _, rfl, Or.inr ⟨_, if_neg qv, rfl, w1, s1, y1⟩, m1.wk (fun y hy => Or.inl (by simp only [List.mem_cons, List.not_mem_nil, or_false] at hy ⊢; omega)) (Nat.le_refl _) (Nat.le_refl _)⟩
theorem sub_neg (a b : Int32) : a + -b = a - b := (Int32.sub_eq_add_neg a b).symm
theorem wSt.v {h : mj_H} {W t : Nat} {v st v2 : Nat → Int32} {vf : Nat → Int32} (bW : W + 8 < mj_CB) (hS : wSt h W (v, st, t)) (k1 : mj_rd h (W + 1) = some (.inl (0, (8, .inl vf)))) {vf2 : Nat → Int32} (h2 : ∀ j, j < 8 → vf2 j = v2 j) : wSt (h.set (W + 1) (.inl (0, (8, .inl vf2)))) W (v2, st, t) := by
  obtain ⟨_, ⟨tf, k3, k4⟩, k5⟩ := hS
  exact ⟨⟨vf2, rd_set (by omega) k1, h2⟩, ⟨tf, (rd_setn (by omega)).trans k3, k4⟩, k5⟩
theorem lsw3 {c pc : Nat} {ls : mj_L} {st : List Value} {e : Nat × Nat × Nat} (hc : c < 200) (h3 : c ≠ 43) (h4 : c ≠ 45) (h7 : c ≠ 94) (h8 : c ≠ 126) : mj_sp (.lookupswitch 161 #[(43, 44), (45, 44), (94, 94), (126, 119)], e) pc ls (.int (nI c) :: st) = some (mj_jmp pc 161, ls, st) := by
  show some (mj_jmp pc (Op.lookupswitch.offset [(43, 44), (45, 44), (94, 94), (126, 119)] 161 (nI c).toInt), ls, st) = _
  rw [mI_ti (by omega)]
  have e3 : (c : Int) ≠ 43 := by omega
  have e4 : (c : Int) ≠ 45 := by omega
  have e7 : (c : Int) ≠ 94 := by omega
  have e8 : (c : Int) ≠ 126 := by omega
  generalize (c : Int) = z at e3 e4 e7 e8 ⊢
  simp [Op.lookupswitch.offset, e3, e4, e7, e8, Ne.symm e3, Ne.symm e4, Ne.symm e7, Ne.symm e8]
theorem y_chg {h : mj_H} {W c t : Nat} {v st : Nat → Int32} {z : CZ} (bW : W + 8 < mj_CB) (hW : mj_rd h W = some (wrC W t c z.1)) (hS : wSt h W (v, st, t)) (hy : wWy h W z) {p : Nat} {w : Bool} {I : Nat → Prop} {A : Nat → Nat} (hsim : ySim I h A p) (h0 : A 0 = 33 ∨ A 0 = 63 ∨ A 0 = 126 ∨ A 0 = 43 ∨ A 0 = 45 ∨ A 0 = 94) (h1 : A 1 < 8) (hsm0 : (A 0 = 43 ∨ A 0 = 45 ∨ A 0 = 94) → (A 3 = 32 ∨ A 3 = 43 ∨ A 3 = 45 ∨ A 3 = 42 ∨ A 3 = 38)) : mj_Wp 2 393 (0, [some (.ref W), some (.ref p), some (.int (nI (bN w))), none, none], [], h) (mz_V fun rv h' => ((∃ s' : SV, stS A w (v, st, t) = .inl s' ∧ rv = .int (nI 1) ∧ mj_rd h' W = some (wrC W s'.2.2 c z.1) ∧ wSt h' W s' ∧ wWy h' W z) ∨ ∃ z' : CZ, stS A w (v, st, t) = .inr z' ∧ rv = .int (nI 0) ∧ mj_rd h' W = some (wrC W t c z'.1) ∧ wSt h' W (v, st, t) ∧ wWy h' W z') ∧ mz_mo [W, W + 1, W + 2, W + 6, W + 7] 0 0 h h') := by
  have hS0 := hS
  obtain ⟨⟨vf, k1, k2⟩, ⟨tf, k3, k4⟩, k5⟩ := hS
  dsimp only at k2 k4 k5
  obtain ⟨_, _, b_, v_, hp, hsw0, hu0, _⟩ := hsim
  have hsw := fun (_ : Nat) => hsw0
  have hu := fun (_ : Nat) => hu0
  have hsm := fun (_ : Nat) => hsm0
  clear hsw0 hu0 hsm0
  cases w with
  | true =>
    refine s_aldn (p' := 1) rfl rfl rfl ?_
    refine s_gf (p' := 4) rfl hp rfl rfl ?_
    by_cases n43 : A 0 = 43
    · rw [n43]
      refine s_sp (p' := 48) (ls' := _) rfl rfl rfl ?_
      obtain ⟨S_, rfl, su⟩ := hu 0 (by omega)
      have hm := hsm 0 (by omega)
      obtain ⟨gs_, hsc⟩ : ∃ gs, mj_rd h S_ = some (.inr (25, gs)) := by
        obtain ⟨_, _, _, _, _, _, z1, _⟩ := su
        exact ⟨_, z1.1⟩
      refine s_aldn (p' := 49) rfl rfl rfl ?_
      refine s_gf (p' := 52) rfl hp rfl rfl ?_
      refine s_aldn (p' := 53) rfl rfl rfl ?_
      refine s_gf (p' := 56) rfl hW rfl rfl ?_
      refine s_callV (p' := 59) (ls0 := [_, _, _, _]) rfl rfl rfl rfl rfl (mj_rcv_is hsc) rfl (y_vlu su k1 k2 hm) (by first | decide | omega) rfl ?_
      refine s_istn (p' := 60) (ls' := [_, _, _, _, _]) rfl rfl rfl rfl ?_
      refine s_aldn (p' := 61) rfl rfl rfl ?_
      refine s_gf (p' := 64) rfl hW rfl rfl ?_
      refine s_aldn (p' := 65) rfl rfl rfl ?_
      refine s_gf (p' := 68) rfl hp rfl rfl ?_
      refine s_sp (p' := 69) (ls' := _) rfl rfl rfl ?_
      refine s_ial (p' := 70) rfl k1 (inb_nI (by omega) (by omega)) rfl ?_
      rw [mI_cl (by omega), k2 _ (by omega)]
      refine s_aldn (p' := 71) rfl rfl rfl ?_
      refine s_gf (p' := 74) rfl hp rfl rfl ?_
      refine s_bip (p' := 76) rfl rfl ?_
      by_cases q43 : A 0 = 43
      · refine s_icmp (p' := 79) false rfl ((ci_ne (by omega) (by omega)).trans (decide_eq_false (by omega))) rfl ?_
        refine s_con (p' := 80) rfl rfl ?_
        refine s_goto (p' := 84) rfl rfl ?_
        refine s_ildn (p' := 85) rfl rfl rfl ?_
        refine s_icmp (p' := 88) false rfl (by decide +kernel) rfl ?_
        refine s_ildn (p' := 89) rfl rfl rfl ?_
        refine s_goto (p' := 94) rfl rfl ?_
        refine s_sp (p' := 95) (ls' := _) rfl rfl rfl ?_
        refine s_ias (p' := 96) rfl (by omega) k1 (inb_nI (by omega) (by omega)) rfl ?_
        rw [mI_cl (by omega)]
        refine s_con (p' := 97) rfl rfl ?_
        refine s_iret rfl rfl ?_
        have f1 : mz_fr [W + 1] h (h.set (W + 1) (.inl (0, (8, .inl (upd vf (A 1) (v (A 1) + sml v A)))))) := mz_fr.s (by simp) (mz_fr.rf _ _)
        exact ⟨_, _, rfl, Or.inl ⟨_, ((if_pos (by omega)).trans (by rw [show nwv (A 0) true (v (A 1)) (sml v A) = v (A 1) + sml v A from by unfold nwv; rw [if_neg (by omega), if_pos (by rw [decide_eq_true q43] <;> decide)]])), rfl, (rd_setn (by omega)).trans hW, hS0.v bW k1 (fun j hj => upd_ag (k2 j hj)), hy.fr f1 (by simp) (by simp)⟩, mz_mo.s (mz_mo.rf _ _ _ _) (by omega) k1 rfl (Or.inl (by simp))⟩
      · refine s_icmp (p' := 83) true rfl ((ci_ne (by omega) (by omega)).trans (decide_eq_true (by omega))) rfl ?_
        refine s_con (p' := 84) rfl rfl ?_
        refine s_ildn (p' := 85) rfl rfl rfl ?_
        refine s_icmp (p' := 92) true rfl (by decide +kernel) rfl ?_
        refine s_ildn (p' := 93) rfl rfl rfl ?_
        refine s_sp (p' := 94) (ls' := _) rfl rfl rfl ?_
        refine s_sp (p' := 95) (ls' := _) rfl rfl rfl ?_
        rw [sub_neg]
        refine s_ias (p' := 96) rfl (by omega) k1 (inb_nI (by omega) (by omega)) rfl ?_
        rw [mI_cl (by omega)]
        refine s_con (p' := 97) rfl rfl ?_
        refine s_iret rfl rfl ?_
        have f1 : mz_fr [W + 1] h (h.set (W + 1) (.inl (0, (8, .inl (upd vf (A 1) (v (A 1) - sml v A)))))) := mz_fr.s (by simp) (mz_fr.rf _ _)
        exact ⟨_, _, rfl, Or.inl ⟨_, ((if_pos (by omega)).trans (by rw [show nwv (A 0) true (v (A 1)) (sml v A) = v (A 1) - sml v A from by unfold nwv; rw [if_neg (by omega), if_neg (by rw [decide_eq_false q43] <;> decide)]])), rfl, (rd_setn (by omega)).trans hW, hS0.v bW k1 (fun j hj => upd_ag (k2 j hj)), hy.fr f1 (by simp) (by simp)⟩, mz_mo.s (mz_mo.rf _ _ _ _) (by omega) k1 rfl (Or.inl (by simp))⟩
    · by_cases n45 : A 0 = 45
      · rw [n45]
        refine s_sp (p' := 48) (ls' := _) rfl rfl rfl ?_
        obtain ⟨S_, rfl, su⟩ := hu 0 (by omega)
        have hm := hsm 0 (by omega)
        obtain ⟨gs_, hsc⟩ : ∃ gs, mj_rd h S_ = some (.inr (25, gs)) := by
          obtain ⟨_, _, _, _, _, _, z1, _⟩ := su
          exact ⟨_, z1.1⟩
        refine s_aldn (p' := 49) rfl rfl rfl ?_
        refine s_gf (p' := 52) rfl hp rfl rfl ?_
        refine s_aldn (p' := 53) rfl rfl rfl ?_
        refine s_gf (p' := 56) rfl hW rfl rfl ?_
        refine s_callV (p' := 59) (ls0 := [_, _, _, _]) rfl rfl rfl rfl rfl (mj_rcv_is hsc) rfl (y_vlu su k1 k2 hm) (by first | decide | omega) rfl ?_
        refine s_istn (p' := 60) (ls' := [_, _, _, _, _]) rfl rfl rfl rfl ?_
        refine s_aldn (p' := 61) rfl rfl rfl ?_
        refine s_gf (p' := 64) rfl hW rfl rfl ?_
        refine s_aldn (p' := 65) rfl rfl rfl ?_
        refine s_gf (p' := 68) rfl hp rfl rfl ?_
        refine s_sp (p' := 69) (ls' := _) rfl rfl rfl ?_
        refine s_ial (p' := 70) rfl k1 (inb_nI (by omega) (by omega)) rfl ?_
        rw [mI_cl (by omega), k2 _ (by omega)]
        refine s_aldn (p' := 71) rfl rfl rfl ?_
        refine s_gf (p' := 74) rfl hp rfl rfl ?_
        refine s_bip (p' := 76) rfl rfl ?_
        by_cases q43 : A 0 = 43
        · refine s_icmp (p' := 79) false rfl ((ci_ne (by omega) (by omega)).trans (decide_eq_false (by omega))) rfl ?_
          refine s_con (p' := 80) rfl rfl ?_
          refine s_goto (p' := 84) rfl rfl ?_
          refine s_ildn (p' := 85) rfl rfl rfl ?_
          refine s_icmp (p' := 88) false rfl (by decide +kernel) rfl ?_
          refine s_ildn (p' := 89) rfl rfl rfl ?_
          refine s_goto (p' := 94) rfl rfl ?_
          refine s_sp (p' := 95) (ls' := _) rfl rfl rfl ?_
          refine s_ias (p' := 96) rfl (by omega) k1 (inb_nI (by omega) (by omega)) rfl ?_
          rw [mI_cl (by omega)]
          refine s_con (p' := 97) rfl rfl ?_
          refine s_iret rfl rfl ?_
          have f1 : mz_fr [W + 1] h (h.set (W + 1) (.inl (0, (8, .inl (upd vf (A 1) (v (A 1) + sml v A)))))) := mz_fr.s (by simp) (mz_fr.rf _ _)
          exact ⟨_, _, rfl, Or.inl ⟨_, ((if_pos (by omega)).trans (by rw [show nwv (A 0) true (v (A 1)) (sml v A) = v (A 1) + sml v A from by unfold nwv; rw [if_neg (by omega), if_pos (by rw [decide_eq_true q43] <;> decide)]])), rfl, (rd_setn (by omega)).trans hW, hS0.v bW k1 (fun j hj => upd_ag (k2 j hj)), hy.fr f1 (by simp) (by simp)⟩, mz_mo.s (mz_mo.rf _ _ _ _) (by omega) k1 rfl (Or.inl (by simp))⟩
        · refine s_icmp (p' := 83) true rfl ((ci_ne (by omega) (by omega)).trans (decide_eq_true (by omega))) rfl ?_
          refine s_con (p' := 84) rfl rfl ?_
          refine s_ildn (p' := 85) rfl rfl rfl ?_
          refine s_icmp (p' := 92) true rfl (by decide +kernel) rfl ?_
          refine s_ildn (p' := 93) rfl rfl rfl ?_
          refine s_sp (p' := 94) (ls' := _) rfl rfl rfl ?_
          refine s_sp (p' := 95) (ls' := _) rfl rfl rfl ?_
          rw [sub_neg]
          refine s_ias (p' := 96) rfl (by omega) k1 (inb_nI (by omega) (by omega)) rfl ?_
          rw [mI_cl (by omega)]
          refine s_con (p' := 97) rfl rfl ?_
          refine s_iret rfl rfl ?_
          have f1 : mz_fr [W + 1] h (h.set (W + 1) (.inl (0, (8, .inl (upd vf (A 1) (v (A 1) - sml v A)))))) := mz_fr.s (by simp) (mz_fr.rf _ _)
          exact ⟨_, _, rfl, Or.inl ⟨_, ((if_pos (by omega)).trans (by rw [show nwv (A 0) true (v (A 1)) (sml v A) = v (A 1) - sml v A from by unfold nwv; rw [if_neg (by omega), if_neg (by rw [decide_eq_false q43] <;> decide)]])), rfl, (rd_setn (by omega)).trans hW, hS0.v bW k1 (fun j hj => upd_ag (k2 j hj)), hy.fr f1 (by simp) (by simp)⟩, mz_mo.s (mz_mo.rf _ _ _ _) (by omega) k1 rfl (Or.inl (by simp))⟩
      · by_cases n94 : A 0 = 94
        · rw [n94]
          refine s_sp (p' := 98) (ls' := _) rfl rfl rfl ?_
          obtain ⟨S_, rfl, su⟩ := hu 0 (by omega)
          have hm := hsm 0 (by omega)
          obtain ⟨gs_, hsc⟩ : ∃ gs, mj_rd h S_ = some (.inr (25, gs)) := by
            obtain ⟨_, _, _, _, _, _, z1, _⟩ := su
            exact ⟨_, z1.1⟩
          refine s_aldn (p' := 99) rfl rfl rfl ?_
          refine s_gf (p' := 102) rfl hW rfl rfl ?_
          refine s_aldn (p' := 103) rfl rfl rfl ?_
          refine s_gf (p' := 106) rfl hp rfl rfl ?_
          refine s_sp (p' := 107) (ls' := _) rfl rfl rfl ?_
          refine s_ial (p' := 108) rfl k1 (inb_nI (by omega) (by omega)) rfl ?_
          rw [mI_cl (by omega), k2 _ (by omega)]
          refine s_aldn (p' := 109) rfl rfl rfl ?_
          refine s_gf (p' := 112) rfl hp rfl rfl ?_
          refine s_aldn (p' := 113) rfl rfl rfl ?_
          refine s_gf (p' := 116) rfl hW rfl rfl ?_
          refine s_callV (p' := 119) (ls0 := [_, _, _, _]) rfl rfl rfl rfl rfl (mj_rcv_is hsc) rfl (y_vlu su k1 k2 hm) (by first | decide | omega) rfl ?_
          refine s_sp (p' := 120) (ls' := _) rfl rfl rfl ?_
          refine s_ias (p' := 121) rfl (by omega) k1 (inb_nI (by omega) (by omega)) rfl ?_
          rw [mI_cl (by omega)]
          refine s_con (p' := 122) rfl rfl ?_
          refine s_iret rfl rfl ?_
          have f1 : mz_fr [W + 1] h (h.set (W + 1) (.inl (0, (8, .inl (upd vf (A 1) (v (A 1) ^^^ sml v A)))))) := mz_fr.s (by simp) (mz_fr.rf _ _)
          exact ⟨_, _, rfl, Or.inl ⟨_, ((if_pos (by omega)).trans (by rw [show nwv (A 0) true (v (A 1)) (sml v A) = v (A 1) ^^^ sml v A from by unfold nwv; rw [if_pos (by omega)]])), rfl, (rd_setn (by omega)).trans hW, hS0.v bW k1 (fun j hj => upd_ag (k2 j hj)), hy.fr f1 (by simp) (by simp)⟩, mz_mo.s (mz_mo.rf _ _ _ _) (by omega) k1 rfl (Or.inl (by simp))⟩
        · by_cases n126 : A 0 = 126
          · rw [n126]
            refine s_sp (p' := 123) (ls' := _) rfl rfl rfl ?_
            obtain ⟨w0, hw0, hw2, rfl⟩ := hsw 0 (by omega)
            have hpn : W + 1 ≠ p := fun e => by rw [← e, k1] at hp; cases hp
            have f1 : mz_fr [W + 1] h (h.set (W + 1) (.inl (0, (8, .inl (upd vf (A 1) (v w0)))))) := mz_fr.s (by simp) (mz_fr.rf _ _)
            have f2 : mz_fr [W + 1] h ((h.set (W + 1) (.inl (0, (8, .inl (upd vf (A 1) (v w0)))))).set (W + 1) (.inl (0, (8, .inl (upd (upd vf (A 1) (v w0)) w0 (v (A 1))))))) := f1.s (by simp)
            refine s_aldn (p' := 124) rfl rfl rfl ?_
            refine s_gf (p' := 127) rfl hW rfl rfl ?_
            refine s_aldn (p' := 128) rfl rfl rfl ?_
            refine s_gf (p' := 131) rfl hp rfl rfl ?_
            refine s_ial (p' := 132) rfl k1 (inb_nI (by omega) (by omega)) rfl ?_
            rw [mI_cl (by omega), k2 _ (by omega)]
            refine s_ist (p' := 134) (ls' := [_, _, _, _, _]) rfl rfl rfl rfl ?_
            refine s_aldn (p' := 135) rfl rfl rfl ?_
            refine s_gf (p' := 138) rfl hW rfl rfl ?_
            refine s_aldn (p' := 139) rfl rfl rfl ?_
            refine s_gf (p' := 142) rfl hp rfl rfl ?_
            refine s_aldn (p' := 143) rfl rfl rfl ?_
            refine s_gf (p' := 146) rfl hW rfl rfl ?_
            refine s_aldn (p' := 147) rfl rfl rfl ?_
            refine s_gf (p' := 150) rfl hp rfl rfl ?_
            refine s_ial (p' := 151) rfl k1 (inb_nI (by omega) (by omega)) rfl ?_
            rw [mI_cl (by omega), k2 _ hw0]
            refine s_ias (p' := 152) rfl (by omega) k1 (inb_nI (by omega) (by omega)) rfl ?_
            rw [mI_cl (by omega)]
            refine s_aldn (p' := 153) rfl rfl rfl ?_
            refine s_gf (p' := 156) rfl ((rd_setn (by omega)).trans hW) rfl rfl ?_
            refine s_aldn (p' := 157) rfl rfl rfl ?_
            refine s_gf (p' := 160) rfl ((rd_setn hpn).trans hp) rfl rfl ?_
            refine s_ild (p' := 162) rfl rfl rfl ?_
            refine s_ias (p' := 163) rfl (by omega) (rd_set (by omega) k1) (inb_nI (by omega) (by omega)) rfl ?_
            rw [mI_cl (by omega)]
            refine s_con (p' := 164) rfl rfl ?_
            refine s_iret rfl rfl ?_
            exact ⟨_, _, rfl, Or.inl ⟨(upd (upd v (A 1) (v w0)) w0 (v (A 1)), st, t), (if_neg (by omega)).trans ((if_pos (by omega)).trans (by rw [hw2, show 4294967295 - vT w0 = w0 by unfold vT; omega])), rfl, (rd_setn (by omega)).trans ((rd_setn (by omega)).trans hW), (hS0.v (v2 := upd v (A 1) (v w0)) bW k1 (fun j hj => upd_ag (k2 j hj))).v bW (rd_set (by omega) k1) (fun j hj => upd_ag (upd_ag (k2 j hj))), hy.fr f2 (by simp) (by simp)⟩, mz_mo.s (mz_mo.s (mz_mo.rf _ _ _ _) (by omega) k1 rfl (Or.inl (by simp))) (by omega) (rd_set (by omega) k1) rfl (Or.inl (by simp))⟩
          · refine s_sp (p' := 165) (ls' := _) rfl rfl (lsw3 (by omega) n43 n45 n94 n126) ?_
            refine s_aldn (p' := 166) rfl rfl rfl ?_
            refine s_gf (p' := 169) rfl hp rfl rfl ?_
            refine s_bip (p' := 171) rfl rfl ?_
            by_cases q33 : A 0 = 33
            · refine s_icmp (p' := 174) false rfl ((ci_ne (by omega) (by omega)).trans (decide_eq_false (by omega))) rfl ?_
              refine s_con (p' := 175) rfl rfl ?_
              refine s_goto (p' := 179) rfl rfl ?_
              refine s_ildn (p' := 180) rfl rfl rfl ?_
              refine s_icmp (p' := 183) false rfl (by decide +kernel) rfl ?_
              refine s_aldn (p' := 184) rfl rfl rfl ?_
              refine s_aldn (p' := 185) rfl rfl rfl ?_
              refine s_gf (p' := 188) rfl (by repeat (first | assumption | refine rd_app ?_ | rw [rd_setn (by first | assumption | omega)] | apply rd_set (by first | assumption | decide))) rfl rfl ?_
              refine s_callEV (p' := 191) (ls0 := [_, _]) rfl rfl rfl rfl rfl (mj_rcv_is hW) rfl (y_put bW hW hS0 hy (by omega)) rfl rfl ?_
              rintro rv g ⟨q1_ | q1_, m1⟩
              · obtain ⟨s', e', rfl, w1, s1, y1⟩ := q1_
                refine s_goto (p' := 202) rfl rfl ?_
                refine s_iret rfl rfl ?_
                exact ⟨_, _, rfl, Or.inl ⟨s', (stS_put (Or.inl ⟨q33, rfl⟩)).trans e', rfl, w1, s1, y1⟩, m1⟩
              · obtain ⟨z', e', rfl, w1, s1, y1⟩ := q1_
                refine s_goto (p' := 202) rfl rfl ?_
                refine s_iret rfl rfl ?_
                exact ⟨_, _, rfl, Or.inr ⟨z', (stS_put (Or.inl ⟨q33, rfl⟩)).trans e', rfl, w1, s1, y1⟩, m1⟩
            · refine s_icmp (p' := 178) true rfl ((ci_ne (by omega) (by omega)).trans (decide_eq_true (by omega))) rfl ?_
              refine s_con (p' := 179) rfl rfl ?_
              refine s_ildn (p' := 180) rfl rfl rfl ?_
              refine s_icmp (p' := 194) true rfl (by decide +kernel) rfl ?_
              refine s_aldn (p' := 195) rfl rfl rfl ?_
              refine s_aldn (p' := 196) rfl rfl rfl ?_
              refine s_gf (p' := 199) rfl (by repeat (first | assumption | refine rd_app ?_ | rw [rd_setn (by first | assumption | omega)] | apply rd_set (by first | assumption | decide))) rfl rfl ?_
              refine s_callEV (p' := 202) (ls0 := [_, _]) rfl rfl rfl rfl rfl (mj_rcv_is hW) rfl (y_tak bW hW hS0 hy (by omega)) rfl rfl ?_
              rintro rv g ⟨q1_ | q1_, m1⟩
              · obtain ⟨s', e', rfl, w1, s1, y1⟩ := q1_
                refine s_iret rfl rfl ?_
                exact ⟨_, _, rfl, Or.inl ⟨s', (stS_tak (Or.inr ⟨by omega, rfl⟩)).trans e', rfl, w1, s1, y1⟩, m1⟩
              · obtain ⟨z', e', rfl, w1, s1, y1⟩ := q1_
                refine s_iret rfl rfl ?_
                exact ⟨_, _, rfl, Or.inr ⟨z', (stS_tak (Or.inr ⟨by omega, rfl⟩)).trans e', rfl, w1, s1, y1⟩, m1⟩
  | false =>
    refine s_aldn (p' := 1) rfl rfl rfl ?_
    refine s_gf (p' := 4) rfl hp rfl rfl ?_
    by_cases n43 : A 0 = 43
    · rw [n43]
      refine s_sp (p' := 48) (ls' := _) rfl rfl rfl ?_
      obtain ⟨S_, rfl, su⟩ := hu 0 (by omega)
      have hm := hsm 0 (by omega)
      obtain ⟨gs_, hsc⟩ : ∃ gs, mj_rd h S_ = some (.inr (25, gs)) := by
        obtain ⟨_, _, _, _, _, _, z1, _⟩ := su
        exact ⟨_, z1.1⟩
      refine s_aldn (p' := 49) rfl rfl rfl ?_
      refine s_gf (p' := 52) rfl hp rfl rfl ?_
      refine s_aldn (p' := 53) rfl rfl rfl ?_
      refine s_gf (p' := 56) rfl hW rfl rfl ?_
      refine s_callV (p' := 59) (ls0 := [_, _, _, _]) rfl rfl rfl rfl rfl (mj_rcv_is hsc) rfl (y_vlu su k1 k2 hm) (by first | decide | omega) rfl ?_
      refine s_istn (p' := 60) (ls' := [_, _, _, _, _]) rfl rfl rfl rfl ?_
      refine s_aldn (p' := 61) rfl rfl rfl ?_
      refine s_gf (p' := 64) rfl hW rfl rfl ?_
      refine s_aldn (p' := 65) rfl rfl rfl ?_
      refine s_gf (p' := 68) rfl hp rfl rfl ?_
      refine s_sp (p' := 69) (ls' := _) rfl rfl rfl ?_
      refine s_ial (p' := 70) rfl k1 (inb_nI (by omega) (by omega)) rfl ?_
      rw [mI_cl (by omega), k2 _ (by omega)]
      refine s_aldn (p' := 71) rfl rfl rfl ?_
      refine s_gf (p' := 74) rfl hp rfl rfl ?_
      refine s_bip (p' := 76) rfl rfl ?_
      by_cases q43 : A 0 = 43
      · refine s_icmp (p' := 79) false rfl ((ci_ne (by omega) (by omega)).trans (decide_eq_false (by omega))) rfl ?_
        refine s_con (p' := 80) rfl rfl ?_
        refine s_goto (p' := 84) rfl rfl ?_
        refine s_ildn (p' := 85) rfl rfl rfl ?_
        refine s_icmp (p' := 92) true rfl (by decide +kernel) rfl ?_
        refine s_ildn (p' := 93) rfl rfl rfl ?_
        refine s_sp (p' := 94) (ls' := _) rfl rfl rfl ?_
        refine s_sp (p' := 95) (ls' := _) rfl rfl rfl ?_
        rw [sub_neg]
        refine s_ias (p' := 96) rfl (by omega) k1 (inb_nI (by omega) (by omega)) rfl ?_
        rw [mI_cl (by omega)]
        refine s_con (p' := 97) rfl rfl ?_
        refine s_iret rfl rfl ?_
        have f1 : mz_fr [W + 1] h (h.set (W + 1) (.inl (0, (8, .inl (upd vf (A 1) (v (A 1) - sml v A)))))) := mz_fr.s (by simp) (mz_fr.rf _ _)
        exact ⟨_, _, rfl, Or.inl ⟨_, ((if_pos (by omega)).trans (by rw [show nwv (A 0) false (v (A 1)) (sml v A) = v (A 1) - sml v A from by unfold nwv; rw [if_neg (by omega), if_neg (by rw [decide_eq_true q43] <;> decide)]])), rfl, (rd_setn (by omega)).trans hW, hS0.v bW k1 (fun j hj => upd_ag (k2 j hj)), hy.fr f1 (by simp) (by simp)⟩, mz_mo.s (mz_mo.rf _ _ _ _) (by omega) k1 rfl (Or.inl (by simp))⟩
      · refine s_icmp (p' := 83) true rfl ((ci_ne (by omega) (by omega)).trans (decide_eq_true (by omega))) rfl ?_
        refine s_con (p' := 84) rfl rfl ?_
        refine s_ildn (p' := 85) rfl rfl rfl ?_
        refine s_icmp (p' := 88) false rfl (by decide +kernel) rfl ?_
        refine s_ildn (p' := 89) rfl rfl rfl ?_
        refine s_goto (p' := 94) rfl rfl ?_
        refine s_sp (p' := 95) (ls' := _) rfl rfl rfl ?_
        refine s_ias (p' := 96) rfl (by omega) k1 (inb_nI (by omega) (by omega)) rfl ?_
        rw [mI_cl (by omega)]
        refine s_con (p' := 97) rfl rfl ?_
        refine s_iret rfl rfl ?_
        have f1 : mz_fr [W + 1] h (h.set (W + 1) (.inl (0, (8, .inl (upd vf (A 1) (v (A 1) + sml v A)))))) := mz_fr.s (by simp) (mz_fr.rf _ _)
        exact ⟨_, _, rfl, Or.inl ⟨_, ((if_pos (by omega)).trans (by rw [show nwv (A 0) false (v (A 1)) (sml v A) = v (A 1) + sml v A from by unfold nwv; rw [if_neg (by omega), if_pos (by rw [decide_eq_false q43] <;> decide)]])), rfl, (rd_setn (by omega)).trans hW, hS0.v bW k1 (fun j hj => upd_ag (k2 j hj)), hy.fr f1 (by simp) (by simp)⟩, mz_mo.s (mz_mo.rf _ _ _ _) (by omega) k1 rfl (Or.inl (by simp))⟩
    · by_cases n45 : A 0 = 45
      · rw [n45]
        refine s_sp (p' := 48) (ls' := _) rfl rfl rfl ?_
        obtain ⟨S_, rfl, su⟩ := hu 0 (by omega)
        have hm := hsm 0 (by omega)
        obtain ⟨gs_, hsc⟩ : ∃ gs, mj_rd h S_ = some (.inr (25, gs)) := by
          obtain ⟨_, _, _, _, _, _, z1, _⟩ := su
          exact ⟨_, z1.1⟩
        refine s_aldn (p' := 49) rfl rfl rfl ?_
        refine s_gf (p' := 52) rfl hp rfl rfl ?_
        refine s_aldn (p' := 53) rfl rfl rfl ?_
        refine s_gf (p' := 56) rfl hW rfl rfl ?_
        refine s_callV (p' := 59) (ls0 := [_, _, _, _]) rfl rfl rfl rfl rfl (mj_rcv_is hsc) rfl (y_vlu su k1 k2 hm) (by first | decide | omega) rfl ?_
        refine s_istn (p' := 60) (ls' := [_, _, _, _, _]) rfl rfl rfl rfl ?_
        refine s_aldn (p' := 61) rfl rfl rfl ?_
        refine s_gf (p' := 64) rfl hW rfl rfl ?_
        refine s_aldn (p' := 65) rfl rfl rfl ?_
        refine s_gf (p' := 68) rfl hp rfl rfl ?_
        refine s_sp (p' := 69) (ls' := _) rfl rfl rfl ?_
        refine s_ial (p' := 70) rfl k1 (inb_nI (by omega) (by omega)) rfl ?_
        rw [mI_cl (by omega), k2 _ (by omega)]
        refine s_aldn (p' := 71) rfl rfl rfl ?_
        refine s_gf (p' := 74) rfl hp rfl rfl ?_
        refine s_bip (p' := 76) rfl rfl ?_
        by_cases q43 : A 0 = 43
        · refine s_icmp (p' := 79) false rfl ((ci_ne (by omega) (by omega)).trans (decide_eq_false (by omega))) rfl ?_
          refine s_con (p' := 80) rfl rfl ?_
          refine s_goto (p' := 84) rfl rfl ?_
          refine s_ildn (p' := 85) rfl rfl rfl ?_
          refine s_icmp (p' := 92) true rfl (by decide +kernel) rfl ?_
          refine s_ildn (p' := 93) rfl rfl rfl ?_
          refine s_sp (p' := 94) (ls' := _) rfl rfl rfl ?_
          refine s_sp (p' := 95) (ls' := _) rfl rfl rfl ?_
          rw [sub_neg]
          refine s_ias (p' := 96) rfl (by omega) k1 (inb_nI (by omega) (by omega)) rfl ?_
          rw [mI_cl (by omega)]
          refine s_con (p' := 97) rfl rfl ?_
          refine s_iret rfl rfl ?_
          have f1 : mz_fr [W + 1] h (h.set (W + 1) (.inl (0, (8, .inl (upd vf (A 1) (v (A 1) - sml v A)))))) := mz_fr.s (by simp) (mz_fr.rf _ _)
          exact ⟨_, _, rfl, Or.inl ⟨_, ((if_pos (by omega)).trans (by rw [show nwv (A 0) false (v (A 1)) (sml v A) = v (A 1) - sml v A from by unfold nwv; rw [if_neg (by omega), if_neg (by rw [decide_eq_true q43] <;> decide)]])), rfl, (rd_setn (by omega)).trans hW, hS0.v bW k1 (fun j hj => upd_ag (k2 j hj)), hy.fr f1 (by simp) (by simp)⟩, mz_mo.s (mz_mo.rf _ _ _ _) (by omega) k1 rfl (Or.inl (by simp))⟩
        · refine s_icmp (p' := 83) true rfl ((ci_ne (by omega) (by omega)).trans (decide_eq_true (by omega))) rfl ?_
          refine s_con (p' := 84) rfl rfl ?_
          refine s_ildn (p' := 85) rfl rfl rfl ?_
          refine s_icmp (p' := 88) false rfl (by decide +kernel) rfl ?_
          refine s_ildn (p' := 89) rfl rfl rfl ?_
          refine s_goto (p' := 94) rfl rfl ?_
          refine s_sp (p' := 95) (ls' := _) rfl rfl rfl ?_
          refine s_ias (p' := 96) rfl (by omega) k1 (inb_nI (by omega) (by omega)) rfl ?_
          rw [mI_cl (by omega)]
          refine s_con (p' := 97) rfl rfl ?_
          refine s_iret rfl rfl ?_
          have f1 : mz_fr [W + 1] h (h.set (W + 1) (.inl (0, (8, .inl (upd vf (A 1) (v (A 1) + sml v A)))))) := mz_fr.s (by simp) (mz_fr.rf _ _)
          exact ⟨_, _, rfl, Or.inl ⟨_, ((if_pos (by omega)).trans (by rw [show nwv (A 0) false (v (A 1)) (sml v A) = v (A 1) + sml v A from by unfold nwv; rw [if_neg (by omega), if_pos (by rw [decide_eq_false q43] <;> decide)]])), rfl, (rd_setn (by omega)).trans hW, hS0.v bW k1 (fun j hj => upd_ag (k2 j hj)), hy.fr f1 (by simp) (by simp)⟩, mz_mo.s (mz_mo.rf _ _ _ _) (by omega) k1 rfl (Or.inl (by simp))⟩
      · by_cases n94 : A 0 = 94
        · rw [n94]
          refine s_sp (p' := 98) (ls' := _) rfl rfl rfl ?_
          obtain ⟨S_, rfl, su⟩ := hu 0 (by omega)
          have hm := hsm 0 (by omega)
          obtain ⟨gs_, hsc⟩ : ∃ gs, mj_rd h S_ = some (.inr (25, gs)) := by
            obtain ⟨_, _, _, _, _, _, z1, _⟩ := su
            exact ⟨_, z1.1⟩
          refine s_aldn (p' := 99) rfl rfl rfl ?_
          refine s_gf (p' := 102) rfl hW rfl rfl ?_
          refine s_aldn (p' := 103) rfl rfl rfl ?_
          refine s_gf (p' := 106) rfl hp rfl rfl ?_
          refine s_sp (p' := 107) (ls' := _) rfl rfl rfl ?_
          refine s_ial (p' := 108) rfl k1 (inb_nI (by omega) (by omega)) rfl ?_
          rw [mI_cl (by omega), k2 _ (by omega)]
          refine s_aldn (p' := 109) rfl rfl rfl ?_
          refine s_gf (p' := 112) rfl hp rfl rfl ?_
          refine s_aldn (p' := 113) rfl rfl rfl ?_
          refine s_gf (p' := 116) rfl hW rfl rfl ?_
          refine s_callV (p' := 119) (ls0 := [_, _, _, _]) rfl rfl rfl rfl rfl (mj_rcv_is hsc) rfl (y_vlu su k1 k2 hm) (by first | decide | omega) rfl ?_
          refine s_sp (p' := 120) (ls' := _) rfl rfl rfl ?_
          refine s_ias (p' := 121) rfl (by omega) k1 (inb_nI (by omega) (by omega)) rfl ?_
          rw [mI_cl (by omega)]
          refine s_con (p' := 122) rfl rfl ?_
          refine s_iret rfl rfl ?_
          have f1 : mz_fr [W + 1] h (h.set (W + 1) (.inl (0, (8, .inl (upd vf (A 1) (v (A 1) ^^^ sml v A)))))) := mz_fr.s (by simp) (mz_fr.rf _ _)
          exact ⟨_, _, rfl, Or.inl ⟨_, ((if_pos (by omega)).trans (by rw [show nwv (A 0) false (v (A 1)) (sml v A) = v (A 1) ^^^ sml v A from by unfold nwv; rw [if_pos (by omega)]])), rfl, (rd_setn (by omega)).trans hW, hS0.v bW k1 (fun j hj => upd_ag (k2 j hj)), hy.fr f1 (by simp) (by simp)⟩, mz_mo.s (mz_mo.rf _ _ _ _) (by omega) k1 rfl (Or.inl (by simp))⟩
        · by_cases n126 : A 0 = 126
          · rw [n126]
            refine s_sp (p' := 123) (ls' := _) rfl rfl rfl ?_
            obtain ⟨w0, hw0, hw2, rfl⟩ := hsw 0 (by omega)
            have hpn : W + 1 ≠ p := fun e => by rw [← e, k1] at hp; cases hp
            have f1 : mz_fr [W + 1] h (h.set (W + 1) (.inl (0, (8, .inl (upd vf (A 1) (v w0)))))) := mz_fr.s (by simp) (mz_fr.rf _ _)
            have f2 : mz_fr [W + 1] h ((h.set (W + 1) (.inl (0, (8, .inl (upd vf (A 1) (v w0)))))).set (W + 1) (.inl (0, (8, .inl (upd (upd vf (A 1) (v w0)) w0 (v (A 1))))))) := f1.s (by simp)
            refine s_aldn (p' := 124) rfl rfl rfl ?_
            refine s_gf (p' := 127) rfl hW rfl rfl ?_
            refine s_aldn (p' := 128) rfl rfl rfl ?_
            refine s_gf (p' := 131) rfl hp rfl rfl ?_
            refine s_ial (p' := 132) rfl k1 (inb_nI (by omega) (by omega)) rfl ?_
            rw [mI_cl (by omega), k2 _ (by omega)]
            refine s_ist (p' := 134) (ls' := [_, _, _, _, _]) rfl rfl rfl rfl ?_
            refine s_aldn (p' := 135) rfl rfl rfl ?_
            refine s_gf (p' := 138) rfl hW rfl rfl ?_
            refine s_aldn (p' := 139) rfl rfl rfl ?_
            refine s_gf (p' := 142) rfl hp rfl rfl ?_
            refine s_aldn (p' := 143) rfl rfl rfl ?_
            refine s_gf (p' := 146) rfl hW rfl rfl ?_
            refine s_aldn (p' := 147) rfl rfl rfl ?_
            refine s_gf (p' := 150) rfl hp rfl rfl ?_
            refine s_ial (p' := 151) rfl k1 (inb_nI (by omega) (by omega)) rfl ?_
            rw [mI_cl (by omega), k2 _ hw0]
            refine s_ias (p' := 152) rfl (by omega) k1 (inb_nI (by omega) (by omega)) rfl ?_
            rw [mI_cl (by omega)]
            refine s_aldn (p' := 153) rfl rfl rfl ?_
            refine s_gf (p' := 156) rfl ((rd_setn (by omega)).trans hW) rfl rfl ?_
            refine s_aldn (p' := 157) rfl rfl rfl ?_
            refine s_gf (p' := 160) rfl ((rd_setn hpn).trans hp) rfl rfl ?_
            refine s_ild (p' := 162) rfl rfl rfl ?_
            refine s_ias (p' := 163) rfl (by omega) (rd_set (by omega) k1) (inb_nI (by omega) (by omega)) rfl ?_
            rw [mI_cl (by omega)]
            refine s_con (p' := 164) rfl rfl ?_
            refine s_iret rfl rfl ?_
            exact ⟨_, _, rfl, Or.inl ⟨(upd (upd v (A 1) (v w0)) w0 (v (A 1)), st, t), (if_neg (by omega)).trans ((if_pos (by omega)).trans (by rw [hw2, show 4294967295 - vT w0 = w0 by unfold vT; omega])), rfl, (rd_setn (by omega)).trans ((rd_setn (by omega)).trans hW), (hS0.v (v2 := upd v (A 1) (v w0)) bW k1 (fun j hj => upd_ag (k2 j hj))).v bW (rd_set (by omega) k1) (fun j hj => upd_ag (upd_ag (k2 j hj))), hy.fr f2 (by simp) (by simp)⟩, mz_mo.s (mz_mo.s (mz_mo.rf _ _ _ _) (by omega) k1 rfl (Or.inl (by simp))) (by omega) (rd_set (by omega) k1) rfl (Or.inl (by simp))⟩
          · refine s_sp (p' := 165) (ls' := _) rfl rfl (lsw3 (by omega) n43 n45 n94 n126) ?_
            refine s_aldn (p' := 166) rfl rfl rfl ?_
            refine s_gf (p' := 169) rfl hp rfl rfl ?_
            refine s_bip (p' := 171) rfl rfl ?_
            by_cases q33 : A 0 = 33
            · refine s_icmp (p' := 174) false rfl ((ci_ne (by omega) (by omega)).trans (decide_eq_false (by omega))) rfl ?_
              refine s_con (p' := 175) rfl rfl ?_
              refine s_goto (p' := 179) rfl rfl ?_
              refine s_ildn (p' := 180) rfl rfl rfl ?_
              refine s_icmp (p' := 194) true rfl (by decide +kernel) rfl ?_
              refine s_aldn (p' := 195) rfl rfl rfl ?_
              refine s_aldn (p' := 196) rfl rfl rfl ?_
              refine s_gf (p' := 199) rfl (by repeat (first | assumption | refine rd_app ?_ | rw [rd_setn (by first | assumption | omega)] | apply rd_set (by first | assumption | decide))) rfl rfl ?_
              refine s_callEV (p' := 202) (ls0 := [_, _]) rfl rfl rfl rfl rfl (mj_rcv_is hW) rfl (y_tak bW hW hS0 hy (by omega)) rfl rfl ?_
              rintro rv g ⟨q1_ | q1_, m1⟩
              · obtain ⟨s', e', rfl, w1, s1, y1⟩ := q1_
                refine s_iret rfl rfl ?_
                exact ⟨_, _, rfl, Or.inl ⟨s', (stS_tak (Or.inl ⟨q33, rfl⟩)).trans e', rfl, w1, s1, y1⟩, m1⟩
              · obtain ⟨z', e', rfl, w1, s1, y1⟩ := q1_
                refine s_iret rfl rfl ?_
                exact ⟨_, _, rfl, Or.inr ⟨z', (stS_tak (Or.inl ⟨q33, rfl⟩)).trans e', rfl, w1, s1, y1⟩, m1⟩
            · refine s_icmp (p' := 178) true rfl ((ci_ne (by omega) (by omega)).trans (decide_eq_true (by omega))) rfl ?_
              refine s_con (p' := 179) rfl rfl ?_
              refine s_ildn (p' := 180) rfl rfl rfl ?_
              refine s_icmp (p' := 183) false rfl (by decide +kernel) rfl ?_
              refine s_aldn (p' := 184) rfl rfl rfl ?_
              refine s_aldn (p' := 185) rfl rfl rfl ?_
              refine s_gf (p' := 188) rfl (by repeat (first | assumption | refine rd_app ?_ | rw [rd_setn (by first | assumption | omega)] | apply rd_set (by first | assumption | decide))) rfl rfl ?_
              refine s_callEV (p' := 191) (ls0 := [_, _]) rfl rfl rfl rfl rfl (mj_rcv_is hW) rfl (y_put bW hW hS0 hy (by omega)) rfl rfl ?_
              rintro rv g ⟨q1_ | q1_, m1⟩
              · obtain ⟨s', e', rfl, w1, s1, y1⟩ := q1_
                refine s_goto (p' := 202) rfl rfl ?_
                refine s_iret rfl rfl ?_
                exact ⟨_, _, rfl, Or.inl ⟨s', (stS_put (Or.inr ⟨by omega, rfl⟩)).trans e', rfl, w1, s1, y1⟩, m1⟩
              · obtain ⟨z', e', rfl, w1, s1, y1⟩ := q1_
                refine s_goto (p' := 202) rfl rfl ?_
                refine s_iret rfl rfl ?_
                exact ⟨_, _, rfl, Or.inr ⟨z', (stS_put (Or.inr ⟨by omega, rfl⟩)).trans e', rfl, w1, s1, y1⟩, m1⟩
