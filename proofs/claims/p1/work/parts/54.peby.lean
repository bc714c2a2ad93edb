/-! Pebbles: the reference. -/
theorem pbE_eq {o : Option Nat} (h : ∀ d, o = some d → d < 2147483648) : mj_ci .eq (pbE o) (nI 4294967295) = decide (o = none) := by
  cases o with
  | none => rfl
  | some d =>
    refine (cg_eq (w := -1) (by decide +kernel)).trans ?_
    show decide ((nI d).toInt = -1) = _
    rw [mI_ti (h d rfl)]
    rw [decide_eq_false (by omega), decide_eq_false (by intro q; cases q)]
/-- the cells of the search of the reference -/
def pbHr (h : mj_H) (F U p : Nat) (s : pb_S) : Prop := ∃ m w, mj_rd h F = some (.inl (0, (2 ^ p, .inl m))) ∧ mj_rd h U = some (.inl (0, (2 ^ p, .inl w))) ∧ (∀ j, j < 2 ^ p → m j = pbE (s.1 j)) ∧ ∀ i, i < s.2.2 → w i = nI (s.2.1 i)
theorem pbHr_up {g : mj_H} {F U : Nat} (bF : F < mj_CB) (bU : U < mj_CB) (hFU : F ≠ U) {p q now pl d : Nat} {s : pb_S} {m w : Nat → Int32} (hF : mj_rd g F = some (.inl (0, (2 ^ p, .inl m)))) (hU : mj_rd g U = some (.inl (0, (2 ^ p, .inl w)))) (hm : ∀ j, j < 2 ^ p → m j = pbE (s.1 j)) (hw : ∀ i, i < s.2.2 → w i = nI (s.2.1 i)) (hs : pbS q now pl s = (vf_upd s.1 (now ^^^ 2 ^ pl) (some (d + 1)), vf_upd s.2.1 s.2.2 (now ^^^ 2 ^ pl), s.2.2 + 1)) :
    pbHr ((g.set F (.inl (0, (2 ^ p, .inl (upd m (now ^^^ 2 ^ pl) (nI (d + 1))))))).set U (.inl (0, (2 ^ p, .inl (upd w s.2.2 (nI (now ^^^ 2 ^ pl))))))) F U p (pbS q now pl s) ∧ pbFr F F U g ((g.set F (.inl (0, (2 ^ p, .inl (upd m (now ^^^ 2 ^ pl) (nI (d + 1))))))).set U (.inl (0, (2 ^ p, .inl (upd w s.2.2 (nI (now ^^^ 2 ^ pl))))))) := by
  have hU1 : mj_rd (g.set F (.inl (0, (2 ^ p, .inl (upd m (now ^^^ 2 ^ pl) (nI (d + 1))))))) U = some (.inl (0, (2 ^ p, .inl w))) := (rd_setn hFU).trans hU
  refine ⟨⟨upd m (now ^^^ 2 ^ pl) (nI (d + 1)), upd w s.2.2 (nI (now ^^^ 2 ^ pl)), ?_, ?_, ?_, ?_⟩, ?_, ?_, ?_⟩
  · exact (rd_setn (Ne.symm hFU)).trans (rd_set bF hF)
  · exact rd_set bU hU1
  · intro j hj
    rw [hs]
    unfold upd vf_upd
    dsimp only
    by_cases q1 : j = now ^^^ 2 ^ pl
    · rw [if_pos q1, if_pos q1]
      rfl
    · rw [if_neg q1, if_neg q1]
      exact hm j hj
  · intro i hi
    rw [hs] at hi ⊢
    unfold upd vf_upd
    dsimp only at hi ⊢
    by_cases q1 : i = s.2.2
    · rw [if_pos q1, if_pos q1]
    · rw [if_neg q1, if_neg q1]
      exact hw i (by omega)
  · rw [List.length_set, List.length_set]
  · have e1 : mj_sz (g.set F (.inl (0, (2 ^ p, .inl (upd m (now ^^^ 2 ^ pl) (nI (d + 1))))))) = mj_sz g := sz_set bF hF rfl
    have e2 : mj_sz ((g.set F (.inl (0, (2 ^ p, .inl (upd m (now ^^^ 2 ^ pl) (nI (d + 1))))))).set U (.inl (0, (2 ^ p, .inl (upd w s.2.2 (nI (now ^^^ 2 ^ pl))))))) = mj_sz (g.set F (.inl (0, (2 ^ p, .inl (upd m (now ^^^ 2 ^ pl) (nI (d + 1))))))) := sz_set bU hU1 rfl
    exact e2.trans e1
  · intro a a1 a2 a3
    rw [rd_setn (Ne.symm a3), rd_setn (Ne.symm a2)]
theorem y_pI {F U : Nat} (bF : F < mj_CB) (bU : U < mj_CB) (hFU : F ≠ U) {p q : Nat} (hp : p ≤ 10) {i now : Nat} (hnow : now < 2 ^ p) {Q : mj_O × mj_H → Prop} : ∀ (r pl : Nat) (s : pb_S) (g : mj_H) (l8 l9 : Option Value), pl + r = p → pbV p s → (s.1 now).isSome = true → pbHr g F U p s → (∀ h' l8 l9, pbHr h' F U p (pbI q now r pl s) → pbFr F F U g h' → mj_Wp 3 459 (133, [some (.int (nI p)), some (.int (nI q)), some (.ref F), some (.ref U), some (.int (nI (pbI q now r pl s).2.2)), some (.int (nI i)), some (.int (nI now)), some (.int (nI p)), l8, l9], [], h') Q) → mj_Wp 3 459 (43, [some (.int (nI p)), some (.int (nI q)), some (.ref F), some (.ref U), some (.int (nI s.2.2)), some (.int (nI i)), some (.int (nI now)), some (.int (nI pl)), l8, l9], [], g) Q
  | 0, pl, s, g, l8, l9, hpl, hV, hf, hH, hn => by
    obtain rfl : pl = p := by omega
    refine s_ild (p' := 45) rfl rfl rfl ?_
    refine s_ildn (p' := 46) rfl rfl rfl ?_
    refine s_icmp (p' := 133) true rfl ((ci_ge (by omega) (by omega)).trans (decide_eq_true (by omega))) rfl ?_
    exact hn g l8 l9 hH (pbFr.rf g)
  | r + 1, pl, s, g, l8, l9, hpl, hV, hf, hH, hn => by
    have ih := y_pI bF bU hFU hp hnow (Q := Q) (q := q) (i := i) r
    have hb2 := pb_2 hp
    have hx := xor_lt hnow (show pl < p by omega)
    obtain ⟨m, w, hF, hU, hm, hw⟩ := hH
    have hH : pbHr g F U p s := ⟨m, w, hF, hU, hm, hw⟩
    obtain ⟨d, hd⟩ := Option.isSome_iff_exists.mp hf
    have hd1 := hV.2.2.1 now d hd
    have hn1 := pbV_n hV
    have hlt : ∀ d, s.1 (now ^^^ 2 ^ pl) = some d → d < 2147483648 := fun d z => by
      have := hV.2.2.1 _ d z
      omega
    have hsz : s.1 (now ^^^ 2 ^ pl) = none → s.2.2 < 2 ^ p := fun z => by
      have := cnt_lt hx z
      rw [← hV.1] at this
      omega
    refine s_ild (p' := 45) rfl rfl rfl ?_
    refine s_ildn (p' := 46) rfl rfl rfl ?_
    refine s_icmp (p' := 49) false rfl ((ci_ge (by omega) (by omega)).trans (decide_eq_false (by omega))) rfl ?_
    refine s_ild (p' := 51) rfl rfl rfl ?_
    refine s_con (p' := 52) rfl rfl ?_
    refine s_ild (p' := 54) rfl rfl rfl ?_
    refine s_sp (p' := 55) (ls' := _) rfl rfl rfl ?_
    refine s_sp (p' := 56) (ls' := _) rfl rfl rfl ?_
    rw [pb_x (by omega) (by omega)]
    refine s_ist (p' := 58) (ls' := [_, _, _, _, _, _, _, _, _, _]) rfl rfl rfl rfl ?_
    refine s_ild (p' := 60) rfl rfl rfl ?_
    by_cases h0 : pl = 0
    · refine s_if (p' := 76) true rfl ((cz_eq (by omega)).trans (decide_eq_true (by omega))) rfl ?_
      have h1 : (pl == 0 || now.testBit (pl - 1)) = true := by rw [h0]; rfl
      refine s_con (p' := 77) rfl rfl ?_
      refine s_goto (p' := 81) rfl rfl ?_
      refine s_ist (p' := 83) (ls' := [_, _, _, _, _, _, _, _, _, _]) rfl rfl rfl rfl ?_
      refine s_ild (p' := 85) rfl rfl rfl ?_
      refine s_if (p' := 88) false rfl ((cz_eq (by omega)).trans (decide_eq_false (by omega))) rfl ?_
      refine s_ild (p' := 90) rfl rfl rfl ?_
      refine s_callV (p' := 93) (ls0 := [_]) rfl rfl rfl rfl rfl rfl rfl x_bc (by decide) rfl ?_
      refine s_ildn (p' := 94) rfl rfl rfl ?_
      by_cases h2 : bc (nI (now ^^^ 2 ^ pl)) ≤ nI q
      · refine s_icmp (p' := 97) false rfl (decide_eq_false (fun z => absurd h2 (Int32.not_le.mpr z))) rfl ?_
        refine s_aldn (p' := 98) rfl rfl rfl ?_
        refine s_ild (p' := 100) rfl rfl rfl ?_
        refine s_ial (p' := 101) rfl hF (inb_nI (by omega) (by omega)) rfl ?_
        rw [mI_cl (by omega), hm _ hx]
        refine s_con (p' := 102) rfl rfl ?_
        by_cases h3 : s.1 (now ^^^ 2 ^ pl) = none
        · refine s_icmp (p' := 108) true rfl ((pbE_eq hlt).trans (decide_eq_true h3)) rfl ?_
          refine s_aldn (p' := 109) rfl rfl rfl ?_
          refine s_ild (p' := 111) rfl rfl rfl ?_
          refine s_aldn (p' := 112) rfl rfl rfl ?_
          refine s_ild (p' := 114) rfl rfl rfl ?_
          refine s_ial (p' := 115) rfl hF (inb_nI (by omega) (by omega)) rfl ?_
          rw [mI_cl (by omega), hm _ (by omega), hd, show pbE (some d) = nI d from rfl]
          refine s_con (p' := 116) rfl rfl ?_
          refine s_sp (p' := 117) (ls' := _) rfl rfl rfl ?_
          rw [mI_add]
          refine s_ias (p' := 118) rfl bF hF (inb_nI (by omega) (by omega)) rfl ?_
          rw [mI_cl (by omega)]
          refine s_aldn (p' := 119) rfl rfl rfl ?_
          refine s_ild (p' := 121) rfl rfl rfl ?_
          refine s_ild (p' := 123) rfl rfl rfl ?_
          refine s_ias (p' := 124) rfl bU ((rd_setn hFU).trans hU) (inb_nI (hsz h3) (by omega)) rfl ?_
          rw [mI_cl (by omega)]
          refine s_inc (p' := 127) (ls' := [_, _, _, _, _, _, _, _, _, _]) rfl rfl rfl rfl rfl ?_
          rw [mI_add]
          refine s_inc (p' := 130) (ls' := [_, _, _, _, _, _, _, _, _, _]) rfl rfl rfl rfl rfl ?_
          rw [mI_add]
          refine s_goto (p' := 43) rfl rfl ?_
          have hk : pbk q now pl = true := by
            unfold pbk
            rw [h1, decide_eq_true h2]
            rfl
          have hs : pbS q now pl s = (vf_upd s.1 (now ^^^ 2 ^ pl) (some (d + 1)), vf_upd s.2.1 s.2.2 (now ^^^ 2 ^ pl), s.2.2 + 1) := by
            unfold pbS
            rw [if_pos ⟨hk, h3⟩, hd]
            rfl
          have hu := pbHr_up bF bU hFU (p := p) (q := q) (now := now) (pl := pl) (d := d) hF hU hm hw hs
          have hV2 := pbS_V (q := q) hV hnow hf (pl := pl) (by omega)
          have hf2 := (pbS_L (q := q) (now := now) (pl := pl) (s := s)).2.1 _ hf
          have ih2 := fun g => ih (pl + 1) (pbS q now pl s) g (some (.int (nI (now ^^^ 2 ^ pl)))) (some (.int (nI 1))) (by omega) hV2 hf2
          rw [show (pbS q now pl s).2.2 = s.2.2 + 1 from by rw [hs]] at ih2
          exact ih2 _ hu.1 (fun h' l8 l9 z1 z2 => hn h' l8 l9 z1 (hu.2.tr z2))
        · refine s_icmp (p' := 105) false rfl ((pbE_eq hlt).trans (decide_eq_false h3)) rfl ?_
          refine s_goto (p' := 127) rfl rfl ?_
          refine s_inc (p' := 130) (ls' := [_, _, _, _, _, _, _, _, _, _]) rfl rfl rfl rfl rfl ?_
          rw [mI_add]
          refine s_goto (p' := 43) rfl rfl ?_
          have hs : pbS q now pl s = s := if_neg (fun z => h3 z.2)
          rw [show pbI q now (r + 1) pl s = pbI q now r (pl + 1) s from by show pbI q now r (pl + 1) (pbS q now pl s) = _; rw [hs]] at hn
          exact ih (pl + 1) s g _ _ (by omega) hV hf hH hn
      · refine s_icmp (p' := 127) true rfl (decide_eq_true (Int32.not_le.mp h2)) rfl ?_
        refine s_inc (p' := 130) (ls' := [_, _, _, _, _, _, _, _, _, _]) rfl rfl rfl rfl rfl ?_
        rw [mI_add]
        refine s_goto (p' := 43) rfl rfl ?_
        have hs : pbS q now pl s = s := if_neg (fun z => h2 (by have := z.1; unfold pbk at this; rw [Bool.and_eq_true] at this; exact of_decide_eq_true this.2))
        rw [show pbI q now (r + 1) pl s = pbI q now r (pl + 1) s from by show pbI q now r (pl + 1) (pbS q now pl s) = _; rw [hs]] at hn
        exact ih (pl + 1) s g _ _ (by omega) hV hf hH hn
    · refine s_if (p' := 63) false rfl ((cz_eq (by omega)).trans (decide_eq_false (by omega))) rfl ?_
      refine s_ild (p' := 65) rfl rfl rfl ?_
      refine s_ild (p' := 67) rfl rfl rfl ?_
      refine s_con (p' := 68) rfl rfl ?_
      refine s_sp (p' := 69) (ls' := _) rfl rfl rfl ?_
      rw [mI_sub (by omega)]
      refine s_sp (p' := 70) (ls' := _) rfl rfl rfl ?_
      refine s_con (p' := 71) rfl rfl ?_
      refine s_sp (p' := 72) (ls' := _) rfl rfl rfl ?_
      rw [pb_m2 (by omega) (by omega)]
      refine s_con (p' := 73) rfl rfl ?_
      by_cases h4 : now.testBit (pl - 1) = true
      · refine s_icmp (p' := 76) false rfl (by rw [if_pos h4]; rfl) rfl ?_
        have h1 : (pl == 0 || now.testBit (pl - 1)) = true := by rw [h4, Bool.or_true]
        refine s_con (p' := 77) rfl rfl ?_
        refine s_goto (p' := 81) rfl rfl ?_
        refine s_ist (p' := 83) (ls' := [_, _, _, _, _, _, _, _, _, _]) rfl rfl rfl rfl ?_
        refine s_ild (p' := 85) rfl rfl rfl ?_
        refine s_if (p' := 88) false rfl ((cz_eq (by omega)).trans (decide_eq_false (by omega))) rfl ?_
        refine s_ild (p' := 90) rfl rfl rfl ?_
        refine s_callV (p' := 93) (ls0 := [_]) rfl rfl rfl rfl rfl rfl rfl x_bc (by decide) rfl ?_
        refine s_ildn (p' := 94) rfl rfl rfl ?_
        by_cases h2 : bc (nI (now ^^^ 2 ^ pl)) ≤ nI q
        · refine s_icmp (p' := 97) false rfl (decide_eq_false (fun z => absurd h2 (Int32.not_le.mpr z))) rfl ?_
          refine s_aldn (p' := 98) rfl rfl rfl ?_
          refine s_ild (p' := 100) rfl rfl rfl ?_
          refine s_ial (p' := 101) rfl hF (inb_nI (by omega) (by omega)) rfl ?_
          rw [mI_cl (by omega), hm _ hx]
          refine s_con (p' := 102) rfl rfl ?_
          by_cases h3 : s.1 (now ^^^ 2 ^ pl) = none
          · refine s_icmp (p' := 108) true rfl ((pbE_eq hlt).trans (decide_eq_true h3)) rfl ?_
            refine s_aldn (p' := 109) rfl rfl rfl ?_
            refine s_ild (p' := 111) rfl rfl rfl ?_
            refine s_aldn (p' := 112) rfl rfl rfl ?_
            refine s_ild (p' := 114) rfl rfl rfl ?_
            refine s_ial (p' := 115) rfl hF (inb_nI (by omega) (by omega)) rfl ?_
            rw [mI_cl (by omega), hm _ (by omega), hd, show pbE (some d) = nI d from rfl]
            refine s_con (p' := 116) rfl rfl ?_
            refine s_sp (p' := 117) (ls' := _) rfl rfl rfl ?_
            rw [mI_add]
            refine s_ias (p' := 118) rfl bF hF (inb_nI (by omega) (by omega)) rfl ?_
            rw [mI_cl (by omega)]
            refine s_aldn (p' := 119) rfl rfl rfl ?_
            refine s_ild (p' := 121) rfl rfl rfl ?_
            refine s_ild (p' := 123) rfl rfl rfl ?_
            refine s_ias (p' := 124) rfl bU ((rd_setn hFU).trans hU) (inb_nI (hsz h3) (by omega)) rfl ?_
            rw [mI_cl (by omega)]
            refine s_inc (p' := 127) (ls' := [_, _, _, _, _, _, _, _, _, _]) rfl rfl rfl rfl rfl ?_
            rw [mI_add]
            refine s_inc (p' := 130) (ls' := [_, _, _, _, _, _, _, _, _, _]) rfl rfl rfl rfl rfl ?_
            rw [mI_add]
            refine s_goto (p' := 43) rfl rfl ?_
            have hk : pbk q now pl = true := by
              unfold pbk
              rw [h1, decide_eq_true h2]
              rfl
            have hs : pbS q now pl s = (vf_upd s.1 (now ^^^ 2 ^ pl) (some (d + 1)), vf_upd s.2.1 s.2.2 (now ^^^ 2 ^ pl), s.2.2 + 1) := by
              unfold pbS
              rw [if_pos ⟨hk, h3⟩, hd]
              rfl
            have hu := pbHr_up bF bU hFU (p := p) (q := q) (now := now) (pl := pl) (d := d) hF hU hm hw hs
            have hV2 := pbS_V (q := q) hV hnow hf (pl := pl) (by omega)
            have hf2 := (pbS_L (q := q) (now := now) (pl := pl) (s := s)).2.1 _ hf
            have ih2 := fun g => ih (pl + 1) (pbS q now pl s) g (some (.int (nI (now ^^^ 2 ^ pl)))) (some (.int (nI 1))) (by omega) hV2 hf2
            rw [show (pbS q now pl s).2.2 = s.2.2 + 1 from by rw [hs]] at ih2
            exact ih2 _ hu.1 (fun h' l8 l9 z1 z2 => hn h' l8 l9 z1 (hu.2.tr z2))
          · refine s_icmp (p' := 105) false rfl ((pbE_eq hlt).trans (decide_eq_false h3)) rfl ?_
            refine s_goto (p' := 127) rfl rfl ?_
            refine s_inc (p' := 130) (ls' := [_, _, _, _, _, _, _, _, _, _]) rfl rfl rfl rfl rfl ?_
            rw [mI_add]
            refine s_goto (p' := 43) rfl rfl ?_
            have hs : pbS q now pl s = s := if_neg (fun z => h3 z.2)
            rw [show pbI q now (r + 1) pl s = pbI q now r (pl + 1) s from by show pbI q now r (pl + 1) (pbS q now pl s) = _; rw [hs]] at hn
            exact ih (pl + 1) s g _ _ (by omega) hV hf hH hn
        · refine s_icmp (p' := 127) true rfl (decide_eq_true (Int32.not_le.mp h2)) rfl ?_
          refine s_inc (p' := 130) (ls' := [_, _, _, _, _, _, _, _, _, _]) rfl rfl rfl rfl rfl ?_
          rw [mI_add]
          refine s_goto (p' := 43) rfl rfl ?_
          have hs : pbS q now pl s = s := if_neg (fun z => h2 (by have := z.1; unfold pbk at this; rw [Bool.and_eq_true] at this; exact of_decide_eq_true this.2))
          rw [show pbI q now (r + 1) pl s = pbI q now r (pl + 1) s from by show pbI q now r (pl + 1) (pbS q now pl s) = _; rw [hs]] at hn
          exact ih (pl + 1) s g _ _ (by omega) hV hf hH hn
      · refine s_icmp (p' := 80) true rfl (by rw [if_neg h4]; rfl) rfl ?_
        refine s_con (p' := 81) rfl rfl ?_
        refine s_ist (p' := 83) (ls' := [_, _, _, _, _, _, _, _, _, _]) rfl rfl rfl rfl ?_
        refine s_ild (p' := 85) rfl rfl rfl ?_
        refine s_if (p' := 127) true rfl ((cz_eq (by omega)).trans (decide_eq_true (by omega))) rfl ?_
        refine s_inc (p' := 130) (ls' := [_, _, _, _, _, _, _, _, _, _]) rfl rfl rfl rfl rfl ?_
        rw [mI_add]
        refine s_goto (p' := 43) rfl rfl ?_
        have h1 : ¬ (pl == 0 || now.testBit (pl - 1)) = true := by
          rw [Bool.not_eq_true] at h4
          rw [h4, Bool.or_false, beq_iff_eq]
          exact h0
        have hs : pbS q now pl s = s := if_neg (fun z => h1 (by have := z.1; unfold pbk at this; rw [Bool.and_eq_true] at this; exact this.1))
        rw [show pbI q now (r + 1) pl s = pbI q now r (pl + 1) s from by show pbI q now r (pl + 1) (pbS q now pl s) = _; rw [hs]] at hn
        exact ih (pl + 1) s g _ _ (by omega) hV hf hH hn
theorem y_pO {F U : Nat} (bF : F < mj_CB) (bU : U < mj_CB) (hFU : F ≠ U) {p q : Nat} (hp : p ≤ 10) {Q : mj_O × mj_H → Prop} : ∀ (f i : Nat) (s : pb_S) (g : mj_H) (l6 l7 l8 l9 : Option Value), 2 ^ p + 1 ≤ f + i → pbV p s → i ≤ s.2.2 → pbHr g F U p s → (∀ h' l5 l6 l7 l8 l9, pbHr h' F U p (pbO p q f i s) → pbFr F F U g h' → mj_Wp 3 459 (139, [some (.int (nI p)), some (.int (nI q)), some (.ref F), some (.ref U), some (.int (nI (pbO p q f i s).2.2)), l5, l6, l7, l8, l9], [], h') Q) → mj_Wp 3 459 (27, [some (.int (nI p)), some (.int (nI q)), some (.ref F), some (.ref U), some (.int (nI s.2.2)), some (.int (nI i)), l6, l7, l8, l9], [], g) Q
  | 0, i, s, g, l6, l7, l8, l9, hf0, hV, hi, hH, hn => by
    have := pbV_n hV
    omega
  | f + 1, i, s, g, l6, l7, l8, l9, hf0, hV, hi, hH, hn => by
    have ih := y_pO bF bU hFU hp (Q := Q) (q := q) f
    have hb2 := pb_2 hp
    have hn1 := pbV_n hV
    obtain ⟨m, w, hF, hU, hm, hw⟩ := hH
    have hH : pbHr g F U p s := ⟨m, w, hF, hU, hm, hw⟩
    refine s_ild (p' := 29) rfl rfl rfl ?_
    refine s_ild (p' := 31) rfl rfl rfl ?_
    by_cases h1 : i < s.2.2
    · refine s_icmp (p' := 34) false rfl ((ci_ge (by omega) (by omega)).trans (decide_eq_false (by omega))) rfl ?_
      refine s_aldn (p' := 35) rfl rfl rfl ?_
      refine s_ild (p' := 37) rfl rfl rfl ?_
      refine s_ial (p' := 38) rfl hU (inb_nI (by omega) (by omega)) rfl ?_
      rw [mI_cl (by omega), hw i h1]
      refine s_ist (p' := 40) (ls' := [_, _, _, _, _, _, _, _, _, _]) rfl rfl rfl rfl ?_
      refine s_con (p' := 41) rfl rfl ?_
      refine s_ist (p' := 43) (ls' := [_, _, _, _, _, _, _, _, _, _]) rfl rfl rfl rfl ?_
      obtain ⟨hnow, hf⟩ := hV.2.2.2 i h1
      refine y_pI bF bU hFU hp hnow p 0 s g _ _ (by omega) hV hf hH (fun g2 k8 k9 z1 z2 => ?_)
      refine s_inc (p' := 136) (ls' := [_, _, _, _, _, _, _, _, _, _]) rfl rfl rfl rfl rfl ?_
      rw [mI_add]
      refine s_goto (p' := 27) rfl rfl ?_
      refine ih (i + 1) (pbI q (s.2.1 i) p 0 s) g2 _ _ _ _ (by omega) (pbI_VL hnow p 0 s (by omega) hV hf).1 (Nat.le_trans h1 (pbI_VL hnow p 0 s (by omega) hV hf).2.1) z1 (fun h3 l5 l6 l7 l8 l9 y1 y2 => ?_)
      have y3 := hn h3 l5 l6 l7 l8 l9
      rw [show pbO p q (f + 1) i s = pbO p q f (i + 1) (pbI q (s.2.1 i) p 0 s) from if_pos h1] at y3
      exact y3 y1 (z2.tr y2)
    · refine s_icmp (p' := 139) true rfl ((ci_ge (by omega) (by omega)).trans (decide_eq_true (by omega))) rfl ?_
      have y3 := hn g (some (.int (nI i))) l6 l7 l8 l9
      rw [show pbO p q (f + 1) i s = s from if_neg h1] at y3
      exact y3 hH (pbFr.rf g)
/-- cells stay -/
def mz_ext (h h' : mj_H) : Prop := ∀ a c, mj_rd h a = some c → mj_rd h' a = some c
theorem pw_lt {p : Nat} (hp1 : 1 ≤ p) : 2 ^ (p - 1) < 2 ^ p := Nat.pow_lt_pow_right (by decide) (by omega)
theorem y_mov {h : mj_H} {n : Nat} (hn : h.length = n) (hb : n + 10 < mj_CB) {p q : Nat} (hp1 : 1 ≤ p) (hp : p ≤ 10) : mj_Wp 3 459 (0, [some (.int (nI p)), some (.int (nI q)), none, none, none, none, none, none, none, none], [], h) (mz_V fun v h' => v = .int (pbE (pbR p q)) ∧ h'.length = h.length + 2 ∧ mj_sz h' = mj_sz h + 2 ^ p * 2 ∧ mz_ext h h') := by
  have hb2 := pb_2 hp
  have hb3 := pw_lt hp1
  refine s_con (p' := 1) rfl rfl ?_
  refine s_ildn (p' := 2) rfl rfl rfl ?_
  refine s_sp (p' := 3) (ls' := _) rfl rfl rfl ?_
  rw [pb_p (by omega)]
  refine s_naz (p' := 5) (a := n) (n := (2 ^ p)) rfl hn (Nat.ble_eq.mpr (by omega)) rfl ?_
  refine s_astn (p' := 6) (ls' := [_, _, _, _, _, _, _, _, _, _]) rfl rfl rfl rfl ?_
  refine s_aldn (p' := 7) rfl rfl rfl ?_
  refine s_con (p' := 8) rfl rfl ?_
  refine s_callN (p' := 11) (ls0 := [_, _, _, _]) rfl rfl rfl rfl rfl rfl rfl (x_fill (by omega) (rd_a0 hn (by omega)) (by omega)) (by decide) rfl ?_
  rw [set_a0 hn]
  refine s_con (p' := 12) rfl rfl ?_
  refine s_ildn (p' := 13) rfl rfl rfl ?_
  refine s_sp (p' := 14) (ls' := _) rfl rfl rfl ?_
  rw [pb_p (by omega)]
  refine s_naz (p' := 16) (a := (n + 1)) (n := (2 ^ p)) rfl (len_at hn rfl) (Nat.ble_eq.mpr (by omega)) rfl ?_
  rw [app_1]
  dsimp only [List.cons_append, List.nil_append]
  refine s_astn (p' := 17) (ls' := [_, _, _, _, _, _, _, _, _, _]) rfl rfl rfl rfl ?_
  refine s_aldn (p' := 18) rfl rfl rfl ?_
  refine s_con (p' := 19) rfl rfl ?_
  refine s_con (p' := 20) rfl rfl ?_
  refine s_ias (p' := 21) rfl (by omega) (rd_a0 hn (by omega)) (inb_nI (Nat.two_pow_pos p) (by omega)) rfl ?_
  rw [set_a0 hn, mI_cl (by omega)]
  refine s_con (p' := 22) rfl rfl ?_
  refine s_ist (p' := 24) (ls' := [_, _, _, _, _, _, _, _, _, _]) rfl rfl rfl rfl ?_
  refine s_con (p' := 25) rfl rfl ?_
  refine s_ist (p' := 27) (ls' := [_, _, _, _, _, _, _, _, _, _]) rfl rfl rfl rfl ?_
  refine y_pO (by omega) (by omega) (show n ≠ n + 1 by omega) hp (2 ^ p + 1) 0 pbZ _ _ _ _ _ (by omega) (pbZ_V p) (by omega) ⟨_, _, rd_a0 hn (by omega), rd_at (j := 1) hn (by omega) rfl, ?_, ?_⟩ (fun g9 l5 l6 l7 l8 l9 y1 y2 => ?_)
  · intro j hj
    unfold upd mfl pbZ vf_upd
    dsimp only
    by_cases q1 : j = 0
    · rw [if_pos q1, if_pos q1]
      rfl
    · rw [if_neg q1, if_neg q1, if_pos hj]
      rfl
  · intro i hi
    have hi : i < 1 := hi
    obtain rfl : i = 0 := by omega
    rfl
  obtain ⟨m9, w9, hF9, hU9, hm9, hw9⟩ := y1
  refine s_aldn (p' := 140) rfl rfl rfl ?_
  refine s_con (p' := 141) rfl rfl ?_
  refine s_ildn (p' := 142) rfl rfl rfl ?_
  refine s_con (p' := 143) rfl rfl ?_
  refine s_sp (p' := 144) (ls' := _) rfl rfl rfl ?_
  rw [mI_sub hp1]
  refine s_sp (p' := 145) (ls' := _) rfl rfl rfl ?_
  rw [pb_p (by omega)]
  refine s_ial (p' := 146) rfl hF9 (inb_nI (pw_lt hp1) (by omega)) rfl ?_
  rw [mI_cl (by omega), hm9 _ (pw_lt hp1)]
  refine s_iret rfl rfl ?_
  refine ⟨_, _, rfl, rfl, ?_, ?_, ?_⟩
  · rw [y2.1, List.length_append]
    rfl
  · rw [y2.2.1]
    show mj_sz (h ++ [.inl (0, (2 ^ p, .inl (upd (mfl (fun _ => 0) (nI 4294967295) (2 ^ p)) 0 (nI 0)))), .inl (0, mj_arr0 0 (2 ^ p))]) = _
    rw [show h ++ [.inl (0, (2 ^ p, .inl (upd (mfl (fun _ => 0) (nI 4294967295) (2 ^ p)) 0 (nI 0)))), .inl (0, mj_arr0 0 (2 ^ p))] = (h ++ [.inl (0, (2 ^ p, .inl (upd (mfl (fun _ => 0) (nI 4294967295) (2 ^ p)) 0 (nI 0))))]) ++ [.inl (0, mj_arr0 0 (2 ^ p))] from by rw [List.append_assoc]; rfl, mj_sz_push, mj_sz_push]
    show mj_sz h + 2 ^ p + 2 ^ p = _
    omega
  · intro a c hc
    have ha : a ≠ n ∧ a ≠ n + 1 := by
      by_cases q1 : a < mj_CB
      · have := rd_len q1 hc
        omega
      · omega
    rw [y2.2.2 a ha.1 ha.1 ha.2]
    exact rd_app hc
