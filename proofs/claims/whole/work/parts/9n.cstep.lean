/-! The class runs: steps. -/
theorem cRn.rs {h : mj_H} {R S p l c : Nat} {w : Bool} {cp cl : Nat → Nat} {cw : Nat → Bool} {z : CZ} (bR : R + 6 < mj_CB) (hR : cRn h R S (p, l, c, w, cp, cl, cw) z) (p' l' c' : Nat) (w' : Bool) (hc : c' ≤ c) : cRn (h.set R (rnC R S z.1 p' l' c' w')) R S (p', l', c', w', cp, cl, cw) z := by
  obtain ⟨a, ⟨⟨f1, a1, b1⟩, ⟨f2, a2, b2⟩, f3, a3, b3, b4⟩, lf, nf, a4, a5, b⟩ := hR
  dsimp only at b1 b2 b4
  exact ⟨rd_set (by omega) a, ⟨⟨f1, (rd_setn (by omega)).trans a1, fun d hd => b1 d (by have hd : d < c' := hd; omega)⟩, ⟨f2, (rd_setn (by omega)).trans a2, fun d hd => b2 d (by have hd : d < c' := hd; omega)⟩, f3, (rd_setn (by omega)).trans a3, b3, fun d hd => b4 d (by have hd : d < c' := hd; omega)⟩, lf, nf, (rd_setn (by omega)).trans a4, (rd_setn (by omega)).trans a5, b⟩
theorem cRn.c0 {h : mj_H} {R S : Nat} {r : SR} {z : CZ} (hR : cRn h R S r z) : mj_rd h R = some (rnC R S z.1 r.1 r.2.1 r.2.2.1 r.2.2.2.1) := hR.1
theorem mo_R {h : mj_H} {R S : Nat} {r : SR} {z : CZ} {c : mj_C} (bR : R + 6 < mj_CB) (hR : cRn h R S r z) (hc : mj_cs c = 13) : mz_mo [R] 0 0 h (h.set R c) := mz_mo.s (mz_mo.rf _ _ _ _) (by omega) hR.1 hc (Or.inl (by simp))
theorem x_mvt {h : mj_H} {R S p l c : Nat} {w : Bool} {cp cl : Nat → Nat} {cw : Nat → Bool} {z : CZ} (bR : R + 6 < mj_CB) (hR : cRn h R S (p, l, c, w, cp, cl, cw) z) {l1 : Nat} : mj_Wp 0 174 (0, [some (.ref R), some (.int (nI l1))], [], h) (mz_V fun rv h' => rv = .int (nI 1) ∧ cRn h' R S (p, l1, c, w, cp, cl, cw) z ∧ mz_mo [R] 0 0 h h') := by
  refine s_aldn (p' := 1) rfl rfl rfl ?_
  refine s_ildn (p' := 2) rfl rfl rfl ?_
  refine s_pf (p' := 5) (fs' := [_, _, _, _, _, _, _, _, _, _, _, _, _]) rfl (by omega) hR.c0 (Nat.blt_eq.mp rfl) rfl rfl rfl ?_
  refine s_con (p' := 6) rfl rfl ?_
  refine s_iret rfl rfl ?_
  exact ⟨_, _, rfl, rfl, hR.rs bR p l1 c w (Nat.le_refl _), mo_R bR hR rfl⟩
theorem x_bat {h : mj_H} {R S p l c : Nat} {w : Bool} {cp cl : Nat → Nat} {cw : Nat → Bool} {z : CZ} (bR : R + 6 < mj_CB) (hR : cRn h R S (p, l, c, w, cp, cl, cw) z) {a s wn : Nat} (hs : s < 65536) : mj_Wp 1 175 (0, [some (.ref R), some (.int (nI a)), some (.int (nI s)), some (.int (nI wn))], [], h) (mz_V fun rv h' => rv = .int (nI 0) ∧ cRn h' R S (p, l, c, w, cp, cl, cw) (2, 116, a, s, wn) ∧ mz_mo [R, R + 4, R + 5] 0 0 h h') := by
  refine s_aldn (p' := 1) rfl rfl rfl ?_
  refine s_bip (p' := 3) rfl rfl ?_
  refine s_ildn (p' := 4) rfl rfl rfl ?_
  refine s_callEV (p' := 7) (ls0 := [_, _, _]) rfl rfl rfl rfl rfl (mj_rcv_is hR.c0) rfl (x_bof (lt := 116) (nu := a) bR hR (by decide)) rfl rfl ?_
  rintro _ g ⟨rfl, r1, m1⟩
  obtain ⟨k0, hrw, lf, nf, a4, a5, hz, z1, _⟩ := r1
  have z1 := z1 Nat.zero_lt_one
  refine s_sp (p' := 8) (ls' := _) rfl rfl rfl ?_
  refine s_aldn (p' := 9) rfl rfl rfl ?_
  refine s_con (p' := 10) rfl rfl ?_
  refine s_pf (p' := 13) (fs' := [_, _, _, _, _, _, _, _, _, _, _, _, _]) rfl (by omega) k0 (Nat.blt_eq.mp rfl) rfl rfl rfl ?_
  refine s_aldn (p' := 14) rfl rfl rfl ?_
  refine s_gf (p' := 17) rfl (rd_set (by omega) k0) rfl rfl ?_
  refine s_con (p' := 18) rfl rfl ?_
  refine s_ildn (p' := 19) rfl rfl rfl ?_
  refine s_cas (p' := 20) rfl (by omega) ((rd_setn (by omega)).trans a4) (inb_nI (by omega) (by omega)) rfl ?_
  rw [mI_cl (by omega), ch_nar hs]
  refine s_aldn (p' := 21) rfl rfl rfl ?_
  refine s_gf (p' := 24) rfl ((rd_setn (by omega)).trans (rd_set (by omega) k0)) rfl rfl ?_
  refine s_con (p' := 25) rfl rfl ?_
  refine s_ildn (p' := 26) rfl rfl rfl ?_
  refine s_ias (p' := 27) rfl (by omega) ((rd_setn (by omega)).trans ((rd_setn (by omega)).trans a5)) (inb_nI (by omega) (by omega)) rfl ?_
  rw [mI_cl (by omega)]
  refine s_con (p' := 28) rfl rfl ?_
  refine s_iret rfl rfl ?_
  have f1 : mz_fr [R, R + 4, R + 5] g _ := ((mz_fr.rf [R, R + 4, R + 5] g).s (a := R) (c := rnC R S 2 p l c w) (by simp)).s (a := R + 4) (c := .inl (3, (2, .inl (upd lf 1 (nI s))))) (by simp) |>.s (a := R + 5) (c := .inl (0, (2, .inl (upd nf 1 (nI wn))))) (by simp)
  exact ⟨_, _, rfl, rfl, ⟨(rd_setn (by omega)).trans ((rd_setn (by omega)).trans (rd_set (by omega) k0)), hrw.fr f1 (by simp) (by simp) (by simp), _, _, (rd_setn (by omega)).trans (rd_set (by omega) ((rd_setn (by omega)).trans a4)), rd_set (by omega) ((rd_setn (by omega)).trans ((rd_setn (by omega)).trans a5)), Nat.le_refl 2, fun _ => ⟨z1.1, z1.2⟩, fun _ => ⟨rfl, rfl⟩⟩, mo00 m1 (mz_mo.s (mz_mo.s (mz_mo.s (mz_mo.rf _ _ _ _) (by omega) k0 rfl (Or.inl (by simp))) (by omega) ((rd_setn (by omega)).trans a4) rfl (Or.inl (by simp))) (by omega) ((rd_setn (by omega)).trans ((rd_setn (by omega)).trans a5)) rfl (Or.inl (by simp)))⟩
theorem x_pA {h : mj_H} {R S p l c : Nat} {w : Bool} {cp cl : Nat → Nat} {cw : Nat → Bool} {z : CZ} (bR : R + 6 < mj_CB) (hR : cRn h R S (p, l, c, w, cp, cl, cw) z) {v st : Nat → Int32} {t : Nat} (bS : S + 3 < mj_CB) (hS : cSt h S (v, st, t)) {np : Nat} {K : Nat → Nat} {X : Nat → Nat → Nat → Nat} (hl : cLb h np K X) (hp : p < np) {a : Nat} (ha : a < K p) (h5 : X p a 5 < K p) (h6 : X p a 6 < K p) (h7 : X p a 7 < K p) (hK : K p ≤ 30) (t5 : tst (X p (X p a 5))) (t7 : tst (X p (X p a 7))) (h0 : X p a 0 = 91 ∨ X p a 0 = 124 ∨ X p a 0 = 93 ∨ X p a 0 = 123 ∨ X p a 0 = 47 ∨ X p a 0 = 125) : mj_Wp 2 172 (0, [some (.ref R), some (.ref (bP p + 3)), some (.ref (bP p + 6 + a)), some (.int (nI a)), none, none], [], h) (mz_V fun rv h' => ((∃ l', brA (X p a) a (hld v (X p (X p a 5))) (hld v (X p (X p a 7))) = .inl l' ∧ rv = .int (nI 1) ∧ cRn h' R S (p, l', c, w, cp, cl, cw) z) ∨ ∃ z', brA (X p a) a (hld v (X p (X p a 5))) (hld v (X p (X p a 7))) = .inr z' ∧ rv = .int (nI 0) ∧ cRn h' R S (p, l, c, w, cp, cl, cw) z') ∧ mz_mo [R, R + 4, R + 5] 0 0 h h') := by
  obtain ⟨_, _, _, hl2⟩ := id hl
  obtain ⟨_, _, _, _, hins⟩ := hl2 p hp
  obtain ⟨ia, hq, hi⟩ := hins a ha
  obtain ⟨i5, hq5, hi5⟩ := hins (X p a 5) h5
  obtain ⟨i7, hq7, hi7⟩ := hins (X p a 7) h7
  have b5 := of_decide_eq_true t5.2.1
  have b7 := of_decide_eq_true t7.2.1
  refine s_aldn (p' := 1) rfl rfl rfl ?_
  refine s_gf (p' := 4) rfl hR.c0 rfl rfl ?_
  refine s_aldn (p' := 5) rfl rfl rfl ?_
  refine s_aldn (p' := 6) rfl rfl rfl ?_
  refine s_gf (p' := 9) rfl hq rfl rfl ?_
  rw [hi 5 (by decide)]
  refine s_callV (p' := 12) (ls0 := [_, _]) rfl rfl rfl rfl rfl (mj_rcv_is (hl2 p hp).2.1) rfl (x_lat hl hp h5) (by first | decide | omega) rfl ?_
  refine s_callV (p' := 15) (ls0 := [_, _, _, _]) rfl rfl rfl rfl rfl (mj_rcv_is hS.1) rfl (x_hld bS hS hq5 hi5 t5.1 t5.2.2 (by omega)) (by first | decide | omega) rfl ?_
  refine s_ist (p' := 17) (ls' := [_, _, _, _, _, _]) rfl rfl rfl rfl ?_
  refine s_aldn (p' := 18) rfl rfl rfl ?_
  refine s_gf (p' := 21) rfl hR.c0 rfl rfl ?_
  refine s_aldn (p' := 22) rfl rfl rfl ?_
  refine s_aldn (p' := 23) rfl rfl rfl ?_
  refine s_gf (p' := 26) rfl hq rfl rfl ?_
  rw [hi 7 (by decide)]
  refine s_callV (p' := 29) (ls0 := [_, _]) rfl rfl rfl rfl rfl (mj_rcv_is (hl2 p hp).2.1) rfl (x_lat hl hp h7) (by first | decide | omega) rfl ?_
  refine s_callV (p' := 32) (ls0 := [_, _, _, _]) rfl rfl rfl rfl rfl (mj_rcv_is hS.1) rfl (x_hld bS hS hq7 hi7 t7.1 t7.2.2 (by omega)) (by first | decide | omega) rfl ?_
  refine s_ist (p' := 34) (ls' := [_, _, _, _, _, _]) rfl rfl rfl rfl ?_
  generalize hld v (X p (X p a 5)) = C
  generalize hld v (X p (X p a 7)) = D
  refine s_aldn (p' := 35) rfl rfl rfl ?_
  refine s_gf (p' := 38) rfl hq rfl rfl ?_
  rw [hi 0 (by decide)]
  by_cases q91 : X p a 0 = 91
  · rw [q91]
    refine s_sp (p' := 88) (ls' := _) rfl rfl rfl ?_
    refine s_aldn (p' := 89) rfl rfl rfl ?_
    refine s_ild (p' := 91) rfl rfl rfl ?_
    by_cases hc : C = true
    · refine s_if (p' := 94) false rfl (by rw [hc]; rfl) rfl ?_
      refine s_ildn (p' := 95) rfl rfl rfl ?_
      refine s_con (p' := 96) rfl rfl ?_
      refine s_sp (p' := 97) (ls' := _) rfl rfl rfl ?_
      rw [mI_add]
      refine s_goto (p' := 106) rfl rfl ?_
      refine s_callEV (p' := 109) (ls0 := [_, _]) rfl rfl rfl rfl rfl (mj_rcv_is hR.c0) rfl (x_mvt (l1 := a + 1) bR hR) rfl rfl ?_
      rintro _ g ⟨rfl, r1, m1⟩
      refine s_iret rfl rfl ?_
      exact ⟨_, _, rfl, Or.inl ⟨_, (by unfold brA brk_; simp [q91, hc]), rfl, r1⟩, m1.wk (fun y hy => Or.inl (by simp only [List.mem_cons, List.not_mem_nil, or_false] at hy ⊢; omega)) (Nat.le_refl _) (Nat.le_refl _)⟩
    · refine s_if (p' := 100) true rfl (by rw [Bool.eq_false_iff.mpr hc]; rfl) rfl ?_
      refine s_aldn (p' := 101) rfl rfl rfl ?_
      refine s_gf (p' := 104) rfl hq rfl rfl ?_
      rw [hi 6 (by decide)]
      refine s_con (p' := 105) rfl rfl ?_
      refine s_sp (p' := 106) (ls' := _) rfl rfl rfl ?_
      rw [mI_add]
      refine s_callEV (p' := 109) (ls0 := [_, _]) rfl rfl rfl rfl rfl (mj_rcv_is hR.c0) rfl (x_mvt (l1 := X p a 6 + 1) bR hR) rfl rfl ?_
      rintro _ g ⟨rfl, r1, m1⟩
      refine s_iret rfl rfl ?_
      exact ⟨_, _, rfl, Or.inl ⟨_, (by unfold brA brk_; simp [q91, hc]), rfl, r1⟩, m1.wk (fun y hy => Or.inl (by simp only [List.mem_cons, List.not_mem_nil, or_false] at hy ⊢; omega)) (Nat.le_refl _) (Nat.le_refl _)⟩
  · by_cases q124 : X p a 0 = 124
    · rw [q124]
      refine s_sp (p' := 110) (ls' := _) rfl rfl rfl ?_
      refine s_ild (p' := 112) rfl rfl rfl ?_
      by_cases hc : D = true
      · refine s_if (p' := 115) false rfl (by rw [hc]; rfl) rfl ?_
        refine s_aldn (p' := 116) rfl rfl rfl ?_
        refine s_aldn (p' := 117) rfl rfl rfl ?_
        refine s_gf (p' := 120) rfl hq rfl rfl ?_
        rw [hi 7 (by decide)]
        refine s_con (p' := 121) rfl rfl ?_
        refine s_sp (p' := 122) (ls' := _) rfl rfl rfl ?_
        rw [mI_add]
        refine s_callEV (p' := 125) (ls0 := [_, _]) rfl rfl rfl rfl rfl (mj_rcv_is hR.c0) rfl (x_mvt (l1 := X p a 7 + 1) bR hR) rfl rfl ?_
        rintro _ g ⟨rfl, r1, m1⟩
        refine s_goto (p' := 136) rfl rfl ?_
        refine s_iret rfl rfl ?_
        exact ⟨_, _, rfl, Or.inl ⟨_, (by unfold brA brk_; simp [q91, q124, hc]), rfl, r1⟩, m1.wk (fun y hy => Or.inl (by simp only [List.mem_cons, List.not_mem_nil, or_false] at hy ⊢; omega)) (Nat.le_refl _) (Nat.le_refl _)⟩
      · refine s_if (p' := 128) true rfl (by rw [Bool.eq_false_iff.mpr hc]; rfl) rfl ?_
        refine s_aldn (p' := 129) rfl rfl rfl ?_
        refine s_ildn (p' := 130) rfl rfl rfl ?_
        refine s_bip (p' := 132) rfl rfl ?_
        refine s_con (p' := 133) rfl rfl ?_
        refine s_callEV (p' := 136) (ls0 := [_, _, _, _]) rfl rfl rfl rfl rfl (mj_rcv_is hR.c0) rfl (x_bat (a := a) (s := 124) (wn := 1) bR hR (by decide)) rfl rfl ?_
        rintro _ g ⟨rfl, r1, m1⟩
        refine s_iret rfl rfl ?_
        exact ⟨_, _, rfl, Or.inr ⟨_, (by unfold brA brk_; simp [q91, q124, hc]), rfl, r1⟩, m1⟩
    · by_cases q93 : X p a 0 = 93
      · rw [q93]
        refine s_sp (p' := 137) (ls' := _) rfl rfl rfl ?_
        refine s_ild (p' := 139) rfl rfl rfl ?_
        by_cases hc : D = true
        · refine s_if (p' := 142) false rfl (by rw [hc]; rfl) rfl ?_
          refine s_aldn (p' := 143) rfl rfl rfl ?_
          refine s_ildn (p' := 144) rfl rfl rfl ?_
          refine s_bip (p' := 146) rfl rfl ?_
          refine s_con (p' := 147) rfl rfl ?_
          refine s_callEV (p' := 150) (ls0 := [_, _, _, _]) rfl rfl rfl rfl rfl (mj_rcv_is hR.c0) rfl (x_bat (a := a) (s := 93) (wn := 0) bR hR (by decide)) rfl rfl ?_
          rintro _ g ⟨rfl, r1, m1⟩
          refine s_goto (p' := 160) rfl rfl ?_
          refine s_iret rfl rfl ?_
          exact ⟨_, _, rfl, Or.inr ⟨_, (by unfold brA brk_; simp [q91, q124, q93, hc]), rfl, r1⟩, m1⟩
        · refine s_if (p' := 153) true rfl (by rw [Bool.eq_false_iff.mpr hc]; rfl) rfl ?_
          refine s_aldn (p' := 154) rfl rfl rfl ?_
          refine s_ildn (p' := 155) rfl rfl rfl ?_
          refine s_con (p' := 156) rfl rfl ?_
          refine s_sp (p' := 157) (ls' := _) rfl rfl rfl ?_
          rw [mI_add]
          refine s_callEV (p' := 160) (ls0 := [_, _]) rfl rfl rfl rfl rfl (mj_rcv_is hR.c0) rfl (x_mvt (l1 := a + 1) bR hR) rfl rfl ?_
          rintro _ g ⟨rfl, r1, m1⟩
          refine s_iret rfl rfl ?_
          exact ⟨_, _, rfl, Or.inl ⟨_, (by unfold brA brk_; simp [q91, q124, q93, hc]), rfl, r1⟩, m1.wk (fun y hy => Or.inl (by simp only [List.mem_cons, List.not_mem_nil, or_false] at hy ⊢; omega)) (Nat.le_refl _) (Nat.le_refl _)⟩
      · by_cases q123 : X p a 0 = 123
        · rw [q123]
          refine s_sp (p' := 161) (ls' := _) rfl rfl rfl ?_
          refine s_ild (p' := 163) rfl rfl rfl ?_
          by_cases hc : C = true
          · refine s_if (p' := 166) false rfl (by rw [hc]; rfl) rfl ?_
            refine s_aldn (p' := 167) rfl rfl rfl ?_
            refine s_ildn (p' := 168) rfl rfl rfl ?_
            refine s_con (p' := 169) rfl rfl ?_
            refine s_sp (p' := 170) (ls' := _) rfl rfl rfl ?_
            rw [mI_add]
            refine s_callEV (p' := 173) (ls0 := [_, _]) rfl rfl rfl rfl rfl (mj_rcv_is hR.c0) rfl (x_mvt (l1 := a + 1) bR hR) rfl rfl ?_
            rintro _ g ⟨rfl, r1, m1⟩
            refine s_goto (p' := 184) rfl rfl ?_
            refine s_iret rfl rfl ?_
            exact ⟨_, _, rfl, Or.inl ⟨_, (by unfold brA brk_; simp [q91, q124, q93, q123, hc]), rfl, r1⟩, m1.wk (fun y hy => Or.inl (by simp only [List.mem_cons, List.not_mem_nil, or_false] at hy ⊢; omega)) (Nat.le_refl _) (Nat.le_refl _)⟩
          · refine s_if (p' := 176) true rfl (by rw [Bool.eq_false_iff.mpr hc]; rfl) rfl ?_
            refine s_aldn (p' := 177) rfl rfl rfl ?_
            refine s_ildn (p' := 178) rfl rfl rfl ?_
            refine s_bip (p' := 180) rfl rfl ?_
            refine s_con (p' := 181) rfl rfl ?_
            refine s_callEV (p' := 184) (ls0 := [_, _, _, _]) rfl rfl rfl rfl rfl (mj_rcv_is hR.c0) rfl (x_bat (a := a) (s := 123) (wn := 1) bR hR (by decide)) rfl rfl ?_
            rintro _ g ⟨rfl, r1, m1⟩
            refine s_iret rfl rfl ?_
            exact ⟨_, _, rfl, Or.inr ⟨_, (by unfold brA brk_; simp [q91, q124, q93, q123, hc]), rfl, r1⟩, m1⟩
        · by_cases q47 : X p a 0 = 47
          · rw [q47]
            refine s_sp (p' := 185) (ls' := _) rfl rfl rfl ?_
            refine s_aldn (p' := 186) rfl rfl rfl ?_
            refine s_ild (p' := 188) rfl rfl rfl ?_
            by_cases hc : D = true
            · refine s_if (p' := 191) false rfl (by rw [hc]; rfl) rfl ?_
              refine s_aldn (p' := 192) rfl rfl rfl ?_
              refine s_gf (p' := 195) rfl hq rfl rfl ?_
              rw [hi 7 (by decide)]
              refine s_con (p' := 196) rfl rfl ?_
              refine s_sp (p' := 197) (ls' := _) rfl rfl rfl ?_
              rw [mI_add]
              refine s_goto (p' := 203) rfl rfl ?_
              refine s_callEV (p' := 206) (ls0 := [_, _]) rfl rfl rfl rfl rfl (mj_rcv_is hR.c0) rfl (x_mvt (l1 := X p a 7 + 1) bR hR) rfl rfl ?_
              rintro _ g ⟨rfl, r1, m1⟩
              refine s_iret rfl rfl ?_
              exact ⟨_, _, rfl, Or.inl ⟨_, (by unfold brA brk_; simp [q91, q124, q93, q123, q47, hc]), rfl, r1⟩, m1.wk (fun y hy => Or.inl (by simp only [List.mem_cons, List.not_mem_nil, or_false] at hy ⊢; omega)) (Nat.le_refl _) (Nat.le_refl _)⟩
            · refine s_if (p' := 200) true rfl (by rw [Bool.eq_false_iff.mpr hc]; rfl) rfl ?_
              refine s_ildn (p' := 201) rfl rfl rfl ?_
              refine s_con (p' := 202) rfl rfl ?_
              refine s_sp (p' := 203) (ls' := _) rfl rfl rfl ?_
              rw [mI_add]
              refine s_callEV (p' := 206) (ls0 := [_, _]) rfl rfl rfl rfl rfl (mj_rcv_is hR.c0) rfl (x_mvt (l1 := a + 1) bR hR) rfl rfl ?_
              rintro _ g ⟨rfl, r1, m1⟩
              refine s_iret rfl rfl ?_
              exact ⟨_, _, rfl, Or.inl ⟨_, (by unfold brA brk_; simp [q91, q124, q93, q123, q47, hc]), rfl, r1⟩, m1.wk (fun y hy => Or.inl (by simp only [List.mem_cons, List.not_mem_nil, or_false] at hy ⊢; omega)) (Nat.le_refl _) (Nat.le_refl _)⟩
          · rw [show X p a 0 = 125 by omega]
            refine s_sp (p' := 207) (ls' := _) rfl rfl rfl ?_
            refine s_ild (p' := 209) rfl rfl rfl ?_
            by_cases hc : C = true
            · refine s_if (p' := 212) false rfl (by rw [hc]; rfl) rfl ?_
              refine s_aldn (p' := 213) rfl rfl rfl ?_
              refine s_ildn (p' := 214) rfl rfl rfl ?_
              refine s_bip (p' := 216) rfl rfl ?_
              refine s_con (p' := 217) rfl rfl ?_
              refine s_callEV (p' := 220) (ls0 := [_, _, _, _]) rfl rfl rfl rfl rfl (mj_rcv_is hR.c0) rfl (x_bat (a := a) (s := 125) (wn := 0) bR hR (by decide)) rfl rfl ?_
              rintro _ g ⟨rfl, r1, m1⟩
              refine s_goto (p' := 233) rfl rfl ?_
              refine s_iret rfl rfl ?_
              exact ⟨_, _, rfl, Or.inr ⟨_, (by unfold brA brk_; simp [q91, q124, q93, q123, q47, show X p a 0 = 125 by omega, hc]), rfl, r1⟩, m1⟩
            · refine s_if (p' := 223) true rfl (by rw [Bool.eq_false_iff.mpr hc]; rfl) rfl ?_
              refine s_aldn (p' := 224) rfl rfl rfl ?_
              refine s_aldn (p' := 225) rfl rfl rfl ?_
              refine s_gf (p' := 228) rfl hq rfl rfl ?_
              rw [hi 5 (by decide)]
              refine s_con (p' := 229) rfl rfl ?_
              refine s_sp (p' := 230) (ls' := _) rfl rfl rfl ?_
              rw [mI_add]
              refine s_callEV (p' := 233) (ls0 := [_, _]) rfl rfl rfl rfl rfl (mj_rcv_is hR.c0) rfl (x_mvt (l1 := X p a 5 + 1) bR hR) rfl rfl ?_
              rintro _ g ⟨rfl, r1, m1⟩
              refine s_iret rfl rfl ?_
              exact ⟨_, _, rfl, Or.inl ⟨_, (by unfold brA brk_; simp [q91, q124, q93, q123, q47, show X p a 0 = 125 by omega, hc]), rfl, r1⟩, m1.wk (fun y hy => Or.inl (by simp only [List.mem_cons, List.not_mem_nil, or_false] at hy ⊢; omega)) (Nat.le_refl _) (Nat.le_refl _)⟩
