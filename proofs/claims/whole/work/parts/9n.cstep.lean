/-! The class runs: steps. -/
theorem cRn.rs {h : mj_H} {R S p l c : Nat} {w : Bool} {cp cl : Nat → Nat} {cw : Nat → Bool} {z : CZ} (bR : R + 6 < mj_CB) (hR : cRn h R S (p, l, c, w, cp, cl, cw) z) (p' l' c' : Nat) (w' : Bool) (hc : c' ≤ c) : cRn (h.set R (rnC R S z.1 p' l' c' w')) R S (p', l', c', w', cp, cl, cw) z := by
  obtain ⟨a, ⟨⟨f1, a1, b1⟩, ⟨f2, a2, b2⟩, f3, a3, b3, b4⟩, lf, nf, a4, a5, b⟩ := hR
  dsimp only at b1 b2 b4
  exact ⟨rd_set (by omega) a, ⟨⟨f1, (rd_setn (by omega)).trans a1, fun d hd => b1 d (by have hd : d < c' := hd; omega)⟩, ⟨f2, (rd_setn (by omega)).trans a2, fun d hd => b2 d (by have hd : d < c' := hd; omega)⟩, f3, (rd_setn (by omega)).trans a3, b3, fun d hd => b4 d (by have hd : d < c' := hd; omega)⟩, lf, nf, (rd_setn (by omega)).trans a4, (rd_setn (by omega)).trans a5, b⟩
theorem cRn.c0 {h : mj_H} {R S : Nat} {r : SR} {z : CZ} (hR : cRn h R S r z) : mj_rd h R = some (rnC R S z.1 r.1 r.2.1 r.2.2.1 r.2.2.2.1) := hR.1
theorem cRn.c1 {h : mj_H} {R S p l c : Nat} {w : Bool} {cp cl : Nat → Nat} {cw : Nat → Bool} {z : CZ} (hR : cRn h R S (p, l, c, w, cp, cl, cw) z) : mj_rd h R = some (rnC R S z.1 p l c w) := hR.1
theorem mo_R {h : mj_H} {R S : Nat} {r : SR} {z : CZ} {c : mj_C} (bR : R + 6 < mj_CB) (hR : cRn h R S r z) (hc : mj_cs c = 13) : mz_mo [R] 0 0 h (h.set R c) := mz_mo.s (mz_mo.rf _ _ _ _) (by omega) hR.1 hc (Or.inl (by simp))
theorem x_mvt {h : mj_H} {R S p l c : Nat} {w : Bool} {cp cl : Nat → Nat} {cw : Nat → Bool} {z : CZ} (bR : R + 6 < mj_CB) (hR : cRn h R S (p, l, c, w, cp, cl, cw) z) {l1 : Nat} : mj_Wp 0 174 (0, [some (.ref R), some (.int (nI l1))], [], h) (mz_V fun rv h' => rv = .int (nI 1) ∧ cRn h' R S (p, l1, c, w, cp, cl, cw) z ∧ mz_mo [R] 0 0 h h') := by
  refine s_aldn (p' := 1) rfl rfl rfl ?_
  refine s_ildn (p' := 2) rfl rfl rfl ?_
  refine s_pf (p' := 5) (fs' := [_, _, _, _, _, _, _, _, _, _, _, _, _]) rfl (by omega) hR.c0 (Nat.blt_eq.mp rfl) rfl rfl rfl ?_
  refine s_con (p' := 6) rfl rfl ?_
  refine s_iret rfl rfl ?_
  exact ⟨_, _, rfl, rfl, hR.rs bR p l1 c w (Nat.le_refl _), mo_R bR hR rfl⟩
theorem x_bat {h : mj_H} {R S p l c : Nat} {w : Bool} {cp cl : Nat → Nat} {cw : Nat → Bool} {z : CZ} (bR : R + 6 < mj_CB) (hR : cRn h R S (p, l, c, w, cp, cl, cw) z) {a s wn : Nat} (hs : s < 65536) : mj_Wp 1 175 (0, [some (.ref R), some (.int (nI a)), some (.int (nI s)), some (.int (nI wn))], [], h) (mz_V fun rv h' => rv = .int (nI 0) ∧ cRn h' R S (p, l, c, w, cp, cl, cw) (2, 116, a, s, wn) ∧ mz_mo [R, R + 4, R + 5] 0 0 h h') := by
  refine s_aldn (p' := 1) rfl rfl rfl ?_
  refine s_bip (p' := 3) rfl rfl ?_
  refine s_ildn (p' := 4) rfl rfl rfl ?_
  refine s_callEV (p' := 7) (ls0 := [_, _, _]) rfl rfl rfl rfl rfl (mj_rcv_is hR.c0) rfl (x_bof (lt := 116) (nu := a) bR hR (by decide)) rfl rfl ?_
  rintro _ g ⟨rfl, r1, m1⟩
  obtain ⟨k0, hrw, lf, nf, a4, a5, hz, z1, _⟩ := r1
  have z1 := z1 Nat.zero_lt_one
  refine s_sp (p' := 8) (ls' := _) rfl rfl rfl ?_
  refine s_aldn (p' := 9) rfl rfl rfl ?_
  refine s_con (p' := 10) rfl rfl ?_
  refine s_pf (p' := 13) (fs' := [_, _, _, _, _, _, _, _, _, _, _, _, _]) rfl (by omega) k0 (Nat.blt_eq.mp rfl) rfl rfl rfl ?_
  refine s_aldn (p' := 14) rfl rfl rfl ?_
  refine s_gf (p' := 17) rfl (rd_set (by omega) k0) rfl rfl ?_
  refine s_con (p' := 18) rfl rfl ?_
  refine s_ildn (p' := 19) rfl rfl rfl ?_
  refine s_cas (p' := 20) rfl (by omega) ((rd_setn (by omega)).trans a4) (inb_nI (by omega) (by omega)) rfl ?_
  rw [mI_cl (by omega), ch_nar hs]
  refine s_aldn (p' := 21) rfl rfl rfl ?_
  refine s_gf (p' := 24) rfl ((rd_setn (by omega)).trans (rd_set (by omega) k0)) rfl rfl ?_
  refine s_con (p' := 25) rfl rfl ?_
  refine s_ildn (p' := 26) rfl rfl rfl ?_
  refine s_ias (p' := 27) rfl (by omega) ((rd_setn (by omega)).trans ((rd_setn (by omega)).trans a5)) (inb_nI (by omega) (by omega)) rfl ?_
  rw [mI_cl (by omega)]
  refine s_con (p' := 28) rfl rfl ?_
  refine s_iret rfl rfl ?_
  have f1 : mz_fr [R, R + 4, R + 5] g _ := ((mz_fr.rf [R, R + 4, R + 5] g).s (a := R) (c := rnC R S 2 p l c w) (by simp)).s (a := R + 4) (c := .inl (3, (2, .inl (upd lf 1 (nI s))))) (by simp) |>.s (a := R + 5) (c := .inl (0, (2, .inl (upd nf 1 (nI wn))))) (by simp)
  exact ⟨_, _, rfl, rfl, ⟨(rd_setn (by omega)).trans ((rd_setn (by omega)).trans (rd_set (by omega) k0)), hrw.fr f1 (by simp) (by simp) (by simp), _, _, (rd_setn (by omega)).trans (rd_set (by omega) ((rd_setn (by omega)).trans a4)), rd_set (by omega) ((rd_setn (by omega)).trans ((rd_setn (by omega)).trans a5)), Nat.le_refl 2, fun _ => ⟨z1.1, z1.2⟩, fun _ => ⟨rfl, rfl⟩⟩, mo00 m1 (mz_mo.s (mz_mo.s (mz_mo.s (mz_mo.rf _ _ _ _) (by omega) k0 rfl (Or.inl (by simp))) (by omega) ((rd_setn (by omega)).trans a4) rfl (Or.inl (by simp))) (by omega) ((rd_setn (by omega)).trans ((rd_setn (by omega)).trans a5)) rfl (Or.inl (by simp)))⟩
theorem x_pA {h : mj_H} {R S p l c : Nat} {w : Bool} {cp cl : Nat → Nat} {cw : Nat → Bool} {z : CZ} (bR : R + 6 < mj_CB) (hR : cRn h R S (p, l, c, w, cp, cl, cw) z) {v st : Nat → Int32} {t : Nat} (bS : S + 3 < mj_CB) (hS : cSt h S (v, st, t)) {np : Nat} {K : Nat → Nat} {X : Nat → Nat → Nat → Nat} (hl : cLb h np K X) (hp : p < np) {a : Nat} (ha : a < K p) (h5 : X p a 5 < K p) (h6 : X p a 6 < K p) (h7 : X p a 7 < K p) (hK : K p ≤ 30) (t5 : tst (X p (X p a 5))) (t7 : tst (X p (X p a 7))) (h0 : X p a 0 = 91 ∨ X p a 0 = 124 ∨ X p a 0 = 93 ∨ X p a 0 = 123 ∨ X p a 0 = 47 ∨ X p a 0 = 125) : mj_Wp 2 172 (0, [some (.ref R), some (.ref (bP p + 3)), some (.ref (bP p + 6 + a)), some (.int (nI a)), none, none], [], h) (mz_V fun rv h' => ((∃ l', brA (X p a) a (hld v (X p (X p a 5))) (hld v (X p (X p a 7))) = .inl l' ∧ rv = .int (nI 1) ∧ cRn h' R S (p, l', c, w, cp, cl, cw) z) ∨ ∃ z', brA (X p a) a (hld v (X p (X p a 5))) (hld v (X p (X p a 7))) = .inr z' ∧ rv = .int (nI 0) ∧ cRn h' R S (p, l, c, w, cp, cl, cw) z') ∧ mz_mo [R, R + 4, R + 5] 0 0 h h') := by
  obtain ⟨_, _, _, hl2⟩ := id hl
  obtain ⟨_, _, _, _, hins⟩ := hl2 p hp
  obtain ⟨ia, hq, hi⟩ := hins a ha
  obtain ⟨i5, hq5, hi5⟩ := hins (X p a 5) h5
  obtain ⟨i7, hq7, hi7⟩ := hins (X p a 7) h7
  have b5 := of_decide_eq_true t5.2.1
  have b7 := of_decide_eq_true t7.2.1
  refine s_aldn (p' := 1) rfl rfl rfl ?_
  refine s_gf (p' := 4) rfl hR.c0 rfl rfl ?_
  refine s_aldn (p' := 5) rfl rfl rfl ?_
  refine s_aldn (p' := 6) rfl rfl rfl ?_
  refine s_gf (p' := 9) rfl hq rfl rfl ?_
  rw [hi 5 (by decide)]
  refine s_callV (p' := 12) (ls0 := [_, _]) rfl rfl rfl rfl rfl (mj_rcv_is (hl2 p hp).2.1) rfl (x_lat hl hp h5) (by first | decide | omega) rfl ?_
  refine s_callV (p' := 15) (ls0 := [_, _, _, _]) rfl rfl rfl rfl rfl (mj_rcv_is hS.1) rfl (x_hld bS hS hq5 hi5 t5.1 t5.2.2 (by omega)) (by first | decide | omega) rfl ?_
  refine s_ist (p' := 17) (ls' := [_, _, _, _, _, _]) rfl rfl rfl rfl ?_
  refine s_aldn (p' := 18) rfl rfl rfl ?_
  refine s_gf (p' := 21) rfl hR.c0 rfl rfl ?_
  refine s_aldn (p' := 22) rfl rfl rfl ?_
  refine s_aldn (p' := 23) rfl rfl rfl ?_
  refine s_gf (p' := 26) rfl hq rfl rfl ?_
  rw [hi 7 (by decide)]
  refine s_callV (p' := 29) (ls0 := [_, _]) rfl rfl rfl rfl rfl (mj_rcv_is (hl2 p hp).2.1) rfl (x_lat hl hp h7) (by first | decide | omega) rfl ?_
  refine s_callV (p' := 32) (ls0 := [_, _, _, _]) rfl rfl rfl rfl rfl (mj_rcv_is hS.1) rfl (x_hld bS hS hq7 hi7 t7.1 t7.2.2 (by omega)) (by first | decide | omega) rfl ?_
  refine s_ist (p' := 34) (ls' := [_, _, _, _, _, _]) rfl rfl rfl rfl ?_
  generalize hld v (X p (X p a 5)) = C
  generalize hld v (X p (X p a 7)) = D
  refine s_aldn (p' := 35) rfl rfl rfl ?_
  refine s_gf (p' := 38) rfl hq rfl rfl ?_
  rw [hi 0 (by decide)]
  by_cases q91 : X p a 0 = 91
  · rw [q91]
    refine s_sp (p' := 88) (ls' := _) rfl rfl rfl ?_
    refine s_aldn (p' := 89) rfl rfl rfl ?_
    refine s_ild (p' := 91) rfl rfl rfl ?_
    by_cases hc : C = true
    · refine s_if (p' := 94) false rfl (by rw [hc]; rfl) rfl ?_
      refine s_ildn (p' := 95) rfl rfl rfl ?_
      refine s_con (p' := 96) rfl rfl ?_
      refine s_sp (p' := 97) (ls' := _) rfl rfl rfl ?_
      rw [mI_add]
      refine s_goto (p' := 106) rfl rfl ?_
      refine s_callEV (p' := 109) (ls0 := [_, _]) rfl rfl rfl rfl rfl (mj_rcv_is hR.c0) rfl (x_mvt (l1 := a + 1) bR hR) rfl rfl ?_
      rintro _ g ⟨rfl, r1, m1⟩
      refine s_iret rfl rfl ?_
      exact ⟨_, _, rfl, Or.inl ⟨_, (by unfold brA brk_; simp [q91, hc]), rfl, r1⟩, m1.wk (fun y hy => Or.inl (by simp only [List.mem_cons, List.not_mem_nil, or_false] at hy ⊢; omega)) (Nat.le_refl _) (Nat.le_refl _)⟩
    · refine s_if (p' := 100) true rfl (by rw [Bool.eq_false_iff.mpr hc]; rfl) rfl ?_
      refine s_aldn (p' := 101) rfl rfl rfl ?_
      refine s_gf (p' := 104) rfl hq rfl rfl ?_
      rw [hi 6 (by decide)]
      refine s_con (p' := 105) rfl rfl ?_
      refine s_sp (p' := 106) (ls' := _) rfl rfl rfl ?_
      rw [mI_add]
      refine s_callEV (p' := 109) (ls0 := [_, _]) rfl rfl rfl rfl rfl (mj_rcv_is hR.c0) rfl (x_mvt (l1 := X p a 6 + 1) bR hR) rfl rfl ?_
      rintro _ g ⟨rfl, r1, m1⟩
      refine s_iret rfl rfl ?_
      exact ⟨_, _, rfl, Or.inl ⟨_, (by unfold brA brk_; simp [q91, hc]), rfl, r1⟩, m1.wk (fun y hy => Or.inl (by simp only [List.mem_cons, List.not_mem_nil, or_false] at hy ⊢; omega)) (Nat.le_refl _) (Nat.le_refl _)⟩
  · by_cases q124 : X p a 0 = 124
    · rw [q124]
      refine s_sp (p' := 110) (ls' := _) rfl rfl rfl ?_
      refine s_ild (p' := 112) rfl rfl rfl ?_
      by_cases hc : D = true
      · refine s_if (p' := 115) false rfl (by rw [hc]; rfl) rfl ?_
        refine s_aldn (p' := 116) rfl rfl rfl ?_
        refine s_aldn (p' := 117) rfl rfl rfl ?_
        refine s_gf (p' := 120) rfl hq rfl rfl ?_
        rw [hi 7 (by decide)]
        refine s_con (p' := 121) rfl rfl ?_
        refine s_sp (p' := 122) (ls' := _) rfl rfl rfl ?_
        rw [mI_add]
        refine s_callEV (p' := 125) (ls0 := [_, _]) rfl rfl rfl rfl rfl (mj_rcv_is hR.c0) rfl (x_mvt (l1 := X p a 7 + 1) bR hR) rfl rfl ?_
        rintro _ g ⟨rfl, r1, m1⟩
        refine s_goto (p' := 136) rfl rfl ?_
        refine s_iret rfl rfl ?_
        exact ⟨_, _, rfl, Or.inl ⟨_, (by unfold brA brk_; simp [q91, q124, hc]), rfl, r1⟩, m1.wk (fun y hy => Or.inl (by simp only [List.mem_cons, List.not_mem_nil, or_false] at hy ⊢; omega)) (Nat.le_refl _) (Nat.le_refl _)⟩
      · refine s_if (p' := 128) true rfl (by rw [Bool.eq_false_iff.mpr hc]; rfl) rfl ?_
        refine s_aldn (p' := 129) rfl rfl rfl ?_
        refine s_ildn (p' := 130) rfl rfl rfl ?_
        refine s_bip (p' := 132) rfl rfl ?_
        refine s_con (p' := 133) rfl rfl ?_
        refine s_callEV (p' := 136) (ls0 := [_, _, _, _]) rfl rfl rfl rfl rfl (mj_rcv_is hR.c0) rfl (x_bat (a := a) (s := 124) (wn := 1) bR hR (by decide)) rfl rfl ?_
        rintro _ g ⟨rfl, r1, m1⟩
        refine s_iret rfl rfl ?_
        exact ⟨_, _, rfl, Or.inr ⟨_, (by unfold brA brk_; simp [q91, q124, hc]), rfl, r1⟩, m1⟩
    · by_cases q93 : X p a 0 = 93
      · rw [q93]
        refine s_sp (p' := 137) (ls' := _) rfl rfl rfl ?_
        refine s_ild (p' := 139) rfl rfl rfl ?_
        by_cases hc : D = true
        · refine s_if (p' := 142) false rfl (by rw [hc]; rfl) rfl ?_
          refine s_aldn (p' := 143) rfl rfl rfl ?_
          refine s_ildn (p' := 144) rfl rfl rfl ?_
          refine s_bip (p' := 146) rfl rfl ?_
          refine s_con (p' := 147) rfl rfl ?_
          refine s_callEV (p' := 150) (ls0 := [_, _, _, _]) rfl rfl rfl rfl rfl (mj_rcv_is hR.c0) rfl (x_bat (a := a) (s := 93) (wn := 0) bR hR (by decide)) rfl rfl ?_
          rintro _ g ⟨rfl, r1, m1⟩
          refine s_goto (p' := 160) rfl rfl ?_
          refine s_iret rfl rfl ?_
          exact ⟨_, _, rfl, Or.inr ⟨_, (by unfold brA brk_; simp [q91, q124, q93, hc]), rfl, r1⟩, m1⟩
        · refine s_if (p' := 153) true rfl (by rw [Bool.eq_false_iff.mpr hc]; rfl) rfl ?_
          refine s_aldn (p' := 154) rfl rfl rfl ?_
          refine s_ildn (p' := 155) rfl rfl rfl ?_
          refine s_con (p' := 156) rfl rfl ?_
          refine s_sp (p' := 157) (ls' := _) rfl rfl rfl ?_
          rw [mI_add]
          refine s_callEV (p' := 160) (ls0 := [_, _]) rfl rfl rfl rfl rfl (mj_rcv_is hR.c0) rfl (x_mvt (l1 := a + 1) bR hR) rfl rfl ?_
          rintro _ g ⟨rfl, r1, m1⟩
          refine s_iret rfl rfl ?_
          exact ⟨_, _, rfl, Or.inl ⟨_, (by unfold brA brk_; simp [q91, q124, q93, hc]), rfl, r1⟩, m1.wk (fun y hy => Or.inl (by simp only [List.mem_cons, List.not_mem_nil, or_false] at hy ⊢; omega)) (Nat.le_refl _) (Nat.le_refl _)⟩
      · by_cases q123 : X p a 0 = 123
        · rw [q123]
          refine s_sp (p' := 161) (ls' := _) rfl rfl rfl ?_
          refine s_ild (p' := 163) rfl rfl rfl ?_
          by_cases hc : C = true
          · refine s_if (p' := 166) false rfl (by rw [hc]; rfl) rfl ?_
            refine s_aldn (p' := 167) rfl rfl rfl ?_
            refine s_ildn (p' := 168) rfl rfl rfl ?_
            refine s_con (p' := 169) rfl rfl ?_
            refine s_sp (p' := 170) (ls' := _) rfl rfl rfl ?_
            rw [mI_add]
            refine s_callEV (p' := 173) (ls0 := [_, _]) rfl rfl rfl rfl rfl (mj_rcv_is hR.c0) rfl (x_mvt (l1 := a + 1) bR hR) rfl rfl ?_
            rintro _ g ⟨rfl, r1, m1⟩
            refine s_goto (p' := 184) rfl rfl ?_
            refine s_iret rfl rfl ?_
            exact ⟨_, _, rfl, Or.inl ⟨_, (by unfold brA brk_; simp [q91, q124, q93, q123, hc]), rfl, r1⟩, m1.wk (fun y hy => Or.inl (by simp only [List.mem_cons, List.not_mem_nil, or_false] at hy ⊢; omega)) (Nat.le_refl _) (Nat.le_refl _)⟩
          · refine s_if (p' := 176) true rfl (by rw [Bool.eq_false_iff.mpr hc]; rfl) rfl ?_
            refine s_aldn (p' := 177) rfl rfl rfl ?_
            refine s_ildn (p' := 178) rfl rfl rfl ?_
            refine s_bip (p' := 180) rfl rfl ?_
            refine s_con (p' := 181) rfl rfl ?_
            refine s_callEV (p' := 184) (ls0 := [_, _, _, _]) rfl rfl rfl rfl rfl (mj_rcv_is hR.c0) rfl (x_bat (a := a) (s := 123) (wn := 1) bR hR (by decide)) rfl rfl ?_
            rintro _ g ⟨rfl, r1, m1⟩
            refine s_iret rfl rfl ?_
            exact ⟨_, _, rfl, Or.inr ⟨_, (by unfold brA brk_; simp [q91, q124, q93, q123, hc]), rfl, r1⟩, m1⟩
        · by_cases q47 : X p a 0 = 47
          · rw [q47]
            refine s_sp (p' := 185) (ls' := _) rfl rfl rfl ?_
            refine s_aldn (p' := 186) rfl rfl rfl ?_
            refine s_ild (p' := 188) rfl rfl rfl ?_
            by_cases hc : D = true
            · refine s_if (p' := 191) false rfl (by rw [hc]; rfl) rfl ?_
              refine s_aldn (p' := 192) rfl rfl rfl ?_
              refine s_gf (p' := 195) rfl hq rfl rfl ?_
              rw [hi 7 (by decide)]
              refine s_con (p' := 196) rfl rfl ?_
              refine s_sp (p' := 197) (ls' := _) rfl rfl rfl ?_
              rw [mI_add]
              refine s_goto (p' := 203) rfl rfl ?_
              refine s_callEV (p' := 206) (ls0 := [_, _]) rfl rfl rfl rfl rfl (mj_rcv_is hR.c0) rfl (x_mvt (l1 := X p a 7 + 1) bR hR) rfl rfl ?_
              rintro _ g ⟨rfl, r1, m1⟩
              refine s_iret rfl rfl ?_
              exact ⟨_, _, rfl, Or.inl ⟨_, (by unfold brA brk_; simp [q91, q124, q93, q123, q47, hc]), rfl, r1⟩, m1.wk (fun y hy => Or.inl (by simp only [List.mem_cons, List.not_mem_nil, or_false] at hy ⊢; omega)) (Nat.le_refl _) (Nat.le_refl _)⟩
            · refine s_if (p' := 200) true rfl (by rw [Bool.eq_false_iff.mpr hc]; rfl) rfl ?_
              refine s_ildn (p' := 201) rfl rfl rfl ?_
              refine s_con (p' := 202) rfl rfl ?_
              refine s_sp (p' := 203) (ls' := _) rfl rfl rfl ?_
              rw [mI_add]
              refine s_callEV (p' := 206) (ls0 := [_, _]) rfl rfl rfl rfl rfl (mj_rcv_is hR.c0) rfl (x_mvt (l1 := a + 1) bR hR) rfl rfl ?_
              rintro _ g ⟨rfl, r1, m1⟩
              refine s_iret rfl rfl ?_
              exact ⟨_, _, rfl, Or.inl ⟨_, (by unfold brA brk_; simp [q91, q124, q93, q123, q47, hc]), rfl, r1⟩, m1.wk (fun y hy => Or.inl (by simp only [List.mem_cons, List.not_mem_nil, or_false] at hy ⊢; omega)) (Nat.le_refl _) (Nat.le_refl _)⟩
          · rw [show X p a 0 = 125 by omega]
            refine s_sp (p' := 207) (ls' := _) rfl rfl rfl ?_
            refine s_ild (p' := 209) rfl rfl rfl ?_
            by_cases hc : C = true
            · refine s_if (p' := 212) false rfl (by rw [hc]; rfl) rfl ?_
              refine s_aldn (p' := 213) rfl rfl rfl ?_
              refine s_ildn (p' := 214) rfl rfl rfl ?_
              refine s_bip (p' := 216) rfl rfl ?_
              refine s_con (p' := 217) rfl rfl ?_
              refine s_callEV (p' := 220) (ls0 := [_, _, _, _]) rfl rfl rfl rfl rfl (mj_rcv_is hR.c0) rfl (x_bat (a := a) (s := 125) (wn := 0) bR hR (by decide)) rfl rfl ?_
              rintro _ g ⟨rfl, r1, m1⟩
              refine s_goto (p' := 233) rfl rfl ?_
              refine s_iret rfl rfl ?_
              exact ⟨_, _, rfl, Or.inr ⟨_, (by unfold brA brk_; simp [q91, q124, q93, q123, q47, show X p a 0 = 125 by omega, hc]), rfl, r1⟩, m1⟩
            · refine s_if (p' := 223) true rfl (by rw [Bool.eq_false_iff.mpr hc]; rfl) rfl ?_
              refine s_aldn (p' := 224) rfl rfl rfl ?_
              refine s_aldn (p' := 225) rfl rfl rfl ?_
              refine s_gf (p' := 228) rfl hq rfl rfl ?_
              rw [hi 5 (by decide)]
              refine s_con (p' := 229) rfl rfl ?_
              refine s_sp (p' := 230) (ls' := _) rfl rfl rfl ?_
              rw [mI_add]
              refine s_callEV (p' := 233) (ls0 := [_, _]) rfl rfl rfl rfl rfl (mj_rcv_is hR.c0) rfl (x_mvt (l1 := X p a 5 + 1) bR hR) rfl rfl ?_
              rintro _ g ⟨rfl, r1, m1⟩
              refine s_iret rfl rfl ?_
              exact ⟨_, _, rfl, Or.inl ⟨_, (by unfold brA brk_; simp [q91, q124, q93, q123, q47, show X p a 0 = 125 by omega, hc]), rfl, r1⟩, m1.wk (fun y hy => Or.inl (by simp only [List.mem_cons, List.not_mem_nil, or_false] at hy ⊢; omega)) (Nat.le_refl _) (Nat.le_refl _)⟩
theorem x_pB {h : mj_H} {R S p l c : Nat} {w : Bool} {cp cl : Nat → Nat} {cw : Nat → Bool} {z : CZ} (bR : R + 6 < mj_CB) (hR : cRn h R S (p, l, c, w, cp, cl, cw) z) {v st : Nat → Int32} {t : Nat} (bS : S + 3 < mj_CB) (hS : cSt h S (v, st, t)) {np : Nat} {K : Nat → Nat} {X : Nat → Nat → Nat → Nat} (hl : cLb h np K X) (hp : p < np) {a : Nat} (ha : a < K p) (h5 : X p a 5 < K p) (h6 : X p a 6 < K p) (h7 : X p a 7 < K p) (hK : K p ≤ 30) (t5 : tst (X p (X p a 5))) (t7 : tst (X p (X p a 7))) (h0 : X p a 0 = 93 ∨ X p a 0 = 124 ∨ X p a 0 = 91 ∨ X p a 0 = 125 ∨ X p a 0 = 47 ∨ X p a 0 = 123) : mj_Wp 2 176 (0, [some (.ref R), some (.ref (bP p + 3)), some (.ref (bP p + 6 + a)), some (.int (nI a)), none, none], [], h) (mz_V fun rv h' => ((∃ l', brB (X p a) a (hld v (X p (X p a 5))) (hld v (X p (X p a 7))) = .inl l' ∧ rv = .int (nI 1) ∧ cRn h' R S (p, l', c, w, cp, cl, cw) z) ∨ ∃ z', brB (X p a) a (hld v (X p (X p a 5))) (hld v (X p (X p a 7))) = .inr z' ∧ rv = .int (nI 0) ∧ cRn h' R S (p, l, c, w, cp, cl, cw) z') ∧ mz_mo [R, R + 4, R + 5] 0 0 h h') := by
  obtain ⟨_, _, _, hl2⟩ := id hl
  obtain ⟨_, _, _, _, hins⟩ := hl2 p hp
  obtain ⟨ia, hq, hi⟩ := hins a ha
  obtain ⟨i5, hq5, hi5⟩ := hins (X p a 5) h5
  obtain ⟨i7, hq7, hi7⟩ := hins (X p a 7) h7
  have b5 := of_decide_eq_true t5.2.1
  have b7 := of_decide_eq_true t7.2.1
  refine s_aldn (p' := 1) rfl rfl rfl ?_
  refine s_gf (p' := 4) rfl hR.c0 rfl rfl ?_
  refine s_aldn (p' := 5) rfl rfl rfl ?_
  refine s_aldn (p' := 6) rfl rfl rfl ?_
  refine s_gf (p' := 9) rfl hq rfl rfl ?_
  rw [hi 5 (by decide)]
  refine s_callV (p' := 12) (ls0 := [_, _]) rfl rfl rfl rfl rfl (mj_rcv_is (hl2 p hp).2.1) rfl (x_lat hl hp h5) (by first | decide | omega) rfl ?_
  refine s_callV (p' := 15) (ls0 := [_, _, _, _]) rfl rfl rfl rfl rfl (mj_rcv_is hS.1) rfl (x_hld bS hS hq5 hi5 t5.1 t5.2.2 (by omega)) (by first | decide | omega) rfl ?_
  refine s_ist (p' := 17) (ls' := [_, _, _, _, _, _]) rfl rfl rfl rfl ?_
  refine s_aldn (p' := 18) rfl rfl rfl ?_
  refine s_gf (p' := 21) rfl hR.c0 rfl rfl ?_
  refine s_aldn (p' := 22) rfl rfl rfl ?_
  refine s_aldn (p' := 23) rfl rfl rfl ?_
  refine s_gf (p' := 26) rfl hq rfl rfl ?_
  rw [hi 7 (by decide)]
  refine s_callV (p' := 29) (ls0 := [_, _]) rfl rfl rfl rfl rfl (mj_rcv_is (hl2 p hp).2.1) rfl (x_lat hl hp h7) (by first | decide | omega) rfl ?_
  refine s_callV (p' := 32) (ls0 := [_, _, _, _]) rfl rfl rfl rfl rfl (mj_rcv_is hS.1) rfl (x_hld bS hS hq7 hi7 t7.1 t7.2.2 (by omega)) (by first | decide | omega) rfl ?_
  refine s_ist (p' := 34) (ls' := [_, _, _, _, _, _]) rfl rfl rfl rfl ?_
  generalize hld v (X p (X p a 5)) = C
  generalize hld v (X p (X p a 7)) = D
  refine s_aldn (p' := 35) rfl rfl rfl ?_
  refine s_gf (p' := 38) rfl hq rfl rfl ?_
  rw [hi 0 (by decide)]
  by_cases q93 : X p a 0 = 93
  · rw [q93]
    refine s_sp (p' := 88) (ls' := _) rfl rfl rfl ?_
    refine s_aldn (p' := 89) rfl rfl rfl ?_
    refine s_ild (p' := 91) rfl rfl rfl ?_
    by_cases hc : D = true
    · refine s_if (p' := 94) false rfl (by rw [hc]; rfl) rfl ?_
      refine s_aldn (p' := 95) rfl rfl rfl ?_
      refine s_gf (p' := 98) rfl hq rfl rfl ?_
      rw [hi 6 (by decide)]
      refine s_goto (p' := 102) rfl rfl ?_
      refine s_callEV (p' := 105) (ls0 := [_, _]) rfl rfl rfl rfl rfl (mj_rcv_is hR.c0) rfl (x_mvt (l1 := X p a 6) bR hR) rfl rfl ?_
      rintro _ g ⟨rfl, r1, m1⟩
      refine s_iret rfl rfl ?_
      exact ⟨_, _, rfl, Or.inl ⟨_, (by unfold brB brk_; simp [q93, hc]), rfl, r1⟩, m1.wk (fun y hy => Or.inl (by simp only [List.mem_cons, List.not_mem_nil, or_false] at hy ⊢; omega)) (Nat.le_refl _) (Nat.le_refl _)⟩
    · refine s_if (p' := 101) true rfl (by rw [Bool.eq_false_iff.mpr hc]; rfl) rfl ?_
      refine s_ildn (p' := 102) rfl rfl rfl ?_
      refine s_callEV (p' := 105) (ls0 := [_, _]) rfl rfl rfl rfl rfl (mj_rcv_is hR.c0) rfl (x_mvt (l1 := a) bR hR) rfl rfl ?_
      rintro _ g ⟨rfl, r1, m1⟩
      refine s_iret rfl rfl ?_
      exact ⟨_, _, rfl, Or.inl ⟨_, (by unfold brB brk_; simp [q93, hc]), rfl, r1⟩, m1.wk (fun y hy => Or.inl (by simp only [List.mem_cons, List.not_mem_nil, or_false] at hy ⊢; omega)) (Nat.le_refl _) (Nat.le_refl _)⟩
  · by_cases q124 : X p a 0 = 124
    · rw [q124]
      refine s_sp (p' := 106) (ls' := _) rfl rfl rfl ?_
      refine s_ild (p' := 108) rfl rfl rfl ?_
      by_cases hc : C = true
      · refine s_if (p' := 111) false rfl (by rw [hc]; rfl) rfl ?_
        refine s_aldn (p' := 112) rfl rfl rfl ?_
        refine s_ildn (p' := 113) rfl rfl rfl ?_
        refine s_bip (p' := 115) rfl rfl ?_
        refine s_con (p' := 116) rfl rfl ?_
        refine s_callEV (p' := 119) (ls0 := [_, _, _, _]) rfl rfl rfl rfl rfl (mj_rcv_is hR.c0) rfl (x_bat (a := a) (s := 124) (wn := 0) bR hR (by decide)) rfl rfl ?_
        rintro _ g ⟨rfl, r1, m1⟩
        refine s_goto (p' := 130) rfl rfl ?_
        refine s_iret rfl rfl ?_
        exact ⟨_, _, rfl, Or.inr ⟨_, (by unfold brB brk_; simp [q93, q124, hc]), rfl, r1⟩, m1⟩
      · refine s_if (p' := 122) true rfl (by rw [Bool.eq_false_iff.mpr hc]; rfl) rfl ?_
        refine s_aldn (p' := 123) rfl rfl rfl ?_
        refine s_aldn (p' := 124) rfl rfl rfl ?_
        refine s_gf (p' := 127) rfl hq rfl rfl ?_
        rw [hi 5 (by decide)]
        refine s_callEV (p' := 130) (ls0 := [_, _]) rfl rfl rfl rfl rfl (mj_rcv_is hR.c0) rfl (x_mvt (l1 := X p a 5) bR hR) rfl rfl ?_
        rintro _ g ⟨rfl, r1, m1⟩
        refine s_iret rfl rfl ?_
        exact ⟨_, _, rfl, Or.inl ⟨_, (by unfold brB brk_; simp [q93, q124, hc]), rfl, r1⟩, m1.wk (fun y hy => Or.inl (by simp only [List.mem_cons, List.not_mem_nil, or_false] at hy ⊢; omega)) (Nat.le_refl _) (Nat.le_refl _)⟩
    · by_cases q91 : X p a 0 = 91
      · rw [q91]
        refine s_sp (p' := 131) (ls' := _) rfl rfl rfl ?_
        refine s_ild (p' := 133) rfl rfl rfl ?_
        by_cases hc : C = true
        · refine s_if (p' := 136) false rfl (by rw [hc]; rfl) rfl ?_
          refine s_aldn (p' := 137) rfl rfl rfl ?_
          refine s_ildn (p' := 138) rfl rfl rfl ?_
          refine s_callEV (p' := 141) (ls0 := [_, _]) rfl rfl rfl rfl rfl (mj_rcv_is hR.c0) rfl (x_mvt (l1 := a) bR hR) rfl rfl ?_
          rintro _ g ⟨rfl, r1, m1⟩
          refine s_goto (p' := 152) rfl rfl ?_
          refine s_iret rfl rfl ?_
          exact ⟨_, _, rfl, Or.inl ⟨_, (by unfold brB brk_; simp [q93, q124, q91, hc]), rfl, r1⟩, m1.wk (fun y hy => Or.inl (by simp only [List.mem_cons, List.not_mem_nil, or_false] at hy ⊢; omega)) (Nat.le_refl _) (Nat.le_refl _)⟩
        · refine s_if (p' := 144) true rfl (by rw [Bool.eq_false_iff.mpr hc]; rfl) rfl ?_
          refine s_aldn (p' := 145) rfl rfl rfl ?_
          refine s_ildn (p' := 146) rfl rfl rfl ?_
          refine s_bip (p' := 148) rfl rfl ?_
          refine s_con (p' := 149) rfl rfl ?_
          refine s_callEV (p' := 152) (ls0 := [_, _, _, _]) rfl rfl rfl rfl rfl (mj_rcv_is hR.c0) rfl (x_bat (a := a) (s := 91) (wn := 1) bR hR (by decide)) rfl rfl ?_
          rintro _ g ⟨rfl, r1, m1⟩
          refine s_iret rfl rfl ?_
          exact ⟨_, _, rfl, Or.inr ⟨_, (by unfold brB brk_; simp [q93, q124, q91, hc]), rfl, r1⟩, m1⟩
      · by_cases q125 : X p a 0 = 125
        · rw [q125]
          refine s_sp (p' := 153) (ls' := _) rfl rfl rfl ?_
          refine s_ild (p' := 155) rfl rfl rfl ?_
          by_cases hc : D = true
          · refine s_if (p' := 158) false rfl (by rw [hc]; rfl) rfl ?_
            refine s_aldn (p' := 159) rfl rfl rfl ?_
            refine s_aldn (p' := 160) rfl rfl rfl ?_
            refine s_gf (p' := 163) rfl hq rfl rfl ?_
            rw [hi 6 (by decide)]
            refine s_callEV (p' := 166) (ls0 := [_, _]) rfl rfl rfl rfl rfl (mj_rcv_is hR.c0) rfl (x_mvt (l1 := X p a 6) bR hR) rfl rfl ?_
            rintro _ g ⟨rfl, r1, m1⟩
            refine s_goto (p' := 177) rfl rfl ?_
            refine s_iret rfl rfl ?_
            exact ⟨_, _, rfl, Or.inl ⟨_, (by unfold brB brk_; simp [q93, q124, q91, q125, hc]), rfl, r1⟩, m1.wk (fun y hy => Or.inl (by simp only [List.mem_cons, List.not_mem_nil, or_false] at hy ⊢; omega)) (Nat.le_refl _) (Nat.le_refl _)⟩
          · refine s_if (p' := 169) true rfl (by rw [Bool.eq_false_iff.mpr hc]; rfl) rfl ?_
            refine s_aldn (p' := 170) rfl rfl rfl ?_
            refine s_ildn (p' := 171) rfl rfl rfl ?_
            refine s_bip (p' := 173) rfl rfl ?_
            refine s_con (p' := 174) rfl rfl ?_
            refine s_callEV (p' := 177) (ls0 := [_, _, _, _]) rfl rfl rfl rfl rfl (mj_rcv_is hR.c0) rfl (x_bat (a := a) (s := 125) (wn := 1) bR hR (by decide)) rfl rfl ?_
            rintro _ g ⟨rfl, r1, m1⟩
            refine s_iret rfl rfl ?_
            exact ⟨_, _, rfl, Or.inr ⟨_, (by unfold brB brk_; simp [q93, q124, q91, q125, hc]), rfl, r1⟩, m1⟩
        · by_cases q47 : X p a 0 = 47
          · rw [q47]
            refine s_sp (p' := 178) (ls' := _) rfl rfl rfl ?_
            refine s_ild (p' := 180) rfl rfl rfl ?_
            by_cases hc : D = true
            · refine s_if (p' := 183) false rfl (by rw [hc]; rfl) rfl ?_
              refine s_aldn (p' := 184) rfl rfl rfl ?_
              refine s_ildn (p' := 185) rfl rfl rfl ?_
              refine s_bip (p' := 187) rfl rfl ?_
              refine s_con (p' := 188) rfl rfl ?_
              refine s_callEV (p' := 191) (ls0 := [_, _, _, _]) rfl rfl rfl rfl rfl (mj_rcv_is hR.c0) rfl (x_bat (a := a) (s := 47) (wn := 0) bR hR (by decide)) rfl rfl ?_
              rintro _ g ⟨rfl, r1, m1⟩
              refine s_goto (p' := 199) rfl rfl ?_
              refine s_iret rfl rfl ?_
              exact ⟨_, _, rfl, Or.inr ⟨_, (by unfold brB brk_; simp [q93, q124, q91, q125, q47, hc]), rfl, r1⟩, m1⟩
            · refine s_if (p' := 194) true rfl (by rw [Bool.eq_false_iff.mpr hc]; rfl) rfl ?_
              refine s_aldn (p' := 195) rfl rfl rfl ?_
              refine s_ildn (p' := 196) rfl rfl rfl ?_
              refine s_callEV (p' := 199) (ls0 := [_, _]) rfl rfl rfl rfl rfl (mj_rcv_is hR.c0) rfl (x_mvt (l1 := a) bR hR) rfl rfl ?_
              rintro _ g ⟨rfl, r1, m1⟩
              refine s_iret rfl rfl ?_
              exact ⟨_, _, rfl, Or.inl ⟨_, (by unfold brB brk_; simp [q93, q124, q91, q125, q47, hc]), rfl, r1⟩, m1.wk (fun y hy => Or.inl (by simp only [List.mem_cons, List.not_mem_nil, or_false] at hy ⊢; omega)) (Nat.le_refl _) (Nat.le_refl _)⟩
          · rw [show X p a 0 = 123 by omega]
            refine s_sp (p' := 200) (ls' := _) rfl rfl rfl ?_
            refine s_aldn (p' := 201) rfl rfl rfl ?_
            refine s_ild (p' := 203) rfl rfl rfl ?_
            by_cases hc : C = true
            · refine s_if (p' := 206) false rfl (by rw [hc]; rfl) rfl ?_
              refine s_ildn (p' := 207) rfl rfl rfl ?_
              refine s_goto (p' := 214) rfl rfl ?_
              refine s_callEV (p' := 217) (ls0 := [_, _]) rfl rfl rfl rfl rfl (mj_rcv_is hR.c0) rfl (x_mvt (l1 := a) bR hR) rfl rfl ?_
              rintro _ g ⟨rfl, r1, m1⟩
              refine s_iret rfl rfl ?_
              exact ⟨_, _, rfl, Or.inl ⟨_, (by unfold brB brk_; simp [q93, q124, q91, q125, q47, show X p a 0 = 123 by omega, hc]), rfl, r1⟩, m1.wk (fun y hy => Or.inl (by simp only [List.mem_cons, List.not_mem_nil, or_false] at hy ⊢; omega)) (Nat.le_refl _) (Nat.le_refl _)⟩
            · refine s_if (p' := 210) true rfl (by rw [Bool.eq_false_iff.mpr hc]; rfl) rfl ?_
              refine s_aldn (p' := 211) rfl rfl rfl ?_
              refine s_gf (p' := 214) rfl hq rfl rfl ?_
              rw [hi 7 (by decide)]
              refine s_callEV (p' := 217) (ls0 := [_, _]) rfl rfl rfl rfl rfl (mj_rcv_is hR.c0) rfl (x_mvt (l1 := X p a 7) bR hR) rfl rfl ?_
              rintro _ g ⟨rfl, r1, m1⟩
              refine s_iret rfl rfl ?_
              exact ⟨_, _, rfl, Or.inl ⟨_, (by unfold brB brk_; simp [q93, q124, q91, q125, q47, show X p a 0 = 123 by omega, hc]), rfl, r1⟩, m1.wk (fun y hy => Or.inl (by simp only [List.mem_cons, List.not_mem_nil, or_false] at hy ⊢; omega)) (Nat.le_refl _) (Nat.le_refl _)⟩
theorem x_ent {h : mj_H} {R S p l c : Nat} {w : Bool} {cp cl : Nat → Nat} {cw : Nat → Bool} {z : CZ} (bR : R + 6 < mj_CB) (hR : cRn h R S (p, l, c, w, cp, cl, cw) z) (hR3 : 336 ≤ R) {np q : Nat} {b : Bool} {K : Nat → Nat} {X : Nat → Nat → Nat → Nat} (hl : cLb h np K X) (hq : q < np) : mj_Wp 1 156 (0, [some (.ref R), some (.int (nI q)), some (.int (nI (bN b)))], [], h) (mz_N fun h' => cRn h' R S (q, (if b = true then 0 else K q), c, b, cp, cl, cw) z ∧ mz_mo [R] 0 0 h h') := by
  cases b with
  | true =>
    refine s_aldn (p' := 1) rfl rfl rfl ?_
    refine s_ildn (p' := 2) rfl rfl rfl ?_
    refine s_pf (p' := 5) (fs' := [_, _, _, _, _, _, _, _, _, _, _, _, _]) rfl (by omega) hR.c0 (Nat.blt_eq.mp rfl) rfl rfl rfl ?_
    generalize hg1 : List.set h R _ = h1_
    have r1 : cRn h1_ R S (q, l, c, w, cp, cl, cw) z := by rw [← hg1]; exact hR.rs bR (q) (l) (c) (w) (Nat.le_refl _)
    have m1 : mz_mo [R] 0 0 h h1_ := by rw [← hg1]; exact mo_R bR hR rfl
    clear hg1
    refine s_aldn (p' := 6) rfl rfl rfl ?_
    refine s_ildn (p' := 7) rfl rfl rfl ?_
    refine s_pf (p' := 10) (fs' := [_, _, _, _, _, _, _, _, _, _, _, _, _]) rfl (by omega) r1.c0 (Nat.blt_eq.mp rfl) rfl rfl rfl ?_
    generalize hg2 : List.set h1_ R _ = h2_
    have r2 : cRn h2_ R S (q, l, c, true, cp, cl, cw) z := by rw [← hg2]; exact r1.rs bR (q) (l) (c) (true) (Nat.le_refl _)
    have m2 : mz_mo [R] 0 0 h h2_ := by rw [← hg2]; exact mo00 m1 (mo_R bR r1 rfl)
    clear hg2
    refine s_aldn (p' := 11) rfl rfl rfl ?_
    refine s_ildn (p' := 12) rfl rfl rfl ?_
    refine s_if (p' := 15) false rfl (by decide +kernel) rfl ?_
    refine s_con (p' := 16) rfl rfl ?_
    refine s_goto (p' := 30) rfl rfl ?_
    refine s_pf (p' := 33) (fs' := [_, _, _, _, _, _, _, _, _, _, _, _, _]) rfl (by omega) r2.c0 (Nat.blt_eq.mp rfl) rfl rfl rfl ?_
    generalize hg3 : List.set h2_ R _ = h3_
    have r3 : cRn h3_ R S (q, 0, c, true, cp, cl, cw) z := by rw [← hg3]; exact r2.rs bR (q) (0) (c) (true) (Nat.le_refl _)
    have m3 : mz_mo [R] 0 0 h h3_ := by rw [← hg3]; exact mo00 m2 (mo_R bR r2 rfl)
    clear hg3
    refine s_ret rfl ?_
    exact ⟨_, rfl, r3, m3⟩
  | false =>
    refine s_aldn (p' := 1) rfl rfl rfl ?_
    refine s_ildn (p' := 2) rfl rfl rfl ?_
    refine s_pf (p' := 5) (fs' := [_, _, _, _, _, _, _, _, _, _, _, _, _]) rfl (by omega) hR.c0 (Nat.blt_eq.mp rfl) rfl rfl rfl ?_
    generalize hg1 : List.set h R _ = h1_
    have r1 : cRn h1_ R S (q, l, c, w, cp, cl, cw) z := by rw [← hg1]; exact hR.rs bR (q) (l) (c) (w) (Nat.le_refl _)
    have m1 : mz_mo [R] 0 0 h h1_ := by rw [← hg1]; exact mo_R bR hR rfl
    clear hg1
    refine s_aldn (p' := 6) rfl rfl rfl ?_
    refine s_ildn (p' := 7) rfl rfl rfl ?_
    refine s_pf (p' := 10) (fs' := [_, _, _, _, _, _, _, _, _, _, _, _, _]) rfl (by omega) r1.c0 (Nat.blt_eq.mp rfl) rfl rfl rfl ?_
    generalize hg2 : List.set h1_ R _ = h2_
    have r2 : cRn h2_ R S (q, l, c, false, cp, cl, cw) z := by rw [← hg2]; exact r1.rs bR (q) (l) (c) (false) (Nat.le_refl _)
    have m2 : mz_mo [R] 0 0 h h2_ := by rw [← hg2]; exact mo00 m1 (mo_R bR r1 rfl)
    clear hg2
    refine s_aldn (p' := 11) rfl rfl rfl ?_
    refine s_ildn (p' := 12) rfl rfl rfl ?_
    refine s_if (p' := 19) true rfl (by decide +kernel) rfl ?_
    refine s_aldn (p' := 20) rfl rfl rfl ?_
    refine s_gf (p' := 23) rfl r2.c0 rfl rfl ?_
    have hl2 := hl.fr m2.1 (fun x hx => by simp only [List.mem_cons, List.not_mem_nil, or_false] at hx; omega)
    refine s_ildn (p' := 24) rfl rfl rfl ?_
    refine s_callV (p' := 27) (ls0 := [_, _]) rfl rfl rfl rfl rfl (mj_rcv_is hl2.2.1) rfl (x_lcd hl2 hq) (by first | decide | omega) rfl ?_
    refine s_callV (p' := 30) (ls0 := [_]) rfl rfl rfl rfl rfl (mj_rcv_is (hl2.2.2.2 q hq).2.1) rfl (x_lct hl2 hq) (by first | decide | omega) rfl ?_
    refine s_pf (p' := 33) (fs' := [_, _, _, _, _, _, _, _, _, _, _, _, _]) rfl (by omega) r2.c0 (Nat.blt_eq.mp rfl) rfl rfl rfl ?_
    generalize hg3 : List.set h2_ R _ = h3_
    have r3 : cRn h3_ R S (q, (K q), c, false, cp, cl, cw) z := by rw [← hg3]; exact r2.rs bR (q) ((K q)) (c) (false) (Nat.le_refl _)
    have m3 : mz_mo [R] 0 0 h h3_ := by rw [← hg3]; exact mo00 m2 (mo_R bR r2 rfl)
    clear hg3
    refine s_ret rfl ?_
    exact ⟨_, rfl, r3, m3⟩
theorem cRn.sc {h : mj_H} {R S p l c : Nat} {w : Bool} {cp cl : Nat → Nat} {cw : Nat → Bool} {z : CZ} {a : Nat} (bR : R + 6 < mj_CB) (hR : cRn h R S (p, l, c, w, cp, cl, cw) z) (hc : c < 20) {f1 f2 f3 : Nat → Int32} (a1 : mj_rd h (R + 1) = some (.inl (0, (20, .inl f1)))) (b1 : ∀ d, d < c → f1 d = nI (cp d)) (a2 : mj_rd h (R + 2) = some (.inl (0, (20, .inl f2)))) (b2 : ∀ d, d < c → f2 d = nI (cl d)) (a3 : mj_rd h (R + 3) = some (.inl (2, (20, .inl f3)))) (b3 : ∀ d, d < 20 → ∃ b, f3 d = nI (bN b)) (b4 : ∀ d, d < c → f3 d = nI (bN (cw d))) : cRn ((((h.set (R + 1) (.inl (0, (20, .inl (upd f1 c (nI p)))))).set (R + 2) (.inl (0, (20, .inl (upd f2 c (nI a)))))).set (R + 3) (.inl (2, (20, .inl (upd f3 c (nI (bN w))))))).set R (rnC R S z.1 p l (c + 1) w)) R S (p, l, c + 1, w, upN cp c p, upN cl c a, updB cw c w) z ∧ mz_mo [R + 1, R + 2, R + 3, R] 0 0 h ((((h.set (R + 1) (.inl (0, (20, .inl (upd f1 c (nI p)))))).set (R + 2) (.inl (0, (20, .inl (upd f2 c (nI a)))))).set (R + 3) (.inl (2, (20, .inl (upd f3 c (nI (bN w))))))).set R (rnC R S z.1 p l (c + 1) w)) := by
  obtain ⟨k0, _, lf, nf, a4, a5, b5⟩ := hR
  have e1 : mj_rd (h.set (R + 1) (.inl (0, (20, .inl (upd f1 c (nI p)))))) (R + 2) = _ := (rd_setn (by omega)).trans a2
  have e2 : mj_rd ((h.set (R + 1) (.inl (0, (20, .inl (upd f1 c (nI p)))))).set (R + 2) (.inl (0, (20, .inl (upd f2 c (nI a)))))) (R + 3) = _ := (rd_setn (by omega)).trans ((rd_setn (by omega)).trans a3)
  have e3 : mj_rd (((h.set (R + 1) (.inl (0, (20, .inl (upd f1 c (nI p)))))).set (R + 2) (.inl (0, (20, .inl (upd f2 c (nI a)))))).set (R + 3) (.inl (2, (20, .inl (upd f3 c (nI (bN w))))))) R = _ := (rd_setn (by omega)).trans ((rd_setn (by omega)).trans ((rd_setn (by omega)).trans k0))
  have m : mz_mo [R + 1, R + 2, R + 3, R] 0 0 h _ := mz_mo.s (c := rnC R S z.1 p l (c + 1) w) (mz_mo.s (c := .inl (2, (20, .inl (upd f3 c (nI (bN w)))))) (mz_mo.s (c := .inl (0, (20, .inl (upd f2 c (nI a))))) (mz_mo.s (c := .inl (0, (20, .inl (upd f1 c (nI p))))) (mz_mo.rf _ _ _ _) (by omega) a1 rfl (Or.inl (by simp))) (by omega) e1 rfl (Or.inl (by simp))) (by omega) e2 rfl (Or.inl (by simp))) (by omega) e3 rfl (Or.inl (by simp))
  refine ⟨⟨rd_set (by omega) e3, ⟨⟨upd f1 c (nI p), (rd_setn (by omega)).trans ((rd_setn (by omega)).trans ((rd_setn (by omega)).trans (rd_set (by omega) a1))), fun d hd => ?_⟩, ⟨upd f2 c (nI a), (rd_setn (by omega)).trans ((rd_setn (by omega)).trans (rd_set (by omega) e1)), fun d hd => ?_⟩, upd f3 c (nI (bN w)), (rd_setn (by omega)).trans (rd_set (by omega) e2), fun d hd => ?_, fun d hd => ?_⟩, lf, nf, m.1 _ (by simp) _ a4, m.1 _ (by simp) _ a5, b5⟩, m⟩
  · have hd : d < c + 1 := hd
    show upd f1 c (nI p) d = nI (upN cp c p d)
    unfold upd upN
    by_cases q : d = c
    · rw [if_pos q, if_pos q]
    · rw [if_neg q, if_neg q]
      exact b1 d (by omega)
  · have hd : d < c + 1 := hd
    show upd f2 c (nI a) d = nI (upN cl c a d)
    unfold upd upN
    by_cases q : d = c
    · rw [if_pos q, if_pos q]
    · rw [if_neg q, if_neg q]
      exact b2 d (by omega)
  · unfold upd
    by_cases q : d = c
    · rw [if_pos q]
      exact ⟨w, rfl⟩
    · rw [if_neg q]
      exact b3 d hd
  · have hd : d < c + 1 := hd
    show upd f3 c (nI (bN w)) d = nI (bN (updB cw c w d))
    unfold upd updB
    by_cases q : d = c
    · rw [if_pos q, if_pos q]
    · rw [if_neg q, if_neg q]
      exact b4 d (by omega)
theorem x_goi {h : mj_H} {R S p l c : Nat} {w : Bool} {cp cl : Nat → Nat} {cw : Nat → Bool} {z : CZ} (bR : R + 6 < mj_CB) (hR : cRn h R S (p, l, c, w, cp, cl, cw) z) (hR3 : 336 ≤ R) {q : Nat} {ins : Nat → Int32} {A : Nat → Nat} (hq : mj_rd h q = some (inC ins)) (hi : ∀ i, i < 8 → ins i = nI (A i)) {np a : Nat} {K : Nat → Nat} {X : Nat → Nat → Nat → Nat} (hl : cLb h np K X) (h1 : A 1 < 6) (h0 : A 0 = 64 ∨ A 0 = 36) (hqR : q < R) (hc20 : c ≤ 20) : mj_Wp 2 171 (0, [some (.ref R), some (.ref q), some (.int (nI a))], [], h) (mz_V fun rv h' => ((∃ r', (if np ≤ A 1 then .inr (1, 112, A 1, 0, 0) else if 20 ≤ c then .inr (1, 100, 20, 0, 0) else .inl (A 1, (if decide (A 0 = 64) = w then 0 else K (A 1)), c + 1, decide (decide (A 0 = 64) = w), upN cp c p, upN cl c a, updB cw c w) : SR ⊕ CZ) = .inl r' ∧ rv = .int (nI 1) ∧ cRn h' R S r' z) ∨ ∃ z', (if np ≤ A 1 then .inr (1, 112, A 1, 0, 0) else if 20 ≤ c then .inr (1, 100, 20, 0, 0) else .inl (A 1, (if decide (A 0 = 64) = w then 0 else K (A 1)), c + 1, decide (decide (A 0 = 64) = w), upN cp c p, upN cl c a, updB cw c w) : SR ⊕ CZ) = .inr z' ∧ rv = .int (nI 0) ∧ cRn h' R S (p, l, c, w, cp, cl, cw) z') ∧ mz_mo [R + 1, R + 2, R + 3, R + 4, R + 5, R] 0 0 h h') := by
  obtain ⟨k0, ⟨⟨f1, a1, b1⟩, ⟨f2, a2, b2⟩, f3, a3, b3, b4⟩, _⟩ := id hR
  dsimp only at b1 b2 b4
  cases w with
  | true =>
    refine s_aldn (p' := 1) rfl rfl rfl ?_
    refine s_gf (p' := 4) rfl hR.c1 rfl rfl ?_
    refine s_aldn (p' := 5) rfl rfl rfl ?_
    refine s_gf (p' := 8) rfl hq rfl rfl ?_
    rw [hi 1 (by decide)]
    refine s_callV (p' := 11) (ls0 := [_, _]) rfl rfl rfl rfl rfl (mj_rcv_is hl.2.1) rfl (x_lhas hl.2.1 hl.1 (by omega)) (by first | decide | omega) rfl ?_
    by_cases qn : A 1 < np
    · refine s_if (p' := 25) true rfl (by rw [decide_eq_true qn]; rfl) rfl ?_
      refine s_aldn (p' := 26) rfl rfl rfl ?_
      refine s_gf (p' := 29) rfl hR.c1 rfl rfl ?_
      refine s_if (p' := 32) false rfl (cz_lt (by omega)) rfl ?_
      refine s_aldn (p' := 33) rfl rfl rfl ?_
      refine s_gf (p' := 36) rfl hR.c1 rfl rfl ?_
      refine s_bip (p' := 38) rfl rfl ?_
      by_cases qc : c < 20
      · refine s_icmp (p' := 50) true rfl ((ci_lt (by omega) (by omega)).trans (decide_eq_true (by omega))) rfl ?_
        refine s_aldn (p' := 51) rfl rfl rfl ?_
        refine s_gf (p' := 54) rfl hR.c1 rfl rfl ?_
        refine s_aldn (p' := 55) rfl rfl rfl ?_
        refine s_gf (p' := 58) rfl hR.c1 rfl rfl ?_
        refine s_aldn (p' := 59) rfl rfl rfl ?_
        refine s_gf (p' := 62) rfl hR.c1 rfl rfl ?_
        refine s_ias (p' := 63) rfl (by omega) a1 (inb_nI (by omega) (by omega)) rfl ?_
        rw [mI_cl (by omega)]
        refine s_aldn (p' := 64) rfl rfl rfl ?_
        refine s_gf (p' := 67) rfl ((rd_setn (by omega)).trans hR.c1) rfl rfl ?_
        refine s_aldn (p' := 68) rfl rfl rfl ?_
        refine s_gf (p' := 71) rfl ((rd_setn (by omega)).trans hR.c1) rfl rfl ?_
        refine s_ildn (p' := 72) rfl rfl rfl ?_
        refine s_ias (p' := 73) rfl (by omega) ((rd_setn (by omega)).trans a2) (inb_nI (by omega) (by omega)) rfl ?_
        rw [mI_cl (by omega)]
        refine s_aldn (p' := 74) rfl rfl rfl ?_
        refine s_gf (p' := 77) rfl ((rd_setn (by omega)).trans ((rd_setn (by omega)).trans hR.c1)) rfl rfl ?_
        refine s_aldn (p' := 78) rfl rfl rfl ?_
        refine s_gf (p' := 81) rfl ((rd_setn (by omega)).trans ((rd_setn (by omega)).trans hR.c1)) rfl rfl ?_
        refine s_aldn (p' := 82) rfl rfl rfl ?_
        refine s_gf (p' := 85) rfl ((rd_setn (by omega)).trans ((rd_setn (by omega)).trans hR.c1)) rfl rfl ?_
        refine s_bas2 (p' := 86) rfl (by omega) ((rd_setn (by omega)).trans ((rd_setn (by omega)).trans a3)) (inb_nI (by omega) (by omega)) rfl ?_
        rw [mI_cl (by omega), show vp_nar .boolean (nI (bN true)) = nI (bN true) from by decide +kernel]
        refine s_aldn (p' := 87) rfl rfl rfl ?_
        refine s_sp (p' := 88) (ls' := _) rfl rfl rfl ?_
        refine s_gf (p' := 91) rfl ((rd_setn (by omega)).trans ((rd_setn (by omega)).trans ((rd_setn (by omega)).trans hR.c1))) rfl rfl ?_
        refine s_con (p' := 92) rfl rfl ?_
        refine s_sp (p' := 93) (ls' := _) rfl rfl rfl ?_
        rw [mI_add]
        refine s_pf (p' := 96) (fs' := [_, _, _, _, _, _, _, _, _, _, _, _, _]) rfl (by omega) ((rd_setn (by omega)).trans ((rd_setn (by omega)).trans ((rd_setn (by omega)).trans hR.c1))) (Nat.blt_eq.mp rfl) rfl rfl rfl ?_
        have sc := hR.sc bR qc (a := a) a1 b1 a2 b2 a3 b3 b4
        generalize hg : List.set _ R _ = g
        have rg : cRn g R S (p, l, c + 1, true, upN cp c p, upN cl c a, updB cw c true) z := by rw [← hg]; exact sc.1
        have mg : mz_mo [R + 1, R + 2, R + 3, R] 0 0 h g := by rw [← hg]; exact sc.2
        clear hg sc
        have hq1 := mg.1 q (by simp only [List.mem_cons, List.not_mem_nil, or_false]; omega) _ hq
        have hl1 := hl.fr mg.1 (fun x hx => by simp only [List.mem_cons, List.not_mem_nil, or_false] at hx; omega)
        refine s_aldn (p' := 97) rfl rfl rfl ?_
        refine s_aldn (p' := 98) rfl rfl rfl ?_
        refine s_gf (p' := 101) rfl hq1 rfl rfl ?_
        rw [hi 1 (by decide)]
        refine s_aldn (p' := 102) rfl rfl rfl ?_
        refine s_gf (p' := 105) rfl hq1 rfl rfl ?_
        rw [hi 0 (by decide)]
        refine s_bip (p' := 107) rfl rfl ?_
        by_cases q64 : A 0 = 64
        · refine s_icmp (p' := 110) false rfl ((ci_ne (by omega) (by omega)).trans (decide_eq_false (by omega))) rfl ?_
          refine s_con (p' := 111) rfl rfl ?_
          refine s_goto (p' := 115) rfl rfl ?_
          refine s_aldn (p' := 116) rfl rfl rfl ?_
          refine s_gf (p' := 119) rfl rg.c1 rfl rfl ?_
          refine s_icmp (p' := 122) false rfl (by decide +kernel) rfl ?_
          refine s_con (p' := 123) rfl rfl ?_
          refine s_goto (p' := 127) rfl rfl ?_
          refine s_callEN (p' := 130) (ls0 := [_, _, _]) rfl rfl rfl rfl rfl (mj_rcv_is rg.c1) rfl (x_ent bR rg hR3 hl1 (b := true) (q := A 1) (by omega)) rfl rfl ?_
          rintro h2_ ⟨r2, m2⟩
          refine s_con (p' := 131) rfl rfl ?_
          refine s_iret rfl rfl ?_
          refine ⟨_, _, rfl, Or.inl ⟨_, by rw [if_neg (by omega), if_neg (by omega)], rfl, ?_⟩, (mg.tr m2 (fun y hy => Or.inl (by simp only [List.mem_cons, List.not_mem_nil, or_false] at hy ⊢; omega)) (by omega) (by omega)).wk (fun y hy => Or.inl (by simp only [List.mem_cons, List.not_mem_nil, or_false] at hy ⊢; omega)) (Nat.le_refl _) (Nat.le_refl _)⟩
          rw [show decide (A 0 = 64) = true from decide_eq_true q64]
          exact r2
        · refine s_icmp (p' := 114) true rfl ((ci_ne (by omega) (by omega)).trans (decide_eq_true (by omega))) rfl ?_
          refine s_con (p' := 115) rfl rfl ?_
          refine s_aldn (p' := 116) rfl rfl rfl ?_
          refine s_gf (p' := 119) rfl rg.c1 rfl rfl ?_
          refine s_icmp (p' := 126) true rfl (by decide +kernel) rfl ?_
          refine s_con (p' := 127) rfl rfl ?_
          refine s_callEN (p' := 130) (ls0 := [_, _, _]) rfl rfl rfl rfl rfl (mj_rcv_is rg.c1) rfl (x_ent bR rg hR3 hl1 (b := false) (q := A 1) (by omega)) rfl rfl ?_
          rintro h2_ ⟨r2, m2⟩
          refine s_con (p' := 131) rfl rfl ?_
          refine s_iret rfl rfl ?_
          refine ⟨_, _, rfl, Or.inl ⟨_, by rw [if_neg (by omega), if_neg (by omega)], rfl, ?_⟩, (mg.tr m2 (fun y hy => Or.inl (by simp only [List.mem_cons, List.not_mem_nil, or_false] at hy ⊢; omega)) (by omega) (by omega)).wk (fun y hy => Or.inl (by simp only [List.mem_cons, List.not_mem_nil, or_false] at hy ⊢; omega)) (Nat.le_refl _) (Nat.le_refl _)⟩
          rw [show decide (A 0 = 64) = false from decide_eq_false q64]
          exact r2
      · refine s_icmp (p' := 41) false rfl ((ci_lt (by omega) (by omega)).trans (decide_eq_false (by omega))) rfl ?_
        refine s_aldn (p' := 42) rfl rfl rfl ?_
        refine s_bip (p' := 44) rfl rfl ?_
        refine s_bip (p' := 46) rfl rfl ?_
        refine s_callEV (p' := 49) (ls0 := [_, _, _]) rfl rfl rfl rfl rfl (mj_rcv_is hR.c0) rfl (x_bof (lt := 100) (nu := 20) bR hR (by decide)) rfl rfl ?_
        rintro _ h1_ ⟨rfl, r1, m1⟩
        refine s_iret rfl rfl ?_
        exact ⟨_, _, rfl, Or.inr ⟨_, by rw [if_neg (by omega), if_pos (by omega)], rfl, r1⟩, m1.wk (fun y hy => Or.inl (by simp only [List.mem_cons, List.not_mem_nil, or_false] at hy ⊢; omega)) (Nat.le_refl _) (Nat.le_refl _)⟩
    · refine s_if (p' := 14) false rfl (by rw [decide_eq_false qn]; rfl) rfl ?_
      refine s_aldn (p' := 15) rfl rfl rfl ?_
      refine s_bip (p' := 17) rfl rfl ?_
      refine s_aldn (p' := 18) rfl rfl rfl ?_
      refine s_gf (p' := 21) rfl hq rfl rfl ?_
      rw [hi 1 (by decide)]
      refine s_callEV (p' := 24) (ls0 := [_, _, _]) rfl rfl rfl rfl rfl (mj_rcv_is hR.c0) rfl (x_bof (lt := 112) (nu := A 1) bR hR (by decide)) rfl rfl ?_
      rintro _ h1_ ⟨rfl, r1, m1⟩
      refine s_iret rfl rfl ?_
      exact ⟨_, _, rfl, Or.inr ⟨_, by rw [if_pos (by omega)], rfl, r1⟩, m1.wk (fun y hy => Or.inl (by simp only [List.mem_cons, List.not_mem_nil, or_false] at hy ⊢; omega)) (Nat.le_refl _) (Nat.le_refl _)⟩
  | false =>
    refine s_aldn (p' := 1) rfl rfl rfl ?_
    refine s_gf (p' := 4) rfl hR.c1 rfl rfl ?_
    refine s_aldn (p' := 5) rfl rfl rfl ?_
    refine s_gf (p' := 8) rfl hq rfl rfl ?_
    rw [hi 1 (by decide)]
    refine s_callV (p' := 11) (ls0 := [_, _]) rfl rfl rfl rfl rfl (mj_rcv_is hl.2.1) rfl (x_lhas hl.2.1 hl.1 (by omega)) (by first | decide | omega) rfl ?_
    by_cases qn : A 1 < np
    · refine s_if (p' := 25) true rfl (by rw [decide_eq_true qn]; rfl) rfl ?_
      refine s_aldn (p' := 26) rfl rfl rfl ?_
      refine s_gf (p' := 29) rfl hR.c1 rfl rfl ?_
      refine s_if (p' := 32) false rfl (cz_lt (by omega)) rfl ?_
      refine s_aldn (p' := 33) rfl rfl rfl ?_
      refine s_gf (p' := 36) rfl hR.c1 rfl rfl ?_
      refine s_bip (p' := 38) rfl rfl ?_
      by_cases qc : c < 20
      · refine s_icmp (p' := 50) true rfl ((ci_lt (by omega) (by omega)).trans (decide_eq_true (by omega))) rfl ?_
        refine s_aldn (p' := 51) rfl rfl rfl ?_
        refine s_gf (p' := 54) rfl hR.c1 rfl rfl ?_
        refine s_aldn (p' := 55) rfl rfl rfl ?_
        refine s_gf (p' := 58) rfl hR.c1 rfl rfl ?_
        refine s_aldn (p' := 59) rfl rfl rfl ?_
        refine s_gf (p' := 62) rfl hR.c1 rfl rfl ?_
        refine s_ias (p' := 63) rfl (by omega) a1 (inb_nI (by omega) (by omega)) rfl ?_
        rw [mI_cl (by omega)]
        refine s_aldn (p' := 64) rfl rfl rfl ?_
        refine s_gf (p' := 67) rfl ((rd_setn (by omega)).trans hR.c1) rfl rfl ?_
        refine s_aldn (p' := 68) rfl rfl rfl ?_
        refine s_gf (p' := 71) rfl ((rd_setn (by omega)).trans hR.c1) rfl rfl ?_
        refine s_ildn (p' := 72) rfl rfl rfl ?_
        refine s_ias (p' := 73) rfl (by omega) ((rd_setn (by omega)).trans a2) (inb_nI (by omega) (by omega)) rfl ?_
        rw [mI_cl (by omega)]
        refine s_aldn (p' := 74) rfl rfl rfl ?_
        refine s_gf (p' := 77) rfl ((rd_setn (by omega)).trans ((rd_setn (by omega)).trans hR.c1)) rfl rfl ?_
        refine s_aldn (p' := 78) rfl rfl rfl ?_
        refine s_gf (p' := 81) rfl ((rd_setn (by omega)).trans ((rd_setn (by omega)).trans hR.c1)) rfl rfl ?_
        refine s_aldn (p' := 82) rfl rfl rfl ?_
        refine s_gf (p' := 85) rfl ((rd_setn (by omega)).trans ((rd_setn (by omega)).trans hR.c1)) rfl rfl ?_
        refine s_bas2 (p' := 86) rfl (by omega) ((rd_setn (by omega)).trans ((rd_setn (by omega)).trans a3)) (inb_nI (by omega) (by omega)) rfl ?_
        rw [mI_cl (by omega), show vp_nar .boolean (nI (bN false)) = nI (bN false) from by decide +kernel]
        refine s_aldn (p' := 87) rfl rfl rfl ?_
        refine s_sp (p' := 88) (ls' := _) rfl rfl rfl ?_
        refine s_gf (p' := 91) rfl ((rd_setn (by omega)).trans ((rd_setn (by omega)).trans ((rd_setn (by omega)).trans hR.c1))) rfl rfl ?_
        refine s_con (p' := 92) rfl rfl ?_
        refine s_sp (p' := 93) (ls' := _) rfl rfl rfl ?_
        rw [mI_add]
        refine s_pf (p' := 96) (fs' := [_, _, _, _, _, _, _, _, _, _, _, _, _]) rfl (by omega) ((rd_setn (by omega)).trans ((rd_setn (by omega)).trans ((rd_setn (by omega)).trans hR.c1))) (Nat.blt_eq.mp rfl) rfl rfl rfl ?_
        have sc := hR.sc bR qc (a := a) a1 b1 a2 b2 a3 b3 b4
        generalize hg : List.set _ R _ = g
        have rg : cRn g R S (p, l, c + 1, false, upN cp c p, upN cl c a, updB cw c false) z := by rw [← hg]; exact sc.1
        have mg : mz_mo [R + 1, R + 2, R + 3, R] 0 0 h g := by rw [← hg]; exact sc.2
        clear hg sc
        have hq1 := mg.1 q (by simp only [List.mem_cons, List.not_mem_nil, or_false]; omega) _ hq
        have hl1 := hl.fr mg.1 (fun x hx => by simp only [List.mem_cons, List.not_mem_nil, or_false] at hx; omega)
        refine s_aldn (p' := 97) rfl rfl rfl ?_
        refine s_aldn (p' := 98) rfl rfl rfl ?_
        refine s_gf (p' := 101) rfl hq1 rfl rfl ?_
        rw [hi 1 (by decide)]
        refine s_aldn (p' := 102) rfl rfl rfl ?_
        refine s_gf (p' := 105) rfl hq1 rfl rfl ?_
        rw [hi 0 (by decide)]
        refine s_bip (p' := 107) rfl rfl ?_
        by_cases q64 : A 0 = 64
        · refine s_icmp (p' := 110) false rfl ((ci_ne (by omega) (by omega)).trans (decide_eq_false (by omega))) rfl ?_
          refine s_con (p' := 111) rfl rfl ?_
          refine s_goto (p' := 115) rfl rfl ?_
          refine s_aldn (p' := 116) rfl rfl rfl ?_
          refine s_gf (p' := 119) rfl rg.c1 rfl rfl ?_
          refine s_icmp (p' := 126) true rfl (by decide +kernel) rfl ?_
          refine s_con (p' := 127) rfl rfl ?_
          refine s_callEN (p' := 130) (ls0 := [_, _, _]) rfl rfl rfl rfl rfl (mj_rcv_is rg.c1) rfl (x_ent bR rg hR3 hl1 (b := false) (q := A 1) (by omega)) rfl rfl ?_
          rintro h2_ ⟨r2, m2⟩
          refine s_con (p' := 131) rfl rfl ?_
          refine s_iret rfl rfl ?_
          refine ⟨_, _, rfl, Or.inl ⟨_, by rw [if_neg (by omega), if_neg (by omega)], rfl, ?_⟩, (mg.tr m2 (fun y hy => Or.inl (by simp only [List.mem_cons, List.not_mem_nil, or_false] at hy ⊢; omega)) (by omega) (by omega)).wk (fun y hy => Or.inl (by simp only [List.mem_cons, List.not_mem_nil, or_false] at hy ⊢; omega)) (Nat.le_refl _) (Nat.le_refl _)⟩
          rw [show decide (A 0 = 64) = true from decide_eq_true q64]
          exact r2
        · refine s_icmp (p' := 114) true rfl ((ci_ne (by omega) (by omega)).trans (decide_eq_true (by omega))) rfl ?_
          refine s_con (p' := 115) rfl rfl ?_
          refine s_aldn (p' := 116) rfl rfl rfl ?_
          refine s_gf (p' := 119) rfl rg.c1 rfl rfl ?_
          refine s_icmp (p' := 122) false rfl (by decide +kernel) rfl ?_
          refine s_con (p' := 123) rfl rfl ?_
          refine s_goto (p' := 127) rfl rfl ?_
          refine s_callEN (p' := 130) (ls0 := [_, _, _]) rfl rfl rfl rfl rfl (mj_rcv_is rg.c1) rfl (x_ent bR rg hR3 hl1 (b := true) (q := A 1) (by omega)) rfl rfl ?_
          rintro h2_ ⟨r2, m2⟩
          refine s_con (p' := 131) rfl rfl ?_
          refine s_iret rfl rfl ?_
          refine ⟨_, _, rfl, Or.inl ⟨_, by rw [if_neg (by omega), if_neg (by omega)], rfl, ?_⟩, (mg.tr m2 (fun y hy => Or.inl (by simp only [List.mem_cons, List.not_mem_nil, or_false] at hy ⊢; omega)) (by omega) (by omega)).wk (fun y hy => Or.inl (by simp only [List.mem_cons, List.not_mem_nil, or_false] at hy ⊢; omega)) (Nat.le_refl _) (Nat.le_refl _)⟩
          rw [show decide (A 0 = 64) = false from decide_eq_false q64]
          exact r2
      · refine s_icmp (p' := 41) false rfl ((ci_lt (by omega) (by omega)).trans (decide_eq_false (by omega))) rfl ?_
        refine s_aldn (p' := 42) rfl rfl rfl ?_
        refine s_bip (p' := 44) rfl rfl ?_
        refine s_bip (p' := 46) rfl rfl ?_
        refine s_callEV (p' := 49) (ls0 := [_, _, _]) rfl rfl rfl rfl rfl (mj_rcv_is hR.c0) rfl (x_bof (lt := 100) (nu := 20) bR hR (by decide)) rfl rfl ?_
        rintro _ h1_ ⟨rfl, r1, m1⟩
        refine s_iret rfl rfl ?_
        exact ⟨_, _, rfl, Or.inr ⟨_, by rw [if_neg (by omega), if_pos (by omega)], rfl, r1⟩, m1.wk (fun y hy => Or.inl (by simp only [List.mem_cons, List.not_mem_nil, or_false] at hy ⊢; omega)) (Nat.le_refl _) (Nat.le_refl _)⟩
    · refine s_if (p' := 14) false rfl (by rw [decide_eq_false qn]; rfl) rfl ?_
      refine s_aldn (p' := 15) rfl rfl rfl ?_
      refine s_bip (p' := 17) rfl rfl ?_
      refine s_aldn (p' := 18) rfl rfl rfl ?_
      refine s_gf (p' := 21) rfl hq rfl rfl ?_
      rw [hi 1 (by decide)]
      refine s_callEV (p' := 24) (ls0 := [_, _, _]) rfl rfl rfl rfl rfl (mj_rcv_is hR.c0) rfl (x_bof (lt := 112) (nu := A 1) bR hR (by decide)) rfl rfl ?_
      rintro _ h1_ ⟨rfl, r1, m1⟩
      refine s_iret rfl rfl ?_
      exact ⟨_, _, rfl, Or.inr ⟨_, by rw [if_pos (by omega)], rfl, r1⟩, m1.wk (fun y hy => Or.inl (by simp only [List.mem_cons, List.not_mem_nil, or_false] at hy ⊢; omega)) (Nat.le_refl _) (Nat.le_refl _)⟩
