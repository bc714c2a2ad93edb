/-! The reference runs: brackets, calls. -/
theorem yWl.g {h g : mj_H} {W p l c l1 : Nat} {w : Bool} {cp cl : Nat → Nat} {cw : Nat → Bool} {s : SV} {z : CZ} (a : yWl h W (s, p, l, c, w, cp, cl, cw) z) (r : wRn g W (p, l1, c, w, cp, cl, cw)) (m : mz_mo [W + 4] 0 0 h g) : yWl g W (s, p, l1, c, w, cp, cl, cw) z ∧ mz_mo (wML W) 0 0 h g :=
  ⟨⟨m.1 _ (by simp) _ a.1, a.2.1.fr m.1 (by simp) (by simp), r, a.2.2.2.fr m.1 (by simp) (by simp)⟩, mo_w m (fun x hx => wML_m.mpr (by rw [List.mem_singleton] at hx; omega))⟩
theorem yWl.b {h g : mj_H} {W : Nat} {s : SV} {r : SR} {z z' : CZ} (a : yWl h W (s, r) z) (w1 : mj_rd g W = some (wrC W s.2.2 r.2.2.1 z'.1)) (y1 : wWy g W z') (m : mz_mo [W, W + 6, W + 7] 0 0 h g) : yWl g W (s, r) z' ∧ mz_mo (wML W) 0 0 h g :=
  ⟨⟨w1, a.2.1.fr m.1 (by simp) (by simp), a.2.2.1.fr m.1 (by simp) (by simp) (by simp), y1⟩, mo_w m (fun x hx => wML_m.mpr (by simp only [List.mem_cons, List.not_mem_nil, or_false] at hx; omega))⟩
theorem y_bA {I : Nat → Prop} {h : mj_H} {W np p l c t a q pq S1 S2 R1 R2 : Nat} {s1 s2 : Int32} {v st : Nat → Int32} {cp cl : Nat → Nat} {cw : Nat → Bool} {K : Nat → Nat} {X : Nat → Nat → Nat → Nat} {z : CZ} (bW : W + 8 < mj_CB) (hI : ∀ x, x ∈ wML W → ¬ I x) (hn : np ≤ 6) (hl : yLb I h np K X) (hy : yWl h W ((v, st, t), p, l, c, true, cp, cl, cw) z) (hc : c ≤ 20) (hp : p < np) (ha : a < K p) (hk : K p ≤ 30) (h5 : X p a 5 < K p) (h6 : X p a 6 < K p) (h7 : X p a 7 < K p) (t5 : tst (X p (X p a 5))) (t7 : tst (X p (X p a 7))) (h0 : X p a 0 = 91 ∨ X p a 0 = 124 ∨ X p a 0 = 93 ∨ X p a 0 = 123 ∨ X p a 0 = 47 ∨ X p a 0 = 125) (ra : mj_rd h q = some (actC (nI (X p a 0)) (.ref pq) (nI (X p a 5)) (nI (X p a 6)) (nI (X p a 7)))) (rp : mj_rd h pq = some (ptC (nI (X p (X p a 5) 0)) s1 s2 .null (.ref S1) (.ref S2) (.ref R1) (.ref R2))) (u1 : ySu I h S1 (X p (X p a 5) 2) (X p (X p a 5) 3) (X p (X p a 5) 4)) (u2 : ySu I h S2 (X p (X p a 7) 2) (X p (X p a 7) 3) (X p (X p a 7) 4)) : mj_Wp 8 389 (0, [some (.ref W), some (.ref q), some (.int (nI a)), some (.int (nI (bN true))), none, none], [], h) (mz_V fun rv h' => ((∃ l', brA (X p a) a (hld v (X p (X p a 5))) (hld v (X p (X p a 7))) = .inl l' ∧ rv = .int (nI 1) ∧ yWl h' W ((v, st, t), p, l', c, true, cp, cl, cw) z) ∨ ∃ z', brA (X p a) a (hld v (X p (X p a 5))) (hld v (X p (X p a 7))) = .inr z' ∧ rv = .int (nI 0) ∧ yWl h' W ((v, st, t), p, l, c, true, cp, cl, cw) z') ∧ mz_mo (wML W) 0 0 h h') := by
  have hW : mj_rd h W = some (wrC W t c z.1) := hy.1
  obtain ⟨vf, k1, k2⟩ := hy.2.1.1
  obtain ⟨gs1, hs1⟩ : ∃ gs, mj_rd h S1 = some (.inr (25, gs)) := by
    obtain ⟨_, _, _, _, _, _, z1, _⟩ := id u1
    exact ⟨_, z1.1⟩
  obtain ⟨gs2, hs2⟩ : ∃ gs, mj_rd h S2 = some (.inr (25, gs)) := by
    obtain ⟨_, _, _, _, _, _, z1, _⟩ := id u2
    exact ⟨_, z1.1⟩
  refine s_aldn (p' := 1) rfl rfl rfl ?_
  refine s_gf (p' := 4) rfl ra rfl rfl ?_
  refine s_gf (p' := 7) rfl rp rfl rfl ?_
  refine s_ast (p' := 9) (ls' := [_, _, _, _, _, _]) rfl rfl rfl rfl ?_
  refine s_aldn (p' := 10) rfl rfl rfl ?_
  refine s_gf (p' := 13) rfl ra rfl rfl ?_
  refine s_gf (p' := 16) rfl rp rfl rfl ?_
  refine s_ast (p' := 18) (ls' := [_, _, _, _, _, _]) rfl rfl rfl rfl ?_
  refine s_ildn (p' := 19) rfl rfl rfl ?_
  refine s_if (p' := 22) false rfl (by decide +kernel) rfl ?_
  refine s_aldn (p' := 23) rfl rfl rfl ?_
  refine s_gf (p' := 26) rfl ra rfl rfl ?_
  by_cases q91 : X p a 0 = 91
  · rw [q91]
    refine s_sp (p' := 76) (ls' := _) rfl rfl rfl ?_
    refine s_aldn (p' := 77) rfl rfl rfl ?_
    refine s_ald (p' := 79) rfl rfl rfl ?_
    refine s_aldn (p' := 80) rfl rfl rfl ?_
    refine s_gf (p' := 83) rfl hW rfl rfl ?_
    refine s_callV (p' := 86) (ls0 := [_, _, _, _]) rfl rfl rfl rfl rfl (mj_rcv_is hs1) rfl (y_hol u1 k1 k2 (by have := of_decide_eq_true t5.2.1; omega)) (by first | decide | omega) rfl ?_
    by_cases hc_ : hld v (X p (X p a 5)) = true
    · refine s_if (p' := 89) false rfl (by rw [hc_]; rfl) rfl ?_
      refine s_ildn (p' := 90) rfl rfl rfl ?_
      refine s_con (p' := 91) rfl rfl ?_
      refine s_sp (p' := 92) (ls' := _) rfl rfl rfl ?_
      rw [mI_add]
      refine s_goto (p' := 101) rfl rfl ?_
      refine s_callEV (p' := 104) (ls0 := [_, _]) rfl rfl rfl rfl rfl (mj_rcv_is hW) rfl (y_gos (l1 := a + 1) bW hc hW hy.2.2.1) rfl rfl ?_
      rintro _ g ⟨rfl, r1, m1⟩
      have yg := hy.g r1 m1
      refine s_iret rfl rfl ?_
      exact ⟨_, _, rfl, Or.inl ⟨_, (by unfold brA brk_; simp [q91, hc_, bN]), rfl, yg.1⟩, yg.2⟩
    · refine s_if (p' := 95) true rfl (by rw [Bool.eq_false_iff.mpr hc_]; rfl) rfl ?_
      refine s_aldn (p' := 96) rfl rfl rfl ?_
      refine s_gf (p' := 99) rfl ra rfl rfl ?_
      refine s_con (p' := 100) rfl rfl ?_
      refine s_sp (p' := 101) (ls' := _) rfl rfl rfl ?_
      rw [mI_add]
      refine s_callEV (p' := 104) (ls0 := [_, _]) rfl rfl rfl rfl rfl (mj_rcv_is hW) rfl (y_gos (l1 := X p a 6 + 1) bW hc hW hy.2.2.1) rfl rfl ?_
      rintro _ g ⟨rfl, r1, m1⟩
      have yg := hy.g r1 m1
      refine s_iret rfl rfl ?_
      exact ⟨_, _, rfl, Or.inl ⟨_, (by unfold brA brk_; simp [q91, hc_, bN]), rfl, yg.1⟩, yg.2⟩
  · by_cases q124 : X p a 0 = 124
    · rw [q124]
      refine s_sp (p' := 105) (ls' := _) rfl rfl rfl ?_
      refine s_aldn (p' := 106) rfl rfl rfl ?_
      refine s_ald (p' := 108) rfl rfl rfl ?_
      refine s_con (p' := 109) rfl rfl ?_
      refine s_ildn (p' := 110) rfl rfl rfl ?_
      refine c_call (p' := 113) (kc := 7) (ls0 := [_, _, _, _]) rfl rfl rfl rfl rfl (mj_rcv_is hW) rfl rfl rfl ?_
      refine ((y_tes (wn := true) bW hI hn hl hy hc hp ha hk (by omega) u2 (by have := of_decide_eq_true t7.2.1; omega))).imp ?_
      rintro o (⟨q_, rfl⟩ | ⟨q_, g, rfl, w1, y1, m1⟩)
      · show mj_Wp _ _ (113, _, _, _) _
        refine s_if (p' := 116) false rfl (by decide +kernel) rfl ?_
        refine s_aldn (p' := 117) rfl rfl rfl ?_
        refine s_aldn (p' := 118) rfl rfl rfl ?_
        refine s_gf (p' := 121) rfl ra rfl rfl ?_
        refine s_con (p' := 122) rfl rfl ?_
        refine s_sp (p' := 123) (ls' := _) rfl rfl rfl ?_
        rw [mI_add]
        refine s_callEV (p' := 126) (ls0 := [_, _]) rfl rfl rfl rfl rfl (mj_rcv_is hW) rfl (y_gos (l1 := X p a 7 + 1) bW hc hW hy.2.2.1) rfl rfl ?_
        rintro _ g ⟨rfl, r1, m1⟩
        have yg := hy.g r1 m1
        refine s_if (p' := 129) false rfl (by decide +kernel) rfl ?_
        refine s_con (p' := 130) rfl rfl ?_
        refine s_goto (p' := 134) rfl rfl ?_
        refine s_iret rfl rfl ?_
        exact ⟨_, _, rfl, Or.inl ⟨_, (by unfold brA brk_; simp [q91, q124, q_, bN]), rfl, yg.1⟩, yg.2⟩
      · show mj_Wp _ _ (113, _, _, _) _
        have yb := hy.b w1 y1 m1
        rw [show (X p a 0 = 124) from by omega] at yb
        try simp only [Bool.not_true, Bool.not_false] at q_
        refine s_if (p' := 133) true rfl (by decide +kernel) rfl ?_
        refine s_con (p' := 134) rfl rfl ?_
        refine s_iret rfl rfl ?_
        exact ⟨_, _, rfl, Or.inr ⟨_, (by unfold brA brk_; simp [q91, q124, q_, bN]), rfl, yb.1⟩, yb.2⟩
    · by_cases q93 : X p a 0 = 93
      · rw [q93]
        refine s_sp (p' := 135) (ls' := _) rfl rfl rfl ?_
        refine s_aldn (p' := 136) rfl rfl rfl ?_
        refine s_ald (p' := 138) rfl rfl rfl ?_
        refine s_con (p' := 139) rfl rfl ?_
        refine s_ildn (p' := 140) rfl rfl rfl ?_
        refine c_call (p' := 143) (kc := 7) (ls0 := [_, _, _, _]) rfl rfl rfl rfl rfl (mj_rcv_is hW) rfl rfl rfl ?_
        refine ((y_tes (wn := false) bW hI hn hl hy hc hp ha hk (by omega) u2 (by have := of_decide_eq_true t7.2.1; omega))).imp ?_
        rintro o (⟨q_, rfl⟩ | ⟨q_, g, rfl, w1, y1, m1⟩)
        · show mj_Wp _ _ (143, _, _, _) _
          refine s_if (p' := 146) false rfl (by decide +kernel) rfl ?_
          refine s_aldn (p' := 147) rfl rfl rfl ?_
          refine s_ildn (p' := 148) rfl rfl rfl ?_
          refine s_con (p' := 149) rfl rfl ?_
          refine s_sp (p' := 150) (ls' := _) rfl rfl rfl ?_
          rw [mI_add]
          refine s_callEV (p' := 153) (ls0 := [_, _]) rfl rfl rfl rfl rfl (mj_rcv_is hW) rfl (y_gos (l1 := a + 1) bW hc hW hy.2.2.1) rfl rfl ?_
          rintro _ g ⟨rfl, r1, m1⟩
          have yg := hy.g r1 m1
          refine s_if (p' := 156) false rfl (by decide +kernel) rfl ?_
          refine s_con (p' := 157) rfl rfl ?_
          refine s_goto (p' := 161) rfl rfl ?_
          refine s_iret rfl rfl ?_
          exact ⟨_, _, rfl, Or.inl ⟨_, (by unfold brA brk_; simp [q91, q124, q93, q_, bN]), rfl, yg.1⟩, yg.2⟩
        · show mj_Wp _ _ (143, _, _, _) _
          have yb := hy.b w1 y1 m1
          rw [show (X p a 0 = 93) from by omega] at yb
          try simp only [Bool.not_true, Bool.not_false] at q_
          refine s_if (p' := 160) true rfl (by decide +kernel) rfl ?_
          refine s_con (p' := 161) rfl rfl ?_
          refine s_iret rfl rfl ?_
          exact ⟨_, _, rfl, Or.inr ⟨_, (by unfold brA brk_; simp [q91, q124, q93, q_, bN]), rfl, yb.1⟩, yb.2⟩
      · by_cases q123 : X p a 0 = 123
        · rw [q123]
          refine s_sp (p' := 162) (ls' := _) rfl rfl rfl ?_
          refine s_aldn (p' := 163) rfl rfl rfl ?_
          refine s_ald (p' := 165) rfl rfl rfl ?_
          refine s_con (p' := 166) rfl rfl ?_
          refine s_ildn (p' := 167) rfl rfl rfl ?_
          refine c_call (p' := 170) (kc := 7) (ls0 := [_, _, _, _]) rfl rfl rfl rfl rfl (mj_rcv_is hW) rfl rfl rfl ?_
          refine ((y_tes (wn := true) bW hI hn hl hy hc hp ha hk (by omega) u1 (by have := of_decide_eq_true t5.2.1; omega))).imp ?_
          rintro o (⟨q_, rfl⟩ | ⟨q_, g, rfl, w1, y1, m1⟩)
          · show mj_Wp _ _ (170, _, _, _) _
            refine s_if (p' := 173) false rfl (by decide +kernel) rfl ?_
            refine s_aldn (p' := 174) rfl rfl rfl ?_
            refine s_ildn (p' := 175) rfl rfl rfl ?_
            refine s_con (p' := 176) rfl rfl ?_
            refine s_sp (p' := 177) (ls' := _) rfl rfl rfl ?_
            rw [mI_add]
            refine s_callEV (p' := 180) (ls0 := [_, _]) rfl rfl rfl rfl rfl (mj_rcv_is hW) rfl (y_gos (l1 := a + 1) bW hc hW hy.2.2.1) rfl rfl ?_
            rintro _ g ⟨rfl, r1, m1⟩
            have yg := hy.g r1 m1
            refine s_if (p' := 183) false rfl (by decide +kernel) rfl ?_
            refine s_con (p' := 184) rfl rfl ?_
            refine s_goto (p' := 188) rfl rfl ?_
            refine s_iret rfl rfl ?_
            exact ⟨_, _, rfl, Or.inl ⟨_, (by unfold brA brk_; simp [q91, q124, q93, q123, q_, bN]), rfl, yg.1⟩, yg.2⟩
          · show mj_Wp _ _ (170, _, _, _) _
            have yb := hy.b w1 y1 m1
            rw [show (X p a 0 = 123) from by omega] at yb
            try simp only [Bool.not_true, Bool.not_false] at q_
            refine s_if (p' := 187) true rfl (by decide +kernel) rfl ?_
            refine s_con (p' := 188) rfl rfl ?_
            refine s_iret rfl rfl ?_
            exact ⟨_, _, rfl, Or.inr ⟨_, (by unfold brA brk_; simp [q91, q124, q93, q123, q_, bN]), rfl, yb.1⟩, yb.2⟩
        · by_cases q47 : X p a 0 = 47
          · rw [q47]
            refine s_sp (p' := 189) (ls' := _) rfl rfl rfl ?_
            refine s_aldn (p' := 190) rfl rfl rfl ?_
            refine s_ald (p' := 192) rfl rfl rfl ?_
            refine s_aldn (p' := 193) rfl rfl rfl ?_
            refine s_gf (p' := 196) rfl hW rfl rfl ?_
            refine s_callV (p' := 199) (ls0 := [_, _, _, _]) rfl rfl rfl rfl rfl (mj_rcv_is hs2) rfl (y_hol u2 k1 k2 (by have := of_decide_eq_true t7.2.1; omega)) (by first | decide | omega) rfl ?_
            by_cases hc_ : hld v (X p (X p a 7)) = true
            · refine s_if (p' := 202) false rfl (by rw [hc_]; rfl) rfl ?_
              refine s_aldn (p' := 203) rfl rfl rfl ?_
              refine s_gf (p' := 206) rfl ra rfl rfl ?_
              refine s_con (p' := 207) rfl rfl ?_
              refine s_sp (p' := 208) (ls' := _) rfl rfl rfl ?_
              rw [mI_add]
              refine s_goto (p' := 214) rfl rfl ?_
              refine s_callEV (p' := 217) (ls0 := [_, _]) rfl rfl rfl rfl rfl (mj_rcv_is hW) rfl (y_gos (l1 := X p a 7 + 1) bW hc hW hy.2.2.1) rfl rfl ?_
              rintro _ g ⟨rfl, r1, m1⟩
              have yg := hy.g r1 m1
              refine s_iret rfl rfl ?_
              exact ⟨_, _, rfl, Or.inl ⟨_, (by unfold brA brk_; simp [q91, q124, q93, q123, q47, hc_, bN]), rfl, yg.1⟩, yg.2⟩
            · refine s_if (p' := 211) true rfl (by rw [Bool.eq_false_iff.mpr hc_]; rfl) rfl ?_
              refine s_ildn (p' := 212) rfl rfl rfl ?_
              refine s_con (p' := 213) rfl rfl ?_
              refine s_sp (p' := 214) (ls' := _) rfl rfl rfl ?_
              rw [mI_add]
              refine s_callEV (p' := 217) (ls0 := [_, _]) rfl rfl rfl rfl rfl (mj_rcv_is hW) rfl (y_gos (l1 := a + 1) bW hc hW hy.2.2.1) rfl rfl ?_
              rintro _ g ⟨rfl, r1, m1⟩
              have yg := hy.g r1 m1
              refine s_iret rfl rfl ?_
              exact ⟨_, _, rfl, Or.inl ⟨_, (by unfold brA brk_; simp [q91, q124, q93, q123, q47, hc_, bN]), rfl, yg.1⟩, yg.2⟩
          · rw [show X p a 0 = 125 by omega]
            refine s_sp (p' := 218) (ls' := _) rfl rfl rfl ?_
            refine s_aldn (p' := 219) rfl rfl rfl ?_
            refine s_ald (p' := 221) rfl rfl rfl ?_
            refine s_con (p' := 222) rfl rfl ?_
            refine s_ildn (p' := 223) rfl rfl rfl ?_
            refine c_call (p' := 226) (kc := 7) (ls0 := [_, _, _, _]) rfl rfl rfl rfl rfl (mj_rcv_is hW) rfl rfl rfl ?_
            refine ((y_tes (wn := false) bW hI hn hl hy hc hp ha hk (by omega) u1 (by have := of_decide_eq_true t5.2.1; omega))).imp ?_
            rintro o (⟨q_, rfl⟩ | ⟨q_, g, rfl, w1, y1, m1⟩)
            · show mj_Wp _ _ (226, _, _, _) _
              refine s_if (p' := 229) false rfl (by decide +kernel) rfl ?_
              refine s_aldn (p' := 230) rfl rfl rfl ?_
              refine s_aldn (p' := 231) rfl rfl rfl ?_
              refine s_gf (p' := 234) rfl ra rfl rfl ?_
              refine s_con (p' := 235) rfl rfl ?_
              refine s_sp (p' := 236) (ls' := _) rfl rfl rfl ?_
              rw [mI_add]
              refine s_callEV (p' := 239) (ls0 := [_, _]) rfl rfl rfl rfl rfl (mj_rcv_is hW) rfl (y_gos (l1 := X p a 5 + 1) bW hc hW hy.2.2.1) rfl rfl ?_
              rintro _ g ⟨rfl, r1, m1⟩
              have yg := hy.g r1 m1
              refine s_if (p' := 242) false rfl (by decide +kernel) rfl ?_
              refine s_con (p' := 243) rfl rfl ?_
              refine s_goto (p' := 247) rfl rfl ?_
              refine s_iret rfl rfl ?_
              exact ⟨_, _, rfl, Or.inl ⟨_, (by unfold brA brk_; simp [q91, q124, q93, q123, q47, show X p a 0 = 125 by omega, q_, bN]), rfl, yg.1⟩, yg.2⟩
            · show mj_Wp _ _ (226, _, _, _) _
              have yb := hy.b w1 y1 m1
              rw [show (X p a 0 = 125) from by omega] at yb
              try simp only [Bool.not_true, Bool.not_false] at q_
              refine s_if (p' := 246) true rfl (by decide +kernel) rfl ?_
              refine s_con (p' := 247) rfl rfl ?_
              refine s_iret rfl rfl ?_
              exact ⟨_, _, rfl, Or.inr ⟨_, (by unfold brA brk_; simp [q91, q124, q93, q123, q47, show X p a 0 = 125 by omega, q_, bN]), rfl, yb.1⟩, yb.2⟩
theorem y_bB {I : Nat → Prop} {h : mj_H} {W np p l c t a q pq S1 S2 R1 R2 : Nat} {s1 s2 : Int32} {v st : Nat → Int32} {cp cl : Nat → Nat} {cw : Nat → Bool} {K : Nat → Nat} {X : Nat → Nat → Nat → Nat} {z : CZ} (bW : W + 8 < mj_CB) (hI : ∀ x, x ∈ wML W → ¬ I x) (hn : np ≤ 6) (hl : yLb I h np K X) (hy : yWl h W ((v, st, t), p, l, c, false, cp, cl, cw) z) (hc : c ≤ 20) (hp : p < np) (ha : a < K p) (hk : K p ≤ 30) (h5 : X p a 5 < K p) (h6 : X p a 6 < K p) (h7 : X p a 7 < K p) (t5 : tst (X p (X p a 5))) (t7 : tst (X p (X p a 7))) (h0 : X p a 0 = 93 ∨ X p a 0 = 124 ∨ X p a 0 = 91 ∨ X p a 0 = 125 ∨ X p a 0 = 123 ∨ X p a 0 = 47) (ra : mj_rd h q = some (actC (nI (X p a 0)) (.ref pq) (nI (X p a 5)) (nI (X p a 6)) (nI (X p a 7)))) (rp : mj_rd h pq = some (ptC (nI (X p (X p a 5) 0)) s1 s2 .null (.ref S1) (.ref S2) (.ref R1) (.ref R2))) (u1 : ySu I h S1 (X p (X p a 5) 2) (X p (X p a 5) 3) (X p (X p a 5) 4)) (u2 : ySu I h S2 (X p (X p a 7) 2) (X p (X p a 7) 3) (X p (X p a 7) 4)) : mj_Wp 8 389 (0, [some (.ref W), some (.ref q), some (.int (nI a)), some (.int (nI (bN false))), none, none], [], h) (mz_V fun rv h' => ((∃ l', brB (X p a) a (hld v (X p (X p a 5))) (hld v (X p (X p a 7))) = .inl l' ∧ rv = .int (nI 1) ∧ yWl h' W ((v, st, t), p, l', c, false, cp, cl, cw) z) ∨ ∃ z', brB (X p a) a (hld v (X p (X p a 5))) (hld v (X p (X p a 7))) = .inr z' ∧ rv = .int (nI 0) ∧ yWl h' W ((v, st, t), p, l, c, false, cp, cl, cw) z') ∧ mz_mo (wML W) 0 0 h h') := by
  have hW : mj_rd h W = some (wrC W t c z.1) := hy.1
  obtain ⟨vf, k1, k2⟩ := hy.2.1.1
  obtain ⟨gs1, hs1⟩ : ∃ gs, mj_rd h S1 = some (.inr (25, gs)) := by
    obtain ⟨_, _, _, _, _, _, z1, _⟩ := id u1
    exact ⟨_, z1.1⟩
  obtain ⟨gs2, hs2⟩ : ∃ gs, mj_rd h S2 = some (.inr (25, gs)) := by
    obtain ⟨_, _, _, _, _, _, z1, _⟩ := id u2
    exact ⟨_, z1.1⟩
  refine s_aldn (p' := 1) rfl rfl rfl ?_
  refine s_gf (p' := 4) rfl ra rfl rfl ?_
  refine s_gf (p' := 7) rfl rp rfl rfl ?_
  refine s_ast (p' := 9) (ls' := [_, _, _, _, _, _]) rfl rfl rfl rfl ?_
  refine s_aldn (p' := 10) rfl rfl rfl ?_
  refine s_gf (p' := 13) rfl ra rfl rfl ?_
  refine s_gf (p' := 16) rfl rp rfl rfl ?_
  refine s_ast (p' := 18) (ls' := [_, _, _, _, _, _]) rfl rfl rfl rfl ?_
  refine s_ildn (p' := 19) rfl rfl rfl ?_
  refine s_if (p' := 248) true rfl (by decide +kernel) rfl ?_
  refine s_aldn (p' := 249) rfl rfl rfl ?_
  refine s_gf (p' := 252) rfl ra rfl rfl ?_
  by_cases q93 : X p a 0 = 93
  · rw [q93]
    refine s_sp (p' := 304) (ls' := _) rfl rfl rfl ?_
    refine s_aldn (p' := 305) rfl rfl rfl ?_
    refine s_ald (p' := 307) rfl rfl rfl ?_
    refine s_aldn (p' := 308) rfl rfl rfl ?_
    refine s_gf (p' := 311) rfl hW rfl rfl ?_
    refine s_callV (p' := 314) (ls0 := [_, _, _, _]) rfl rfl rfl rfl rfl (mj_rcv_is hs2) rfl (y_hol u2 k1 k2 (by have := of_decide_eq_true t7.2.1; omega)) (by first | decide | omega) rfl ?_
    by_cases hc_ : hld v (X p (X p a 7)) = true
    · refine s_if (p' := 317) false rfl (by rw [hc_]; rfl) rfl ?_
      refine s_aldn (p' := 318) rfl rfl rfl ?_
      refine s_gf (p' := 321) rfl ra rfl rfl ?_
      refine s_goto (p' := 325) rfl rfl ?_
      refine s_callEV (p' := 328) (ls0 := [_, _]) rfl rfl rfl rfl rfl (mj_rcv_is hW) rfl (y_gos (l1 := X p a 6) bW hc hW hy.2.2.1) rfl rfl ?_
      rintro _ g ⟨rfl, r1, m1⟩
      have yg := hy.g r1 m1
      refine s_iret rfl rfl ?_
      exact ⟨_, _, rfl, Or.inl ⟨_, (by unfold brB brk_; simp [q93, hc_, bN]), rfl, yg.1⟩, yg.2⟩
    · refine s_if (p' := 324) true rfl (by rw [Bool.eq_false_iff.mpr hc_]; rfl) rfl ?_
      refine s_ildn (p' := 325) rfl rfl rfl ?_
      refine s_callEV (p' := 328) (ls0 := [_, _]) rfl rfl rfl rfl rfl (mj_rcv_is hW) rfl (y_gos (l1 := a) bW hc hW hy.2.2.1) rfl rfl ?_
      rintro _ g ⟨rfl, r1, m1⟩
      have yg := hy.g r1 m1
      refine s_iret rfl rfl ?_
      exact ⟨_, _, rfl, Or.inl ⟨_, (by unfold brB brk_; simp [q93, hc_, bN]), rfl, yg.1⟩, yg.2⟩
  · by_cases q124 : X p a 0 = 124
    · rw [q124]
      refine s_sp (p' := 329) (ls' := _) rfl rfl rfl ?_
      refine s_aldn (p' := 330) rfl rfl rfl ?_
      refine s_ald (p' := 332) rfl rfl rfl ?_
      refine s_con (p' := 333) rfl rfl ?_
      refine s_ildn (p' := 334) rfl rfl rfl ?_
      refine c_call (p' := 337) (kc := 7) (ls0 := [_, _, _, _]) rfl rfl rfl rfl rfl (mj_rcv_is hW) rfl rfl rfl ?_
      refine ((y_tes (wn := false) bW hI hn hl hy hc hp ha hk (by omega) u1 (by have := of_decide_eq_true t5.2.1; omega))).imp ?_
      rintro o (⟨q_, rfl⟩ | ⟨q_, g, rfl, w1, y1, m1⟩)
      · show mj_Wp _ _ (337, _, _, _) _
        refine s_if (p' := 340) false rfl (by decide +kernel) rfl ?_
        refine s_aldn (p' := 341) rfl rfl rfl ?_
        refine s_aldn (p' := 342) rfl rfl rfl ?_
        refine s_gf (p' := 345) rfl ra rfl rfl ?_
        refine s_callEV (p' := 348) (ls0 := [_, _]) rfl rfl rfl rfl rfl (mj_rcv_is hW) rfl (y_gos (l1 := X p a 5) bW hc hW hy.2.2.1) rfl rfl ?_
        rintro _ g ⟨rfl, r1, m1⟩
        have yg := hy.g r1 m1
        refine s_if (p' := 351) false rfl (by decide +kernel) rfl ?_
        refine s_con (p' := 352) rfl rfl ?_
        refine s_goto (p' := 356) rfl rfl ?_
        refine s_iret rfl rfl ?_
        exact ⟨_, _, rfl, Or.inl ⟨_, (by unfold brB brk_; simp [q93, q124, q_, bN]), rfl, yg.1⟩, yg.2⟩
      · show mj_Wp _ _ (337, _, _, _) _
        have yb := hy.b w1 y1 m1
        rw [show (X p a 0 = 124) from by omega] at yb
        try simp only [Bool.not_true, Bool.not_false] at q_
        refine s_if (p' := 355) true rfl (by decide +kernel) rfl ?_
        refine s_con (p' := 356) rfl rfl ?_
        refine s_iret rfl rfl ?_
        exact ⟨_, _, rfl, Or.inr ⟨_, (by unfold brB brk_; simp [q93, q124, q_, bN]), rfl, yb.1⟩, yb.2⟩
    · by_cases q91 : X p a 0 = 91
      · rw [q91]
        refine s_sp (p' := 357) (ls' := _) rfl rfl rfl ?_
        refine s_aldn (p' := 358) rfl rfl rfl ?_
        refine s_ald (p' := 360) rfl rfl rfl ?_
        refine s_con (p' := 361) rfl rfl ?_
        refine s_ildn (p' := 362) rfl rfl rfl ?_
        refine c_call (p' := 365) (kc := 7) (ls0 := [_, _, _, _]) rfl rfl rfl rfl rfl (mj_rcv_is hW) rfl rfl rfl ?_
        refine ((y_tes (wn := true) bW hI hn hl hy hc hp ha hk (by omega) u1 (by have := of_decide_eq_true t5.2.1; omega))).imp ?_
        rintro o (⟨q_, rfl⟩ | ⟨q_, g, rfl, w1, y1, m1⟩)
        · show mj_Wp _ _ (365, _, _, _) _
          refine s_if (p' := 368) false rfl (by decide +kernel) rfl ?_
          refine s_aldn (p' := 369) rfl rfl rfl ?_
          refine s_ildn (p' := 370) rfl rfl rfl ?_
          refine s_callEV (p' := 373) (ls0 := [_, _]) rfl rfl rfl rfl rfl (mj_rcv_is hW) rfl (y_gos (l1 := a) bW hc hW hy.2.2.1) rfl rfl ?_
          rintro _ g ⟨rfl, r1, m1⟩
          have yg := hy.g r1 m1
          refine s_if (p' := 376) false rfl (by decide +kernel) rfl ?_
          refine s_con (p' := 377) rfl rfl ?_
          refine s_goto (p' := 381) rfl rfl ?_
          refine s_iret rfl rfl ?_
          exact ⟨_, _, rfl, Or.inl ⟨_, (by unfold brB brk_; simp [q93, q124, q91, q_, bN]), rfl, yg.1⟩, yg.2⟩
        · show mj_Wp _ _ (365, _, _, _) _
          have yb := hy.b w1 y1 m1
          rw [show (X p a 0 = 91) from by omega] at yb
          try simp only [Bool.not_true, Bool.not_false] at q_
          refine s_if (p' := 380) true rfl (by decide +kernel) rfl ?_
          refine s_con (p' := 381) rfl rfl ?_
          refine s_iret rfl rfl ?_
          exact ⟨_, _, rfl, Or.inr ⟨_, (by unfold brB brk_; simp [q93, q124, q91, q_, bN]), rfl, yb.1⟩, yb.2⟩
      · by_cases q125 : X p a 0 = 125
        · rw [q125]
          refine s_sp (p' := 407) (ls' := _) rfl rfl rfl ?_
          refine s_aldn (p' := 408) rfl rfl rfl ?_
          refine s_ald (p' := 410) rfl rfl rfl ?_
          refine s_con (p' := 411) rfl rfl ?_
          refine s_ildn (p' := 412) rfl rfl rfl ?_
          refine c_call (p' := 415) (kc := 7) (ls0 := [_, _, _, _]) rfl rfl rfl rfl rfl (mj_rcv_is hW) rfl rfl rfl ?_
          refine ((y_tes (wn := true) bW hI hn hl hy hc hp ha hk (by omega) u2 (by have := of_decide_eq_true t7.2.1; omega))).imp ?_
          rintro o (⟨q_, rfl⟩ | ⟨q_, g, rfl, w1, y1, m1⟩)
          · show mj_Wp _ _ (415, _, _, _) _
            refine s_if (p' := 418) false rfl (by decide +kernel) rfl ?_
            refine s_aldn (p' := 419) rfl rfl rfl ?_
            refine s_aldn (p' := 420) rfl rfl rfl ?_
            refine s_gf (p' := 423) rfl ra rfl rfl ?_
            refine s_callEV (p' := 426) (ls0 := [_, _]) rfl rfl rfl rfl rfl (mj_rcv_is hW) rfl (y_gos (l1 := X p a 6) bW hc hW hy.2.2.1) rfl rfl ?_
            rintro _ g ⟨rfl, r1, m1⟩
            have yg := hy.g r1 m1
            refine s_if (p' := 429) false rfl (by decide +kernel) rfl ?_
            refine s_con (p' := 430) rfl rfl ?_
            refine s_goto (p' := 434) rfl rfl ?_
            refine s_iret rfl rfl ?_
            exact ⟨_, _, rfl, Or.inl ⟨_, (by unfold brB brk_; simp [q93, q124, q91, q125, q_, bN]), rfl, yg.1⟩, yg.2⟩
          · show mj_Wp _ _ (415, _, _, _) _
            have yb := hy.b w1 y1 m1
            rw [show (X p a 0 = 125) from by omega] at yb
            try simp only [Bool.not_true, Bool.not_false] at q_
            refine s_if (p' := 433) true rfl (by decide +kernel) rfl ?_
            refine s_con (p' := 434) rfl rfl ?_
            refine s_iret rfl rfl ?_
            exact ⟨_, _, rfl, Or.inr ⟨_, (by unfold brB brk_; simp [q93, q124, q91, q125, q_, bN]), rfl, yb.1⟩, yb.2⟩
        · by_cases q123 : X p a 0 = 123
          · rw [q123]
            refine s_sp (p' := 382) (ls' := _) rfl rfl rfl ?_
            refine s_aldn (p' := 383) rfl rfl rfl ?_
            refine s_ald (p' := 385) rfl rfl rfl ?_
            refine s_aldn (p' := 386) rfl rfl rfl ?_
            refine s_gf (p' := 389) rfl hW rfl rfl ?_
            refine s_callV (p' := 392) (ls0 := [_, _, _, _]) rfl rfl rfl rfl rfl (mj_rcv_is hs1) rfl (y_hol u1 k1 k2 (by have := of_decide_eq_true t5.2.1; omega)) (by first | decide | omega) rfl ?_
            by_cases hc_ : hld v (X p (X p a 5)) = true
            · refine s_if (p' := 395) false rfl (by rw [hc_]; rfl) rfl ?_
              refine s_ildn (p' := 396) rfl rfl rfl ?_
              refine s_goto (p' := 403) rfl rfl ?_
              refine s_callEV (p' := 406) (ls0 := [_, _]) rfl rfl rfl rfl rfl (mj_rcv_is hW) rfl (y_gos (l1 := a) bW hc hW hy.2.2.1) rfl rfl ?_
              rintro _ g ⟨rfl, r1, m1⟩
              have yg := hy.g r1 m1
              refine s_iret rfl rfl ?_
              exact ⟨_, _, rfl, Or.inl ⟨_, (by unfold brB brk_; simp [q93, q124, q91, q125, q123, hc_, bN]), rfl, yg.1⟩, yg.2⟩
            · refine s_if (p' := 399) true rfl (by rw [Bool.eq_false_iff.mpr hc_]; rfl) rfl ?_
              refine s_aldn (p' := 400) rfl rfl rfl ?_
              refine s_gf (p' := 403) rfl ra rfl rfl ?_
              refine s_callEV (p' := 406) (ls0 := [_, _]) rfl rfl rfl rfl rfl (mj_rcv_is hW) rfl (y_gos (l1 := X p a 7) bW hc hW hy.2.2.1) rfl rfl ?_
              rintro _ g ⟨rfl, r1, m1⟩
              have yg := hy.g r1 m1
              refine s_iret rfl rfl ?_
              exact ⟨_, _, rfl, Or.inl ⟨_, (by unfold brB brk_; simp [q93, q124, q91, q125, q123, hc_, bN]), rfl, yg.1⟩, yg.2⟩
          · rw [show X p a 0 = 47 by omega]
            refine s_sp (p' := 435) (ls' := _) rfl rfl rfl ?_
            refine s_aldn (p' := 436) rfl rfl rfl ?_
            refine s_ald (p' := 438) rfl rfl rfl ?_
            refine s_con (p' := 439) rfl rfl ?_
            refine s_ildn (p' := 440) rfl rfl rfl ?_
            refine c_call (p' := 443) (kc := 7) (ls0 := [_, _, _, _]) rfl rfl rfl rfl rfl (mj_rcv_is hW) rfl rfl rfl ?_
            refine ((y_tes (wn := false) bW hI hn hl hy hc hp ha hk (by omega) u2 (by have := of_decide_eq_true t7.2.1; omega))).imp ?_
            rintro o (⟨q_, rfl⟩ | ⟨q_, g, rfl, w1, y1, m1⟩)
            · show mj_Wp _ _ (443, _, _, _) _
              refine s_if (p' := 446) false rfl (by decide +kernel) rfl ?_
              refine s_aldn (p' := 447) rfl rfl rfl ?_
              refine s_ildn (p' := 448) rfl rfl rfl ?_
              refine s_callEV (p' := 451) (ls0 := [_, _]) rfl rfl rfl rfl rfl (mj_rcv_is hW) rfl (y_gos (l1 := a) bW hc hW hy.2.2.1) rfl rfl ?_
              rintro _ g ⟨rfl, r1, m1⟩
              have yg := hy.g r1 m1
              refine s_if (p' := 454) false rfl (by decide +kernel) rfl ?_
              refine s_con (p' := 455) rfl rfl ?_
              refine s_goto (p' := 459) rfl rfl ?_
              refine s_iret rfl rfl ?_
              exact ⟨_, _, rfl, Or.inl ⟨_, (by unfold brB brk_; simp [q93, q124, q91, q125, q123, show X p a 0 = 47 by omega, q_, bN]), rfl, yg.1⟩, yg.2⟩
            · show mj_Wp _ _ (443, _, _, _) _
              have yb := hy.b w1 y1 m1
              rw [show (X p a 0 = 47) from by omega] at yb
              try simp only [Bool.not_true, Bool.not_false] at q_
              refine s_if (p' := 458) true rfl (by decide +kernel) rfl ?_
              refine s_con (p' := 459) rfl rfl ?_
              refine s_iret rfl rfl ?_
              exact ⟨_, _, rfl, Or.inr ⟨_, (by unfold brB brk_; simp [q93, q124, q91, q125, q123, show X p a 0 = 47 by omega, q_, bN]), rfl, yb.1⟩, yb.2⟩
