/-! Rounds on any state: type. -/
theorem x_put {h : mj_H} {T A n ch : Nat} {tf : Nat → Int32} (bT : T < mj_CB) (bA : A < mj_CB) (hT : mj_rd h T = some (.inr (2, [.ref A, .int (nI n)]))) (hA : mj_rd h A = some (.inl (3, (60, .inl (tf))))) (hn : n < 60) (hc : ch < 65536) : mj_run 1 73 (0, [some (.ref T), some (.int (nI ch))], [], h) (.inl none, (h.set A (.inl (3, (60, .inl (upd tf n (nI ch)))))).set T (.inr (2, [.ref A, .int (nI (n + 1))]))) := by
  have hAT : A ≠ T := fun e => by rw [e, hT] at hA; cases hA
  refine s_aldn (p' := 1) rfl rfl rfl ?_
  refine s_gf (p' := 4) rfl hT rfl rfl ?_
  refine s_if (p' := 7) false rfl (cz_lt (by omega)) rfl ?_
  refine s_aldn (p' := 8) rfl rfl rfl ?_
  refine s_gf (p' := 11) rfl hT rfl rfl ?_
  refine s_aldn (p' := 12) rfl rfl rfl ?_
  refine s_gf (p' := 15) rfl hT rfl rfl ?_
  refine s_len (p' := 16) rfl (mj_rdA_is hA (by decide)) (by decide) rfl ?_
  refine s_icmp (p' := 19) false rfl ((ci_ge (by omega) (by omega)).trans (decide_eq_false (by omega))) rfl ?_
  refine s_aldn (p' := 20) rfl rfl rfl ?_
  refine s_gf (p' := 23) rfl hT rfl rfl ?_
  refine s_aldn (p' := 24) rfl rfl rfl ?_
  refine s_gf (p' := 27) rfl hT rfl rfl ?_
  refine s_ildn (p' := 28) rfl rfl rfl ?_
  refine s_cas (p' := 29) rfl bA hA (inb_nI (by omega) (by omega)) rfl ?_
  rw [mI_cl (by omega), ch_nar hc]
  refine s_aldn (p' := 30) rfl rfl rfl ?_
  refine s_sp (p' := 31) (ls' := _) rfl rfl rfl ?_
  refine s_gf (p' := 34) rfl ((rd_setn hAT).trans hT) rfl rfl ?_
  refine s_con (p' := 35) rfl rfl ?_
  refine s_sp (p' := 36) (ls' := _) rfl rfl rfl ?_
  rw [mI_add]
  refine s_pf (p' := 39) (fs' := [_, _]) rfl bT ((rd_setn hAT).trans hT) (Nat.blt_eq.mp rfl) rfl rfl rfl ?_
  exact s_ret rfl rfl
theorem y_ty00 {h : mj_H} {x Y n ch : Nat} {f : Nat → Nat} {a0 a1 a2 a4 a5 a6 a7 a8 a9 a10 : Value} (bx : x < mj_CB) (hb : h.length + 100 < mj_CB) (hX : mj_rd h x = some (.inr (17, [a0, a1, a2, .ref Y, a4, a5, a6, a7, a8, a9, a10]))) (hT : yStr h Y n 0 f) (hn : n < 60) (hc : ch < 256) {Q : mj_O × mj_H → Prop} (hq : ∀ (Y' : Nat) (g : mj_H), mj_rd g x = some (.inr (17, [a0, a1, a2, .ref Y', a4, a5, a6, a7, a8, a9, a10])) → yStr g Y' (n + 1) 0 (upN f n ch) → h.length ≤ Y' → Y' < mj_CB → (∀ (C : Nat) (rs : List Value), mj_rd g Y' = some (.inr (21, .ref C :: rs)) → h.length ≤ C) → mz_mo [x] 10 1200 h g → mj_Wp 12 240 (51, [some (.ref x), some (.int (nI ch))], [], g) Q) : mj_Wp 12 240 (26, [some (.ref x), some (.int (nI ch))], [], h) Q := by
  have hxl := rd_len bx hX
  have n0 : mj_rd (h ++ [(.inr (20, [.null, .int (nI 0), .int (nI 0), .int (nI 0)]) : mj_C)]) h.length = some (.inr (20, [.null, .int (nI 0), .int (nI 0), .int (nI 0)])) := rd_nw (Nat.blt_eq.mpr (by omega)) rfl
  have m0 : mz_mo [] 1 4 h (h ++ [(.inr (20, [.null, .int (nI 0), .int (nI 0), .int (nI 0)]) : mj_C)]) := mz_mo.ap [] h _
  have l0 : (h ++ [(.inr (20, [.null, .int (nI 0), .int (nI 0), .int (nI 0)]) : mj_C)]).length = h.length + 1 := by rw [List.length_append]; rfl
  obtain ⟨BY, rY, kY⟩ := hT.nB
  have hBY : BY < h.length ∨ mj_CB ≤ BY := by
    obtain ⟨_, C, rs, q1, bf, q2, _⟩ := hT
    rw [kY] at q1
    rw [Value.ref.inj (List.cons.inj (congrArg Prod.snd (Sum.inr.inj (Option.some.inj q1)))).1]
    exact rdN q2
  have hYl := rdN kY
  refine s_newz (p' := 29) (a := h.length) rfl rfl rfl rfl ?_
  show mj_Wp 12 240 (29, [some (.ref x), some (.int (nI ch))], [.ref h.length], h ++ [(.inr (20, [.null, .int (nI 0), .int (nI 0), .int (nI 0)]) : mj_C)]) Q
  refine s_sp (p' := 30) (ls' := _) rfl rfl rfl ?_
  refine s_callEN (p' := 33) (ls0 := [_]) rfl rfl rfl rfl rfl (mj_rcv_is n0) rfl (y_sbi (f := fun _ => 0) (by omega) (by omega) n0) rfl rfl ?_
  rintro g1 ⟨s1, m1⟩
  rw [l0] at s1
  have m01 : mz_mo [] 2 20 h g1 := m0.tr m1 (fun y hy => Or.inr (by have := List.mem_singleton.mp hy; omega)) (Nat.le_refl _) (Nat.le_refl _)
  have hX1 := m01.1 x (by simp) _ hX
  have hT1 : yStr g1 Y n 0 f := hT.fr m01.1 (by simp) (fun B rs q => by simp)
  have l1 := m01.2.1
  have u1 := m01.2.2.1
  refine s_aldn (p' := 34) rfl rfl rfl ?_
  refine s_sp (p' := 35) (ls' := _) rfl rfl rfl ?_
  refine s_gf (p' := 38) rfl hX1 rfl rfl ?_
  refine s_callEV (p' := 41) (ls0 := [_, _]) rfl rfl rfl rfl rfl s1.rcv rfl (y_ap0 (by omega) (by omega) s1 hT1 (by omega) (fun C rs q => by rw [m01.1 Y (by simp) _ kY] at q; rw [← Value.ref.inj (List.cons.inj (congrArg Prod.snd (Sum.inr.inj (Option.some.inj q)))).1]; omega)) rfl rfl ?_
  rintro _ g2 ⟨rfl, B2, s2, j2, m2⟩
  rw [Nat.zero_add] at s2
  have m02 := m01.tr m2 (fun y hy => Or.inr (by simp at hy; omega)) (Nat.le_refl _) (Nat.le_refl _)
  have l2 := m2.2.1
  have u2 := m2.2.2.1
  refine s_ildn (p' := 42) rfl rfl rfl ?_
  refine s_callEV (p' := 45) (ls0 := [_, _]) rfl rfl rfl rfl rfl s2.rcv rfl (y_ac00 (by omega) (by omega) s2 (by omega) hc) rfl rfl ?_
  rintro _ g3 ⟨rfl, B3, s3, j3, m3⟩
  have m03 := m02.tr m3 (fun y hy => Or.inr (by simp at hy; omega)) (Nat.le_refl _) (Nat.le_refl _)
  have l3 := m3.2.1
  have u3 := m3.2.2.1
  refine s_callEV (p' := 48) (ls0 := [_]) rfl rfl rfl rfl rfl s3.rcv rfl (y_tos0 (by omega) s3 (by omega)) rfl rfl ?_
  rintro _ g4 ⟨rfl, s4, j4, m4⟩
  have m04 := m03.tr m4 (fun y hy => Or.inl hy) (Nat.le_refl _) (Nat.le_refl _)
  have hX4 := m04.1 x (by simp) _ hX
  obtain ⟨B4, r4, k4⟩ := s4.nB
  refine s_pf (p' := 51) (fs' := [_, _, _, _, _, _, _, _, _, _, _]) rfl bx hX4 (Nat.blt_eq.mp rfl) rfl rfl rfl ?_
  have hC4 := j4 _ _ k4
  have m5 : mz_mo [x] 0 0 g4 (g4.set x (.inr (17, [a0, a1, a2, .ref g3.length, a4, a5, a6, a7, a8, a9, a10]))) := mz_mo.s (mz_mo.rf _ _ _ _) bx hX4 rfl (Or.inl (by simp))
  have s5 : yStr (g4.set x (.inr (17, [a0, a1, a2, .ref g3.length, a4, a5, a6, a7, a8, a9, a10]))) g3.length (n + 1) 0 (upN f n ch) := by
    have hu : catF (fun _ => 0) 0 f = f := funext fun j => by
      unfold catF
      rw [if_neg (Nat.not_lt_zero j), Nat.sub_zero]
    rw [hu] at s4
    refine s4.fr m5.1 (by simp; omega) (fun C rs q => ?_)
    have := j4 C rs q
    simp
    omega
  refine hq g3.length _ (rd_set bx hX4) s5 (by omega) (by omega) (fun C rs q => ?_) (mz_mo.s (m04.wk (L' := [x]) (fun y hy => absurd hy (by simp)) (by omega) (by omega)) bx hX4 rfl (Or.inl (by simp)))
  rw [rd_setn (show x ≠ g3.length by omega)] at q
  have := j4 C rs q
  omega
theorem y_ty01 {h : mj_H} {x Y n ch : Nat} {f : Nat → Nat} {a0 a1 a2 a4 a5 a6 a7 a8 a9 a10 : Value} (bx : x < mj_CB) (hb : h.length + 100 < mj_CB) (hX : mj_rd h x = some (.inr (17, [a0, a1, a2, .ref Y, a4, a5, a6, a7, a8, a9, a10]))) (hT : yStr h Y n 0 f) (hn : n < 60) (hc : 256 ≤ ch ∧ ch < 65536) {Q : mj_O × mj_H → Prop} (hq : ∀ (Y' : Nat) (g : mj_H), mj_rd g x = some (.inr (17, [a0, a1, a2, .ref Y', a4, a5, a6, a7, a8, a9, a10])) → yStr g Y' (n + 1) 1 (upN f n ch) → h.length ≤ Y' → Y' < mj_CB → (∀ (C : Nat) (rs : List Value), mj_rd g Y' = some (.inr (21, .ref C :: rs)) → h.length ≤ C) → mz_mo [x] 10 1200 h g → mj_Wp 12 240 (51, [some (.ref x), some (.int (nI ch))], [], g) Q) : mj_Wp 12 240 (26, [some (.ref x), some (.int (nI ch))], [], h) Q := by
  have hxl := rd_len bx hX
  have n0 : mj_rd (h ++ [(.inr (20, [.null, .int (nI 0), .int (nI 0), .int (nI 0)]) : mj_C)]) h.length = some (.inr (20, [.null, .int (nI 0), .int (nI 0), .int (nI 0)])) := rd_nw (Nat.blt_eq.mpr (by omega)) rfl
  have m0 : mz_mo [] 1 4 h (h ++ [(.inr (20, [.null, .int (nI 0), .int (nI 0), .int (nI 0)]) : mj_C)]) := mz_mo.ap [] h _
  have l0 : (h ++ [(.inr (20, [.null, .int (nI 0), .int (nI 0), .int (nI 0)]) : mj_C)]).length = h.length + 1 := by rw [List.length_append]; rfl
  obtain ⟨BY, rY, kY⟩ := hT.nB
  have hBY : BY < h.length ∨ mj_CB ≤ BY := by
    obtain ⟨_, C, rs, q1, bf, q2, _⟩ := hT
    rw [kY] at q1
    rw [Value.ref.inj (List.cons.inj (congrArg Prod.snd (Sum.inr.inj (Option.some.inj q1)))).1]
    exact rdN q2
  have hYl := rdN kY
  refine s_newz (p' := 29) (a := h.length) rfl rfl rfl rfl ?_
  show mj_Wp 12 240 (29, [some (.ref x), some (.int (nI ch))], [.ref h.length], h ++ [(.inr (20, [.null, .int (nI 0), .int (nI 0), .int (nI 0)]) : mj_C)]) Q
  refine s_sp (p' := 30) (ls' := _) rfl rfl rfl ?_
  refine s_callEN (p' := 33) (ls0 := [_]) rfl rfl rfl rfl rfl (mj_rcv_is n0) rfl (y_sbi (f := fun _ => 0) (by omega) (by omega) n0) rfl rfl ?_
  rintro g1 ⟨s1, m1⟩
  rw [l0] at s1
  have m01 : mz_mo [] 2 20 h g1 := m0.tr m1 (fun y hy => Or.inr (by have := List.mem_singleton.mp hy; omega)) (Nat.le_refl _) (Nat.le_refl _)
  have hX1 := m01.1 x (by simp) _ hX
  have hT1 : yStr g1 Y n 0 f := hT.fr m01.1 (by simp) (fun B rs q => by simp)
  have l1 := m01.2.1
  have u1 := m01.2.2.1
  refine s_aldn (p' := 34) rfl rfl rfl ?_
  refine s_sp (p' := 35) (ls' := _) rfl rfl rfl ?_
  refine s_gf (p' := 38) rfl hX1 rfl rfl ?_
  refine s_callEV (p' := 41) (ls0 := [_, _]) rfl rfl rfl rfl rfl s1.rcv rfl (y_ap0 (by omega) (by omega) s1 hT1 (by omega) (fun C rs q => by rw [m01.1 Y (by simp) _ kY] at q; rw [← Value.ref.inj (List.cons.inj (congrArg Prod.snd (Sum.inr.inj (Option.some.inj q)))).1]; omega)) rfl rfl ?_
  rintro _ g2 ⟨rfl, B2, s2, j2, m2⟩
  rw [Nat.zero_add] at s2
  have m02 := m01.tr m2 (fun y hy => Or.inr (by simp at hy; omega)) (Nat.le_refl _) (Nat.le_refl _)
  have l2 := m2.2.1
  have u2 := m2.2.2.1
  refine s_ildn (p' := 42) rfl rfl rfl ?_
  refine s_callEV (p' := 45) (ls0 := [_, _]) rfl rfl rfl rfl rfl s2.rcv rfl (y_ac01 (by omega) (by omega) s2 (by omega) hc) rfl rfl ?_
  rintro _ g3 ⟨rfl, B3, s3, j3, m3⟩
  have m03 := m02.tr m3 (fun y hy => Or.inr (by simp at hy; omega)) (Nat.le_refl _) (Nat.le_refl _)
  have l3 := m3.2.1
  have u3 := m3.2.2.1
  refine s_callEV (p' := 48) (ls0 := [_]) rfl rfl rfl rfl rfl s3.rcv rfl (y_tos1 (by omega) s3 (by omega)) rfl rfl ?_
  rintro _ g4 ⟨rfl, s4, j4, m4⟩
  have m04 := m03.tr m4 (fun y hy => Or.inl hy) (Nat.le_refl _) (Nat.le_refl _)
  have hX4 := m04.1 x (by simp) _ hX
  obtain ⟨B4, r4, k4⟩ := s4.nB
  refine s_pf (p' := 51) (fs' := [_, _, _, _, _, _, _, _, _, _, _]) rfl bx hX4 (Nat.blt_eq.mp rfl) rfl rfl rfl ?_
  have hC4 := j4 _ _ k4
  have m5 : mz_mo [x] 0 0 g4 (g4.set x (.inr (17, [a0, a1, a2, .ref g3.length, a4, a5, a6, a7, a8, a9, a10]))) := mz_mo.s (mz_mo.rf _ _ _ _) bx hX4 rfl (Or.inl (by simp))
  have s5 : yStr (g4.set x (.inr (17, [a0, a1, a2, .ref g3.length, a4, a5, a6, a7, a8, a9, a10]))) g3.length (n + 1) 1 (upN f n ch) := by
    have hu : catF (fun _ => 0) 0 f = f := funext fun j => by
      unfold catF
      rw [if_neg (Nat.not_lt_zero j), Nat.sub_zero]
    rw [hu] at s4
    refine s4.fr m5.1 (by simp; omega) (fun C rs q => ?_)
    have := j4 C rs q
    simp
    omega
  refine hq g3.length _ (rd_set bx hX4) s5 (by omega) (by omega) (fun C rs q => ?_) (mz_mo.s (m04.wk (L' := [x]) (fun y hy => absurd hy (by simp)) (by omega) (by omega)) bx hX4 rfl (Or.inl (by simp)))
  rw [rd_setn (show x ≠ g3.length by omega)] at q
  have := j4 C rs q
  omega
theorem y_ty11 {h : mj_H} {x Y n ch : Nat} {f : Nat → Nat} {a0 a1 a2 a4 a5 a6 a7 a8 a9 a10 : Value} (bx : x < mj_CB) (hb : h.length + 100 < mj_CB) (hX : mj_rd h x = some (.inr (17, [a0, a1, a2, .ref Y, a4, a5, a6, a7, a8, a9, a10]))) (hT : yStr h Y n 1 f) (hn : n < 60) (hc : ch < 65536) {Q : mj_O × mj_H → Prop} (hq : ∀ (Y' : Nat) (g : mj_H), mj_rd g x = some (.inr (17, [a0, a1, a2, .ref Y', a4, a5, a6, a7, a8, a9, a10])) → yStr g Y' (n + 1) 1 (upN f n ch) → h.length ≤ Y' → Y' < mj_CB → (∀ (C : Nat) (rs : List Value), mj_rd g Y' = some (.inr (21, .ref C :: rs)) → h.length ≤ C) → mz_mo [x] 10 1200 h g → mj_Wp 12 240 (51, [some (.ref x), some (.int (nI ch))], [], g) Q) : mj_Wp 12 240 (26, [some (.ref x), some (.int (nI ch))], [], h) Q := by
  have hxl := rd_len bx hX
  have n0 : mj_rd (h ++ [(.inr (20, [.null, .int (nI 0), .int (nI 0), .int (nI 0)]) : mj_C)]) h.length = some (.inr (20, [.null, .int (nI 0), .int (nI 0), .int (nI 0)])) := rd_nw (Nat.blt_eq.mpr (by omega)) rfl
  have m0 : mz_mo [] 1 4 h (h ++ [(.inr (20, [.null, .int (nI 0), .int (nI 0), .int (nI 0)]) : mj_C)]) := mz_mo.ap [] h _
  have l0 : (h ++ [(.inr (20, [.null, .int (nI 0), .int (nI 0), .int (nI 0)]) : mj_C)]).length = h.length + 1 := by rw [List.length_append]; rfl
  obtain ⟨BY, rY, kY⟩ := hT.nB
  have hBY : BY < h.length ∨ mj_CB ≤ BY := by
    obtain ⟨_, C, rs, q1, bf, q2, _⟩ := hT
    rw [kY] at q1
    rw [Value.ref.inj (List.cons.inj (congrArg Prod.snd (Sum.inr.inj (Option.some.inj q1)))).1]
    exact rdN q2
  have hYl := rdN kY
  refine s_newz (p' := 29) (a := h.length) rfl rfl rfl rfl ?_
  show mj_Wp 12 240 (29, [some (.ref x), some (.int (nI ch))], [.ref h.length], h ++ [(.inr (20, [.null, .int (nI 0), .int (nI 0), .int (nI 0)]) : mj_C)]) Q
  refine s_sp (p' := 30) (ls' := _) rfl rfl rfl ?_
  refine s_callEN (p' := 33) (ls0 := [_]) rfl rfl rfl rfl rfl (mj_rcv_is n0) rfl (y_sbi (f := fun _ => 0) (by omega) (by omega) n0) rfl rfl ?_
  rintro g1 ⟨s1, m1⟩
  rw [l0] at s1
  have m01 : mz_mo [] 2 20 h g1 := m0.tr m1 (fun y hy => Or.inr (by have := List.mem_singleton.mp hy; omega)) (Nat.le_refl _) (Nat.le_refl _)
  have hX1 := m01.1 x (by simp) _ hX
  have hT1 : yStr g1 Y n 1 f := hT.fr m01.1 (by simp) (fun B rs q => by simp)
  have l1 := m01.2.1
  have u1 := m01.2.2.1
  refine s_aldn (p' := 34) rfl rfl rfl ?_
  refine s_sp (p' := 35) (ls' := _) rfl rfl rfl ?_
  refine s_gf (p' := 38) rfl hX1 rfl rfl ?_
  refine s_callEV (p' := 41) (ls0 := [_, _]) rfl rfl rfl rfl rfl s1.rcv rfl (y_ap1 (by omega) (by omega) s1 hT1 (by omega) (fun C rs q => by rw [m01.1 Y (by simp) _ kY] at q; rw [← Value.ref.inj (List.cons.inj (congrArg Prod.snd (Sum.inr.inj (Option.some.inj q)))).1]; omega)) rfl rfl ?_
  rintro _ g2 ⟨rfl, B2, s2, j2, m2⟩
  rw [Nat.zero_add] at s2
  have m02 := m01.tr m2 (fun y hy => Or.inr (by simp at hy; omega)) (Nat.le_refl _) (Nat.le_refl _)
  have l2 := m2.2.1
  have u2 := m2.2.2.1
  refine s_ildn (p' := 42) rfl rfl rfl ?_
  refine s_callEV (p' := 45) (ls0 := [_, _]) rfl rfl rfl rfl rfl s2.rcv rfl (y_ac11 (by omega) (by omega) s2 (by omega) hc) rfl rfl ?_
  rintro _ g3 ⟨rfl, B3, s3, j3, m3⟩
  have m03 := m02.tr m3 (fun y hy => Or.inr (by simp at hy; omega)) (Nat.le_refl _) (Nat.le_refl _)
  have l3 := m3.2.1
  have u3 := m3.2.2.1
  refine s_callEV (p' := 48) (ls0 := [_]) rfl rfl rfl rfl rfl s3.rcv rfl (y_tos1 (by omega) s3 (by omega)) rfl rfl ?_
  rintro _ g4 ⟨rfl, s4, j4, m4⟩
  have m04 := m03.tr m4 (fun y hy => Or.inl hy) (Nat.le_refl _) (Nat.le_refl _)
  have hX4 := m04.1 x (by simp) _ hX
  obtain ⟨B4, r4, k4⟩ := s4.nB
  refine s_pf (p' := 51) (fs' := [_, _, _, _, _, _, _, _, _, _, _]) rfl bx hX4 (Nat.blt_eq.mp rfl) rfl rfl rfl ?_
  have hC4 := j4 _ _ k4
  have m5 : mz_mo [x] 0 0 g4 (g4.set x (.inr (17, [a0, a1, a2, .ref g3.length, a4, a5, a6, a7, a8, a9, a10]))) := mz_mo.s (mz_mo.rf _ _ _ _) bx hX4 rfl (Or.inl (by simp))
  have s5 : yStr (g4.set x (.inr (17, [a0, a1, a2, .ref g3.length, a4, a5, a6, a7, a8, a9, a10]))) g3.length (n + 1) 1 (upN f n ch) := by
    have hu : catF (fun _ => 0) 0 f = f := funext fun j => by
      unfold catF
      rw [if_neg (Nat.not_lt_zero j), Nat.sub_zero]
    rw [hu] at s4
    refine s4.fr m5.1 (by simp; omega) (fun C rs q => ?_)
    have := j4 C rs q
    simp
    omega
  refine hq g3.length _ (rd_set bx hX4) s5 (by omega) (by omega) (fun C rs q => ?_) (mz_mo.s (m04.wk (L' := [x]) (fun y hy => absurd hy (by simp)) (by omega) (by omega)) bx hX4 rfl (Or.inl (by simp)))
  rw [rd_setn (show x ≠ g3.length by omega)] at q
  have := j4 C rs q
  omega
theorem w_0_00 {L i N : Nat} {xs : Nat → Int32} {h : mj_H} {l6 l7 l8 l9 : Option Value} {P : mj_H → Prop} (hL : L ≤ 2048) (hi : i + 4 ≤ L) (hN : N + 2000 < mj_CB) (hN0 : 414 ≤ N) (HL : h.length = N) (hk : xs i &&& nI 63 = nI 0) {gs pl ty wa nw nx dp ca mf : Value} {th : Int32} {sd be : Int64} {ou : Nat → Int64} {vf wf sf uf im jm : Nat → Int32} {k g : Nat} (hk20 : k ≤ 20) (hvw : ∀ j, j < 8 → wf j = vf j) (hsu : ∀ j, j < k → uf j = sf j) (him : ∀ j, j < 8 → jm j = im j) {pe pm ge gm : Value} {q : Nat} (hq6 : q ≤ 6) (hg24 : g ≤ 24) {tf : Nat → Int32} {ys : List Value} {Y Yb n ch : Nat} {f : Nat → Nat} (hY : yStr h Y n 0 f) (hYB : ∀ (C : Nat) (rs : List Value), mj_rd h Y = some (.inr (21, .ref C :: rs)) → 414 ≤ C) (hY0 : 414 ≤ Y) (hch : ((xs (i + 1)).toUInt32 % 65536).toInt32 = nI ch) (hn : n < 60) (hc : ch < 256)  (H0 : mj_rd h 0 = some (.inr (0, [.ref 1, .ref 38, .ref 299, .ref 336, .ref 373, .ref 375, .ref 378, .ref 381, .ref 387, .ref 393, gs, pl, .ref 397, .ref 398, .ref 399, .long sd, .long be]))) (H1 : mj_rd h 1 = some (.inr (1, [.ref 2, .ref 4, .ref 37]))) (H2 : mj_rd h 2 = some (.inr (2, [.ref 3, .int (nI n)]))) (H3 : mj_rd h 3 = some (.inl (3, (60, .inl (tf))))) (H400 : mj_rd h 400 = some (.inr (17, [.int th, .ref 401, .ref 402, .ref Y, .long sd, .long be, .ref 410, wa, nw, nx, .ref 411]))) (H412 : mj_rd h 412 = some (.inl (4, (1, .inr (.inl (ou)))))) (HY : mj_rd h Y = some (.inr (21, .ref Yb :: .int (nI 0) :: ys))) (hn : ∀ (l6 l7 l8 l9 : Option Value) (h' : mj_H), mj_rd h' 2 = some (.inr (2, [.ref 3, .int (nI (n + 1))])) ∧ mj_rd h' 3 = some (.inl (3, (60, .inl ((upd tf n (nI ch)))))) ∧ mj_rd h' 412 = some (.inl (4, (1, .inr (.inl ((vp_updL ou 0 (Int32.toInt64 (nI (n + 1))))))))) ∧ (∃ Y1, N ≤ Y1 ∧ Y1 < mj_CB ∧ mj_rd h' 400 = some (.inr (17, [.int (nI 0), .ref 401, .ref 402, .ref Y1, .long sd, .long be, .ref 410, wa, nw, nx, .ref 411])) ∧ yStr h' Y1 (n + 1) 0 (upN f n ch) ∧ ∀ (C : Nat) (rs : List Value), mj_rd h' Y1 = some (.inr (21, .ref C :: rs)) → N ≤ C) ∧ mz_fr [2, 3, 400, 412] h h' ∧ h'.length ≤ N + 10 ∧ mj_sz h' ≤ mj_sz h + 1200 → mj_lrun L xs (28, [some (.retAddr 1), some (.ref 0), some (.ref 400), some (.ref 412), some (.ref 413), some (.int (nI (i + 4))), l6, l7, l8, l9], [], h') P) : mj_lrun L xs (28, [some (.retAddr 1), some (.ref 0), some (.ref 400), some (.ref 412), some (.ref 413), some (.int (nI i)), l6, l7, l8, l9], [], h) P := by
  refine l_ild (p' := 30) rfl rfl rfl rfl ?_
  refine l_alds (p' := 31) rfl rfl rfl rfl ?_
  refine l_lens (p' := 32) rfl rfl rfl ?_
  refine l_con (p' := 33) rfl rfl rfl ?_
  refine l_bz (p' := 34) (z := (nI (L - 4))) rfl rfl rfl rfl rfl (mI_sub (by omega)) ?_
  refine l_icmp (p' := 37) false rfl rfl ((ci_gt (by omega) (by omega)).trans (decide_eq_false (by omega))) rfl ?_
  refine l_alds (p' := 38) rfl rfl rfl rfl ?_
  refine l_ild (p' := 40) rfl rfl rfl rfl ?_
  refine l_ialz (p' := 41) (m := i) (z := (xs i)) rfl rfl (inb_nI (by omega) (by omega)) (mI_cl (by omega)) rfl rfl ?_
  refine l_bip (p' := 43) rfl rfl rfl ?_
  refine l_bz (p' := 44) (z := (nI 0)) rfl rfl rfl rfl rfl hk ?_
  refine l_sp (p' := 260) (ls' := _) rfl rfl rfl rfl rfl ?_
  refine l_aldn (p' := 261) rfl rfl rfl rfl ?_
  refine l_alds (p' := 262) rfl rfl rfl rfl ?_
  refine l_ild (p' := 264) rfl rfl rfl rfl ?_
  refine l_con (p' := 265) rfl rfl rfl ?_
  refine l_bz (p' := 266) (z := (nI (i + 1))) rfl rfl rfl rfl rfl (mI_add _ _) ?_
  refine l_ialz (p' := 267) (m := (i + 1)) (z := (xs (i + 1))) rfl rfl (inb_nI (by omega) (by omega)) (mI_cl (by omega)) rfl rfl ?_
  refine l_bz (p' := 268) (z := (nI ch)) rfl rfl rfl rfl rfl hch ?_
  refine l_aldn (p' := 269) rfl rfl rfl rfl ?_
  refine l_call (p' := 272) (kc := 99) (ls0 := [_, _, _, _]) rfl rfl rfl rfl rfl rfl rfl rfl rfl rfl ?_
  refine s_aldn (p' := 1) rfl rfl rfl ?_
  refine s_con (p' := 2) rfl rfl ?_
  refine s_aldn (p' := 3) rfl rfl rfl ?_
  refine s_ildn (p' := 4) rfl rfl rfl ?_
  refine c_call (p' := 7) (kc := 98) (ls0 := [_, _]) rfl rfl rfl rfl rfl (mj_rcv_is H0) rfl rfl rfl ?_
  refine s_aldn (p' := 1) rfl rfl rfl ?_
  refine s_gf (p' := 4) rfl H0 rfl rfl ?_
  refine s_gf (p' := 7) rfl H1 rfl rfl ?_
  refine c_call (p' := 10) (kc := 97) (ls0 := [_]) rfl rfl rfl rfl rfl (mj_rcv_is H2) rfl rfl rfl ?_
  refine s_aldn (p' := 1) rfl rfl rfl ?_
  refine s_gf (p' := 4) rfl H2 rfl rfl ?_
  refine s_bip (p' := 6) rfl rfl ?_
  refine s_icmp (p' := 13) true rfl ((cg_lt (w := 60) (by decide +kernel)).trans (decide_eq_true (by rw [mI_ti (by omega)]; omega))) rfl ?_
  refine s_con (p' := 14) rfl rfl ?_
  refine c_iret rfl (by decide +kernel) ?_
  refine s_if (p' := 23) true rfl (by decide +kernel) rfl ?_
  refine s_aldn (p' := 24) rfl rfl rfl ?_
  refine s_gf (p' := 27) rfl H0 rfl rfl ?_
  refine s_gf (p' := 30) rfl H1 rfl rfl ?_
  refine s_ildn (p' := 31) rfl rfl rfl ?_
  refine s_callN (p' := 34) (kc := 1) (ls0 := [_, _]) rfl rfl rfl rfl rfl (mj_rcv_is H2) rfl (x_put (by decide) (by decide) H2 H3 (by omega) (by omega)) (by decide) rfl ?_
  refine s_aldn (p' := 35) rfl rfl rfl ?_
  refine s_gf (p' := 38) rfl (rd_sn rfl (rd_sn rfl H0)) rfl rfl ?_
  refine s_gf (p' := 41) rfl (rd_sn rfl (rd_sn rfl H1)) rfl rfl ?_
  refine c_call (p' := 44) (kc := 97) (ls0 := [_]) rfl rfl rfl rfl rfl (mj_rcv_is (rd_ss rfl (rd_sn rfl H2))) rfl rfl rfl ?_
  refine s_aldn (p' := 1) rfl rfl rfl ?_
  refine s_gf (p' := 4) rfl (rd_ss rfl (rd_sn rfl H2)) rfl rfl ?_
  refine c_iret rfl rfl ?_
  refine c_iret rfl rfl ?_
  refine s_bzL (p' := 8) (z := (Int32.toInt64 (nI (n + 1)))) rfl rfl rfl rfl ?_
  refine s_lasz (p' := 9) (m := 0) rfl rfl (rd_sn rfl (rd_sn rfl H412)) (by decide +kernel) rfl rfl rfl ?_
  refine s_goto (p' := 15) rfl rfl ?_
  refine s_con (p' := 16) rfl rfl ?_
  refine k_iret rfl rfl ?_
  refine l_ist (p' := 274) (ls' := [_, _, _, _, _, _, _, _, _, _]) rfl rfl rfl rfl rfl ?_
  refine l_aldn (p' := 275) rfl rfl rfl rfl ?_
  refine l_alds (p' := 276) rfl rfl rfl rfl ?_
  refine l_ild (p' := 278) rfl rfl rfl rfl ?_
  refine l_con (p' := 279) rfl rfl rfl ?_
  refine l_bz (p' := 280) (z := (nI (i + 1))) rfl rfl rfl rfl rfl (mI_add _ _) ?_
  refine l_ialz (p' := 281) (m := (i + 1)) (z := (xs (i + 1))) rfl rfl (inb_nI (by omega) (by omega)) (mI_cl (by omega)) rfl rfl ?_
  refine l_bz (p' := 282) (z := (nI ch)) rfl rfl rfl rfl rfl hch ?_
  refine l_call (p' := 285) (kc := 99) (ls0 := [_, _]) rfl rfl rfl rfl rfl rfl (mj_rcv_is (rd_sn rfl (rd_sn rfl (rd_sn rfl H400)))) rfl rfl rfl ?_
  refine s_aldn (p' := 1) rfl rfl rfl ?_
  refine s_aldn (p' := 2) rfl rfl rfl ?_
  refine s_gf (p' := 5) rfl (rd_sn rfl (rd_sn rfl (rd_sn rfl H400))) rfl rfl ?_
  refine s_callV (p' := 8) (kc := 1) (ls0 := [_]) rfl rfl rfl rfl rfl (mj_rcv_is (rd_sn (beq_eq_false_iff_ne.mpr (by omega)) (rd_sn (beq_eq_false_iff_ne.mpr (by omega)) (rd_sn (beq_eq_false_iff_ne.mpr (by omega)) HY)))) rfl (y_len0 (hY.fr (M := [3, 2, 412]) (mz_fr.s (by simp) (mz_fr.s (by simp) (mz_fr.s (by simp) (mz_fr.rf _ _)))) (by simp <;> omega) (fun B rs q => by have := hYB B rs q; simp <;> omega)) (by omega)) (by decide) rfl ?_
  refine s_bip (p' := 10) rfl rfl ?_
  refine s_icmp (p' := 17) true rfl ((cg_ne (w := 60) (by decide +kernel)).trans (decide_eq_true (by rw [mI_ti (by omega)]; omega))) rfl ?_
  refine s_con (p' := 18) rfl rfl ?_
  refine c_call (p' := 21) (kc := 98) (ls0 := [_, _]) rfl rfl rfl rfl rfl (mj_rcv_is (rd_sn rfl (rd_sn rfl (rd_sn rfl H400)))) rfl rfl rfl ?_
  refine s_aldn (p' := 1) rfl rfl rfl ?_
  refine s_ildn (p' := 2) rfl rfl rfl ?_
  refine s_pfz (p' := 5) (fs' := [_, _, _, _, _, _, _, _, _, _, _]) rfl rfl (rd_sn rfl (rd_sn rfl (rd_sn rfl H400))) rfl rfl rfl rfl ?_
  refine s_ildn (p' := 6) rfl rfl rfl ?_
  refine s_if (p' := 13) true rfl (by decide +kernel) rfl ?_
  refine s_con (p' := 14) rfl rfl ?_
  refine c_iret rfl (by decide +kernel) ?_
  refine s_if (p' := 26) true rfl (by decide +kernel) rfl ?_
  refine mj_Wp.mono (k := 12) ?_ (by decide)
  refine y_ty00 (by decide) (by rw [(len_s (len_s (len_s (len_s HL))))]; omega) (rd_ss rfl (rd_sn rfl (rd_sn rfl (rd_sn rfl H400)))) (hY.fr (M := [3, 2, 412, 400]) (mz_fr.s (by simp) (mz_fr.s (by simp) (mz_fr.s (by simp) (mz_fr.s (by simp) (mz_fr.rf _ _))))) (by simp <;> omega) (fun B rs q => by have := hYB B rs q; simp <;> omega)) (by omega) hc ?_
  intro Y1 hz t1 t2 t3 t4 t5 t6
  obtain ⟨Yb1, ys1, k1⟩ := t2.nB
  rw [(len_s (len_s (len_s (len_s HL))))] at t3 t5
  refine s_aldn (p' := 52) rfl rfl rfl ?_
  refine s_gf (p' := 55) rfl t1 rfl rfl ?_
  refine s_callV (p' := 58) (kc := 1) (ls0 := [_]) rfl rfl rfl rfl rfl (mj_rcv_is k1) rfl (y_len0 t2 (by omega)) (by decide) rfl ?_
  refine k_iret rfl rfl ?_
  refine l_ist (p' := 287) (ls' := [_, _, _, _, _, _, _, _, _, _]) rfl rfl rfl rfl rfl ?_
  refine l_aldn (p' := 288) rfl rfl rfl rfl ?_
  refine l_call (p' := 291) (kc := 99) (ls0 := [_]) rfl rfl rfl rfl rfl rfl (mj_rcv_is t1) rfl rfl rfl ?_
  refine s_aldn (p' := 1) rfl rfl rfl ?_
  refine s_gf (p' := 4) rfl t1 rfl rfl ?_
  refine k_iret rfl rfl ?_
  refine l_ild (p' := 293) rfl rfl rfl rfl ?_
  refine l_icmp (p' := 298) true rfl rfl (by decide +kernel) rfl ?_
  refine l_ild (p' := 300) rfl rfl rfl rfl ?_
  refine l_if (p' := 303) false rfl rfl (by decide +kernel) rfl ?_
  refine l_aldn (p' := 304) rfl rfl rfl rfl ?_
  refine l_con (p' := 305) rfl rfl rfl ?_
  refine l_lalz (p' := 306) (m := 0) (v := (Int32.toInt64 (nI (n + 1)))) rfl rfl (t6.1 412 (by simp <;> omega) _ (rd_sn rfl (rd_ss rfl (rd_sn rfl (rd_sn rfl H412))))) (by decide +kernel) rfl rfl rfl ?_
  refine l_ild (p' := 308) rfl rfl rfl rfl ?_
  refine l_bzL (p' := 309) (z := (Int32.toInt64 (nI (n + 1)))) rfl rfl rfl rfl rfl rfl ?_
  refine l_bz (p' := 310) (z := nI 0) rfl rfl rfl rfl rfl (lcmp_self _) ?_
  refine l_if (p' := 315) true rfl rfl (by decide +kernel) rfl ?_
  refine l_goto (p' := 2541) rfl rfl rfl ?_
  refine l_incz (p' := 2544) (w := (nI (i + 4))) (ls' := [_, _, _, _, _, _, _, _, _, _]) rfl rfl rfl rfl (mI_add _ _) rfl rfl ?_
  refine l_goto (p' := 28) rfl rfl rfl ?_
  exact hn _ _ _ _ _ ⟨(t6.1 2 (by simp <;> omega) _ (rd_sn rfl (rd_sn rfl (rd_ss rfl (rd_sn rfl H2))))), (t6.1 3 (by simp <;> omega) _ (rd_sn rfl (rd_sn rfl (rd_sn rfl (rd_ss rfl H3))))), (t6.1 412 (by simp <;> omega) _ (rd_sn rfl (rd_ss rfl (rd_sn rfl (rd_sn rfl H412))))), ⟨Y1, t3, t4, t1, t2, fun C rs q => t5 C rs (k1.trans ((k1).symm.trans q))⟩, ((mz_fr.s (by decide) (mz_fr.s (by decide) (mz_fr.s (by decide) (mz_fr.s (by decide) (mz_fr.rf _ h))))).tr2 t6.1 (fun y hy => Or.inl (by simp at hy ⊢ <;> omega))), (Nat.le_trans (t6.len (Nat.le_of_eq (len_s (len_s (len_s (len_s HL))))) rfl) (by omega)), (Nat.le_trans (t6.sz (K := 1200) (sz_s rfl (rd_sn rfl (rd_sn rfl (rd_sn rfl H400))) rfl (sz_sA rfl (rd_sn rfl (rd_sn rfl H412)) (sz_s rfl (rd_sn rfl H2) rfl (sz_sA rfl H3 (Nat.le_refl (mj_sz h)))))) (by omega) rfl) (by omega))⟩
theorem w_0_01 {L i N : Nat} {xs : Nat → Int32} {h : mj_H} {l6 l7 l8 l9 : Option Value} {P : mj_H → Prop} (hL : L ≤ 2048) (hi : i + 4 ≤ L) (hN : N + 2000 < mj_CB) (hN0 : 414 ≤ N) (HL : h.length = N) (hk : xs i &&& nI 63 = nI 0) {gs pl ty wa nw nx dp ca mf : Value} {th : Int32} {sd be : Int64} {ou : Nat → Int64} {vf wf sf uf im jm : Nat → Int32} {k g : Nat} (hk20 : k ≤ 20) (hvw : ∀ j, j < 8 → wf j = vf j) (hsu : ∀ j, j < k → uf j = sf j) (him : ∀ j, j < 8 → jm j = im j) {pe pm ge gm : Value} {q : Nat} (hq6 : q ≤ 6) (hg24 : g ≤ 24) {tf : Nat → Int32} {ys : List Value} {Y Yb n ch : Nat} {f : Nat → Nat} (hY : yStr h Y n 0 f) (hYB : ∀ (C : Nat) (rs : List Value), mj_rd h Y = some (.inr (21, .ref C :: rs)) → 414 ≤ C) (hY0 : 414 ≤ Y) (hch : ((xs (i + 1)).toUInt32 % 65536).toInt32 = nI ch) (hn : n < 60) (hc : 256 ≤ ch ∧ ch < 65536)  (H0 : mj_rd h 0 = some (.inr (0, [.ref 1, .ref 38, .ref 299, .ref 336, .ref 373, .ref 375, .ref 378, .ref 381, .ref 387, .ref 393, gs, pl, .ref 397, .ref 398, .ref 399, .long sd, .long be]))) (H1 : mj_rd h 1 = some (.inr (1, [.ref 2, .ref 4, .ref 37]))) (H2 : mj_rd h 2 = some (.inr (2, [.ref 3, .int (nI n)]))) (H3 : mj_rd h 3 = some (.inl (3, (60, .inl (tf))))) (H400 : mj_rd h 400 = some (.inr (17, [.int th, .ref 401, .ref 402, .ref Y, .long sd, .long be, .ref 410, wa, nw, nx, .ref 411]))) (H412 : mj_rd h 412 = some (.inl (4, (1, .inr (.inl (ou)))))) (HY : mj_rd h Y = some (.inr (21, .ref Yb :: .int (nI 0) :: ys))) (hn : ∀ (l6 l7 l8 l9 : Option Value) (h' : mj_H), mj_rd h' 2 = some (.inr (2, [.ref 3, .int (nI (n + 1))])) ∧ mj_rd h' 3 = some (.inl (3, (60, .inl ((upd tf n (nI ch)))))) ∧ mj_rd h' 412 = some (.inl (4, (1, .inr (.inl ((vp_updL ou 0 (Int32.toInt64 (nI (n + 1))))))))) ∧ (∃ Y1, N ≤ Y1 ∧ Y1 < mj_CB ∧ mj_rd h' 400 = some (.inr (17, [.int (nI 0), .ref 401, .ref 402, .ref Y1, .long sd, .long be, .ref 410, wa, nw, nx, .ref 411])) ∧ yStr h' Y1 (n + 1) 1 (upN f n ch) ∧ ∀ (C : Nat) (rs : List Value), mj_rd h' Y1 = some (.inr (21, .ref C :: rs)) → N ≤ C) ∧ mz_fr [2, 3, 400, 412] h h' ∧ h'.length ≤ N + 10 ∧ mj_sz h' ≤ mj_sz h + 1200 → mj_lrun L xs (28, [some (.retAddr 1), some (.ref 0), some (.ref 400), some (.ref 412), some (.ref 413), some (.int (nI (i + 4))), l6, l7, l8, l9], [], h') P) : mj_lrun L xs (28, [some (.retAddr 1), some (.ref 0), some (.ref 400), some (.ref 412), some (.ref 413), some (.int (nI i)), l6, l7, l8, l9], [], h) P := by
  refine l_ild (p' := 30) rfl rfl rfl rfl ?_
  refine l_alds (p' := 31) rfl rfl rfl rfl ?_
  refine l_lens (p' := 32) rfl rfl rfl ?_
  refine l_con (p' := 33) rfl rfl rfl ?_
  refine l_bz (p' := 34) (z := (nI (L - 4))) rfl rfl rfl rfl rfl (mI_sub (by omega)) ?_
  refine l_icmp (p' := 37) false rfl rfl ((ci_gt (by omega) (by omega)).trans (decide_eq_false (by omega))) rfl ?_
  refine l_alds (p' := 38) rfl rfl rfl rfl ?_
  refine l_ild (p' := 40) rfl rfl rfl rfl ?_
  refine l_ialz (p' := 41) (m := i) (z := (xs i)) rfl rfl (inb_nI (by omega) (by omega)) (mI_cl (by omega)) rfl rfl ?_
  refine l_bip (p' := 43) rfl rfl rfl ?_
  refine l_bz (p' := 44) (z := (nI 0)) rfl rfl rfl rfl rfl hk ?_
  refine l_sp (p' := 260) (ls' := _) rfl rfl rfl rfl rfl ?_
  refine l_aldn (p' := 261) rfl rfl rfl rfl ?_
  refine l_alds (p' := 262) rfl rfl rfl rfl ?_
  refine l_ild (p' := 264) rfl rfl rfl rfl ?_
  refine l_con (p' := 265) rfl rfl rfl ?_
  refine l_bz (p' := 266) (z := (nI (i + 1))) rfl rfl rfl rfl rfl (mI_add _ _) ?_
  refine l_ialz (p' := 267) (m := (i + 1)) (z := (xs (i + 1))) rfl rfl (inb_nI (by omega) (by omega)) (mI_cl (by omega)) rfl rfl ?_
  refine l_bz (p' := 268) (z := (nI ch)) rfl rfl rfl rfl rfl hch ?_
  refine l_aldn (p' := 269) rfl rfl rfl rfl ?_
  refine l_call (p' := 272) (kc := 99) (ls0 := [_, _, _, _]) rfl rfl rfl rfl rfl rfl rfl rfl rfl rfl ?_
  refine s_aldn (p' := 1) rfl rfl rfl ?_
  refine s_con (p' := 2) rfl rfl ?_
  refine s_aldn (p' := 3) rfl rfl rfl ?_
  refine s_ildn (p' := 4) rfl rfl rfl ?_
  refine c_call (p' := 7) (kc := 98) (ls0 := [_, _]) rfl rfl rfl rfl rfl (mj_rcv_is H0) rfl rfl rfl ?_
  refine s_aldn (p' := 1) rfl rfl rfl ?_
  refine s_gf (p' := 4) rfl H0 rfl rfl ?_
  refine s_gf (p' := 7) rfl H1 rfl rfl ?_
  refine c_call (p' := 10) (kc := 97) (ls0 := [_]) rfl rfl rfl rfl rfl (mj_rcv_is H2) rfl rfl rfl ?_
  refine s_aldn (p' := 1) rfl rfl rfl ?_
  refine s_gf (p' := 4) rfl H2 rfl rfl ?_
  refine s_bip (p' := 6) rfl rfl ?_
  refine s_icmp (p' := 13) true rfl ((cg_lt (w := 60) (by decide +kernel)).trans (decide_eq_true (by rw [mI_ti (by omega)]; omega))) rfl ?_
  refine s_con (p' := 14) rfl rfl ?_
  refine c_iret rfl (by decide +kernel) ?_
  refine s_if (p' := 23) true rfl (by decide +kernel) rfl ?_
  refine s_aldn (p' := 24) rfl rfl rfl ?_
  refine s_gf (p' := 27) rfl H0 rfl rfl ?_
  refine s_gf (p' := 30) rfl H1 rfl rfl ?_
  refine s_ildn (p' := 31) rfl rfl rfl ?_
  refine s_callN (p' := 34) (kc := 1) (ls0 := [_, _]) rfl rfl rfl rfl rfl (mj_rcv_is H2) rfl (x_put (by decide) (by decide) H2 H3 (by omega) (by omega)) (by decide) rfl ?_
  refine s_aldn (p' := 35) rfl rfl rfl ?_
  refine s_gf (p' := 38) rfl (rd_sn rfl (rd_sn rfl H0)) rfl rfl ?_
  refine s_gf (p' := 41) rfl (rd_sn rfl (rd_sn rfl H1)) rfl rfl ?_
  refine c_call (p' := 44) (kc := 97) (ls0 := [_]) rfl rfl rfl rfl rfl (mj_rcv_is (rd_ss rfl (rd_sn rfl H2))) rfl rfl rfl ?_
  refine s_aldn (p' := 1) rfl rfl rfl ?_
  refine s_gf (p' := 4) rfl (rd_ss rfl (rd_sn rfl H2)) rfl rfl ?_
  refine c_iret rfl rfl ?_
  refine c_iret rfl rfl ?_
  refine s_bzL (p' := 8) (z := (Int32.toInt64 (nI (n + 1)))) rfl rfl rfl rfl ?_
  refine s_lasz (p' := 9) (m := 0) rfl rfl (rd_sn rfl (rd_sn rfl H412)) (by decide +kernel) rfl rfl rfl ?_
  refine s_goto (p' := 15) rfl rfl ?_
  refine s_con (p' := 16) rfl rfl ?_
  refine k_iret rfl rfl ?_
  refine l_ist (p' := 274) (ls' := [_, _, _, _, _, _, _, _, _, _]) rfl rfl rfl rfl rfl ?_
  refine l_aldn (p' := 275) rfl rfl rfl rfl ?_
  refine l_alds (p' := 276) rfl rfl rfl rfl ?_
  refine l_ild (p' := 278) rfl rfl rfl rfl ?_
  refine l_con (p' := 279) rfl rfl rfl ?_
  refine l_bz (p' := 280) (z := (nI (i + 1))) rfl rfl rfl rfl rfl (mI_add _ _) ?_
  refine l_ialz (p' := 281) (m := (i + 1)) (z := (xs (i + 1))) rfl rfl (inb_nI (by omega) (by omega)) (mI_cl (by omega)) rfl rfl ?_
  refine l_bz (p' := 282) (z := (nI ch)) rfl rfl rfl rfl rfl hch ?_
  refine l_call (p' := 285) (kc := 99) (ls0 := [_, _]) rfl rfl rfl rfl rfl rfl (mj_rcv_is (rd_sn rfl (rd_sn rfl (rd_sn rfl H400)))) rfl rfl rfl ?_
  refine s_aldn (p' := 1) rfl rfl rfl ?_
  refine s_aldn (p' := 2) rfl rfl rfl ?_
  refine s_gf (p' := 5) rfl (rd_sn rfl (rd_sn rfl (rd_sn rfl H400))) rfl rfl ?_
  refine s_callV (p' := 8) (kc := 1) (ls0 := [_]) rfl rfl rfl rfl rfl (mj_rcv_is (rd_sn (beq_eq_false_iff_ne.mpr (by omega)) (rd_sn (beq_eq_false_iff_ne.mpr (by omega)) (rd_sn (beq_eq_false_iff_ne.mpr (by omega)) HY)))) rfl (y_len0 (hY.fr (M := [3, 2, 412]) (mz_fr.s (by simp) (mz_fr.s (by simp) (mz_fr.s (by simp) (mz_fr.rf _ _)))) (by simp <;> omega) (fun B rs q => by have := hYB B rs q; simp <;> omega)) (by omega)) (by decide) rfl ?_
  refine s_bip (p' := 10) rfl rfl ?_
  refine s_icmp (p' := 17) true rfl ((cg_ne (w := 60) (by decide +kernel)).trans (decide_eq_true (by rw [mI_ti (by omega)]; omega))) rfl ?_
  refine s_con (p' := 18) rfl rfl ?_
  refine c_call (p' := 21) (kc := 98) (ls0 := [_, _]) rfl rfl rfl rfl rfl (mj_rcv_is (rd_sn rfl (rd_sn rfl (rd_sn rfl H400)))) rfl rfl rfl ?_
  refine s_aldn (p' := 1) rfl rfl rfl ?_
  refine s_ildn (p' := 2) rfl rfl rfl ?_
  refine s_pfz (p' := 5) (fs' := [_, _, _, _, _, _, _, _, _, _, _]) rfl rfl (rd_sn rfl (rd_sn rfl (rd_sn rfl H400))) rfl rfl rfl rfl ?_
  refine s_ildn (p' := 6) rfl rfl rfl ?_
  refine s_if (p' := 13) true rfl (by decide +kernel) rfl ?_
  refine s_con (p' := 14) rfl rfl ?_
  refine c_iret rfl (by decide +kernel) ?_
  refine s_if (p' := 26) true rfl (by decide +kernel) rfl ?_
  refine mj_Wp.mono (k := 12) ?_ (by decide)
  refine y_ty01 (by decide) (by rw [(len_s (len_s (len_s (len_s HL))))]; omega) (rd_ss rfl (rd_sn rfl (rd_sn rfl (rd_sn rfl H400)))) (hY.fr (M := [3, 2, 412, 400]) (mz_fr.s (by simp) (mz_fr.s (by simp) (mz_fr.s (by simp) (mz_fr.s (by simp) (mz_fr.rf _ _))))) (by simp <;> omega) (fun B rs q => by have := hYB B rs q; simp <;> omega)) (by omega) hc ?_
  intro Y1 hz t1 t2 t3 t4 t5 t6
  obtain ⟨Yb1, ys1, k1⟩ := t2.nB
  rw [(len_s (len_s (len_s (len_s HL))))] at t3 t5
  refine s_aldn (p' := 52) rfl rfl rfl ?_
  refine s_gf (p' := 55) rfl t1 rfl rfl ?_
  refine s_callV (p' := 58) (kc := 1) (ls0 := [_]) rfl rfl rfl rfl rfl (mj_rcv_is k1) rfl (y_len1 t2 (by omega)) (by decide) rfl ?_
  refine k_iret rfl rfl ?_
  refine l_ist (p' := 287) (ls' := [_, _, _, _, _, _, _, _, _, _]) rfl rfl rfl rfl rfl ?_
  refine l_aldn (p' := 288) rfl rfl rfl rfl ?_
  refine l_call (p' := 291) (kc := 99) (ls0 := [_]) rfl rfl rfl rfl rfl rfl (mj_rcv_is t1) rfl rfl rfl ?_
  refine s_aldn (p' := 1) rfl rfl rfl ?_
  refine s_gf (p' := 4) rfl t1 rfl rfl ?_
  refine k_iret rfl rfl ?_
  refine l_ild (p' := 293) rfl rfl rfl rfl ?_
  refine l_icmp (p' := 298) true rfl rfl (by decide +kernel) rfl ?_
  refine l_ild (p' := 300) rfl rfl rfl rfl ?_
  refine l_if (p' := 303) false rfl rfl (by decide +kernel) rfl ?_
  refine l_aldn (p' := 304) rfl rfl rfl rfl ?_
  refine l_con (p' := 305) rfl rfl rfl ?_
  refine l_lalz (p' := 306) (m := 0) (v := (Int32.toInt64 (nI (n + 1)))) rfl rfl (t6.1 412 (by simp <;> omega) _ (rd_sn rfl (rd_ss rfl (rd_sn rfl (rd_sn rfl H412))))) (by decide +kernel) rfl rfl rfl ?_
  refine l_ild (p' := 308) rfl rfl rfl rfl ?_
  refine l_bzL (p' := 309) (z := (Int32.toInt64 (nI (n + 1)))) rfl rfl rfl rfl rfl rfl ?_
  refine l_bz (p' := 310) (z := nI 0) rfl rfl rfl rfl rfl (lcmp_self _) ?_
  refine l_if (p' := 315) true rfl rfl (by decide +kernel) rfl ?_
  refine l_goto (p' := 2541) rfl rfl rfl ?_
  refine l_incz (p' := 2544) (w := (nI (i + 4))) (ls' := [_, _, _, _, _, _, _, _, _, _]) rfl rfl rfl rfl (mI_add _ _) rfl rfl ?_
  refine l_goto (p' := 28) rfl rfl rfl ?_
  exact hn _ _ _ _ _ ⟨(t6.1 2 (by simp <;> omega) _ (rd_sn rfl (rd_sn rfl (rd_ss rfl (rd_sn rfl H2))))), (t6.1 3 (by simp <;> omega) _ (rd_sn rfl (rd_sn rfl (rd_sn rfl (rd_ss rfl H3))))), (t6.1 412 (by simp <;> omega) _ (rd_sn rfl (rd_ss rfl (rd_sn rfl (rd_sn rfl H412))))), ⟨Y1, t3, t4, t1, t2, fun C rs q => t5 C rs (k1.trans ((k1).symm.trans q))⟩, ((mz_fr.s (by decide) (mz_fr.s (by decide) (mz_fr.s (by decide) (mz_fr.s (by decide) (mz_fr.rf _ h))))).tr2 t6.1 (fun y hy => Or.inl (by simp at hy ⊢ <;> omega))), (Nat.le_trans (t6.len (Nat.le_of_eq (len_s (len_s (len_s (len_s HL))))) rfl) (by omega)), (Nat.le_trans (t6.sz (K := 1200) (sz_s rfl (rd_sn rfl (rd_sn rfl (rd_sn rfl H400))) rfl (sz_sA rfl (rd_sn rfl (rd_sn rfl H412)) (sz_s rfl (rd_sn rfl H2) rfl (sz_sA rfl H3 (Nat.le_refl (mj_sz h)))))) (by omega) rfl) (by omega))⟩
theorem w_0_11 {L i N : Nat} {xs : Nat → Int32} {h : mj_H} {l6 l7 l8 l9 : Option Value} {P : mj_H → Prop} (hL : L ≤ 2048) (hi : i + 4 ≤ L) (hN : N + 2000 < mj_CB) (hN0 : 414 ≤ N) (HL : h.length = N) (hk : xs i &&& nI 63 = nI 0) {gs pl ty wa nw nx dp ca mf : Value} {th : Int32} {sd be : Int64} {ou : Nat → Int64} {vf wf sf uf im jm : Nat → Int32} {k g : Nat} (hk20 : k ≤ 20) (hvw : ∀ j, j < 8 → wf j = vf j) (hsu : ∀ j, j < k → uf j = sf j) (him : ∀ j, j < 8 → jm j = im j) {pe pm ge gm : Value} {q : Nat} (hq6 : q ≤ 6) (hg24 : g ≤ 24) {tf : Nat → Int32} {ys : List Value} {Y Yb n ch : Nat} {f : Nat → Nat} (hY : yStr h Y n 1 f) (hYB : ∀ (C : Nat) (rs : List Value), mj_rd h Y = some (.inr (21, .ref C :: rs)) → 414 ≤ C) (hY0 : 414 ≤ Y) (hch : ((xs (i + 1)).toUInt32 % 65536).toInt32 = nI ch) (hn : n < 60) (hc : ch < 65536)  (H0 : mj_rd h 0 = some (.inr (0, [.ref 1, .ref 38, .ref 299, .ref 336, .ref 373, .ref 375, .ref 378, .ref 381, .ref 387, .ref 393, gs, pl, .ref 397, .ref 398, .ref 399, .long sd, .long be]))) (H1 : mj_rd h 1 = some (.inr (1, [.ref 2, .ref 4, .ref 37]))) (H2 : mj_rd h 2 = some (.inr (2, [.ref 3, .int (nI n)]))) (H3 : mj_rd h 3 = some (.inl (3, (60, .inl (tf))))) (H400 : mj_rd h 400 = some (.inr (17, [.int th, .ref 401, .ref 402, .ref Y, .long sd, .long be, .ref 410, wa, nw, nx, .ref 411]))) (H412 : mj_rd h 412 = some (.inl (4, (1, .inr (.inl (ou)))))) (HY : mj_rd h Y = some (.inr (21, .ref Yb :: .int (nI 1) :: ys))) (hn : ∀ (l6 l7 l8 l9 : Option Value) (h' : mj_H), mj_rd h' 2 = some (.inr (2, [.ref 3, .int (nI (n + 1))])) ∧ mj_rd h' 3 = some (.inl (3, (60, .inl ((upd tf n (nI ch)))))) ∧ mj_rd h' 412 = some (.inl (4, (1, .inr (.inl ((vp_updL ou 0 (Int32.toInt64 (nI (n + 1))))))))) ∧ (∃ Y1, N ≤ Y1 ∧ Y1 < mj_CB ∧ mj_rd h' 400 = some (.inr (17, [.int (nI 0), .ref 401, .ref 402, .ref Y1, .long sd, .long be, .ref 410, wa, nw, nx, .ref 411])) ∧ yStr h' Y1 (n + 1) 1 (upN f n ch) ∧ ∀ (C : Nat) (rs : List Value), mj_rd h' Y1 = some (.inr (21, .ref C :: rs)) → N ≤ C) ∧ mz_fr [2, 3, 400, 412] h h' ∧ h'.length ≤ N + 10 ∧ mj_sz h' ≤ mj_sz h + 1200 → mj_lrun L xs (28, [some (.retAddr 1), some (.ref 0), some (.ref 400), some (.ref 412), some (.ref 413), some (.int (nI (i + 4))), l6, l7, l8, l9], [], h') P) : mj_lrun L xs (28, [some (.retAddr 1), some (.ref 0), some (.ref 400), some (.ref 412), some (.ref 413), some (.int (nI i)), l6, l7, l8, l9], [], h) P := by
  refine l_ild (p' := 30) rfl rfl rfl rfl ?_
  refine l_alds (p' := 31) rfl rfl rfl rfl ?_
  refine l_lens (p' := 32) rfl rfl rfl ?_
  refine l_con (p' := 33) rfl rfl rfl ?_
  refine l_bz (p' := 34) (z := (nI (L - 4))) rfl rfl rfl rfl rfl (mI_sub (by omega)) ?_
  refine l_icmp (p' := 37) false rfl rfl ((ci_gt (by omega) (by omega)).trans (decide_eq_false (by omega))) rfl ?_
  refine l_alds (p' := 38) rfl rfl rfl rfl ?_
  refine l_ild (p' := 40) rfl rfl rfl rfl ?_
  refine l_ialz (p' := 41) (m := i) (z := (xs i)) rfl rfl (inb_nI (by omega) (by omega)) (mI_cl (by omega)) rfl rfl ?_
  refine l_bip (p' := 43) rfl rfl rfl ?_
  refine l_bz (p' := 44) (z := (nI 0)) rfl rfl rfl rfl rfl hk ?_
  refine l_sp (p' := 260) (ls' := _) rfl rfl rfl rfl rfl ?_
  refine l_aldn (p' := 261) rfl rfl rfl rfl ?_
  refine l_alds (p' := 262) rfl rfl rfl rfl ?_
  refine l_ild (p' := 264) rfl rfl rfl rfl ?_
  refine l_con (p' := 265) rfl rfl rfl ?_
  refine l_bz (p' := 266) (z := (nI (i + 1))) rfl rfl rfl rfl rfl (mI_add _ _) ?_
  refine l_ialz (p' := 267) (m := (i + 1)) (z := (xs (i + 1))) rfl rfl (inb_nI (by omega) (by omega)) (mI_cl (by omega)) rfl rfl ?_
  refine l_bz (p' := 268) (z := (nI ch)) rfl rfl rfl rfl rfl hch ?_
  refine l_aldn (p' := 269) rfl rfl rfl rfl ?_
  refine l_call (p' := 272) (kc := 99) (ls0 := [_, _, _, _]) rfl rfl rfl rfl rfl rfl rfl rfl rfl rfl ?_
  refine s_aldn (p' := 1) rfl rfl rfl ?_
  refine s_con (p' := 2) rfl rfl ?_
  refine s_aldn (p' := 3) rfl rfl rfl ?_
  refine s_ildn (p' := 4) rfl rfl rfl ?_
  refine c_call (p' := 7) (kc := 98) (ls0 := [_, _]) rfl rfl rfl rfl rfl (mj_rcv_is H0) rfl rfl rfl ?_
  refine s_aldn (p' := 1) rfl rfl rfl ?_
  refine s_gf (p' := 4) rfl H0 rfl rfl ?_
  refine s_gf (p' := 7) rfl H1 rfl rfl ?_
  refine c_call (p' := 10) (kc := 97) (ls0 := [_]) rfl rfl rfl rfl rfl (mj_rcv_is H2) rfl rfl rfl ?_
  refine s_aldn (p' := 1) rfl rfl rfl ?_
  refine s_gf (p' := 4) rfl H2 rfl rfl ?_
  refine s_bip (p' := 6) rfl rfl ?_
  refine s_icmp (p' := 13) true rfl ((cg_lt (w := 60) (by decide +kernel)).trans (decide_eq_true (by rw [mI_ti (by omega)]; omega))) rfl ?_
  refine s_con (p' := 14) rfl rfl ?_
  refine c_iret rfl (by decide +kernel) ?_
  refine s_if (p' := 23) true rfl (by decide +kernel) rfl ?_
  refine s_aldn (p' := 24) rfl rfl rfl ?_
  refine s_gf (p' := 27) rfl H0 rfl rfl ?_
  refine s_gf (p' := 30) rfl H1 rfl rfl ?_
  refine s_ildn (p' := 31) rfl rfl rfl ?_
  refine s_callN (p' := 34) (kc := 1) (ls0 := [_, _]) rfl rfl rfl rfl rfl (mj_rcv_is H2) rfl (x_put (by decide) (by decide) H2 H3 (by omega) (by omega)) (by decide) rfl ?_
  refine s_aldn (p' := 35) rfl rfl rfl ?_
  refine s_gf (p' := 38) rfl (rd_sn rfl (rd_sn rfl H0)) rfl rfl ?_
  refine s_gf (p' := 41) rfl (rd_sn rfl (rd_sn rfl H1)) rfl rfl ?_
  refine c_call (p' := 44) (kc := 97) (ls0 := [_]) rfl rfl rfl rfl rfl (mj_rcv_is (rd_ss rfl (rd_sn rfl H2))) rfl rfl rfl ?_
  refine s_aldn (p' := 1) rfl rfl rfl ?_
  refine s_gf (p' := 4) rfl (rd_ss rfl (rd_sn rfl H2)) rfl rfl ?_
  refine c_iret rfl rfl ?_
  refine c_iret rfl rfl ?_
  refine s_bzL (p' := 8) (z := (Int32.toInt64 (nI (n + 1)))) rfl rfl rfl rfl ?_
  refine s_lasz (p' := 9) (m := 0) rfl rfl (rd_sn rfl (rd_sn rfl H412)) (by decide +kernel) rfl rfl rfl ?_
  refine s_goto (p' := 15) rfl rfl ?_
  refine s_con (p' := 16) rfl rfl ?_
  refine k_iret rfl rfl ?_
  refine l_ist (p' := 274) (ls' := [_, _, _, _, _, _, _, _, _, _]) rfl rfl rfl rfl rfl ?_
  refine l_aldn (p' := 275) rfl rfl rfl rfl ?_
  refine l_alds (p' := 276) rfl rfl rfl rfl ?_
  refine l_ild (p' := 278) rfl rfl rfl rfl ?_
  refine l_con (p' := 279) rfl rfl rfl ?_
  refine l_bz (p' := 280) (z := (nI (i + 1))) rfl rfl rfl rfl rfl (mI_add _ _) ?_
  refine l_ialz (p' := 281) (m := (i + 1)) (z := (xs (i + 1))) rfl rfl (inb_nI (by omega) (by omega)) (mI_cl (by omega)) rfl rfl ?_
  refine l_bz (p' := 282) (z := (nI ch)) rfl rfl rfl rfl rfl hch ?_
  refine l_call (p' := 285) (kc := 99) (ls0 := [_, _]) rfl rfl rfl rfl rfl rfl (mj_rcv_is (rd_sn rfl (rd_sn rfl (rd_sn rfl H400)))) rfl rfl rfl ?_
  refine s_aldn (p' := 1) rfl rfl rfl ?_
  refine s_aldn (p' := 2) rfl rfl rfl ?_
  refine s_gf (p' := 5) rfl (rd_sn rfl (rd_sn rfl (rd_sn rfl H400))) rfl rfl ?_
  refine s_callV (p' := 8) (kc := 1) (ls0 := [_]) rfl rfl rfl rfl rfl (mj_rcv_is (rd_sn (beq_eq_false_iff_ne.mpr (by omega)) (rd_sn (beq_eq_false_iff_ne.mpr (by omega)) (rd_sn (beq_eq_false_iff_ne.mpr (by omega)) HY)))) rfl (y_len1 (hY.fr (M := [3, 2, 412]) (mz_fr.s (by simp) (mz_fr.s (by simp) (mz_fr.s (by simp) (mz_fr.rf _ _)))) (by simp <;> omega) (fun B rs q => by have := hYB B rs q; simp <;> omega)) (by omega)) (by decide) rfl ?_
  refine s_bip (p' := 10) rfl rfl ?_
  refine s_icmp (p' := 17) true rfl ((cg_ne (w := 60) (by decide +kernel)).trans (decide_eq_true (by rw [mI_ti (by omega)]; omega))) rfl ?_
  refine s_con (p' := 18) rfl rfl ?_
  refine c_call (p' := 21) (kc := 98) (ls0 := [_, _]) rfl rfl rfl rfl rfl (mj_rcv_is (rd_sn rfl (rd_sn rfl (rd_sn rfl H400)))) rfl rfl rfl ?_
  refine s_aldn (p' := 1) rfl rfl rfl ?_
  refine s_ildn (p' := 2) rfl rfl rfl ?_
  refine s_pfz (p' := 5) (fs' := [_, _, _, _, _, _, _, _, _, _, _]) rfl rfl (rd_sn rfl (rd_sn rfl (rd_sn rfl H400))) rfl rfl rfl rfl ?_
  refine s_ildn (p' := 6) rfl rfl rfl ?_
  refine s_if (p' := 13) true rfl (by decide +kernel) rfl ?_
  refine s_con (p' := 14) rfl rfl ?_
  refine c_iret rfl (by decide +kernel) ?_
  refine s_if (p' := 26) true rfl (by decide +kernel) rfl ?_
  refine mj_Wp.mono (k := 12) ?_ (by decide)
  refine y_ty11 (by decide) (by rw [(len_s (len_s (len_s (len_s HL))))]; omega) (rd_ss rfl (rd_sn rfl (rd_sn rfl (rd_sn rfl H400)))) (hY.fr (M := [3, 2, 412, 400]) (mz_fr.s (by simp) (mz_fr.s (by simp) (mz_fr.s (by simp) (mz_fr.s (by simp) (mz_fr.rf _ _))))) (by simp <;> omega) (fun B rs q => by have := hYB B rs q; simp <;> omega)) (by omega) hc ?_
  intro Y1 hz t1 t2 t3 t4 t5 t6
  obtain ⟨Yb1, ys1, k1⟩ := t2.nB
  rw [(len_s (len_s (len_s (len_s HL))))] at t3 t5
  refine s_aldn (p' := 52) rfl rfl rfl ?_
  refine s_gf (p' := 55) rfl t1 rfl rfl ?_
  refine s_callV (p' := 58) (kc := 1) (ls0 := [_]) rfl rfl rfl rfl rfl (mj_rcv_is k1) rfl (y_len1 t2 (by omega)) (by decide) rfl ?_
  refine k_iret rfl rfl ?_
  refine l_ist (p' := 287) (ls' := [_, _, _, _, _, _, _, _, _, _]) rfl rfl rfl rfl rfl ?_
  refine l_aldn (p' := 288) rfl rfl rfl rfl ?_
  refine l_call (p' := 291) (kc := 99) (ls0 := [_]) rfl rfl rfl rfl rfl rfl (mj_rcv_is t1) rfl rfl rfl ?_
  refine s_aldn (p' := 1) rfl rfl rfl ?_
  refine s_gf (p' := 4) rfl t1 rfl rfl ?_
  refine k_iret rfl rfl ?_
  refine l_ild (p' := 293) rfl rfl rfl rfl ?_
  refine l_icmp (p' := 298) true rfl rfl (by decide +kernel) rfl ?_
  refine l_ild (p' := 300) rfl rfl rfl rfl ?_
  refine l_if (p' := 303) false rfl rfl (by decide +kernel) rfl ?_
  refine l_aldn (p' := 304) rfl rfl rfl rfl ?_
  refine l_con (p' := 305) rfl rfl rfl ?_
  refine l_lalz (p' := 306) (m := 0) (v := (Int32.toInt64 (nI (n + 1)))) rfl rfl (t6.1 412 (by simp <;> omega) _ (rd_sn rfl (rd_ss rfl (rd_sn rfl (rd_sn rfl H412))))) (by decide +kernel) rfl rfl rfl ?_
  refine l_ild (p' := 308) rfl rfl rfl rfl ?_
  refine l_bzL (p' := 309) (z := (Int32.toInt64 (nI (n + 1)))) rfl rfl rfl rfl rfl rfl ?_
  refine l_bz (p' := 310) (z := nI 0) rfl rfl rfl rfl rfl (lcmp_self _) ?_
  refine l_if (p' := 315) true rfl rfl (by decide +kernel) rfl ?_
  refine l_goto (p' := 2541) rfl rfl rfl ?_
  refine l_incz (p' := 2544) (w := (nI (i + 4))) (ls' := [_, _, _, _, _, _, _, _, _, _]) rfl rfl rfl rfl (mI_add _ _) rfl rfl ?_
  refine l_goto (p' := 28) rfl rfl rfl ?_
  exact hn _ _ _ _ _ ⟨(t6.1 2 (by simp <;> omega) _ (rd_sn rfl (rd_sn rfl (rd_ss rfl (rd_sn rfl H2))))), (t6.1 3 (by simp <;> omega) _ (rd_sn rfl (rd_sn rfl (rd_sn rfl (rd_ss rfl H3))))), (t6.1 412 (by simp <;> omega) _ (rd_sn rfl (rd_ss rfl (rd_sn rfl (rd_sn rfl H412))))), ⟨Y1, t3, t4, t1, t2, fun C rs q => t5 C rs (k1.trans ((k1).symm.trans q))⟩, ((mz_fr.s (by decide) (mz_fr.s (by decide) (mz_fr.s (by decide) (mz_fr.s (by decide) (mz_fr.rf _ h))))).tr2 t6.1 (fun y hy => Or.inl (by simp at hy ⊢ <;> omega))), (Nat.le_trans (t6.len (Nat.le_of_eq (len_s (len_s (len_s (len_s HL))))) rfl) (by omega)), (Nat.le_trans (t6.sz (K := 1200) (sz_s rfl (rd_sn rfl (rd_sn rfl (rd_sn rfl H400))) rfl (sz_sA rfl (rd_sn rfl (rd_sn rfl H412)) (sz_s rfl (rd_sn rfl H2) rfl (sz_sA rfl H3 (Nat.le_refl (mj_sz h)))))) (by omega) rfl) (by omega))⟩
theorem w_0_f0 {L i N : Nat} {xs : Nat → Int32} {h : mj_H} {l6 l7 l8 l9 : Option Value} {P : mj_H → Prop} (hL : L ≤ 2048) (hi : i + 4 ≤ L) (hN : N + 2000 < mj_CB) (hN0 : 414 ≤ N) (HL : h.length = N) (hk : xs i &&& nI 63 = nI 0) {gs pl ty wa nw nx dp ca mf : Value} {th : Int32} {sd be : Int64} {ou : Nat → Int64} {vf wf sf uf im jm : Nat → Int32} {k g : Nat} (hk20 : k ≤ 20) (hvw : ∀ j, j < 8 → wf j = vf j) (hsu : ∀ j, j < k → uf j = sf j) (him : ∀ j, j < 8 → jm j = im j) {pe pm ge gm : Value} {q : Nat} (hq6 : q ≤ 6) (hg24 : g ≤ 24) {tf : Nat → Int32} {ys : List Value} {Y Yb n ch : Nat} {f : Nat → Nat} (hY : yStr h Y n 0 f) (hYB : ∀ (C : Nat) (rs : List Value), mj_rd h Y = some (.inr (21, .ref C :: rs)) → 414 ≤ C) (hY0 : 414 ≤ Y) (hch : ((xs (i + 1)).toUInt32 % 65536).toInt32 = nI ch) (hn : n = 60)  (H0 : mj_rd h 0 = some (.inr (0, [.ref 1, .ref 38, .ref 299, .ref 336, .ref 373, .ref 375, .ref 378, .ref 381, .ref 387, .ref 393, gs, pl, .ref 397, .ref 398, .ref 399, .long sd, .long be]))) (H1 : mj_rd h 1 = some (.inr (1, [.ref 2, .ref 4, .ref 37]))) (H2 : mj_rd h 2 = some (.inr (2, [.ref 3, .int (nI n)]))) (H400 : mj_rd h 400 = some (.inr (17, [.int th, .ref 401, .ref 402, .ref Y, .long sd, .long be, .ref 410, wa, nw, nx, .ref 411]))) (HY : mj_rd h Y = some (.inr (21, .ref Yb :: .int (nI 0) :: ys))) (hn : ∀ (l6 l7 l8 l9 : Option Value) (h' : mj_H), mj_rd h' 400 = some (.inr (17, [.int (nI 1), .ref 401, .ref 402, .ref Y, .long sd, .long be, .ref 410, wa, nw, nx, .ref 411])) ∧ mz_fr [400] h h' ∧ h'.length ≤ N + 1 ∧ mj_sz h' ≤ mj_sz h + 6 → mj_lrun L xs (28, [some (.retAddr 1), some (.ref 0), some (.ref 400), some (.ref 412), some (.ref 413), some (.int (nI (i + 4))), l6, l7, l8, l9], [], h') P) : mj_lrun L xs (28, [some (.retAddr 1), some (.ref 0), some (.ref 400), some (.ref 412), some (.ref 413), some (.int (nI i)), l6, l7, l8, l9], [], h) P := by
  refine l_ild (p' := 30) rfl rfl rfl rfl ?_
  refine l_alds (p' := 31) rfl rfl rfl rfl ?_
  refine l_lens (p' := 32) rfl rfl rfl ?_
  refine l_con (p' := 33) rfl rfl rfl ?_
  refine l_bz (p' := 34) (z := (nI (L - 4))) rfl rfl rfl rfl rfl (mI_sub (by omega)) ?_
  refine l_icmp (p' := 37) false rfl rfl ((ci_gt (by omega) (by omega)).trans (decide_eq_false (by omega))) rfl ?_
  refine l_alds (p' := 38) rfl rfl rfl rfl ?_
  refine l_ild (p' := 40) rfl rfl rfl rfl ?_
  refine l_ialz (p' := 41) (m := i) (z := (xs i)) rfl rfl (inb_nI (by omega) (by omega)) (mI_cl (by omega)) rfl rfl ?_
  refine l_bip (p' := 43) rfl rfl rfl ?_
  refine l_bz (p' := 44) (z := (nI 0)) rfl rfl rfl rfl rfl hk ?_
  refine l_sp (p' := 260) (ls' := _) rfl rfl rfl rfl rfl ?_
  refine l_aldn (p' := 261) rfl rfl rfl rfl ?_
  refine l_alds (p' := 262) rfl rfl rfl rfl ?_
  refine l_ild (p' := 264) rfl rfl rfl rfl ?_
  refine l_con (p' := 265) rfl rfl rfl ?_
  refine l_bz (p' := 266) (z := (nI (i + 1))) rfl rfl rfl rfl rfl (mI_add _ _) ?_
  refine l_ialz (p' := 267) (m := (i + 1)) (z := (xs (i + 1))) rfl rfl (inb_nI (by omega) (by omega)) (mI_cl (by omega)) rfl rfl ?_
  refine l_bz (p' := 268) (z := (nI ch)) rfl rfl rfl rfl rfl hch ?_
  refine l_aldn (p' := 269) rfl rfl rfl rfl ?_
  refine l_call (p' := 272) (kc := 99) (ls0 := [_, _, _, _]) rfl rfl rfl rfl rfl rfl rfl rfl rfl rfl ?_
  refine s_aldn (p' := 1) rfl rfl rfl ?_
  refine s_con (p' := 2) rfl rfl ?_
  refine s_aldn (p' := 3) rfl rfl rfl ?_
  refine s_ildn (p' := 4) rfl rfl rfl ?_
  refine c_call (p' := 7) (kc := 98) (ls0 := [_, _]) rfl rfl rfl rfl rfl (mj_rcv_is H0) rfl rfl rfl ?_
  refine s_aldn (p' := 1) rfl rfl rfl ?_
  refine s_gf (p' := 4) rfl H0 rfl rfl ?_
  refine s_gf (p' := 7) rfl H1 rfl rfl ?_
  refine c_call (p' := 10) (kc := 97) (ls0 := [_]) rfl rfl rfl rfl rfl (mj_rcv_is H2) rfl rfl rfl ?_
  refine s_aldn (p' := 1) rfl rfl rfl ?_
  refine s_gf (p' := 4) rfl H2 rfl rfl ?_
  refine s_bip (p' := 6) rfl rfl ?_
  refine s_icmp (p' := 9) false rfl ((cg_lt (w := 60) (by decide +kernel)).trans (decide_eq_false (by rw [mI_ti (by omega)]; omega))) rfl ?_
  refine s_con (p' := 10) rfl rfl ?_
  refine s_goto (p' := 14) rfl rfl ?_
  refine c_iret rfl (by decide +kernel) ?_
  refine s_if (p' := 13) false rfl (by decide +kernel) rfl ?_
  refine s_thrz (q := N) rfl HL rfl ?_
  refine K_c (hp := 12) (Nat.blt_eq.mpr (by omega)) (mj_ocl_is (rd_nw (Nat.blt_eq.mpr (by omega)) HL)) rfl ?_
  refine s_astn (p' := 13) (ls' := [_, _, _, _]) rfl rfl rfl rfl ?_
  refine s_con (p' := 14) rfl rfl ?_
  refine k_iret rfl rfl ?_
  refine l_ist (p' := 274) (ls' := [_, _, _, _, _, _, _, _, _, _]) rfl rfl rfl rfl rfl ?_
  refine l_aldn (p' := 275) rfl rfl rfl rfl ?_
  refine l_alds (p' := 276) rfl rfl rfl rfl ?_
  refine l_ild (p' := 278) rfl rfl rfl rfl ?_
  refine l_con (p' := 279) rfl rfl rfl ?_
  refine l_bz (p' := 280) (z := (nI (i + 1))) rfl rfl rfl rfl rfl (mI_add _ _) ?_
  refine l_ialz (p' := 281) (m := (i + 1)) (z := (xs (i + 1))) rfl rfl (inb_nI (by omega) (by omega)) (mI_cl (by omega)) rfl rfl ?_
  refine l_bz (p' := 282) (z := (nI ch)) rfl rfl rfl rfl rfl hch ?_
  refine l_call (p' := 285) (kc := 99) (ls0 := [_, _]) rfl rfl rfl rfl rfl rfl (mj_rcv_is (rd_app H400)) rfl rfl rfl ?_
  refine s_aldn (p' := 1) rfl rfl rfl ?_
  refine s_aldn (p' := 2) rfl rfl rfl ?_
  refine s_gf (p' := 5) rfl (rd_app H400) rfl rfl ?_
  refine s_callV (p' := 8) (kc := 1) (ls0 := [_]) rfl rfl rfl rfl rfl (mj_rcv_is (rd_app HY)) rfl (y_len0 (hY.fr (M := []) (mz_fr.a (mz_fr.rf _ _)) (by simp <;> omega) (fun B rs q => by have := hYB B rs q; simp <;> omega)) (by omega)) (by decide) rfl ?_
  refine s_bip (p' := 10) rfl rfl ?_
  refine s_icmp (p' := 13) false rfl ((cg_ne (w := 60) (by decide +kernel)).trans (decide_eq_false (by rw [mI_ti (by omega)]; omega))) rfl ?_
  refine s_con (p' := 14) rfl rfl ?_
  refine s_goto (p' := 18) rfl rfl ?_
  refine c_call (p' := 21) (kc := 98) (ls0 := [_, _]) rfl rfl rfl rfl rfl (mj_rcv_is (rd_app H400)) rfl rfl rfl ?_
  refine s_aldn (p' := 1) rfl rfl rfl ?_
  refine s_ildn (p' := 2) rfl rfl rfl ?_
  refine s_pfz (p' := 5) (fs' := [_, _, _, _, _, _, _, _, _, _, _]) rfl rfl (rd_app H400) rfl rfl rfl rfl ?_
  refine s_ildn (p' := 6) rfl rfl rfl ?_
  refine s_if (p' := 9) false rfl (by decide +kernel) rfl ?_
  refine s_con (p' := 10) rfl rfl ?_
  refine s_goto (p' := 14) rfl rfl ?_
  refine c_iret rfl (by decide +kernel) ?_
  refine s_if (p' := 24) false rfl (by decide +kernel) rfl ?_
  refine s_con (p' := 25) rfl rfl ?_
  refine k_iret rfl rfl ?_
  refine l_ist (p' := 287) (ls' := [_, _, _, _, _, _, _, _, _, _]) rfl rfl rfl rfl rfl ?_
  refine l_aldn (p' := 288) rfl rfl rfl rfl ?_
  refine l_call (p' := 291) (kc := 99) (ls0 := [_]) rfl rfl rfl rfl rfl rfl (mj_rcv_is (rd_ss rfl (rd_app H400))) rfl rfl rfl ?_
  refine s_aldn (p' := 1) rfl rfl rfl ?_
  refine s_gf (p' := 4) rfl (rd_ss rfl (rd_app H400)) rfl rfl ?_
  refine k_iret rfl rfl ?_
  refine l_ild (p' := 293) rfl rfl rfl rfl ?_
  refine l_icmp (p' := 298) true rfl rfl (by decide +kernel) rfl ?_
  refine l_ild (p' := 300) rfl rfl rfl rfl ?_
  refine l_if (p' := 315) true rfl rfl (by decide +kernel) rfl ?_
  refine l_goto (p' := 2541) rfl rfl rfl ?_
  refine l_incz (p' := 2544) (w := (nI (i + 4))) (ls' := [_, _, _, _, _, _, _, _, _, _]) rfl rfl rfl rfl (mI_add _ _) rfl rfl ?_
  refine l_goto (p' := 28) rfl rfl rfl ?_
  exact hn _ _ _ _ _ ⟨(rd_ss rfl (rd_app H400)), (mz_fr.s (by decide) (mz_fr.a (mz_fr.rf _ h))), (Nat.le_trans (Nat.le_of_eq (len_s (len_a HL rfl))) (by omega)), (Nat.le_trans (sz_s rfl (rd_app H400) rfl (sz_aa (k := 6) (m := mj_sz h + 6) rfl (by omega) (Nat.le_refl (mj_sz h)))) (by omega))⟩
theorem w_0_f1 {L i N : Nat} {xs : Nat → Int32} {h : mj_H} {l6 l7 l8 l9 : Option Value} {P : mj_H → Prop} (hL : L ≤ 2048) (hi : i + 4 ≤ L) (hN : N + 2000 < mj_CB) (hN0 : 414 ≤ N) (HL : h.length = N) (hk : xs i &&& nI 63 = nI 0) {gs pl ty wa nw nx dp ca mf : Value} {th : Int32} {sd be : Int64} {ou : Nat → Int64} {vf wf sf uf im jm : Nat → Int32} {k g : Nat} (hk20 : k ≤ 20) (hvw : ∀ j, j < 8 → wf j = vf j) (hsu : ∀ j, j < k → uf j = sf j) (him : ∀ j, j < 8 → jm j = im j) {pe pm ge gm : Value} {q : Nat} (hq6 : q ≤ 6) (hg24 : g ≤ 24) {tf : Nat → Int32} {ys : List Value} {Y Yb n ch : Nat} {f : Nat → Nat} (hY : yStr h Y n 1 f) (hYB : ∀ (C : Nat) (rs : List Value), mj_rd h Y = some (.inr (21, .ref C :: rs)) → 414 ≤ C) (hY0 : 414 ≤ Y) (hch : ((xs (i + 1)).toUInt32 % 65536).toInt32 = nI ch) (hn : n = 60)  (H0 : mj_rd h 0 = some (.inr (0, [.ref 1, .ref 38, .ref 299, .ref 336, .ref 373, .ref 375, .ref 378, .ref 381, .ref 387, .ref 393, gs, pl, .ref 397, .ref 398, .ref 399, .long sd, .long be]))) (H1 : mj_rd h 1 = some (.inr (1, [.ref 2, .ref 4, .ref 37]))) (H2 : mj_rd h 2 = some (.inr (2, [.ref 3, .int (nI n)]))) (H400 : mj_rd h 400 = some (.inr (17, [.int th, .ref 401, .ref 402, .ref Y, .long sd, .long be, .ref 410, wa, nw, nx, .ref 411]))) (HY : mj_rd h Y = some (.inr (21, .ref Yb :: .int (nI 1) :: ys))) (hn : ∀ (l6 l7 l8 l9 : Option Value) (h' : mj_H), mj_rd h' 400 = some (.inr (17, [.int (nI 1), .ref 401, .ref 402, .ref Y, .long sd, .long be, .ref 410, wa, nw, nx, .ref 411])) ∧ mz_fr [400] h h' ∧ h'.length ≤ N + 1 ∧ mj_sz h' ≤ mj_sz h + 6 → mj_lrun L xs (28, [some (.retAddr 1), some (.ref 0), some (.ref 400), some (.ref 412), some (.ref 413), some (.int (nI (i + 4))), l6, l7, l8, l9], [], h') P) : mj_lrun L xs (28, [some (.retAddr 1), some (.ref 0), some (.ref 400), some (.ref 412), some (.ref 413), some (.int (nI i)), l6, l7, l8, l9], [], h) P := by
  refine l_ild (p' := 30) rfl rfl rfl rfl ?_
  refine l_alds (p' := 31) rfl rfl rfl rfl ?_
  refine l_lens (p' := 32) rfl rfl rfl ?_
  refine l_con (p' := 33) rfl rfl rfl ?_
  refine l_bz (p' := 34) (z := (nI (L - 4))) rfl rfl rfl rfl rfl (mI_sub (by omega)) ?_
  refine l_icmp (p' := 37) false rfl rfl ((ci_gt (by omega) (by omega)).trans (decide_eq_false (by omega))) rfl ?_
  refine l_alds (p' := 38) rfl rfl rfl rfl ?_
  refine l_ild (p' := 40) rfl rfl rfl rfl ?_
  refine l_ialz (p' := 41) (m := i) (z := (xs i)) rfl rfl (inb_nI (by omega) (by omega)) (mI_cl (by omega)) rfl rfl ?_
  refine l_bip (p' := 43) rfl rfl rfl ?_
  refine l_bz (p' := 44) (z := (nI 0)) rfl rfl rfl rfl rfl hk ?_
  refine l_sp (p' := 260) (ls' := _) rfl rfl rfl rfl rfl ?_
  refine l_aldn (p' := 261) rfl rfl rfl rfl ?_
  refine l_alds (p' := 262) rfl rfl rfl rfl ?_
  refine l_ild (p' := 264) rfl rfl rfl rfl ?_
  refine l_con (p' := 265) rfl rfl rfl ?_
  refine l_bz (p' := 266) (z := (nI (i + 1))) rfl rfl rfl rfl rfl (mI_add _ _) ?_
  refine l_ialz (p' := 267) (m := (i + 1)) (z := (xs (i + 1))) rfl rfl (inb_nI (by omega) (by omega)) (mI_cl (by omega)) rfl rfl ?_
  refine l_bz (p' := 268) (z := (nI ch)) rfl rfl rfl rfl rfl hch ?_
  refine l_aldn (p' := 269) rfl rfl rfl rfl ?_
  refine l_call (p' := 272) (kc := 99) (ls0 := [_, _, _, _]) rfl rfl rfl rfl rfl rfl rfl rfl rfl rfl ?_
  refine s_aldn (p' := 1) rfl rfl rfl ?_
  refine s_con (p' := 2) rfl rfl ?_
  refine s_aldn (p' := 3) rfl rfl rfl ?_
  refine s_ildn (p' := 4) rfl rfl rfl ?_
  refine c_call (p' := 7) (kc := 98) (ls0 := [_, _]) rfl rfl rfl rfl rfl (mj_rcv_is H0) rfl rfl rfl ?_
  refine s_aldn (p' := 1) rfl rfl rfl ?_
  refine s_gf (p' := 4) rfl H0 rfl rfl ?_
  refine s_gf (p' := 7) rfl H1 rfl rfl ?_
  refine c_call (p' := 10) (kc := 97) (ls0 := [_]) rfl rfl rfl rfl rfl (mj_rcv_is H2) rfl rfl rfl ?_
  refine s_aldn (p' := 1) rfl rfl rfl ?_
  refine s_gf (p' := 4) rfl H2 rfl rfl ?_
  refine s_bip (p' := 6) rfl rfl ?_
  refine s_icmp (p' := 9) false rfl ((cg_lt (w := 60) (by decide +kernel)).trans (decide_eq_false (by rw [mI_ti (by omega)]; omega))) rfl ?_
  refine s_con (p' := 10) rfl rfl ?_
  refine s_goto (p' := 14) rfl rfl ?_
  refine c_iret rfl (by decide +kernel) ?_
  refine s_if (p' := 13) false rfl (by decide +kernel) rfl ?_
  refine s_thrz (q := N) rfl HL rfl ?_
  refine K_c (hp := 12) (Nat.blt_eq.mpr (by omega)) (mj_ocl_is (rd_nw (Nat.blt_eq.mpr (by omega)) HL)) rfl ?_
  refine s_astn (p' := 13) (ls' := [_, _, _, _]) rfl rfl rfl rfl ?_
  refine s_con (p' := 14) rfl rfl ?_
  refine k_iret rfl rfl ?_
  refine l_ist (p' := 274) (ls' := [_, _, _, _, _, _, _, _, _, _]) rfl rfl rfl rfl rfl ?_
  refine l_aldn (p' := 275) rfl rfl rfl rfl ?_
  refine l_alds (p' := 276) rfl rfl rfl rfl ?_
  refine l_ild (p' := 278) rfl rfl rfl rfl ?_
  refine l_con (p' := 279) rfl rfl rfl ?_
  refine l_bz (p' := 280) (z := (nI (i + 1))) rfl rfl rfl rfl rfl (mI_add _ _) ?_
  refine l_ialz (p' := 281) (m := (i + 1)) (z := (xs (i + 1))) rfl rfl (inb_nI (by omega) (by omega)) (mI_cl (by omega)) rfl rfl ?_
  refine l_bz (p' := 282) (z := (nI ch)) rfl rfl rfl rfl rfl hch ?_
  refine l_call (p' := 285) (kc := 99) (ls0 := [_, _]) rfl rfl rfl rfl rfl rfl (mj_rcv_is (rd_app H400)) rfl rfl rfl ?_
  refine s_aldn (p' := 1) rfl rfl rfl ?_
  refine s_aldn (p' := 2) rfl rfl rfl ?_
  refine s_gf (p' := 5) rfl (rd_app H400) rfl rfl ?_
  refine s_callV (p' := 8) (kc := 1) (ls0 := [_]) rfl rfl rfl rfl rfl (mj_rcv_is (rd_app HY)) rfl (y_len1 (hY.fr (M := []) (mz_fr.a (mz_fr.rf _ _)) (by simp <;> omega) (fun B rs q => by have := hYB B rs q; simp <;> omega)) (by omega)) (by decide) rfl ?_
  refine s_bip (p' := 10) rfl rfl ?_
  refine s_icmp (p' := 13) false rfl ((cg_ne (w := 60) (by decide +kernel)).trans (decide_eq_false (by rw [mI_ti (by omega)]; omega))) rfl ?_
  refine s_con (p' := 14) rfl rfl ?_
  refine s_goto (p' := 18) rfl rfl ?_
  refine c_call (p' := 21) (kc := 98) (ls0 := [_, _]) rfl rfl rfl rfl rfl (mj_rcv_is (rd_app H400)) rfl rfl rfl ?_
  refine s_aldn (p' := 1) rfl rfl rfl ?_
  refine s_ildn (p' := 2) rfl rfl rfl ?_
  refine s_pfz (p' := 5) (fs' := [_, _, _, _, _, _, _, _, _, _, _]) rfl rfl (rd_app H400) rfl rfl rfl rfl ?_
  refine s_ildn (p' := 6) rfl rfl rfl ?_
  refine s_if (p' := 9) false rfl (by decide +kernel) rfl ?_
  refine s_con (p' := 10) rfl rfl ?_
  refine s_goto (p' := 14) rfl rfl ?_
  refine c_iret rfl (by decide +kernel) ?_
  refine s_if (p' := 24) false rfl (by decide +kernel) rfl ?_
  refine s_con (p' := 25) rfl rfl ?_
  refine k_iret rfl rfl ?_
  refine l_ist (p' := 287) (ls' := [_, _, _, _, _, _, _, _, _, _]) rfl rfl rfl rfl rfl ?_
  refine l_aldn (p' := 288) rfl rfl rfl rfl ?_
  refine l_call (p' := 291) (kc := 99) (ls0 := [_]) rfl rfl rfl rfl rfl rfl (mj_rcv_is (rd_ss rfl (rd_app H400))) rfl rfl rfl ?_
  refine s_aldn (p' := 1) rfl rfl rfl ?_
  refine s_gf (p' := 4) rfl (rd_ss rfl (rd_app H400)) rfl rfl ?_
  refine k_iret rfl rfl ?_
  refine l_ild (p' := 293) rfl rfl rfl rfl ?_
  refine l_icmp (p' := 298) true rfl rfl (by decide +kernel) rfl ?_
  refine l_ild (p' := 300) rfl rfl rfl rfl ?_
  refine l_if (p' := 315) true rfl rfl (by decide +kernel) rfl ?_
  refine l_goto (p' := 2541) rfl rfl rfl ?_
  refine l_incz (p' := 2544) (w := (nI (i + 4))) (ls' := [_, _, _, _, _, _, _, _, _, _]) rfl rfl rfl rfl (mI_add _ _) rfl rfl ?_
  refine l_goto (p' := 28) rfl rfl rfl ?_
  exact hn _ _ _ _ _ ⟨(rd_ss rfl (rd_app H400)), (mz_fr.s (by decide) (mz_fr.a (mz_fr.rf _ h))), (Nat.le_trans (Nat.le_of_eq (len_s (len_a HL rfl))) (by omega)), (Nat.le_trans (sz_s rfl (rd_app H400) rfl (sz_aa (k := 6) (m := mj_sz h + 6) rfl (by omega) (Nat.le_refl (mj_sz h)))) (by omega))⟩
