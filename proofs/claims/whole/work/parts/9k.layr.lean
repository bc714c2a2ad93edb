/-! Acts laid out of a row of parts. -/
theorem yPt.rd {I : Nat → Prop} {h : mj_H} {A : Nat → Nat → Nat} {d p a b : Nat} (t : yPt I h A d p a b) : ∃ fs, mj_rd h p = some (.inr (24, fs)) := by
  cases d with
  | zero =>
    obtain ⟨⟨_, i, _, _, r, _⟩, _⟩ := t
    exact ⟨_, r⟩
  | succ d =>
    rcases t with ⟨⟨_, i, _, _, r, _⟩, _⟩ | ⟨m1, e1, S1, S2, R1, R2, s1, s2, h1, h2, h3, h4, h5, h6, _⟩
    · exact ⟨_, r⟩
    · exact ⟨_, h6⟩
theorem y_lyL {I J : Nat → Prop} {x : Nat → Nat → Nat} {KK B D La Lr It : Nat} {w0 w1 : Value} (hA : ∀ j, j < KK → aOk x 0 KK j) (hK : KK ≤ 30) (bL : La < mj_CB) (hIB : ∀ a, I a → a < B) (hBL : B ≤ La) (hIJ : ∀ a, I a → J a) (hIC : ∀ a, I a → a < mj_CB) {d k k' Er c cap E0 : Nat} {mc : Int32} {ef : Nat → Option Nat} {ps ks F0 : Nat → Nat} {h : mj_H} {K : Nat} (ih : ∀ d', d = d' + 1 → ∀ (Lr k k' E : Nat) (F : Nat → Nat) (g : mj_H), yRow I g x d' Lr k k' → k' ≤ KK → mj_rd g D = some (.inr (26, [w0, w1, .ref La])) → yLs g La E k F → (E = 1000000 ∨ B ≤ E) → g.length + 6 * (k' - k) + 34 < mj_CB → (∀ q, g.length ≤ q → q < mj_CB → J q) → mj_Wp K 347 (0, [some (.ref D), some (.ref Lr), none, none, none, none, none, none, none, none, none, none], [], g) (mz_N fun g' => ∃ (E' : Nat) (F' : Nat → Nat), yLs g' La E' k' F' ∧ (∀ j, j < k → F' j = F j) ∧ (∀ j, k ≤ j → j < k' → yAc J g' x (F' j) j) ∧ mz_mo [La, E] (4 * (k' - k) + 1) (100 * (k' - k) + 4) g g' ∧ (E' = 1000000 ∨ B ≤ E') ∧ (E' = E ∨ g.length ≤ E') ∧ ∀ j, k ≤ j → j < k' → g.length ≤ F' j)) (hLr : mj_rd h Lr = some (alC Er c mc)) (iL : I Lr) (hEr : mj_rdA h Er = some (6, (cap, objs ef))) (iE : I Er ∨ Er = 1000000) (hcc : c ≤ cap) (hcap : cap < 1000) (hps : ∀ j, j < c → ef j = some (ps j) ∧ yPt I h x d (ps j) (ks j) (ks (j + 1))) (k0 : ks 0 = k) (kc : ks c = k') (hkk : k' ≤ KK) (hD : mj_rd h D = some (.inr (26, [w0, w1, .ref La]))) (hDn : D ∉ [La, E0, It]) (hIt : La < It ∧ It < h.length) (hE0 : E0 = 1000000 ∨ B ≤ E0) (hEl : E0 = 1000000 ∨ E0 < It) (hb : h.length + 6 * (k' - k) + 32 < mj_CB) (hJ : ∀ q, h.length ≤ q → q < mj_CB → J q) : ∀ (r j E : Nat) (F : Nat → Nat) (lr : Int32) (l3 l4 l5 l6 l7 l8 l9 l10 l11 : Option Value) (g : mj_H), j + r = c → mj_rd g It = some (.inr (27, [.int (nI j), .int lr, .int mc, .ref Lr])) → yLs g La E (ks j) F → (∀ i, i < k → F i = F0 i) → (∀ i, k ≤ i → i < ks j → yAc J g x (F i) i) → mz_mo [La, E0, It] (4 * (ks j - k)) (100 * (ks j - k)) h g → (E = E0 ∨ h.length ≤ E) → (∀ i, k ≤ i → i < ks j → h.length ≤ F i) → mj_Wp (K + 12) 347 (7, [some (.ref D), some (.ref Lr), some (.ref It), l3, l4, l5, l6, l7, l8, l9, l10, l11], [], g) (mz_N fun g' => ∃ (E' : Nat) (F' : Nat → Nat), yLs g' La E' k' F' ∧ (∀ j, j < k → F' j = F0 j) ∧ (∀ j, k ≤ j → j < k' → yAc J g' x (F' j) j) ∧ mz_mo [La, E0, It] (4 * (k' - k)) (100 * (k' - k)) h g' ∧ (E' = 1000000 ∨ B ≤ E') ∧ (E' = E0 ∨ h.length ≤ E') ∧ ∀ j, k ≤ j → j < k' → h.length ≤ F' j)
  | 0, j, E, F, lr, l3, l4, l5, l6, l7, l8, l9, l10, l11, g, hj, hI, yl, hF, hAc, M, hE, hq => by
    have hjc0 : j = c := by omega
    have e1 : mj_CB = 1000000 := rfl
    have hlt := fun a b (z : ∃ p, yPt I h x d p a b) => z.elim (fun p z => yPt.lt d p a b z)
    have hin := fun i (z : i < c) => ks_in (P := fun a b => ∃ p, yPt I h x d p a b) hlt (c := c) (ks := ks) (fun i hi => ⟨_, (hps i hi).2⟩) z
    have iLC := hIC Lr iL
    have iLB := hIB Lr iL
    have nI1 : ∀ a, I a → a ∉ [La, E0, It] := fun a ha => by
      have := hIB a ha
      have := hIC a ha
      simp only [List.mem_cons, List.not_mem_nil, or_false]
      omega
    have gL := M.1 Lr (nI1 Lr iL) _ hLr
    have gE_ : mj_rdA g Er = some (6, (cap, objs ef)) := by
      rcases iE with iE | iE
      · exact mz_fr.A M.1 (nI1 Er iE) hEr
      · rw [iE] at hEr ⊢
        exact hEr
    have mv : Mv I I [La, E0, It] h g := ⟨M.1, hIC, fun a ha _ => ⟨nI1 a ha, ha⟩⟩
    refine s_aldn (p' := 8) rfl rfl rfl ?_
    refine s_callV (p' := 13) (ls0 := [_]) rfl rfl rfl rfl rfl (mj_rcv_is hI) rfl (y_hn hI gL (b := 0) (Or.inr ⟨rfl, hjc0⟩) (by omega)) (by first | decide | omega) rfl ?_
    refine s_if (p' := 283) true rfl (by decide +kernel) rfl ?_
    refine s_ret rfl ?_
    rw [hjc0, kc] at yl hAc M hq
    exact ⟨g, rfl, E, F, yl, hF, hAc, M, by omega, hE, hq⟩
  | r + 1, j, E, F, lr, l3, l4, l5, l6, l7, l8, l9, l10, l11, g, hj, hI, yl, hF, hAc, M, hE, hq => by
    have hr := y_lyL hA hK bL hIB hBL hIJ hIC ih hLr iL hEr iE hcc hcap hps k0 kc hkk hD hDn hIt hE0 hEl hb hJ (F0 := F0) r (j + 1)
    have e1 : mj_CB = 1000000 := rfl
    have hlt := fun a b (z : ∃ p, yPt I h x d p a b) => z.elim (fun p z => yPt.lt d p a b z)
    have hin := fun i (z : i < c) => ks_in (P := fun a b => ∃ p, yPt I h x d p a b) hlt (c := c) (ks := ks) (fun i hi => ⟨_, (hps i hi).2⟩) z
    have iLC := hIC Lr iL
    have iLB := hIB Lr iL
    have nI1 : ∀ a, I a → a ∉ [La, E0, It] := fun a ha => by
      have := hIB a ha
      have := hIC a ha
      simp only [List.mem_cons, List.not_mem_nil, or_false]
      omega
    have gL := M.1 Lr (nI1 Lr iL) _ hLr
    have gE_ : mj_rdA g Er = some (6, (cap, objs ef)) := by
      rcases iE with iE | iE
      · exact mz_fr.A M.1 (nI1 Er iE) hEr
      · rw [iE] at hEr ⊢
        exact hEr
    have mv : Mv I I [La, E0, It] h g := ⟨M.1, hIC, fun a ha _ => ⟨nI1 a ha, ha⟩⟩
    have hjc : j < c := by omega
    have hin := hin j hjc
    rw [k0, kc] at hin
    have hlt := hlt _ _ ⟨_, (hps j hjc).2⟩
    have hk0 : k ≤ ks j := hin.1
    refine s_aldn (p' := 8) rfl rfl rfl ?_
    refine s_callV (p' := 13) (ls0 := [_]) rfl rfl rfl rfl rfl (mj_rcv_is hI) rfl (y_hn hI gL (b := 1) (Or.inl ⟨rfl, hjc⟩) (by omega)) (by first | decide | omega) rfl ?_
    refine s_if (p' := 16) false rfl (by decide +kernel) rfl ?_
    refine s_aldn (p' := 17) rfl rfl rfl ?_
    refine s_callV (p' := 22) (ls0 := [_, _, _]) rfl rfl rfl rfl rfl (mj_rcv_is hI) rfl (y_nx hI gL (by omega) gE_ hjc hcc hcap (hps j hjc).1) (by first | decide | omega) rfl ?_
    generalize hg1 : List.set g It _ = g1
    have f1 : mz_fr [It] g g1 := by rw [← hg1]; exact mz_fr.s (by simp) (mz_fr.rf _ _)
    have l1 : g1.length = g.length := by rw [← hg1, List.length_set]
    have M1 : mz_mo [La, E0, It] (4 * (ks j - k)) (100 * (ks j - k)) h g1 := by rw [← hg1]; exact mz_mo.s M (by omega) hI rfl (Or.inl (by simp))
    have I1 : mj_rd g1 It = some (.inr (27, [.int (nI (j + 1)), .int (nI j), .int mc, .ref Lr])) := by rw [← hg1]; exact rd_set (by omega) hI
    have yl1 : yLs g1 La E (ks j) F := by rw [← hg1]; exact yl.st (by omega) (by decide) hI
    have ac1 : ∀ i, k ≤ i → i < ks j → yAc J g1 x (F i) i := fun i z1 z2 => by
      refine (hAc i z1 z2).fr f1 (fun b hb => ?_) (fun _ => trivial)
      rw [List.mem_singleton.mp hb]
      refine ⟨by have := hq i z1 z2; omega, fun c0 hc0 => ?_⟩
      rw [hI] at hc0
      exact Or.inr (Or.inr (Or.inr ⟨_, (Option.some.inj hc0).symm⟩))
    clear hg1
    have mv1 : Mv I I [La, E0, It] h g1 := ⟨M1.1, hIC, fun a ha _ => ⟨nI1 a ha, ha⟩⟩
    have pt1 := yPt.mv mv1 d _ _ _ (fun _ _ _ _ _ => rfl) (hps j hjc).2
    have D1 : mj_rd g1 D = some (.inr (26, [w0, w1, .ref La])) := M1.1 D hDn _ hD
    have bm := mo_le M1
    obtain ⟨fs1, rd1⟩ := pt1.rd
    
    refine s_cco (p' := 25) rfl rd1 rfl ?_
    refine s_astn (p' := 26) (ls' := [_, _, _, _, _, _, _, _, _, _, _, _]) rfl rfl rfl rfl ?_
    have hp : ∀ (g' : mj_H) (E' : Nat) (F' : Nat → Nat) (l3 l4 l5 l6 l7 l8 l9 l10 l11 : Option Value), yLs g' La E' (ks (j + 1)) F' ∧ (∀ i, i < ks j → F' i = F i) ∧ (∀ i, ks j ≤ i → i < ks (j + 1) → yAc J g' x (F' i) i) ∧ mz_mo [La, E] (4 * (ks (j + 1) - ks j)) (100 * (ks (j + 1) - ks j)) g1 g' ∧ (E' = 1000000 ∨ B ≤ E') ∧ (E' = E ∨ g1.length ≤ E') ∧ (∀ i, ks j ≤ i → i < ks (j + 1) → g1.length ≤ F' i) → mj_Wp (K + 12) 347 (7, [some (.ref D), some (.ref Lr), some (.ref It), l3, l4, l5, l6, l7, l8, l9, l10, l11], [], g') (mz_N fun g' => ∃ (E' : Nat) (F' : Nat → Nat), yLs g' La E' k' F' ∧ (∀ j, j < k → F' j = F0 j) ∧ (∀ j, k ≤ j → j < k' → yAc J g' x (F' j) j) ∧ mz_mo [La, E0, It] (4 * (k' - k)) (100 * (k' - k)) h g' ∧ (E' = 1000000 ∨ B ≤ E') ∧ (E' = E0 ∨ h.length ≤ E') ∧ ∀ j, k ≤ j → j < k' → h.length ≤ F' j) := fun g' E' F' l3 l4 l5 l6 l7 l8 l9 l10 l11 ⟨y', f', a', m', e', d', q'⟩ => by
      have nIt : It ∉ [La, E] := by
        have := ls_ni yl1 I1 (by decide)
        simp only [List.mem_cons, List.not_mem_nil, or_false]
        omega
      refine hr E' F' (nI j) l3 l4 l5 l6 l7 l8 l9 l10 l11 g' (by omega) (m'.1 It nIt _ I1) y' (fun i z => (f' i (by omega)).trans (hF i z)) (fun i z1 z2 => ?_) (M1.tr m' (fun y hy => by simp only [List.mem_cons, List.not_mem_nil, or_false] at hy ⊢; omega) (by omega) (by omega)) (by omega) (fun i z1 z2 => ?_)
      · by_cases z3 : i < ks j
        · rw [f' i z3]
          exact (ac1 i z1 z3).ls yl1 m'.1
        · exact a' i (by omega) z2
      · by_cases z3 : i < ks j
        · rw [f' i z3]
          exact hq i z1 z3
        · have := q' i (by omega) z2
          omega
    cases d with
    | zero =>
      obtain ⟨s, sb⟩ := pt1
      exact y_ly0 hA hK bL hIB hBL hIJ hIC (K := K) (by omega) (fun q z1 z2 => hJ q (by omega) z2) D1 yl1 (by omega) (by omega) s (fun g' E' F' l3 l4 l5 l6 l7 l8 l9 l10 l11 z => hp g' E' F' l3 l4 l5 l6 l7 l8 l9 l10 l11 (by rw [sb, show 4 * (ks j + 1 - ks j) = 4 by omega, show 100 * (ks j + 1 - ks j) = 100 by omega]; exact z))
    | succ d =>
      rcases pt1 with ⟨s, sb⟩ | br
      · exact y_ly0 hA hK bL hIB hBL hIJ hIC (K := K) (by omega) (fun q z1 z2 => hJ q (by omega) z2) D1 yl1 (by omega) (by omega) s (fun g' E' F' l3 l4 l5 l6 l7 l8 l9 l10 l11 z => hp g' E' F' l3 l4 l5 l6 l7 l8 l9 l10 l11 (by rw [sb, show 4 * (ks j + 1 - ks j) = 4 by omega, show 100 * (ks j + 1 - ks j) = 100 by omega]; exact z))
      · exact y_ly1 hA hK bL hIB hBL hIJ hIC (K := K) (ih d rfl) (by omega) (fun q z1 z2 => hJ q (by omega) z2) D1 yl1 (by omega) (by omega) br hp
theorem y_lay {I J : Nat → Prop} {x : Nat → Nat → Nat} {KK B D La : Nat} {w0 w1 : Value} (hA : ∀ j, j < KK → aOk x 0 KK j) (hK : KK ≤ 30) (bL : La < mj_CB) (hIB : ∀ a, I a → a < B) (hBL : B ≤ La) (hIJ : ∀ a, I a → J a) (hIC : ∀ a, I a → a < mj_CB) : ∀ (d Lr k k' E : Nat) (F : Nat → Nat) (g : mj_H), yRow I g x d Lr k k' → k' ≤ KK → mj_rd g D = some (.inr (26, [w0, w1, .ref La])) → yLs g La E k F → (E = 1000000 ∨ B ≤ E) → g.length + 6 * (k' - k) + 34 < mj_CB → (∀ q, g.length ≤ q → q < mj_CB → J q) → mj_Wp (20 * d + 20) 347 (0, [some (.ref D), some (.ref Lr), none, none, none, none, none, none, none, none, none, none], [], g) (mz_N fun g' => ∃ (E' : Nat) (F' : Nat → Nat), yLs g' La E' k' F' ∧ (∀ j, j < k → F' j = F j) ∧ (∀ j, k ≤ j → j < k' → yAc J g' x (F' j) j) ∧ mz_mo [La, E] (4 * (k' - k) + 1) (100 * (k' - k) + 4) g g' ∧ (E' = 1000000 ∨ B ≤ E') ∧ (E' = E ∨ g.length ≤ E') ∧ (∀ j, k ≤ j → j < k' → g.length ≤ F' j))
  | d, Lr, k, k', E, F, g, hr, hkk, hD, yl, hE, hb, hJ => by
    obtain ⟨Er, c, ps, ks, l, i1, i2, k0, kc, ps2⟩ := hr
    obtain ⟨cap, mc, ef, l1, l2, l3, l4, l5, l6⟩ := l
    refine mj_Wp.mono (k := 20 * d + 8 + 12) ?_ (by omega)
    refine s_aldn (p' := 1) rfl rfl rfl ?_
    refine s_callV (p' := 6) (ls0 := [_]) rfl rfl rfl rfl rfl (mj_rcv_is l1) rfl (y_itr rfl (by omega) l1) (by first | decide | omega) rfl ?_
    generalize hg1 : g ++ [_] = h1
    have hl1 : h1.length = g.length + 1 := by rw [← hg1, List.length_append]; rfl
    have f1 : mz_fr [] g h1 := by rw [← hg1]; exact mz_fr.a (mz_fr.rf _ _)
    have m1 : mz_mo [La, E] 1 4 g h1 := by rw [← hg1]; exact mz_mo.ap _ _ _
    have I1 : mj_rd h1 g.length = some (.inr (27, [.int (nI 0), .int (nI 4294967295), .int mc, .ref Lr])) := by rw [← hg1]; exact rd_nw (Nat.blt_eq.mpr (by omega)) rfl
    have yl1 : yLs h1 La E k F := by rw [← hg1]; exact yl.app
    have D1 : mj_rd h1 D = some (.inr (26, [w0, w1, .ref La])) := by rw [← hg1]; exact rd_app hD
    clear hg1
    have mv : Mv I I [] g h1 := ⟨f1, hIC, fun a ha _ => ⟨by simp, ha⟩⟩
    have lnl := ls_len yl
    have e1 : mj_CB = 1000000 := rfl
    have hDn : D ∉ [La, E, g.length] := by
      have z1 := ls_ni yl hD (by decide)
      have z2 := rdN hD
      simp only [List.mem_cons, List.not_mem_nil, or_false]
      omega
    refine s_astn (p' := 7) (ls' := [_, _, _, _, _, _, _, _, _, _, _, _]) rfl rfl rfl rfl ?_
    exact (y_lyL (I := I) (J := J) hA hK bL hIB hBL hIJ hIC (K := 20 * d + 8) (d := d) (F0 := F) (h := h1) (E0 := E) (fun d' hd => by
      obtain rfl := hd
      exact fun Lr k k' E F g z1 z2 z3 z4 z5 z6 z7 => mj_Wp.mono (y_lay hA hK bL hIB hBL hIJ hIC d' Lr k k' E F g z1 z2 z3 z4 z5 z6 z7) (by omega)) (f1 _ (by simp) _ l1) i1 (mz_fr.A f1 (by simp) l2) i2 l3 l4 (fun j hj => ⟨(l6 j hj).1, yPt.mv mv d _ _ _ (fun _ _ _ _ _ => rfl) (ps2 j hj).2⟩) k0 kc hkk D1 hDn (by omega) hE (by omega) (by omega) (fun q z1 z2 => hJ q (by omega) z2) c 0 E F (nI 4294967295) _ _ _ _ _ _ _ _ _ h1 (Nat.zero_add c) I1 (by rw [k0]; exact yl1) (fun i _ => rfl) (fun i z1 z2 => by omega) (mz_mo.rf _ _ _ _) (Or.inl rfl) (fun i z1 z2 => by omega)).imp fun o ho => by
      obtain ⟨g', rfl, E', F', a1, a2, a3, a4, a5, a6, a7⟩ := ho
      refine ⟨g', rfl, E', F', a1, a2, a3, ?_, a5, by omega, fun j z1 z2 => by have := a7 j z1 z2; omega⟩
      exact (m1.tr a4 (fun y hy => by simp only [List.mem_cons, List.not_mem_nil, or_false] at hy ⊢; omega) (by omega) (by omega))
