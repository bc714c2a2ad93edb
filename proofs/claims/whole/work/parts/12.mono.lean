theorem mj_as1_le {ins : Instr} {pc : Nat} {ls : mj_L} {st : List Value} {h : mj_H} {S : mj_S} (h0 : mj_as1 ins pc ls st h = some S) : mj_le h S.2.2.2 := by
  unfold mj_as1 at h0
  split at h0
  · obtain ⟨v, st1, rfl, h1⟩ := mj_pI_of h0
    obtain ⟨i, st2, rfl, h2⟩ := mj_pI_of h1
    obtain ⟨a, r, rfl, h3⟩ := mj_pR_of h2
    refine mj_sto_le (fun t n x y hy => ?_) h3
    split at hy
    · split at hy
      · cases hy; rfl
      · cases hy
    · cases hy
  · obtain ⟨v, st1, rfl, h1⟩ := mj_pI_of h0
    obtain ⟨i, st2, rfl, h2⟩ := mj_pI_of h1
    obtain ⟨a, r, rfl, h3⟩ := mj_pR_of h2
    refine mj_sto_le (fun t n x y hy => ?_) h3
    split at hy
    · split at hy
      · cases hy; rfl
      · split at hy
        · cases hy; rfl
        · cases hy
    · cases hy
  · obtain ⟨v, st1, rfl, h1⟩ := mj_pI_of h0
    obtain ⟨i, st2, rfl, h2⟩ := mj_pI_of h1
    obtain ⟨a, r, rfl, h3⟩ := mj_pR_of h2
    refine mj_sto_le (fun t n x y hy => ?_) h3
    split at hy
    · split at hy
      · cases hy; rfl
      · cases hy
    · cases hy
  · obtain ⟨v, st1, rfl, h1⟩ := mj_pL_of h0
    obtain ⟨i, st2, rfl, h2⟩ := mj_pI_of h1
    obtain ⟨a, r, rfl, h3⟩ := mj_pR_of h2
    refine mj_sto_le (fun t n x y hy => ?_) h3
    split at hy
    · split at hy
      · cases hy; rfl
      · cases hy
    · cases hy
  · obtain ⟨v, st1, rfl, h1⟩ := mj_pD_of h0
    obtain ⟨i, st2, rfl, h2⟩ := mj_pI_of h1
    obtain ⟨a, r, rfl, h3⟩ := mj_pR_of h2
    refine mj_sto_le (fun t n x y hy => ?_) h3
    split at hy
    · split at hy
      · cases hy; rfl
      · cases hy
    · cases hy
  · obtain ⟨v, st1, rfl, h1⟩ := mj_pA_of h0
    obtain ⟨i, st2, rfl, h2⟩ := mj_pI_of h1
    obtain ⟨a, r, rfl, h3⟩ := mj_pR_of h2
    refine mj_sto_le (fun t n x y hy => ?_) h3
    split at hy
    · split at hy
      · split at hy
        · cases hy; rfl
        · cases hy
      · split at hy
        · split at hy
          · cases hy; rfl
          · cases hy
        · cases hy
    · cases hy
  · cases h0
theorem mj_al_le {ins : Instr} {pc : Nat} {ls : mj_L} {st : List Value} {h : mj_H} {S : mj_S} (h0 : mj_al ins pc ls st h = some S) : mj_le h S.2.2.2 := by
  obtain ⟨i, st1, rfl, h1⟩ := mj_pI_of h0
  obtain ⟨a, r, rfl, h2⟩ := mj_pR_of h1
  split at h2
  · split at h2
    · split at h2
      · cases h2; exact mj_le.rf _
      · cases h2
    · cases h2
  · cases h2
theorem mj_gf_le {E : mj_E} {pc : Nat} {ls : mj_L} {st : List Value} {h : mj_H} {S : mj_S} (h0 : mj_gf E pc ls st h = some S) : mj_le h S.2.2.2 := by
  obtain ⟨a, r, rfl, h2⟩ := mj_pR_of h0
  split at h2
  · split at h2
    · split at h2
      · cases h2; exact mj_le.rf _
      · cases h2
    · cases h2
  · cases h2
theorem mj_pf_le {E : mj_E} {pc : Nat} {ls : mj_L} {st : List Value} {h : mj_H} {S : mj_S} (h0 : mj_pf E pc ls st h = some S) : mj_le h S.2.2.2 := by
  obtain ⟨v, st1, rfl, h1⟩ := mj_pV_of h0
  obtain ⟨a, r, rfl, h2⟩ := mj_pR_of h1
  split at h2
  · rename_i ha
    split at h2
    · rename_i c1 fs hr
      split at h2
      · cases h2
        exact mj_le.put ((mj_rdO_of hr).resolve_right (fun z => z.1 ha)).2 rfl
      · cases h2
    · cases h2
  · cases h2
theorem mj_na_le {t len pc : Nat} {ls : mj_L} {st : List Value} {h : mj_H} {S : mj_S} (h0 : mj_na t len pc ls st h = some S) : mj_le h S.2.2.2 := by
  obtain ⟨n, r, rfl, hn, hn2, rfl⟩ := mj_na_of h0
  exact mj_le.push _ _
set_option maxHeartbeats 1000000 in
theorem mj_sh_le {E : mj_E} {pc : Nat} {ls : mj_L} {st : List Value} {h : mj_H} {S : mj_S} (h0 : mj_sh E pc ls st h = some S) : mj_le h S.2.2.2 := by
  obtain ⟨ins, e2⟩ := E
  cases ins with
  | getfield i => exact mj_gf_le h0
  | putfield i => exact mj_pf_le h0
  | iaload => exact mj_al_le h0
  | baload => exact mj_al_le h0
  | caload => exact mj_al_le h0
  | laload => exact mj_al_le h0
  | daload => exact mj_al_le h0
  | aaload => exact mj_al_le h0
  | iastore => exact mj_as1_le (ins := .iastore) h0
  | bastore => exact mj_as1_le (ins := .bastore) h0
  | castore => exact mj_as1_le (ins := .castore) h0
  | lastore => exact mj_as1_le (ins := .lastore) h0
  | dastore => exact mj_as1_le (ins := .dastore) h0
  | aastore => exact mj_as1_le (ins := .aastore) h0
  | arraylength =>
    obtain ⟨a, r, rfl, h2⟩ := mj_pR_of (show mj_pR st _ = _ from h0)
    split at h2
    · split at h2
      · cases h2; exact mj_le.rf _
      · cases h2
    · cases h2
  | newarray a => exact mj_na_le h0
  | anewarray i => exact mj_na_le h0
  | new i =>
    dsimp only [mj_sh] at h0
    split at h0
    · cases h0; exact mj_le.push _ _
    · cases h0
  | checkcast i =>
    dsimp only [mj_sh] at h0
    obtain ⟨x, r, rfl, h1⟩ := mj_pA_of h0
    split at h1
    · cases h1; exact mj_le.rf _
    · split at h1
      · split at h1
        · split at h1
          · cases h1; exact mj_le.rf _
          · cases h1
        · cases h1
      · split at h1
        · split at h1
          · split at h1
            · cases h1; exact mj_le.rf _
            · cases h1
          · cases h1
        · cases h1
  | getstatic i =>
    dsimp only [mj_sh] at h0
    split at h0
    · cases h0; exact mj_le.rf _
    · cases h0
  | ldc i =>
    dsimp only [mj_sh] at h0
    split at h0 <;> cases h0 <;> exact mj_le.rf _
  | ldc_w i =>
    dsimp only [mj_sh] at h0
    split at h0 <;> cases h0 <;> exact mj_le.rf _
  | ldc2_w i => cases h0; exact mj_le.rf _
  | _ => cases h0
theorem mj_cpy_le {h h' : mj_H} {a b : Nat} {sp dp n : Int32} (h0 : mj_cpy h a sp b dp n = some h') : mj_le h h' := by
  unfold mj_cpy at h0
  split at h0
  · rename_i t m x t2 k y hr1 hr2
    split at h0
    · rename_i hc
      have h4 := ((mj_rdA_of hr2).resolve_right (fun z => z.1 hc.1)).2
      split at h0
      · split at h0
        · cases h0; exact mj_le.put h4 rfl
        · cases h0
      · split at h0
        · cases h0; exact mj_le.put h4 rfl
        · cases h0
      · cases h0
    · cases h0
  · cases h0
theorem mj_prim_le {k : Nat} {as : List Value} {h : mj_H} {x : Option Value × mj_H} (h0 : mj_prim k as h = some x) : mj_le h x.2 := by
  unfold mj_prim at h0
  split at h0
  · split at h0
    · rename_i h1 e
      cases h0
      exact mj_cpy_le e
    · cases h0
  · split at h0
    · cases h0; exact mj_le.rf _
    · cases h0
  · split at h0
    · split at h0
      · split at h0
        · cases h0; exact mj_le.push _ _
        · cases h0
      · cases h0
    · cases h0
  · cases h0; exact mj_le.rf _
  · cases h0; exact mj_le.rf _
  · cases h0; exact mj_le.rf _
  · cases h0
theorem mj_thr_le {G : mj_G} {rec : Nat → Nat → mj_S → Option (mj_O × mj_H)} (hrec : ∀ d mi S o, rec d mi S = some o → mj_le S.2.2.2 o.2) {d mi pc : Nat} {ls : mj_L} {q : Nat} {h : mj_H} {o : mj_O × mj_H} (h0 : mj_thr G rec d mi pc ls q h = some o) : mj_le h o.2 := by
  unfold mj_thr at h0
  split at h0
  · split at h0
    · split at h0
      · exact hrec _ _ _ _ h0
      · cases h0; exact mj_le.rf _
      · cases h0
    · cases h0
  · cases h0
theorem mj_inv_le {G : mj_G} {rec : Nat → Nat → mj_S → Option (mj_O × mj_H)} (hrec : ∀ d mi S o, rec d mi S = some o → mj_le S.2.2.2 o.2) {d mi pc : Nat} {E : mj_E} {ls : mj_L} {st : List Value} {h : mj_H} {o : mj_O × mj_H} (h0 : mj_inv G rec d mi E pc ls st h = some o) : mj_le h o.2 := by
  unfold mj_inv at h0
  split at h0
  · split at h0
    · split at h0
      · rename_i v h1 e
        exact (mj_prim_le e).tr (hrec _ _ _ _ h0)
      · cases h0
    · split at h0
      · split at h0
        · cases h0
        · split at h0
          · split at h0
            · rename_i v h1 e
              exact (hrec _ _ _ _ e).tr (hrec _ _ _ _ h0)
            · rename_i q h1 e
              exact (hrec _ _ _ _ e).tr (mj_thr_le hrec h0)
            · cases h0
          · cases h0
      · cases h0
  · cases h0
theorem mj_flt_of {E : mj_E} {pc : Nat} {ls : mj_L} {st : List Value} {h : mj_H} {o : mj_O × mj_H} (h0 : mj_flt E pc ls st h = some o) : (st.map fun v => v.category).sum ≤ 6 ∧ h.length < mj_CB ∧ ∃ x y, mj_pu (mj_fls E.2.2.1) (pc + 4) ls (.ref h.length :: .ref h.length :: st) h = some (.int y :: .int x :: .ref h.length :: .ref h.length :: st) ∧ mj_fit .char (.int y) = true ∧ o = (.inr h.length, h ++ [.inr (E.2.1, [.int x, .int y])]) := by
  unfold mj_flt at h0
  split at h0
  · rename_i hc
    split at h0
    · rename_i y x r hp
      split at h0
      · rename_i hr
        obtain ⟨rfl, hf⟩ := hr
        cases h0
        exact ⟨hc.1, hc.2, x, y, hp, hf, rfl⟩
      · cases h0
    · cases h0
  · cases h0
theorem mj_flt_le {E : mj_E} {pc : Nat} {ls : mj_L} {st : List Value} {h : mj_H} {o : mj_O × mj_H} (h0 : mj_flt E pc ls st h = some o) : mj_le h o.2 := by
  obtain ⟨-, -, x, y, -, -, rfl⟩ := mj_flt_of h0
  exact mj_le.push _ _
theorem mj_evI_le {G : mj_G} {rec : Nat → Nat → mj_S → Option (mj_O × mj_H)} (hrec : ∀ d mi S o, rec d mi S = some o → mj_le S.2.2.2 o.2) {d mi pc : Nat} {E : mj_E} {ls : mj_L} {st : List Value} {h : mj_H} {o : mj_O × mj_H} (h0 : mj_evI G rec d mi E pc ls st h = some o) : mj_le h o.2 := by
  unfold mj_evI at h0
  split at h0
  · obtain ⟨x, r, rfl, h1⟩ := mj_pI_of h0
    split at h1
    · cases h1; exact mj_le.rf _
    · cases h1
  · obtain ⟨x, r, rfl, h1⟩ := mj_pL_of h0
    split at h1
    · cases h1; exact mj_le.rf _
    · cases h1
  · obtain ⟨x, r, rfl, h1⟩ := mj_pF_of h0
    split at h1
    · cases h1; exact mj_le.rf _
    · cases h1
  · obtain ⟨x, r, rfl, h1⟩ := mj_pD_of h0
    split at h1
    · cases h1; exact mj_le.rf _
    · cases h1
  · obtain ⟨x, r, rfl, h1⟩ := mj_pA_of h0
    split at h1
    · cases h1; exact mj_le.rf _
    · cases h1
  · split at h0
    · cases h0; exact mj_le.rf _
    · cases h0
  · obtain ⟨x, r, rfl, h1⟩ := mj_pR_of h0
    exact mj_thr_le hrec h1
  · exact mj_inv_le hrec h0
  · exact mj_inv_le hrec h0
  · exact mj_inv_le hrec h0
  · exact mj_inv_le hrec h0
  · split at h0
    · split at h0
      · rename_i S e
        exact (mj_sh_le e).tr (hrec _ _ _ _ h0)
      · cases h0
    · split at h0
      · split at h0
        · cases h0; exact mj_le.push _ _
        · cases h0
      · exact mj_flt_le h0
  · unfold mj_nx at h0
    split at h0
    · exact hrec _ _ _ _ h0
    · split at h0
      · rename_i S e
        exact (mj_sh_le e).tr (hrec _ _ _ _ h0)
      · cases h0
theorem mj_ev_le (G : mj_G) : ∀ (n d mi : Nat) (S : mj_S) (o : mj_O × mj_H), mj_ev G n d mi S = some o → mj_le S.2.2.2 o.2
  | 0, d, mi, S, o, h => by cases h
  | n + 1, d, mi, S, o, h => by
    unfold mj_ev at h
    split at h
    · exact mj_evI_le (fun d mi S o h => mj_ev_le G n d mi S o h) h
    · cases h
