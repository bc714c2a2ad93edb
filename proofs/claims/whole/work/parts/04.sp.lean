theorem mj_inj {base : Nat} {ρ : Nat → Nat} (hρ : (∀ i, i < mj_CB → ρ i = base + i) ∧ ¬ base ≤ ρ mj_CB) {x y : Option Nat} (hk : mj_acok x y = true) (h : x.map ρ = y.map ρ) : x = y := by
  cases x with
  | none => cases y with
    | none => rfl
    | some b => cases h
  | some a => cases y with
    | none => cases h
    | some b =>
      have h := Option.some.inj h
      simp only [mj_acok, Bool.or_eq_true, Bool.and_eq_true, decide_eq_true_eq] at hk
      rcases hk with k1 | ⟨k1 | k1, k2 | k2⟩
      · rw [k1]
      · rw [hρ.1 a k1, hρ.1 b k2] at h
        rw [show a = b by omega]
      · rw [hρ.1 a k1, k2] at h
        exact absurd (by omega) hρ.2
      · rw [hρ.1 b k2, k1] at h
        exact absurd (by omega) hρ.2
      · rw [k1, k2]
section MJQ
variable {p : Program} {l : Launch} {e : Env} {R : Room} {s : State} {m : MethodId} {args : Array Value} {below : List Frame} {meth : Method} {c : Code} {H : Heap} {locs : List Loc} {cells slots : Nat} {Q : State → Prop}
variable {cc : ByteArray} {pc : Nat} {rs : Array Slot} {ρ : Nat → Nat} {ls : mj_L} {st : List Value}
set_option maxHeartbeats 4000000 in
theorem mj_sp_ok (hx : p.tables.exec = Jvm.exec) (hb : c.code = cc) {E : mj_E} (hd : decode cc pc = .ok (E.1, mj_len E.1) ∨ (∃ len, decode cc pc = .ok (E.1, len)) ∧ ((∃ d lo hi o, E.1 = .tableswitch d lo hi o) ∨ ∃ d o, E.1 = .lookupswitch d o)) (hok : mj_okP E pc = true) {base : Nat} (hρ : (∀ i, i < mj_CB → ρ i = base + i) ∧ ¬ base ≤ ρ mj_CB) (hlr : mj_lr ρ ls rs) {F : mj_F} (h : mj_sp E pc ls st = some F)
    (k : mj_K p l e R s m args below meth c H locs cells slots Q ρ F) : W p l e R s m args below meth c H locs cells slots Q (F0 m pc rs (st.map (mj_tv ρ))) := by
  obtain ⟨ins, a1, a2, a3⟩ := E
  obtain ⟨pc', ls', st'⟩ := F
  dsimp only at hd
  have hd' : (∀ d lo hi o, ins ≠ .tableswitch d lo hi o) → (∀ d o, ins ≠ .lookupswitch d o) → decode cc pc = .ok (ins, mj_len ins) := fun h1 h2 => by
    rcases hd with h | ⟨-, ⟨d, lo, hi, o, h⟩ | ⟨d, o, h⟩⟩
    · exact h
    · exact absurd h (h1 d lo hi o)
    · exact absurd h (h2 d o)
  cases ins with
  | aconst_null =>
    have d := hd' (fun _ _ _ _ q => by cases q) (fun _ _ q => by cases q)
    cases h
    exact lv_null hx hb d (k rs hlr)
  | iconst n =>
    have d := hd' (fun _ _ _ _ q => by cases q) (fun _ _ q => by cases q)
    cases h
    exact lv_iconst hx hb d (of_decide_eq_true hok) (k rs hlr)
  | bipush n =>
    have d := hd' (fun _ _ _ _ q => by cases q) (fun _ _ q => by cases q)
    cases h
    exact lv_bipush hx hb d (of_decide_eq_true hok) (k rs hlr)
  | sipush n =>
    have d := hd' (fun _ _ _ _ q => by cases q) (fun _ _ q => by cases q)
    cases h
    exact lv_sipush hx hb d (of_decide_eq_true hok) (k rs hlr)
  | lconst n =>
    have d := hd' (fun _ _ _ _ q => by cases q) (fun _ _ q => by cases q)
    cases h
    exact lv_lconst hx hb d (of_decide_eq_true hok) (k rs hlr)
  | iload_n i =>
    have d := hd' (fun _ _ _ _ q => by cases q) (fun _ _ q => by cases q)
    exact mj_s_ldI (fun x h1 k1 => lv_iload_n hx hb d rfl h1 k1) hlr h k
  | iload i =>
    have d := hd' (fun _ _ _ _ q => by cases q) (fun _ _ q => by cases q)
    exact mj_s_ldI (fun x h1 k1 => lv_iload hx hb d h1 k1) hlr h k
  | lload_n i =>
    have d := hd' (fun _ _ _ _ q => by cases q) (fun _ _ q => by cases q)
    exact mj_s_ldL (fun x h1 k1 => lv_lload_n hx hb d rfl h1 k1) hlr h k
  | lload i =>
    have d := hd' (fun _ _ _ _ q => by cases q) (fun _ _ q => by cases q)
    exact mj_s_ldL (fun x h1 k1 => lv_lload hx hb d h1 k1) hlr h k
  | dload_n i =>
    have d := hd' (fun _ _ _ _ q => by cases q) (fun _ _ q => by cases q)
    exact mj_s_ldD (fun x h1 k1 => lv_dload_n hx hb d rfl h1 k1) hlr h k
  | dload i =>
    have d := hd' (fun _ _ _ _ q => by cases q) (fun _ _ q => by cases q)
    exact mj_s_ldD (fun x h1 k1 => lv_dload hx hb d h1 k1) hlr h k
  | aload_n i =>
    have d := hd' (fun _ _ _ _ q => by cases q) (fun _ _ q => by cases q)
    exact mj_s_ldA (fun x h1 k1 => lv_aload_n hx hb d rfl h1 k1) (fun h1 k1 => lv_aload_nN hx hb d rfl h1 k1) hlr h k
  | aload i =>
    have d := hd' (fun _ _ _ _ q => by cases q) (fun _ _ q => by cases q)
    exact mj_s_ldA (fun x h1 k1 => lv_aload hx hb d h1 k1) (fun h1 k1 => lv_aloadN hx hb d h1 k1) hlr h k
  | istore_n i =>
    have d := hd' (fun _ _ _ _ q => by cases q) (fun _ _ q => by cases q)
    obtain ⟨x, r, rfl, h3⟩ := mj_pI_of h
    split at h3
    · rename_i hi
      cases h3
      exact mj_s_st1 (fun lv' e1 k1 => lv_istore_n hx hb d rfl (mj_lr_has hlr) hi e1 k1) hi k
    · cases h3
  | istore i =>
    have d := hd' (fun _ _ _ _ q => by cases q) (fun _ _ q => by cases q)
    obtain ⟨x, r, rfl, h3⟩ := mj_pI_of h
    split at h3
    · rename_i hi
      cases h3
      exact mj_s_st1 (fun lv' e1 k1 => lv_istore hx hb d (mj_lr_has hlr) hi e1 k1) hi k
    · cases h3
  | lstore_n i =>
    have d := hd' (fun _ _ _ _ q => by cases q) (fun _ _ q => by cases q)
    obtain ⟨x, r, rfl, h3⟩ := mj_pL_of h
    split at h3
    · rename_i hi
      cases h3
      exact mj_s_st2 (fun lv' e1 k1 => lv_lstore_n hx hb d rfl (mj_lr_has hlr) hi e1 k1) hi k
    · cases h3
  | lstore i =>
    have d := hd' (fun _ _ _ _ q => by cases q) (fun _ _ q => by cases q)
    obtain ⟨x, r, rfl, h3⟩ := mj_pL_of h
    split at h3
    · rename_i hi
      cases h3
      exact mj_s_st2 (fun lv' e1 k1 => lv_lstore hx hb d (mj_lr_has hlr) hi e1 k1) hi k
    · cases h3
  | dstore_n i =>
    have d := hd' (fun _ _ _ _ q => by cases q) (fun _ _ q => by cases q)
    obtain ⟨x, r, rfl, h3⟩ := mj_pD_of h
    split at h3
    · rename_i hi
      cases h3
      exact mj_s_st2 (fun lv' e1 k1 => lv_dstore_n hx hb d rfl (mj_lr_has hlr) hi e1 k1) hi k
    · cases h3
  | dstore i =>
    have d := hd' (fun _ _ _ _ q => by cases q) (fun _ _ q => by cases q)
    obtain ⟨x, r, rfl, h3⟩ := mj_pD_of h
    split at h3
    · rename_i hi
      cases h3
      exact mj_s_st2 (fun lv' e1 k1 => lv_dstore hx hb d (mj_lr_has hlr) hi e1 k1) hi k
    · cases h3
  | astore_n i =>
    have d := hd' (fun _ _ _ _ q => by cases q) (fun _ _ q => by cases q)
    have h2 : mj_stA i 1 pc ls st = _ := h
    unfold mj_stA at h2
    obtain ⟨x, r, rfl, h3⟩ := mj_pA_of h2
    split at h3
    · rename_i hi
      cases h3
      cases x with
      | some y => exact mj_s_st1 (v := .ref y) (fun lv' e1 k1 => lv_astore_n hx hb d rfl (mj_lr_has hlr) hi e1 k1) hi k
      | none => exact mj_s_st1 (v := .null) (fun lv' e1 k1 => lv_astore_nN hx hb d rfl (mj_lr_has hlr) hi e1 k1) hi k
    · cases h3
  | astore i =>
    have d := hd' (fun _ _ _ _ q => by cases q) (fun _ _ q => by cases q)
    have h2 : mj_stA i 2 pc ls st = _ := h
    unfold mj_stA at h2
    obtain ⟨x, r, rfl, h3⟩ := mj_pA_of h2
    split at h3
    · rename_i hi
      cases h3
      cases x with
      | some y => exact mj_s_st1 (v := .ref y) (fun lv' e1 k1 => lv_astore hx hb d (mj_lr_has hlr) hi e1 k1) hi k
      | none => exact mj_s_st1 (v := .null) (fun lv' e1 k1 => lv_astoreN hx hb d (mj_lr_has hlr) hi e1 k1) hi k
    · cases h3
  | iinc i n =>
    have d := hd' (fun _ _ _ _ q => by cases q) (fun _ _ q => by cases q)
    dsimp only [mj_sp] at h
    split at h
    · rename_i x hx1
      split at h
      · rename_i hi
        cases h
        obtain ⟨j, hj⟩ := List.getElem?_of_mem (mj_as_mem (ρ := ρ) hx1)
        refine lv_iinc hx hb d (mj_lr_has hlr) hj (v := x + nI a1) ?_ hi rfl (fun rs' h1 => k rs' (mj_lr_st1 (v := .int (x + nI a1)) hi h1))
        rw [of_decide_eq_true hok]
      · cases h
    · cases h
  | iadd =>
    have d := hd' (fun _ _ _ _ q => by cases q) (fun _ _ q => by cases q)
    obtain ⟨y, r1, rfl, h2⟩ := mj_pI_of h
    obtain ⟨x, r, rfl, h3⟩ := mj_pI_of h2
    cases h3
    exact lv_iadd hx hb d (k rs hlr)
  | isub =>
    have d := hd' (fun _ _ _ _ q => by cases q) (fun _ _ q => by cases q)
    obtain ⟨y, r1, rfl, h2⟩ := mj_pI_of h
    obtain ⟨x, r, rfl, h3⟩ := mj_pI_of h2
    cases h3
    exact lv_isub hx hb d (k rs hlr)
  | imul =>
    have d := hd' (fun _ _ _ _ q => by cases q) (fun _ _ q => by cases q)
    obtain ⟨y, r1, rfl, h2⟩ := mj_pI_of h
    obtain ⟨x, r, rfl, h3⟩ := mj_pI_of h2
    cases h3
    exact lv_imul hx hb d (k rs hlr)
  | iand =>
    have d := hd' (fun _ _ _ _ q => by cases q) (fun _ _ q => by cases q)
    obtain ⟨y, r1, rfl, h2⟩ := mj_pI_of h
    obtain ⟨x, r, rfl, h3⟩ := mj_pI_of h2
    cases h3
    exact lv_iand hx hb d (k rs hlr)
  | ior =>
    have d := hd' (fun _ _ _ _ q => by cases q) (fun _ _ q => by cases q)
    obtain ⟨y, r1, rfl, h2⟩ := mj_pI_of h
    obtain ⟨x, r, rfl, h3⟩ := mj_pI_of h2
    cases h3
    exact lv_ior hx hb d (k rs hlr)
  | ixor =>
    have d := hd' (fun _ _ _ _ q => by cases q) (fun _ _ q => by cases q)
    obtain ⟨y, r1, rfl, h2⟩ := mj_pI_of h
    obtain ⟨x, r, rfl, h3⟩ := mj_pI_of h2
    cases h3
    exact lv_ixor hx hb d (k rs hlr)
  | ishl =>
    have d := hd' (fun _ _ _ _ q => by cases q) (fun _ _ q => by cases q)
    obtain ⟨y, r1, rfl, h2⟩ := mj_pI_of h
    obtain ⟨x, r, rfl, h3⟩ := mj_pI_of h2
    cases h3
    exact lv_ishl hx hb d (k rs hlr)
  | ishr =>
    have d := hd' (fun _ _ _ _ q => by cases q) (fun _ _ q => by cases q)
    obtain ⟨y, r1, rfl, h2⟩ := mj_pI_of h
    obtain ⟨x, r, rfl, h3⟩ := mj_pI_of h2
    cases h3
    exact lv_ishr hx hb d (k rs hlr)
  | iushr =>
    have d := hd' (fun _ _ _ _ q => by cases q) (fun _ _ q => by cases q)
    obtain ⟨y, r1, rfl, h2⟩ := mj_pI_of h
    obtain ⟨x, r, rfl, h3⟩ := mj_pI_of h2
    cases h3
    exact lv_iushr hx hb d rfl (k rs hlr)
  | idiv =>
    have d := hd' (fun _ _ _ _ q => by cases q) (fun _ _ q => by cases q)
    obtain ⟨y, r1, rfl, h2⟩ := mj_pI_of h
    obtain ⟨x, r, rfl, h3⟩ := mj_pI_of h2
    split at h3
    · cases h3
    · rename_i h0
      cases h3
      exact lv_idiv hx hb d h0 (k rs hlr)
  | irem =>
    have d := hd' (fun _ _ _ _ q => by cases q) (fun _ _ q => by cases q)
    obtain ⟨y, r1, rfl, h2⟩ := mj_pI_of h
    obtain ⟨x, r, rfl, h3⟩ := mj_pI_of h2
    split at h3
    · cases h3
    · rename_i h0
      cases h3
      exact lv_irem hx hb d h0 (k rs hlr)
  | ineg =>
    have d := hd' (fun _ _ _ _ q => by cases q) (fun _ _ q => by cases q)
    obtain ⟨x, r, rfl, h3⟩ := mj_pI_of h
    cases h3
    exact lv_ineg hx hb d (k rs hlr)
  | ladd =>
    have d := hd' (fun _ _ _ _ q => by cases q) (fun _ _ q => by cases q)
    obtain ⟨y, r1, rfl, h2⟩ := mj_pL_of h
    obtain ⟨x, r, rfl, h3⟩ := mj_pL_of h2
    cases h3
    exact lv_ladd hx hb d (k rs hlr)
  | lmul =>
    have d := hd' (fun _ _ _ _ q => by cases q) (fun _ _ q => by cases q)
    obtain ⟨y, r1, rfl, h2⟩ := mj_pL_of h
    obtain ⟨x, r, rfl, h3⟩ := mj_pL_of h2
    cases h3
    exact lv_lmul hx hb d (k rs hlr)
  | lcmp =>
    have d := hd' (fun _ _ _ _ q => by cases q) (fun _ _ q => by cases q)
    obtain ⟨y, r1, rfl, h2⟩ := mj_pL_of h
    obtain ⟨x, r, rfl, h3⟩ := mj_pL_of h2
    cases h3
    exact W.lcmp hx hb d (k rs hlr)
  | i2l =>
    have d := hd' (fun _ _ _ _ q => by cases q) (fun _ _ q => by cases q)
    obtain ⟨x, r, rfl, h3⟩ := mj_pI_of h
    cases h3
    exact lv_i2l hx hb d rfl (k rs hlr)
  | i2b =>
    have d := hd' (fun _ _ _ _ q => by cases q) (fun _ _ q => by cases q)
    obtain ⟨x, r, rfl, h3⟩ := mj_pI_of h
    cases h3
    exact lv_i2b hx hb d rfl (k rs hlr)
  | i2c =>
    have d := hd' (fun _ _ _ _ q => by cases q) (fun _ _ q => by cases q)
    obtain ⟨x, r, rfl, h3⟩ := mj_pI_of h
    cases h3
    exact lv_i2c hx hb d rfl (k rs hlr)
  | i2d =>
    have d := hd' (fun _ _ _ _ q => by cases q) (fun _ _ q => by cases q)
    obtain ⟨x, r, rfl, h3⟩ := mj_pI_of h
    cases h3
    exact lv_i2d hx hb d (k rs hlr)
  | i2f =>
    have d := hd' (fun _ _ _ _ q => by cases q) (fun _ _ q => by cases q)
    obtain ⟨x, r, rfl, h3⟩ := mj_pI_of h
    cases h3
    exact lv_i2f hx hb d (k rs hlr)
  | dconst n =>
    have d := hd' (fun _ _ _ _ q => by cases q) (fun _ _ q => by cases q)
    dsimp only [mj_sp] at h
    split at h
    · rename_i h0
      subst h0
      cases h
      exact lv_dconst0 hx hb d (k rs hlr)
    · cases h
  | fdiv =>
    have d := hd' (fun _ _ _ _ q => by cases q) (fun _ _ q => by cases q)
    obtain ⟨y, r1, rfl, h2⟩ := mj_pF_of h
    obtain ⟨x, r, rfl, h3⟩ := mj_pF_of h2
    split at h3
    · rename_i h0
      cases h3
      exact lv_fdiv hx hb d h0 (k rs hlr)
    · cases h3
  | ddiv =>
    have d := hd' (fun _ _ _ _ q => by cases q) (fun _ _ q => by cases q)
    obtain ⟨y, r1, rfl, h2⟩ := mj_pD_of h
    obtain ⟨x, r, rfl, h3⟩ := mj_pD_of h2
    split at h3
    · rename_i h0
      cases h3
      exact lv_ddiv hx hb d h0 (k rs hlr)
    · cases h3
  | f2d =>
    have d := hd' (fun _ _ _ _ q => by cases q) (fun _ _ q => by cases q)
    obtain ⟨x, r, rfl, h3⟩ := mj_pF_of h
    split at h3
    · rename_i h0
      cases h3
      exact lv_f2d hx hb d h0 (k rs hlr)
    · cases h3
  | dcmp op =>
    have d := hd' (fun _ _ _ _ q => by cases q) (fun _ _ q => by cases q)
    obtain ⟨y, r1, rfl, h2⟩ := mj_pD_of h
    obtain ⟨x, r, rfl, h3⟩ := mj_pD_of h2
    cases h3
    exact lv_dcmp hx hb d (k rs hlr)
  | pop =>
    have d := hd' (fun _ _ _ _ q => by cases q) (fun _ _ q => by cases q)
    obtain ⟨x, r, rfl, h3⟩ := mj_pV_of h
    split at h3
    · rename_i h0
      cases h3
      exact lv_pop hx hb d (by rw [mj_tv_cat]; exact h0) (k rs hlr)
    · cases h3
  | dup =>
    have d := hd' (fun _ _ _ _ q => by cases q) (fun _ _ q => by cases q)
    obtain ⟨x, r, rfl, h3⟩ := mj_pV_of h
    split at h3
    · rename_i h0
      cases h3
      exact lv_dup hx hb d (by rw [mj_tv_cat]; exact h0) (k rs hlr)
    · cases h3
  | dup_x1 =>
    have d := hd' (fun _ _ _ _ q => by cases q) (fun _ _ q => by cases q)
    obtain ⟨x, r1, rfl, h2⟩ := mj_pV_of h
    obtain ⟨y, r, rfl, h3⟩ := mj_pV_of h2
    split at h3
    · rename_i h0
      cases h3
      exact lv_dup_x1 hx hb d (by rw [mj_tv_cat]; exact h0.1) (by rw [mj_tv_cat]; exact h0.2) (k rs hlr)
    · cases h3
  | dup2 =>
    have d := hd' (fun _ _ _ _ q => by cases q) (fun _ _ q => by cases q)
    obtain ⟨x, r1, rfl, h2⟩ := mj_pV_of h
    obtain ⟨y, r, rfl, h3⟩ := mj_pV_of h2
    split at h3
    · rename_i h0
      cases h3
      exact lv_dup2_11 hx hb d (by rw [mj_tv_cat]; exact h0.1) (by rw [mj_tv_cat]; exact h0.2) (k rs hlr)
    · cases h3
  | goto off =>
    have d := hd' (fun _ _ _ _ q => by cases q) (fun _ _ q => by cases q)
    cases h
    exact lv_goto hx hb d (mj_jmp_ok hok) (k rs hlr)
  | ifCond cnd off =>
    have d := hd' (fun _ _ _ _ q => by cases q) (fun _ _ q => by cases q)
    obtain ⟨x, r, rfl, h3⟩ := mj_pI_of h
    cases cnd with
    | eq => exact mj_s_br (fun kt kf => lv_if_eq hx hb d (mj_jmp_ok hok) (fun q => kt (decide_eq_true q)) (fun q => kf (decide_eq_false q))) hlr h3 k
    | ne => exact mj_s_br (fun kt kf => lv_if_ne hx hb d (mj_jmp_ok hok) (fun q => kt (decide_eq_true q)) (fun q => kf (decide_eq_false (fun z => z q)))) hlr h3 k
    | lt => exact mj_s_br (fun kt kf => lv_if_lt hx hb d (mj_jmp_ok hok) (fun q => kt (decide_eq_true q)) (fun q => kf (decide_eq_false q))) hlr h3 k
    | ge => exact mj_s_br (fun kt kf => lv_if_ge hx hb d (mj_jmp_ok hok) (fun q => kt (decide_eq_true q)) (fun q => kf (decide_eq_false q))) hlr h3 k
    | gt => exact mj_s_br (fun kt kf => lv_if_gt hx hb d (mj_jmp_ok hok) (fun q => kt (decide_eq_true q)) (fun q => kf (decide_eq_false q))) hlr h3 k
    | le => exact mj_s_br (fun kt kf => lv_if_le hx hb d (mj_jmp_ok hok) (fun q => kt (decide_eq_true q)) (fun q => kf (decide_eq_false q))) hlr h3 k
  | if_icmp cnd off =>
    have d := hd' (fun _ _ _ _ q => by cases q) (fun _ _ q => by cases q)
    obtain ⟨y, r1, rfl, h2⟩ := mj_pI_of h
    obtain ⟨x, r, rfl, h3⟩ := mj_pI_of h2
    cases cnd with
    | eq => exact mj_s_br (fun kt kf => lv_icmp_eq hx hb d (mj_jmp_ok hok) (fun q => kt (decide_eq_true q)) (fun q => kf (decide_eq_false q))) hlr h3 k
    | ne => exact mj_s_br (fun kt kf => lv_icmp_ne hx hb d (mj_jmp_ok hok) (fun q => kt (decide_eq_true q)) (fun q => kf (decide_eq_false (fun z => z q)))) hlr h3 k
    | lt => exact mj_s_br (fun kt kf => lv_icmp_lt hx hb d (mj_jmp_ok hok) (fun q => kt (decide_eq_true q)) (fun q => kf (decide_eq_false q))) hlr h3 k
    | ge => exact mj_s_br (fun kt kf => lv_icmp_ge hx hb d (mj_jmp_ok hok) (fun q => kt (decide_eq_true q)) (fun q => kf (decide_eq_false q))) hlr h3 k
    | gt => exact mj_s_br (fun kt kf => lv_icmp_gt hx hb d (mj_jmp_ok hok) (fun q => kt (decide_eq_true q)) (fun q => kf (decide_eq_false q))) hlr h3 k
    | le => exact mj_s_br (fun kt kf => lv_icmp_le hx hb d (mj_jmp_ok hok) (fun q => kt (decide_eq_true q)) (fun q => kf (decide_eq_false q))) hlr h3 k
  | if_acmp cnd off =>
    have d := hd' (fun _ _ _ _ q => by cases q) (fun _ _ q => by cases q)
    dsimp only [mj_sp] at h
    obtain ⟨y, r1, rfl, h2⟩ := mj_pA_of h
    obtain ⟨x, r, rfl, h4⟩ := mj_pA_of h2
    rw [List.map_cons, List.map_cons, mj_tv_rf, mj_tv_rf]
    split at h4
    rotate_left
    · cases h4
    rename_i hk
    have h3 := h4
    cases cnd with
    | eq => exact mj_s_br (fun kt kf => lv_acmp_eq hx hb d (mj_jmp_ok hok) (fun q => kt (decide_eq_true (mj_inj hρ hk q))) (fun q => kf (decide_eq_false (fun z => q (by rw [z]))))) hlr h3 k
    | ne => exact mj_s_br (b := decide (¬ x = y)) (fun kt kf => lv_acmp_ne hx hb d (mj_jmp_ok hok) (fun q => kt (decide_eq_true (fun z => q (by rw [z])))) (fun q => kf (decide_eq_false (fun z => z (mj_inj hρ hk q))))) hlr h3 k
  | ifnull off =>
    have d := hd' (fun _ _ _ _ q => by cases q) (fun _ _ q => by cases q)
    dsimp only [mj_sp] at h
    obtain ⟨x, r, rfl, h3⟩ := mj_pA_of h
    cases x with
    | none => exact mj_s_br (fun kt kf => lv_ifnullN hx hb d (mj_jmp_ok hok) (kt rfl)) hlr h3 k
    | some y => exact mj_s_br (fun kt kf => lv_ifnull hx hb d (kf rfl)) hlr h3 k
  | ifnonnull off =>
    have d := hd' (fun _ _ _ _ q => by cases q) (fun _ _ q => by cases q)
    dsimp only [mj_sp] at h
    obtain ⟨x, r, rfl, h3⟩ := mj_pA_of h
    cases x with
    | none => exact mj_s_br (fun kt kf => lv_ifnonnullN hx hb d (kf rfl)) hlr h3 k
    | some y => exact mj_s_br (fun kt kf => lv_ifnonnull hx hb d (mj_jmp_ok hok) (kt rfl)) hlr h3 k
  | tableswitch d lo hi offs =>
    obtain ⟨len, dd⟩ : ∃ len, decode cc pc = .ok (.tableswitch d lo hi offs, len) := by
      rcases hd with h | ⟨h, -⟩
      · exact ⟨_, h⟩
      · exact h
    simp only [mj_okP, Bool.and_eq_true] at hok
    obtain ⟨x, r, rfl, h3⟩ := mj_pI_of h
    split at h3
    · rename_i h0
      cases h3
      exact lv_tableOut hx hb dd h0 (mj_jmp_ok hok.1) (k rs hlr)
    · rename_i h0
      split at h3
      · rename_i off ho
        cases h3
        refine lv_tableIn hx hb dd (fun q => h0 (Or.inl q)) (fun q => h0 (Or.inr q)) ho (mj_jmp_ok (List.all_eq_true.mp hok.2 off ?_)) (k rs hlr)
        exact Array.mem_toList_iff.mpr (Array.mem_of_getElem? ho)
      · cases h3
  | lookupswitch d ps =>
    obtain ⟨len, dd⟩ : ∃ len, decode cc pc = .ok (.lookupswitch d ps, len) := by
      rcases hd with h | ⟨h, -⟩
      · exact ⟨_, h⟩
      · exact h
    simp only [mj_okP, Bool.and_eq_true] at hok
    obtain ⟨x, r, rfl, h3⟩ := mj_pI_of h
    cases h3
    exact lv_lookup hx hb dd hok.2 rfl (mj_jmp_ok (mj_look (P := fun o => mj_jok pc o = true) hok.1.1 _ _ (fun q hq => List.all_eq_true.mp hok.1.2 q hq))) (k rs hlr)
  | _ => cases h
end MJQ
