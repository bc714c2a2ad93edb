/-! The locals keep their length; the locals at a method's entry. -/
theorem mj_pI_P {α : Type} {P : α → Prop} {st : List Value} {k : Int32 → List Value → Option α} {z : α} (h : mj_pI st k = some z) (hk : ∀ x r, k x r = some z → P z) : P z := by
  obtain ⟨x, r, -, h⟩ := mj_pI_of h
  exact hk x r h
theorem mj_pL_P {α : Type} {P : α → Prop} {st : List Value} {k : Int64 → List Value → Option α} {z : α} (h : mj_pL st k = some z) (hk : ∀ x r, k x r = some z → P z) : P z := by
  obtain ⟨x, r, -, h⟩ := mj_pL_of h
  exact hk x r h
theorem mj_pD_P {α : Type} {P : α → Prop} {st : List Value} {k : UInt64 → List Value → Option α} {z : α} (h : mj_pD st k = some z) (hk : ∀ x r, k x r = some z → P z) : P z := by
  obtain ⟨x, r, -, h⟩ := mj_pD_of h
  exact hk x r h
theorem mj_pF_P {α : Type} {P : α → Prop} {st : List Value} {k : UInt32 → List Value → Option α} {z : α} (h : mj_pF st k = some z) (hk : ∀ x r, k x r = some z → P z) : P z := by
  obtain ⟨x, r, -, h⟩ := mj_pF_of h
  exact hk x r h
theorem mj_pR_P {α : Type} {P : α → Prop} {st : List Value} {k : Nat → List Value → Option α} {z : α} (h : mj_pR st k = some z) (hk : ∀ x r, k x r = some z → P z) : P z := by
  obtain ⟨x, r, -, h⟩ := mj_pR_of h
  exact hk x r h
theorem mj_pA_P {α : Type} {P : α → Prop} {st : List Value} {k : Option Nat → List Value → Option α} {z : α} (h : mj_pA st k = some z) (hk : ∀ x r, k x r = some z → P z) : P z := by
  obtain ⟨x, r, -, h⟩ := mj_pA_of h
  exact hk x r h
theorem mj_pV_P {α : Type} {P : α → Prop} {st : List Value} {k : Value → List Value → Option α} {z : α} (h : mj_pV st k = some z) (hk : ∀ x r, k x r = some z → P z) : P z := by
  obtain ⟨x, r, -, h⟩ := mj_pV_of h
  exact hk x r h
theorem mj_ite_P {α : Type} {P : α → Prop} {c : Prop} {dc : Decidable c} {a : Option α} {z : α} (h : (@ite _ c dc a none) = some z) (hk : a = some z → P z) : P z := by
  by_cases hc : c
  · rw [if_pos hc] at h; exact hk h
  · rw [if_neg hc] at h; cases h
theorem mj_ite2_P {α : Type} {P : α → Prop} {c : Prop} {dc : Decidable c} {a : Option α} {z : α} (h : (@ite _ c dc none a) = some z) (hk : a = some z → P z) : P z := by
  by_cases hc : c
  · rw [if_pos hc] at h; cases h
  · rw [if_neg hc] at h; exact hk h
theorem mj_st1_len (ls : mj_L) (i : Nat) (v : Value) : (mj_st1 ls i v).length = ls.length := by unfold mj_st1; rw [List.length_set, mj_clr_len]
theorem mj_st2_len (ls : mj_L) (i : Nat) (v : Value) : (mj_st2 ls i v).length = ls.length := by unfold mj_st2; rw [List.length_set, List.length_set, mj_clr_len]
section MJLEN
variable {ls : mj_L} {st : List Value} {pc n i : Nat} {F : mj_F}
theorem mj_ldI_len (h : mj_ldI i n pc ls st = some F) : F.2.1.length = ls.length := by
  unfold mj_ldI at h
  split at h <;> cases h
  rfl
theorem mj_ldL_len (h : mj_ldL i n pc ls st = some F) : F.2.1.length = ls.length := by
  unfold mj_ldL at h
  split at h <;> cases h
  rfl
theorem mj_ldD_len (h : mj_ldD i n pc ls st = some F) : F.2.1.length = ls.length := by
  unfold mj_ldD at h
  split at h <;> cases h
  rfl
theorem mj_ldA_len (h : mj_ldA i n pc ls st = some F) : F.2.1.length = ls.length := by
  unfold mj_ldA at h
  split at h <;> cases h <;> rfl
theorem mj_stI_len (h : mj_stI i n pc ls st = some F) : F.2.1.length = ls.length := mj_pI_P (P := fun F : mj_F => F.2.1.length = ls.length) h fun x r h => mj_ite_P (P := fun F : mj_F => F.2.1.length = ls.length) h fun h => by cases h; exact mj_st1_len _ _ _
theorem mj_stL_len (h : mj_stL i n pc ls st = some F) : F.2.1.length = ls.length := mj_pL_P (P := fun F : mj_F => F.2.1.length = ls.length) h fun x r h => mj_ite_P (P := fun F : mj_F => F.2.1.length = ls.length) h fun h => by cases h; exact mj_st2_len _ _ _
theorem mj_stD_len (h : mj_stD i n pc ls st = some F) : F.2.1.length = ls.length := mj_pD_P (P := fun F : mj_F => F.2.1.length = ls.length) h fun x r h => mj_ite_P (P := fun F : mj_F => F.2.1.length = ls.length) h fun h => by cases h; exact mj_st2_len _ _ _
theorem mj_stA_len (h : mj_stA i n pc ls st = some F) : F.2.1.length = ls.length := mj_pA_P (P := fun F : mj_F => F.2.1.length = ls.length) h fun x r h => mj_ite_P (P := fun F : mj_F => F.2.1.length = ls.length) h fun h => by cases h; exact mj_st1_len _ _ _
theorem mj_br_len {b : Bool} {off : Int} (h : mj_br b pc off ls st = some F) : F.2.1.length = ls.length := by
  unfold mj_br at h
  split at h <;> cases h <;> rfl
set_option maxHeartbeats 4000000 in
theorem mj_sp_len {E : mj_E} (h : mj_sp E pc ls st = some F) : F.2.1.length = ls.length := by
  obtain ⟨ins, e2⟩ := E
  have HI : ∀ {st : List Value} {k : Int32 → List Value → Option mj_F}, mj_pI st k = some F → (∀ x r, k x r = some F → F.2.1.length = ls.length) → F.2.1.length = ls.length := fun h hk => mj_pI_P (P := fun F : mj_F => F.2.1.length = ls.length) h hk
  have HL : ∀ {st : List Value} {k : Int64 → List Value → Option mj_F}, mj_pL st k = some F → (∀ x r, k x r = some F → F.2.1.length = ls.length) → F.2.1.length = ls.length := fun h hk => mj_pL_P (P := fun F : mj_F => F.2.1.length = ls.length) h hk
  have HD : ∀ {st : List Value} {k : UInt64 → List Value → Option mj_F}, mj_pD st k = some F → (∀ x r, k x r = some F → F.2.1.length = ls.length) → F.2.1.length = ls.length := fun h hk => mj_pD_P (P := fun F : mj_F => F.2.1.length = ls.length) h hk
  have HF : ∀ {st : List Value} {k : UInt32 → List Value → Option mj_F}, mj_pF st k = some F → (∀ x r, k x r = some F → F.2.1.length = ls.length) → F.2.1.length = ls.length := fun h hk => mj_pF_P (P := fun F : mj_F => F.2.1.length = ls.length) h hk
  have HA : ∀ {st : List Value} {k : Option Nat → List Value → Option mj_F}, mj_pA st k = some F → (∀ x r, k x r = some F → F.2.1.length = ls.length) → F.2.1.length = ls.length := fun h hk => mj_pA_P (P := fun F : mj_F => F.2.1.length = ls.length) h hk
  have HV : ∀ {st : List Value} {k : Value → List Value → Option mj_F}, mj_pV st k = some F → (∀ x r, k x r = some F → F.2.1.length = ls.length) → F.2.1.length = ls.length := fun h hk => mj_pV_P (P := fun F : mj_F => F.2.1.length = ls.length) h hk
  cases ins with
  | tableswitch d lo hi offs =>
    refine HI h fun x r h => ?_
    split at h
    · cases h; rfl
    · split at h <;> cases h
      rfl
  | ifnull off =>
    dsimp only [mj_sp] at h
    exact HA h fun _ _ h => mj_br_len h
  | ifnonnull off =>
    dsimp only [mj_sp] at h
    exact HA h fun _ _ h => mj_br_len h
  | if_acmp c off =>
    dsimp only [mj_sp] at h
    exact HA h fun _ _ h => HA h fun _ _ h => mj_ite_P (P := fun F : mj_F => F.2.1.length = ls.length) h fun h => mj_br_len h
  | iinc i k =>
    dsimp only [mj_sp] at h
    split at h
    · exact mj_ite_P (P := fun F : mj_F => F.2.1.length = ls.length) h fun h => by cases h; exact mj_st1_len _ _ _
    · cases h
  | _ =>
    first
    | (cases h <;> rfl)
    | (dsimp only [mj_sp] at h; cases h; rfl)
    | exact mj_ldI_len h
    | exact mj_ldL_len h
    | exact mj_ldD_len h
    | exact mj_ldA_len h
    | exact mj_stI_len h
    | exact mj_stL_len h
    | exact mj_stD_len h
    | exact mj_stA_len h
    | exact HI h fun _ _ h => by cases h; rfl
    | exact HI h fun _ _ h => HI h fun _ _ h => by cases h; rfl
    | exact HL h fun _ _ h => HL h fun _ _ h => by cases h; rfl
    | exact HD h fun _ _ h => HD h fun _ _ h => by cases h; rfl
    | exact HI h fun _ _ h => mj_br_len h
    | exact HI h fun _ _ h => HI h fun _ _ h => mj_br_len h
    | exact HA h fun _ _ h => mj_br_len h
    | exact HA h fun _ _ h => HA h fun _ _ h => mj_ite_P (P := fun F : mj_F => F.2.1.length = ls.length) h fun h => mj_br_len h
    | exact HI h fun _ _ h => HI h fun _ _ h => mj_ite2_P (P := fun F : mj_F => F.2.1.length = ls.length) h fun h => by cases h; rfl
    | exact HF h fun _ _ h => HF h fun _ _ h => mj_ite_P (P := fun F : mj_F => F.2.1.length = ls.length) h fun h => by cases h; rfl
    | exact HD h fun _ _ h => HD h fun _ _ h => mj_ite_P (P := fun F : mj_F => F.2.1.length = ls.length) h fun h => by cases h; rfl
    | exact HF h fun _ _ h => mj_ite_P (P := fun F : mj_F => F.2.1.length = ls.length) h fun h => by cases h; rfl
    | exact HV h fun _ _ h => mj_ite_P (P := fun F : mj_F => F.2.1.length = ls.length) h fun h => by cases h; rfl
    | exact HV h fun _ _ h => HV h fun _ _ h => mj_ite_P (P := fun F : mj_F => F.2.1.length = ls.length) h fun h => by cases h; rfl
    | exact mj_ite_P (P := fun F : mj_F => F.2.1.length = ls.length) h fun h => by cases h; rfl
end MJLEN
section MJLEN2
variable {ls : mj_L} {st : List Value} {pc : Nat} {h : mj_H} {S : mj_S}
theorem mj_sto_ls {a : Nat} {r : List Value} {i : Int32} {k : Nat → Nat → (Nat → Int32) ⊕ (Nat → Int64) ⊕ (Nat → UInt32) ⊕ (Nat → UInt64) ⊕ (Nat → Option Nat) → Option vp_A} (h0 : mj_sto h a pc ls r i k = some S) : S.2.1 = ls := by
  obtain ⟨t, n, x, y, ha, h4, hin, hy, rfl⟩ := mj_sto_of h0
  rfl
theorem mj_as1_ls {ins : Instr} (h0 : mj_as1 ins pc ls st h = some S) : S.2.1 = ls := by
  have HI : ∀ {st : List Value} {k : Int32 → List Value → Option mj_S}, mj_pI st k = some S → (∀ x r, k x r = some S → S.2.1 = ls) → S.2.1 = ls := fun h hk => mj_pI_P (P := fun F : mj_S => F.2.1 = ls) h hk
  have HL : ∀ {st : List Value} {k : Int64 → List Value → Option mj_S}, mj_pL st k = some S → (∀ x r, k x r = some S → S.2.1 = ls) → S.2.1 = ls := fun h hk => mj_pL_P (P := fun F : mj_S => F.2.1 = ls) h hk
  have HD : ∀ {st : List Value} {k : UInt64 → List Value → Option mj_S}, mj_pD st k = some S → (∀ x r, k x r = some S → S.2.1 = ls) → S.2.1 = ls := fun h hk => mj_pD_P (P := fun F : mj_S => F.2.1 = ls) h hk
  have HA : ∀ {st : List Value} {k : Option Nat → List Value → Option mj_S}, mj_pA st k = some S → (∀ x r, k x r = some S → S.2.1 = ls) → S.2.1 = ls := fun h hk => mj_pA_P (P := fun F : mj_S => F.2.1 = ls) h hk
  have HR : ∀ {st : List Value} {k : Nat → List Value → Option mj_S}, mj_pR st k = some S → (∀ x r, k x r = some S → S.2.1 = ls) → S.2.1 = ls := fun h hk => mj_pR_P (P := fun F : mj_S => F.2.1 = ls) h hk
  unfold mj_as1 at h0
  split at h0
  · exact HI h0 fun _ _ h => HI h fun _ _ h => HR h fun _ _ h => mj_sto_ls h
  · exact HI h0 fun _ _ h => HI h fun _ _ h => HR h fun _ _ h => mj_sto_ls h
  · exact HI h0 fun _ _ h => HI h fun _ _ h => HR h fun _ _ h => mj_sto_ls h
  · exact HL h0 fun _ _ h => HI h fun _ _ h => HR h fun _ _ h => mj_sto_ls h
  · exact HD h0 fun _ _ h => HI h fun _ _ h => HR h fun _ _ h => mj_sto_ls h
  · exact HA h0 fun _ _ h => HI h fun _ _ h => HR h fun _ _ h => mj_sto_ls h
  · cases h0
theorem mj_al_ls {ins : Instr} (h0 : mj_al ins pc ls st h = some S) : S.2.1 = ls := by
  obtain ⟨i, st1, rfl, h1⟩ := mj_pI_of h0
  obtain ⟨a, r, rfl, h2⟩ := mj_pR_of h1
  split at h2
  · split at h2
    · split at h2 <;> cases h2
      rfl
    · cases h2
  · cases h2
set_option maxHeartbeats 1000000 in
theorem mj_sh_ls {E : mj_E} (h0 : mj_sh E pc ls st h = some S) : S.2.1 = ls := by
  obtain ⟨ins, e2⟩ := E
  cases ins with
  | getfield i =>
    obtain ⟨a, r, rfl, h2⟩ := mj_pR_of (show mj_pR st _ = _ from h0)
    split at h2
    · split at h2
      · split at h2 <;> cases h2
        rfl
      · cases h2
    · cases h2
  | putfield i =>
    obtain ⟨v, st1, rfl, h1⟩ := mj_pV_of (show mj_pV st _ = _ from h0)
    obtain ⟨a, r, rfl, h2⟩ := mj_pR_of h1
    split at h2
    · split at h2
      · split at h2 <;> cases h2
        rfl
      · cases h2
    · cases h2
  | iaload => exact mj_al_ls h0
  | baload => exact mj_al_ls h0
  | caload => exact mj_al_ls h0
  | laload => exact mj_al_ls h0
  | daload => exact mj_al_ls h0
  | aaload => exact mj_al_ls h0
  | iastore => exact mj_as1_ls (ins := .iastore) h0
  | bastore => exact mj_as1_ls (ins := .bastore) h0
  | castore => exact mj_as1_ls (ins := .castore) h0
  | lastore => exact mj_as1_ls (ins := .lastore) h0
  | dastore => exact mj_as1_ls (ins := .dastore) h0
  | aastore => exact mj_as1_ls (ins := .aastore) h0
  | arraylength =>
    obtain ⟨a, r, rfl, h2⟩ := mj_pR_of (show mj_pR st _ = _ from h0)
    split at h2
    · split at h2 <;> cases h2
      rfl
    · cases h2
  | newarray a =>
    obtain ⟨n, r, -, -, -, rfl⟩ := mj_na_of (show mj_na _ _ _ _ _ _ = _ from h0)
    rfl
  | anewarray a =>
    obtain ⟨n, r, -, -, -, rfl⟩ := mj_na_of (show mj_na _ _ _ _ _ _ = _ from h0)
    rfl
  | new i =>
    dsimp only [mj_sh] at h0
    split at h0 <;> cases h0
    rfl
  | checkcast i =>
    dsimp only [mj_sh] at h0
    obtain ⟨x, r, rfl, h1⟩ := mj_pA_of h0
    split at h1
    · cases h1; rfl
    · split at h1
      · split at h1
        · split at h1 <;> cases h1
          rfl
        · cases h1
      · split at h1
        · split at h1
          · split at h1 <;> cases h1
            rfl
          · cases h1
        · cases h1
  | getstatic i =>
    dsimp only [mj_sh] at h0
    split at h0 <;> cases h0
    rfl
  | ldc i =>
    dsimp only [mj_sh] at h0
    split at h0 <;> cases h0 <;> rfl
  | ldc_w i =>
    dsimp only [mj_sh] at h0
    split at h0 <;> cases h0 <;> rfl
  | ldc2_w i => cases h0; rfl
  | _ => cases h0
end MJLEN2
/-- the locals at the entry -/
theorem mj_ent_len (ρ : Nat → Nat) : ∀ as : List Value, (lg_sl (as.map (mj_tv ρ))).length = (mj_ent as).length
  | [] => rfl
  | v :: as => by
    have h1 := mj_ent_len ρ as
    unfold lg_sl mj_ent at h1 ⊢
    rw [List.map_cons, List.flatMap_cons, List.flatMap_cons, List.length_append, List.length_append, h1, mj_tv_cat]
    by_cases hc : v.category = 2
    · rw [if_pos hc, if_pos hc]; rfl
    · rw [if_neg hc, if_neg hc]; rfl
theorem mj_ent_at (ρ : Nat → Nat) : ∀ (as : List Value) (i : Nat) (v : Value), (mj_ent as)[i]? = some (some v) → (lg_sl (as.map (mj_tv ρ)))[i]? = some (.val (mj_tv ρ v))
  | [], i, v, h => by cases h
  | w :: as, i, v, h => by
    have h1 := mj_ent_at ρ as
    unfold lg_sl at h1 ⊢
    unfold mj_ent at h1 h
    rw [List.map_cons, List.flatMap_cons]
    rw [List.flatMap_cons] at h
    rw [mj_tv_cat]
    by_cases hc : w.category = 2
    · rw [if_pos hc] at h ⊢
      match i, h with
      | 0, h => cases h; rfl
      | 1, h => cases h
      | i + 2, h => exact h1 i v h
    · rw [if_neg hc] at h ⊢
      match i, h with
      | 0, h => cases h; rfl
      | i + 1, h => exact h1 i v h
theorem mj_entry_lr {ρ : Nat → Nat} {as : List Value} {n : Nat} (h : (mj_ent as).length ≤ n) : mj_lr ρ (mj_entry n as) ((lg_sl (as.map (mj_tv ρ)) ++ List.replicate (n - (lg_sl (as.map (mj_tv ρ))).length) Slot.unset).toArray) := by
  have h1 := lv_entry (as.map (mj_tv ρ)) (n := n) (by rw [mj_ent_len]; exact h)
  refine ⟨?_, h1.2.1, fun i v hi => ?_⟩
  · rw [h1.1]
    unfold mj_entry
    rw [List.length_append, List.length_replicate]
    omega
  · unfold mj_ld mj_entry at hi
    by_cases hl : i < (mj_ent as).length
    · rw [List.getElem?_append_left hl] at hi
      have h2 := mj_ent_at ρ as i v (by
        cases hq : (mj_ent as)[i]? with
        | none => rw [hq] at hi; cases hi
        | some y => rw [hq] at hi; exact congrArg some hi)
      rw [List.getElem?_toArray, List.getElem?_append_left (by rw [mj_ent_len]; exact hl)]
      exact h2
    · rw [List.getElem?_append_right (by omega)] at hi
      exfalso
      rw [List.getElem?_replicate] at hi
      split at hi <;> cases hi
theorem mj_entry_len {as : List Value} {n : Nat} (h : (mj_ent as).length ≤ n) : (mj_entry n as).length = n := by
  unfold mj_entry
  rw [List.length_append, List.length_replicate]
  omega
