theorem mj_cst_inr {k c : Nat} {fs : List Value} (h : mj_cst k = some (.inr (c, fs))) : (10 ≤ k ∧ k < 266 ∧ c = 29 ∧ fs = [.int (nI (k - 10) - 128)]) ∨ (300 ≤ k ∧ k % 2 = 0 ∧ (k - 300) / 2 < 11 ∧ c = 21 ∧ fs = [.ref (mj_CB + k + 1), .int 0]) := by
  unfold mj_cst at h
  split at h
  · cases h
  · cases h
  · cases h
  · cases h
  · split at h
    · rename_i hk
      cases h
      exact Or.inl ⟨hk.1, hk.2, rfl, rfl⟩
    · split at h
      · rename_i hk
        split at h
        · rename_i l hl
          split at h
          · rename_i he
            cases h
            exact Or.inr ⟨hk, he, (List.getElem?_eq_some_iff.mp hl).1, rfl, rfl⟩
          · cases h
        · cases h
      · cases h
theorem mj_cst_inl {k t : Nat} {x : vp_A} (h : mj_cst k = some (.inl (t, x))) : (k = 0 ∧ t = 6 ∧ x = (0, .inr (.inr (.inr (.inr fun _ => none))))) ∨ (k = 1 ∧ t = 10 ∧ x = (256, .inr (.inr (.inr (.inr fun j => some (mj_CB + 10 + j)))))) ∨ (k = 2 ∧ t = 1 ∧ x = (100, .inl (mj_byt mj_dgO))) ∨ (k = 3 ∧ t = 1 ∧ x = (100, .inl (mj_byt mj_dgT))) ∨
    (300 ≤ k ∧ k % 2 ≠ 0 ∧ t = 1 ∧ ∃ l, mj_txt[(k - 300) / 2]? = some l ∧ x = (l.length, .inl (mj_byt l))) := by
  unfold mj_cst at h
  split at h
  · cases h; exact Or.inl ⟨rfl, rfl, rfl⟩
  · cases h; exact Or.inr (Or.inl ⟨rfl, rfl, rfl⟩)
  · cases h; exact Or.inr (Or.inr (Or.inl ⟨rfl, rfl, rfl⟩))
  · cases h; exact Or.inr (Or.inr (Or.inr (Or.inl ⟨rfl, rfl, rfl⟩)))
  · split at h
    · cases h
    · split at h
      · rename_i hk
        split at h
        · rename_i l hl
          split at h
          · cases h
          · rename_i he
            cases h
            exact Or.inr (Or.inr (Or.inr (Or.inr ⟨hk, he, rfl, l, hl, rfl⟩)))
        · cases h
      · cases h
theorem mj_rhoK_i {e0 c1 d1 d2 mi : Nat} {ad kS vS : Nat → Nat} {k : Nat} (h1 : 10 ≤ k) (h2 : k < 266) : mj_rhoK e0 c1 d1 d2 mi ad kS vS k = ad (k - 10) := by
  unfold mj_rhoK
  split
  · omega
  · omega
  · omega
  · omega
  · omega
  · rw [if_pos (by omega)]
theorem mj_rhoK_s {e0 c1 d1 d2 mi : Nat} {ad kS vS : Nat → Nat} {k : Nat} (h1 : 300 ≤ k) (h2 : k % 2 = 0) : mj_rhoK e0 c1 d1 d2 mi ad kS vS k = kS ((k - 300) / 2) := by
  unfold mj_rhoK
  split
  · omega
  · omega
  · omega
  · omega
  · omega
  · rw [if_neg (by omega), if_pos h2]
theorem mj_rhoK_b {e0 c1 d1 d2 mi : Nat} {ad kS vS : Nat → Nat} {k : Nat} (h1 : 300 ≤ k) (h2 : k % 2 ≠ 0) : mj_rhoK e0 c1 d1 d2 mi ad kS vS k = vS ((k - 300) / 2) := by
  unfold mj_rhoK
  split
  · omega
  · omega
  · omega
  · omega
  · omega
  · rw [if_neg (by omega), if_neg h2]
theorem mj_exc_5 {a : Nat} (h : mj_exc a = true) : a = 11 ∨ a = 12 ∨ a = 13 ∨ a = 14 ∨ a = 15 := by
  have := of_decide_eq_true h
  omega
theorem mj_nc_all {s : State} {args : Array Value} (h : mj_gv args s) : ∀ (a b : Nat) (r1 r2 : vw_C), mj_exc a = true → mj_exc b = true → a ≠ b → mj_cls[a]? = some r1 → mj_cls[b]? = some r2 → va_Nc r1.1 r2.1 s := by
  intro a b r1 r2 ha hb hab h1 h2
  rcases mj_exc_5 ha with rfl | rfl | rfl | rfl | rfl <;> rcases mj_exc_5 hb with rfl | rfl | rfl | rfl | rfl <;> first | exact absurd rfl hab | (cases h1; cases h2; first | exact mj_nc01 h | exact mj_nc02 h | exact mj_nc03 h | exact mj_nc04 h | exact mj_nc10 h | exact mj_nc12 h | exact mj_nc13 h | exact mj_nc14 h | exact mj_nc20 h | exact mj_nc21 h | exact mj_nc23 h | exact mj_nc24 h | exact mj_nc30 h | exact mj_nc31 h | exact mj_nc32 h | exact mj_nc34 h | exact mj_nc40 h | exact mj_nc41 h | exact mj_nc42 h | exact mj_nc43 h)
