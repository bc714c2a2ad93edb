/-! Small ints, and cells. -/
theorem mI_ti {n : Nat} (h : n < 2147483648) : (nI n).toInt = n := Int32.toInt_ofNat_of_lt h
theorem mI_cl {n : Nat} (h : n < 2147483648) : (nI n).toNatClampNeg = n := by
  show (nI n).toInt.toNat = n
  rw [mI_ti h]
  rfl
theorem mI_add (a b : Nat) : nI a + nI b = nI (a + b) := (Int32.ofNat_add a b).symm
theorem mI_sub {a b : Nat} (h : b ≤ a) : nI a - nI b = nI (a - b) := by
  have : nI a = nI (a - b) + nI b := by rw [mI_add, Nat.sub_add_cancel h]
  rw [this]
  exact Int32.add_sub_cancel _ _
theorem mI_mul (a b : Nat) : nI a * nI b = nI (a * b) := (Int32.ofNat_mul a b).symm
theorem mI_inj {a b : Nat} (ha : a < 2147483648) (hb : b < 2147483648) : nI a = nI b ↔ a = b := by
  constructor
  · intro h
    have h2 := congrArg Int32.toInt h
    rw [mI_ti ha, mI_ti hb] at h2
    exact Int.ofNat.inj h2
  · intro h; rw [h]
theorem mI_lt {a b : Nat} (ha : a < 2147483648) (hb : b < 2147483648) : nI a < nI b ↔ a < b := by
  rw [Int32.lt_iff_toInt_lt, mI_ti ha, mI_ti hb]
  exact Int.ofNat_lt
theorem mI_le {a b : Nat} (ha : a < 2147483648) (hb : b < 2147483648) : nI a ≤ nI b ↔ a ≤ b := by
  rw [Int32.le_iff_toInt_le, mI_ti ha, mI_ti hb]
  exact Int.ofNat_le
theorem mI_0 : (0 : Int32) = nI 0 := rfl
theorem ci_eq {a b : Nat} (ha : a < 2147483648) (hb : b < 2147483648) : mj_ci .eq (nI a) (nI b) = decide (a = b) := decide_eq_decide.mpr (mI_inj ha hb)
theorem ci_ne {a b : Nat} (ha : a < 2147483648) (hb : b < 2147483648) : mj_ci .ne (nI a) (nI b) = decide (¬ a = b) := decide_eq_decide.mpr (not_congr (mI_inj ha hb))
theorem ci_lt {a b : Nat} (ha : a < 2147483648) (hb : b < 2147483648) : mj_ci .lt (nI a) (nI b) = decide (a < b) := decide_eq_decide.mpr (mI_lt ha hb)
theorem ci_ge {a b : Nat} (ha : a < 2147483648) (hb : b < 2147483648) : mj_ci .ge (nI a) (nI b) = decide (b ≤ a) := decide_eq_decide.mpr (mI_le hb ha)
theorem ci_gt {a b : Nat} (ha : a < 2147483648) (hb : b < 2147483648) : mj_ci .gt (nI a) (nI b) = decide (b < a) := decide_eq_decide.mpr (mI_lt hb ha)
theorem ci_le {a b : Nat} (ha : a < 2147483648) (hb : b < 2147483648) : mj_ci .le (nI a) (nI b) = decide (a ≤ b) := decide_eq_decide.mpr (mI_le ha hb)
/-- against 0 -/
theorem cz_eq {a : Nat} (ha : a < 2147483648) : mj_ci .eq (nI a) 0 = decide (a = 0) := ci_eq ha (by decide)
theorem cz_ne {a : Nat} (ha : a < 2147483648) : mj_ci .ne (nI a) 0 = decide (¬ a = 0) := ci_ne ha (by decide)
theorem cz_lt {a : Nat} (ha : a < 2147483648) : mj_ci .lt (nI a) 0 = false := (ci_lt ha (by decide)).trans (decide_eq_false (Nat.not_lt_zero a))
theorem cz_ge {a : Nat} (ha : a < 2147483648) : mj_ci .ge (nI a) 0 = true := (ci_ge ha (by decide)).trans (decide_eq_true (Nat.zero_le a))
theorem cz_gt {a : Nat} (ha : a < 2147483648) : mj_ci .gt (nI a) 0 = decide (0 < a) := ci_gt ha (by decide)
theorem cz_le {a : Nat} (ha : a < 2147483648) : mj_ci .le (nI a) 0 = decide (a ≤ 0) := ci_le ha (by decide)
theorem inb_nI {j n : Nat} (h : j < n) (hj : j < 2147483648) : mj_inb (nI j) n = true := by
  refine mj_inb_is ?_
  rintro (q | q)
  · rw [mI_0, mI_lt hj (by decide)] at q
    omega
  · rw [mI_cl hj] at q
    omega
theorem lenok {n : Nat} (h : n ≤ 67108864) : ¬ nI n < 0 ∧ (nI n).toNatClampNeg ≤ 67108864 := by
  have hn : n < 2147483648 := by omega
  constructor
  · rw [mI_0, mI_lt hn (by decide)]
    omega
  · rw [mI_cl hn]
    exact h
/-! cells -/
theorem rd_lt {h : mj_H} {a : Nat} (ha : a < mj_CB) : mj_rd h a = h[a]? := if_pos ha
theorem rd_set {h : mj_H} {a : Nat} {c d : mj_C} (ha : a < mj_CB) (hr : mj_rd h a = some d) : mj_rd (h.set a c) a = some c := by
  rw [rd_lt ha] at hr ⊢
  have : a < h.length := by
    by_cases q : a < h.length
    · exact q
    · rw [List.getElem?_eq_none (by omega)] at hr
      cases hr
  rw [List.getElem?_set_self this]
theorem rd_setn {h : mj_H} {a b : Nat} {c : mj_C} (hn : b ≠ a) : mj_rd (h.set b c) a = mj_rd h a := by
  unfold mj_rd
  rw [List.getElem?_set_ne hn]
theorem rd_app {h t : mj_H} {a : Nat} {c : mj_C} (hr : mj_rd h a = some c) : mj_rd (h ++ t) a = some c := by
  unfold mj_rd at hr ⊢
  split at hr
  · rename_i ha
    rw [if_pos ha]
    have : a < h.length := by
      by_cases q : a < h.length
      · exact q
      · rw [List.getElem?_eq_none (by omega)] at hr
        cases hr
    rw [List.getElem?_append_left this]
    exact hr
  · rename_i ha
    rw [if_neg ha]
    exact hr
theorem rd_new {h t : mj_H} {c : mj_C} (hl : h.length < mj_CB) : mj_rd (h ++ c :: t) h.length = some c := by
  rw [rd_lt hl, List.getElem?_append_right (Nat.le_refl _), Nat.sub_self]
  rfl
theorem rd_len {h : mj_H} {a : Nat} {c : mj_C} (ha : a < mj_CB) (hr : mj_rd h a = some c) : a < h.length := by
  rw [rd_lt ha] at hr
  by_cases q : a < h.length
  · exact q
  · rw [List.getElem?_eq_none (by omega)] at hr
    cases hr
