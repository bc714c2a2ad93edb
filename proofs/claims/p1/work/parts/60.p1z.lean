/-! One call on fresh objects: all of them. -/
theorem toI_is {x : Int32} {v : Nat} (hv : v < 2147483648) (h : x.toInt = v) : x = nI v := Int32.toInt_inj.mp (h.trans (mI_ti hv).symm)
theorem toI_ex {x : Int32} (h : 0 ≤ x.toInt) : ∃ v, v < 2147483648 ∧ x = nI v := by
  have h2 := Int32.toInt_lt x
  exact ⟨x.toInt.toNat, by omega, toI_is (by omega) (by omega)⟩
theorem and63 (x : Int32) : ∃ k, k < 64 ∧ x &&& nI 63 = nI k := by
  refine ⟨x.toUInt32.toNat &&& 63, Nat.lt_of_le_of_lt Nat.and_le_right (by decide), ?_⟩
  apply Int32.toBitVec_inj.mp
  apply BitVec.eq_of_toNat_eq
  rw [Int32.toBitVec_and, BitVec.toNat_and]
  show x.toBitVec.toNat &&& 63 = (BitVec.ofNat 32 (x.toUInt32.toNat &&& 63)).toNat
  rw [BitVec.toNat_ofNat, Nat.mod_eq_of_lt (Nat.lt_of_le_of_lt Nat.and_le_right (by decide))]
  rfl
theorem p1k_1 {xs : Nat → Int32} (hk : xs 0 &&& nI 63 = nI 1) : mj_fin 4 xs mc_h0 := by
  exact p1_1 (h := mc_h0) (hk := hk)  (HL := mc_h0_len) (HZ := mc_h0_sz) (H0 := h0_0) (H1 := h0_1) (H2 := h0_2) (H400 := h0_400)
theorem p1k_2 {xs : Nat → Int32} (hk : xs 0 &&& nI 63 = nI 2) : mj_fin 4 xs mc_h0 := by
  exact p1_2 (h := mc_h0) (hk := hk)  (HL := mc_h0_len) (HZ := mc_h0_sz) (H0 := h0_0) (H1 := h0_1) (H2 := h0_2) (H4 := h0_4) (H37 := h0_37) (H400 := h0_400)
theorem p1k_3 {xs : Nat → Int32} (hk : xs 0 &&& nI 63 = nI 3) : mj_fin 4 xs mc_h0 := by
  exact p1_3 (h := mc_h0) (hk := hk)  (HL := mc_h0_len) (HZ := mc_h0_sz) (H0 := h0_0) (H1 := h0_1) (H2 := h0_2) (H4 := h0_4) (H37 := h0_37) (H400 := h0_400)
theorem p1k_4 {xs : Nat → Int32} (hk : xs 0 &&& nI 63 = nI 4) : mj_fin 4 xs mc_h0 := by
  exact p1_4 (h := mc_h0) (hk := hk)  (HL := mc_h0_len) (HZ := mc_h0_sz) (H0 := h0_0) (H1 := h0_1) (H2 := h0_2) (H4 := h0_4) (H37 := h0_37) (H38 := h0_38) (H39 := h0_39) (H77 := h0_77) (H78 := h0_78) (H80 := h0_80) (H113 := h0_113) (H400 := h0_400) (H401 := h0_401) (H412 := h0_412)
theorem p1k_12 {xs : Nat → Int32} (hk : xs 0 &&& nI 63 = nI 12) : mj_fin 4 xs mc_h0 := by
  exact p1_12 (h := mc_h0) (hk := hk)  (HL := mc_h0_len) (HZ := mc_h0_sz) (H0 := h0_0) (H375 := h0_375) (H400 := h0_400) (H402 := h0_402)
theorem p1k_16 {xs : Nat → Int32} (hk : xs 0 &&& nI 63 = nI 16) : mj_fin 4 xs mc_h0 := by
  exact p1_16 (h := mc_h0) (hk := hk)  (HL := mc_h0_len) (HZ := mc_h0_sz) (H0 := h0_0) (H381 := h0_381) (H400 := h0_400) (H402 := h0_402)
theorem p1k_17 {xs : Nat → Int32} (hk : xs 0 &&& nI 63 = nI 17) : mj_fin 4 xs mc_h0 := by
  exact p1_17 (h := mc_h0) (hk := hk)  (HL := mc_h0_len) (HZ := mc_h0_sz) (H0 := h0_0) (H381 := h0_381) (H400 := h0_400) (H402 := h0_402)
theorem p1k_18 {xs : Nat → Int32} (hk : xs 0 &&& nI 63 = nI 18) : mj_fin 4 xs mc_h0 := by
  exact p1_18 (h := mc_h0) (hk := hk)  (HL := mc_h0_len) (HZ := mc_h0_sz) (H0 := h0_0) (H381 := h0_381) (H400 := h0_400) (H402 := h0_402)
theorem p1k_19 {xs : Nat → Int32} (hk : xs 0 &&& nI 63 = nI 19) : mj_fin 4 xs mc_h0 := by
  exact p1_19 (h := mc_h0) (hk := hk)  (HL := mc_h0_len) (HZ := mc_h0_sz) (H0 := h0_0) (H381 := h0_381) (H400 := h0_400) (H402 := h0_402)
theorem p1k_20 {xs : Nat → Int32} (hk : xs 0 &&& nI 63 = nI 20) : mj_fin 4 xs mc_h0 := by
  exact p1_20 (h := mc_h0) (hk := hk)  (HL := mc_h0_len) (HZ := mc_h0_sz) (H0 := h0_0) (H381 := h0_381) (H400 := h0_400) (H402 := h0_402)
theorem p1k_25 {xs : Nat → Int32} (hk : xs 0 &&& nI 63 = nI 25) : mj_fin 4 xs mc_h0 := by
  exact p1_25 (h := mc_h0) (hk := hk)  (HL := mc_h0_len) (HZ := mc_h0_sz) (H0 := h0_0) (H400 := h0_400)
theorem p1k_30 {xs : Nat → Int32} (hk : xs 0 &&& nI 63 = nI 30) : mj_fin 4 xs mc_h0 := by
  exact p1_30 (h := mc_h0) (hk := hk)  (HL := mc_h0_len) (HZ := mc_h0_sz) (H0 := h0_0) (H393 := h0_393) (H400 := h0_400) (H410 := h0_410)
theorem p1k_31 {xs : Nat → Int32} (hk : xs 0 &&& nI 63 = nI 31) : mj_fin 4 xs mc_h0 := by
  exact p1_31 (h := mc_h0) (hk := hk)  (HL := mc_h0_len) (HZ := mc_h0_sz) (H0 := h0_0) (H393 := h0_393) (H400 := h0_400) (H410 := h0_410)
theorem p1k_34 {xs : Nat → Int32} (hk : xs 0 &&& nI 63 = nI 34) : mj_fin 4 xs mc_h0 := by
  exact p1_34 (h := mc_h0) (hk := hk)  (HL := mc_h0_len) (HZ := mc_h0_sz) (H0 := h0_0) (H393 := h0_393) (H394 := h0_394) (H400 := h0_400) (H410 := h0_410)
theorem p1k_35 {xs : Nat → Int32} (hk : xs 0 &&& nI 63 = nI 35) : mj_fin 4 xs mc_h0 := by
  exact p1_35 (h := mc_h0) (hk := hk)  (HL := mc_h0_len) (HZ := mc_h0_sz) (H0 := h0_0) (H393 := h0_393) (H400 := h0_400) (H410 := h0_410)
theorem p1k_36 {xs : Nat → Int32} (hk : xs 0 &&& nI 63 = nI 36) : mj_fin 4 xs mc_h0 := by
  exact p1_36 (h := mc_h0) (hk := hk)  (HL := mc_h0_len) (HZ := mc_h0_sz) (H0 := h0_0) (H393 := h0_393) (H395 := h0_395) (H400 := h0_400) (H410 := h0_410)
theorem p1k_38 {xs : Nat → Int32} (hk : xs 0 &&& nI 63 = nI 38) : mj_fin 4 xs mc_h0 := by
  exact p1_38 (h := mc_h0) (hk := hk)  (HL := mc_h0_len) (HZ := mc_h0_sz) (H0 := h0_0) (H393 := h0_393) (H400 := h0_400) (H410 := h0_410)
theorem p1k_39 {xs : Nat → Int32} (hk : xs 0 &&& nI 63 = nI 39) : mj_fin 4 xs mc_h0 := by
  exact p1_39 (h := mc_h0) (hk := hk)  (HL := mc_h0_len) (HZ := mc_h0_sz) (H0 := h0_0) (H393 := h0_393) (H400 := h0_400) (H410 := h0_410)
theorem p1k_40 {xs : Nat → Int32} (hk : xs 0 &&& nI 63 = nI 40) : mj_fin 4 xs mc_h0 := by
  exact p1_40 (h := mc_h0) (hk := hk)  (HL := mc_h0_len) (HZ := mc_h0_sz) (H0 := h0_0) (H393 := h0_393) (H400 := h0_400) (H410 := h0_410)
theorem p1k_42 {xs : Nat → Int32} (hk : xs 0 &&& nI 63 = nI 42) : mj_fin 4 xs mc_h0 := by
  exact p1_42 (h := mc_h0) (hk := hk)  (HL := mc_h0_len) (HZ := mc_h0_sz) (H0 := h0_0) (H397 := h0_397) (H399 := h0_399) (H400 := h0_400) (H411 := h0_411)
theorem p1k_43 {xs : Nat → Int32} (hk : xs 0 &&& nI 63 = nI 43) : mj_fin 4 xs mc_h0 := by
  exact p1_43 (h := mc_h0) (hk := hk)  (HL := mc_h0_len) (HZ := mc_h0_sz) (H0 := h0_0) (H397 := h0_397) (H399 := h0_399) (H400 := h0_400) (H411 := h0_411)
theorem p1k_46 {xs : Nat → Int32} (hk : xs 0 &&& nI 63 = nI 46) : mj_fin 4 xs mc_h0 := by
  exact p1_46 (h := mc_h0) (hk := hk)  (HL := mc_h0_len) (HZ := mc_h0_sz) (H0 := h0_0) (H38 := h0_38) (H400 := h0_400) (H401 := h0_401)
theorem p1k_47 {xs : Nat → Int32} (hk : xs 0 &&& nI 63 = nI 47) : mj_fin 4 xs mc_h0 := by
  exact p1_47 (h := mc_h0) (hk := hk)  (HL := mc_h0_len) (HZ := mc_h0_sz) (H0 := h0_0) (H375 := h0_375) (H376 := h0_376) (H400 := h0_400) (H402 := h0_402) (H403 := h0_403)
theorem p1k_48 {xs : Nat → Int32} (hk : xs 0 &&& nI 63 = nI 48) : mj_fin 4 xs mc_h0 := by
  exact p1_48 (h := mc_h0) (hk := hk)  (HL := mc_h0_len) (HZ := mc_h0_sz) (H0 := h0_0) (H38 := h0_38) (H400 := h0_400) (H401 := h0_401)
theorem p1k_49 {xs : Nat → Int32} (hk : xs 0 &&& nI 63 = nI 49) : mj_fin 4 xs mc_h0 := by
  exact p1_49 (h := mc_h0) (hk := hk)  (HL := mc_h0_len) (HZ := mc_h0_sz) (H0 := h0_0) (H38 := h0_38) (H393 := h0_393) (H394 := h0_394) (H395 := h0_395) (H400 := h0_400)
theorem p1k_50 {xs : Nat → Int32} (hk : xs 0 &&& nI 63 = nI 50) : mj_fin 4 xs mc_h0 := by
  exact p1_50 (h := mc_h0) (hk := hk)  (HL := mc_h0_len) (HZ := mc_h0_sz) 
theorem p1k_51 {xs : Nat → Int32} (hk : xs 0 &&& nI 63 = nI 51) : mj_fin 4 xs mc_h0 := by
  exact p1_51 (h := mc_h0) (hk := hk)  (HL := mc_h0_len) (HZ := mc_h0_sz) 
theorem p1k_52 {xs : Nat → Int32} (hk : xs 0 &&& nI 63 = nI 52) : mj_fin 4 xs mc_h0 := by
  exact p1_52 (h := mc_h0) (hk := hk)  (HL := mc_h0_len) (HZ := mc_h0_sz) 
theorem p1k_53 {xs : Nat → Int32} (hk : xs 0 &&& nI 63 = nI 53) : mj_fin 4 xs mc_h0 := by
  exact p1_53 (h := mc_h0) (hk := hk)  (HL := mc_h0_len) (HZ := mc_h0_sz) 
theorem p1k_54 {xs : Nat → Int32} (hk : xs 0 &&& nI 63 = nI 54) : mj_fin 4 xs mc_h0 := by
  exact p1_54 (h := mc_h0) (hk := hk)  (HL := mc_h0_len) (HZ := mc_h0_sz) 
theorem p1k_55 {xs : Nat → Int32} (hk : xs 0 &&& nI 63 = nI 55) : mj_fin 4 xs mc_h0 := by
  exact p1_55 (h := mc_h0) (hk := hk)  (HL := mc_h0_len) (HZ := mc_h0_sz) 
theorem p1k_56 {xs : Nat → Int32} (hk : xs 0 &&& nI 63 = nI 56) : mj_fin 4 xs mc_h0 := by
  exact p1_56 (h := mc_h0) (hk := hk)  (HL := mc_h0_len) (HZ := mc_h0_sz) 
theorem p1k_57 {xs : Nat → Int32} (hk : xs 0 &&& nI 63 = nI 57) : mj_fin 4 xs mc_h0 := by
  exact p1_57 (h := mc_h0) (hk := hk)  (HL := mc_h0_len) (HZ := mc_h0_sz) 
theorem p1k_58 {xs : Nat → Int32} (hk : xs 0 &&& nI 63 = nI 58) : mj_fin 4 xs mc_h0 := by
  exact p1_58 (h := mc_h0) (hk := hk)  (HL := mc_h0_len) (HZ := mc_h0_sz) 
theorem p1k_59 {xs : Nat → Int32} (hk : xs 0 &&& nI 63 = nI 59) : mj_fin 4 xs mc_h0 := by
  exact p1_59 (h := mc_h0) (hk := hk)  (HL := mc_h0_len) (HZ := mc_h0_sz) 
theorem p1k_60 {xs : Nat → Int32} (hk : xs 0 &&& nI 63 = nI 60) : mj_fin 4 xs mc_h0 := by
  exact p1_60 (h := mc_h0) (hk := hk)  (HL := mc_h0_len) (HZ := mc_h0_sz) 
theorem p1k_61 {xs : Nat → Int32} (hk : xs 0 &&& nI 63 = nI 61) : mj_fin 4 xs mc_h0 := by
  exact p1_61 (h := mc_h0) (hk := hk)  (HL := mc_h0_len) (HZ := mc_h0_sz) 
theorem p1k_62 {xs : Nat → Int32} (hk : xs 0 &&& nI 63 = nI 62) : mj_fin 4 xs mc_h0 := by
  exact p1_62 (h := mc_h0) (hk := hk)  (HL := mc_h0_len) (HZ := mc_h0_sz) 
theorem p1k_63 {xs : Nat → Int32} (hk : xs 0 &&& nI 63 = nI 63) : mj_fin 4 xs mc_h0 := by
  exact p1_63 (h := mc_h0) (hk := hk)  (HL := mc_h0_len) (HZ := mc_h0_sz) 
theorem p1k_5 {xs : Nat → Int32} (hk : xs 0 &&& nI 63 = nI 5) : mj_fin 4 xs mc_h0 := by
  by_cases q : (xs 1).toInt < 0
  · exact p1_5_n (h := mc_h0) (hk := hk) (hx1 := rfl) (hp := q) (HL := mc_h0_len) (HZ := mc_h0_sz) (H0 := h0_0) (H38 := h0_38) (H400 := h0_400) (H401 := h0_401)
  · exact p1_5_p (h := mc_h0) (hk := hk) (hx1 := rfl) (hp := (by omega)) (HL := mc_h0_len) (HZ := mc_h0_sz) (H0 := h0_0) (H38 := h0_38) (H400 := h0_400) (H401 := h0_401)
theorem p1k_6 {xs : Nat → Int32} (hk : xs 0 &&& nI 63 = nI 6) : mj_fin 4 xs mc_h0 := by
  by_cases q : (xs 1).toInt < 0
  · exact p1_6_n (h := mc_h0) (hk := hk) (hx1 := rfl) (hp := q) (HL := mc_h0_len) (HZ := mc_h0_sz) (H0 := h0_0) (H38 := h0_38) (H400 := h0_400) (H401 := h0_401)
  · exact p1_6_p (h := mc_h0) (hk := hk) (hx1 := rfl) (hp := (by omega)) (HL := mc_h0_len) (HZ := mc_h0_sz) (H0 := h0_0) (H38 := h0_38) (H400 := h0_400) (H401 := h0_401)
theorem p1k_8 {xs : Nat → Int32} (hk : xs 0 &&& nI 63 = nI 8) : mj_fin 4 xs mc_h0 := by
  by_cases q : (xs 1).toInt < 0
  · exact p1_8_n (h := mc_h0) (hk := hk) (hx1 := rfl) (hp := q) (HL := mc_h0_len) (HZ := mc_h0_sz) (H0 := h0_0) (H38 := h0_38) (H400 := h0_400) (H401 := h0_401)
  · exact p1_8_p (h := mc_h0) (hk := hk) (hx1 := rfl) (hp := (by omega)) (HL := mc_h0_len) (HZ := mc_h0_sz) (H0 := h0_0) (H38 := h0_38) (H400 := h0_400) (H401 := h0_401)
theorem p1k_7 {xs : Nat → Int32} (hk : xs 0 &&& nI 63 = nI 7) : mj_fin 4 xs mc_h0 := by
  by_cases q : (xs 1).toInt < 0
  · exact p1_7_n (h := mc_h0) (hk := hk) (hx1 := rfl) (hp := q) (HL := mc_h0_len) (HZ := mc_h0_sz) (H0 := h0_0) (H38 := h0_38) (H400 := h0_400) (H401 := h0_401)
  · exact p1_7_p (h := mc_h0) (hk := hk) (hx1 := rfl) (hp := (by omega)) (HL := mc_h0_len) (HZ := mc_h0_sz) (H0 := h0_0) (H38 := h0_38) (H400 := h0_400) (H401 := h0_401)
theorem p1k_9 {xs : Nat → Int32} (hk : xs 0 &&& nI 63 = nI 9) : mj_fin 4 xs mc_h0 := by
  by_cases q : (xs 1).toInt < 0
  · exact p1_9_n (h := mc_h0) (hk := hk) (hx1 := rfl) (hp := q) (HL := mc_h0_len) (HZ := mc_h0_sz) (H0 := h0_0) (H38 := h0_38) (H400 := h0_400) (H401 := h0_401)
  · exact p1_9_p (h := mc_h0) (hk := hk) (hx1 := rfl) (hp := (by omega)) (HL := mc_h0_len) (HZ := mc_h0_sz) (H0 := h0_0) (H38 := h0_38) (H400 := h0_400) (H401 := h0_401)
theorem p1k_13 {xs : Nat → Int32} (hk : xs 0 &&& nI 63 = nI 13) : mj_fin 4 xs mc_h0 := by
  by_cases q : (xs 1).toInt < 0
  · exact p1_13_n (h := mc_h0) (hk := hk) (hx1 := rfl) (hp := q) (HL := mc_h0_len) (HZ := mc_h0_sz) (H0 := h0_0) (H400 := h0_400) (H402 := h0_402)
  · exact p1_13_p (h := mc_h0) (hk := hk) (hx1 := rfl) (hp := (by omega)) (HL := mc_h0_len) (HZ := mc_h0_sz) (H0 := h0_0) (H375 := h0_375) (H400 := h0_400) (H402 := h0_402)
theorem p1k_21 {xs : Nat → Int32} (hk : xs 0 &&& nI 63 = nI 21) : mj_fin 4 xs mc_h0 := by
  by_cases q : (xs 1).toInt < 0
  · exact p1_21_n (h := mc_h0) (hk := hk) (hx1 := rfl) (hp := q) (HL := mc_h0_len) (HZ := mc_h0_sz) (H0 := h0_0) (H381 := h0_381) (H400 := h0_400) (H402 := h0_402)
  · exact p1_21_p (h := mc_h0) (hk := hk) (hx1 := rfl) (hp := (by omega)) (HL := mc_h0_len) (HZ := mc_h0_sz) (H0 := h0_0) (H381 := h0_381) (H400 := h0_400) (H402 := h0_402)
theorem p1k_22 {xs : Nat → Int32} (hk : xs 0 &&& nI 63 = nI 22) : mj_fin 4 xs mc_h0 := by
  by_cases q : (xs 1).toInt < 0
  · exact p1_22_n (h := mc_h0) (hk := hk) (hx1 := rfl) (hp := q) (HL := mc_h0_len) (HZ := mc_h0_sz) (H0 := h0_0) (H381 := h0_381) (H400 := h0_400) (H402 := h0_402)
  · exact p1_22_p (h := mc_h0) (hk := hk) (hx1 := rfl) (hp := (by omega)) (HL := mc_h0_len) (HZ := mc_h0_sz) (H0 := h0_0) (H381 := h0_381) (H400 := h0_400) (H402 := h0_402)
theorem p1k_37 {xs : Nat → Int32} (hk : xs 0 &&& nI 63 = nI 37) : mj_fin 4 xs mc_h0 := by
  by_cases q : (xs 1).toInt < 0
  · exact p1_37_n (h := mc_h0) (hk := hk) (hx1 := rfl) (hp := q) (HL := mc_h0_len) (HZ := mc_h0_sz) (H0 := h0_0) (H393 := h0_393) (H395 := h0_395) (H400 := h0_400) (H410 := h0_410)
  · exact p1_37_p (h := mc_h0) (hk := hk) (hx1 := rfl) (hp := (by omega)) (HL := mc_h0_len) (HZ := mc_h0_sz) (H0 := h0_0) (H393 := h0_393) (H395 := h0_395) (H400 := h0_400) (H410 := h0_410)
theorem p1k_14 {xs : Nat → Int32} (hk : xs 0 &&& nI 63 = nI 14) : mj_fin 4 xs mc_h0 := by
  by_cases q : (xs 1).toInt < 0
  · by_cases y : (xs 2).toInt = 0
    · exact p1_14_n0 (h := mc_h0) (hk := hk) (hx1 := rfl) (hx2 := rfl) (hp := q) (hy := y) (HL := mc_h0_len) (HZ := mc_h0_sz) (H0 := h0_0) (H38 := h0_38) (H400 := h0_400) (H401 := h0_401)
    · exact p1_14_n1 (h := mc_h0) (hk := hk) (hx1 := rfl) (hx2 := rfl) (hp := q) (hy := y) (HL := mc_h0_len) (HZ := mc_h0_sz) (H0 := h0_0) (H38 := h0_38) (H400 := h0_400) (H401 := h0_401)
  · by_cases y : (xs 2).toInt = 0
    · exact p1_14_p0 (h := mc_h0) (hk := hk) (hx1 := rfl) (hx2 := rfl) (hp := (by omega)) (hy := y) (HL := mc_h0_len) (HZ := mc_h0_sz) (H0 := h0_0) (H38 := h0_38) (H400 := h0_400) (H401 := h0_401)
    · exact p1_14_p1 (h := mc_h0) (hk := hk) (hx1 := rfl) (hx2 := rfl) (hp := (by omega)) (hy := y) (HL := mc_h0_len) (HZ := mc_h0_sz) (H0 := h0_0) (H38 := h0_38) (H400 := h0_400) (H401 := h0_401)
theorem p1k_23 {xs : Nat → Int32} (hk : xs 0 &&& nI 63 = nI 23) : mj_fin 4 xs mc_h0 := by
  by_cases q : (xs 1).toInt < 0
  · by_cases y : (xs 2).toInt = 0
    · exact p1_23_n0 (h := mc_h0) (hk := hk) (hx1 := rfl) (hx2 := rfl) (hp := q) (hy := y) (HL := mc_h0_len) (HZ := mc_h0_sz) (H0 := h0_0) (H38 := h0_38) (H400 := h0_400) (H401 := h0_401)
    · exact p1_23_n1 (h := mc_h0) (hk := hk) (hx1 := rfl) (hx2 := rfl) (hp := q) (hy := y) (HL := mc_h0_len) (HZ := mc_h0_sz) (H0 := h0_0) (H38 := h0_38) (H400 := h0_400) (H401 := h0_401)
  · by_cases y : (xs 2).toInt = 0
    · exact p1_23_p0 (h := mc_h0) (hk := hk) (hx1 := rfl) (hx2 := rfl) (hp := (by omega)) (hy := y) (HL := mc_h0_len) (HZ := mc_h0_sz) (H0 := h0_0) (H38 := h0_38) (H400 := h0_400) (H401 := h0_401)
    · exact p1_23_p1 (h := mc_h0) (hk := hk) (hx1 := rfl) (hx2 := rfl) (hp := (by omega)) (hy := y) (HL := mc_h0_len) (HZ := mc_h0_sz) (H0 := h0_0) (H38 := h0_38) (H400 := h0_400) (H401 := h0_401)
theorem p1k_15 {xs : Nat → Int32} (hk : xs 0 &&& nI 63 = nI 15) : mj_fin 4 xs mc_h0 := by
  by_cases q : (xs 1).toInt < 1
  · by_cases y : (xs 2).toInt = 0
    · exact p1_15_n0 (h := mc_h0) (hk := hk) (hx1 := rfl) (hx2 := rfl) (hp := q) (hy := y) (HL := mc_h0_len) (HZ := mc_h0_sz) (H0 := h0_0) (H400 := h0_400)
    · exact p1_15_n1 (h := mc_h0) (hk := hk) (hx1 := rfl) (hx2 := rfl) (hp := q) (hy := y) (HL := mc_h0_len) (HZ := mc_h0_sz) (H0 := h0_0) (H400 := h0_400)
  · by_cases q2 : 500 < (xs 1).toInt
    · by_cases y : (xs 2).toInt = 0
      · exact p1_15_m0 (h := mc_h0) (hk := hk) (hx1 := rfl) (hx2 := rfl) (hp := q2) (hy := y) (HL := mc_h0_len) (HZ := mc_h0_sz) (H0 := h0_0) (H400 := h0_400)
      · exact p1_15_m1 (h := mc_h0) (hk := hk) (hx1 := rfl) (hx2 := rfl) (hp := q2) (hy := y) (HL := mc_h0_len) (HZ := mc_h0_sz) (H0 := h0_0) (H400 := h0_400)
    · by_cases y : (xs 2).toInt = 0
      · exact p1_15_o0 (h := mc_h0) (hk := hk) (hx1 := rfl) (hx2 := rfl) (hp := ⟨by omega, by omega⟩) (hy := y) (HL := mc_h0_len) (HZ := mc_h0_sz) (H0 := h0_0) (H381 := h0_381) (H400 := h0_400) (H402 := h0_402)
      · exact p1_15_o1 (h := mc_h0) (hk := hk) (hx1 := rfl) (hx2 := rfl) (hp := ⟨by omega, by omega⟩) (hy := y) (HL := mc_h0_len) (HZ := mc_h0_sz) (H0 := h0_0) (H381 := h0_381) (H400 := h0_400) (H402 := h0_402)
theorem p1k_10 {xs : Nat → Int32} (hk : xs 0 &&& nI 63 = nI 10) : mj_fin 4 xs mc_h0 := by
  obtain ⟨n, hn, hc⟩ := i2c_is (xs 1)
  by_cases q : n < 97
  · exact p1_10_n (h := mc_h0) (hk := hk) (hc := hc) (hcc := (by rw [mI_ti (by omega)]; omega)) (HL := mc_h0_len) (HZ := mc_h0_sz) (H0 := h0_0) (H400 := h0_400)
  · by_cases q2 : 104 < n
    · exact p1_10_m (h := mc_h0) (hk := hk) (hc := hc) (hcc := (by rw [mI_ti (by omega)]; omega)) (HL := mc_h0_len) (HZ := mc_h0_sz) (H0 := h0_0) (H400 := h0_400)
    · obtain rfl | rfl | rfl | rfl | rfl | rfl | rfl | rfl : n = 97 ∨ n = 98 ∨ n = 99 ∨ n = 100 ∨ n = 101 ∨ n = 102 ∨ n = 103 ∨ n = 104 := by omega
      · exact p1_10_0 (h := mc_h0) (hk := hk) (hc := hc) (HL := mc_h0_len) (HZ := mc_h0_sz) (H0 := h0_0) (H375 := h0_375) (H376 := h0_376) (H400 := h0_400) (H402 := h0_402) (H403 := h0_403) (H412 := h0_412)
      · exact p1_10_1 (h := mc_h0) (hk := hk) (hc := hc) (HL := mc_h0_len) (HZ := mc_h0_sz) (H0 := h0_0) (H375 := h0_375) (H376 := h0_376) (H400 := h0_400) (H402 := h0_402) (H403 := h0_403) (H412 := h0_412)
      · exact p1_10_2 (h := mc_h0) (hk := hk) (hc := hc) (HL := mc_h0_len) (HZ := mc_h0_sz) (H0 := h0_0) (H375 := h0_375) (H376 := h0_376) (H400 := h0_400) (H402 := h0_402) (H403 := h0_403) (H412 := h0_412)
      · exact p1_10_3 (h := mc_h0) (hk := hk) (hc := hc) (HL := mc_h0_len) (HZ := mc_h0_sz) (H0 := h0_0) (H375 := h0_375) (H376 := h0_376) (H400 := h0_400) (H402 := h0_402) (H403 := h0_403) (H412 := h0_412)
      · exact p1_10_4 (h := mc_h0) (hk := hk) (hc := hc) (HL := mc_h0_len) (HZ := mc_h0_sz) (H0 := h0_0) (H375 := h0_375) (H376 := h0_376) (H400 := h0_400) (H402 := h0_402) (H403 := h0_403) (H412 := h0_412)
      · exact p1_10_5 (h := mc_h0) (hk := hk) (hc := hc) (HL := mc_h0_len) (HZ := mc_h0_sz) (H0 := h0_0) (H375 := h0_375) (H376 := h0_376) (H400 := h0_400) (H402 := h0_402) (H403 := h0_403) (H412 := h0_412)
      · exact p1_10_6 (h := mc_h0) (hk := hk) (hc := hc) (HL := mc_h0_len) (HZ := mc_h0_sz) (H0 := h0_0) (H375 := h0_375) (H376 := h0_376) (H400 := h0_400) (H402 := h0_402) (H403 := h0_403) (H412 := h0_412)
      · exact p1_10_7 (h := mc_h0) (hk := hk) (hc := hc) (HL := mc_h0_len) (HZ := mc_h0_sz) (H0 := h0_0) (H375 := h0_375) (H376 := h0_376) (H400 := h0_400) (H402 := h0_402) (H403 := h0_403) (H412 := h0_412)
theorem p1k_11 {xs : Nat → Int32} (hk : xs 0 &&& nI 63 = nI 11) : mj_fin 4 xs mc_h0 := by
  obtain ⟨n, hn, hc⟩ := i2c_is (xs 1)
  by_cases q : n < 97
  · exact p1_11_n (h := mc_h0) (hk := hk) (hc := hc) (hcc := (by rw [mI_ti (by omega)]; omega)) (HL := mc_h0_len) (HZ := mc_h0_sz) (H0 := h0_0) (H400 := h0_400)
  · by_cases q2 : 104 < n
    · exact p1_11_m (h := mc_h0) (hk := hk) (hc := hc) (hcc := (by rw [mI_ti (by omega)]; omega)) (HL := mc_h0_len) (HZ := mc_h0_sz) (H0 := h0_0) (H400 := h0_400)
    · obtain rfl | rfl | rfl | rfl | rfl | rfl | rfl | rfl : n = 97 ∨ n = 98 ∨ n = 99 ∨ n = 100 ∨ n = 101 ∨ n = 102 ∨ n = 103 ∨ n = 104 := by omega
      · exact p1_11_0 (h := mc_h0) (hk := hk) (hc := hc) (HL := mc_h0_len) (HZ := mc_h0_sz) (H0 := h0_0) (H375 := h0_375) (H376 := h0_376) (H400 := h0_400) (H402 := h0_402) (H403 := h0_403) (H412 := h0_412)
      · exact p1_11_1 (h := mc_h0) (hk := hk) (hc := hc) (HL := mc_h0_len) (HZ := mc_h0_sz) (H0 := h0_0) (H375 := h0_375) (H376 := h0_376) (H400 := h0_400) (H402 := h0_402) (H403 := h0_403) (H412 := h0_412)
      · exact p1_11_2 (h := mc_h0) (hk := hk) (hc := hc) (HL := mc_h0_len) (HZ := mc_h0_sz) (H0 := h0_0) (H375 := h0_375) (H376 := h0_376) (H400 := h0_400) (H402 := h0_402) (H403 := h0_403) (H412 := h0_412)
      · exact p1_11_3 (h := mc_h0) (hk := hk) (hc := hc) (HL := mc_h0_len) (HZ := mc_h0_sz) (H0 := h0_0) (H375 := h0_375) (H376 := h0_376) (H400 := h0_400) (H402 := h0_402) (H403 := h0_403) (H412 := h0_412)
      · exact p1_11_4 (h := mc_h0) (hk := hk) (hc := hc) (HL := mc_h0_len) (HZ := mc_h0_sz) (H0 := h0_0) (H375 := h0_375) (H376 := h0_376) (H400 := h0_400) (H402 := h0_402) (H403 := h0_403) (H412 := h0_412)
      · exact p1_11_5 (h := mc_h0) (hk := hk) (hc := hc) (HL := mc_h0_len) (HZ := mc_h0_sz) (H0 := h0_0) (H375 := h0_375) (H376 := h0_376) (H400 := h0_400) (H402 := h0_402) (H403 := h0_403) (H412 := h0_412)
      · exact p1_11_6 (h := mc_h0) (hk := hk) (hc := hc) (HL := mc_h0_len) (HZ := mc_h0_sz) (H0 := h0_0) (H375 := h0_375) (H376 := h0_376) (H400 := h0_400) (H402 := h0_402) (H403 := h0_403) (H412 := h0_412)
      · exact p1_11_7 (h := mc_h0) (hk := hk) (hc := hc) (HL := mc_h0_len) (HZ := mc_h0_sz) (H0 := h0_0) (H375 := h0_375) (H376 := h0_376) (H400 := h0_400) (H402 := h0_402) (H403 := h0_403) (H412 := h0_412)
theorem p1k_24 {xs : Nat → Int32} (hk : xs 0 &&& nI 63 = nI 24) : mj_fin 4 xs mc_h0 := by
  obtain ⟨n, hn, hc⟩ := i2c_is (xs 1)
  by_cases q : n < 97
  · exact p1_24_n (h := mc_h0) (hk := hk) (hc := hc) (hcc := (by rw [mI_ti (by omega)]; omega)) (HL := mc_h0_len) (HZ := mc_h0_sz) (H0 := h0_0) (H400 := h0_400)
  · by_cases q2 : 104 < n
    · exact p1_24_m (h := mc_h0) (hk := hk) (hc := hc) (hcc := (by rw [mI_ti (by omega)]; omega)) (HL := mc_h0_len) (HZ := mc_h0_sz) (H0 := h0_0) (H400 := h0_400)
    · obtain rfl | rfl | rfl | rfl | rfl | rfl | rfl | rfl : n = 97 ∨ n = 98 ∨ n = 99 ∨ n = 100 ∨ n = 101 ∨ n = 102 ∨ n = 103 ∨ n = 104 := by omega
      · exact p1_24_0 (h := mc_h0) (hk := hk) (hc := hc) (HL := mc_h0_len) (HZ := mc_h0_sz) (H0 := h0_0) (H375 := h0_375) (H376 := h0_376) (H400 := h0_400) (H402 := h0_402) (H403 := h0_403) (H412 := h0_412)
      · exact p1_24_1 (h := mc_h0) (hk := hk) (hc := hc) (HL := mc_h0_len) (HZ := mc_h0_sz) (H0 := h0_0) (H375 := h0_375) (H376 := h0_376) (H400 := h0_400) (H402 := h0_402) (H403 := h0_403) (H412 := h0_412)
      · exact p1_24_2 (h := mc_h0) (hk := hk) (hc := hc) (HL := mc_h0_len) (HZ := mc_h0_sz) (H0 := h0_0) (H375 := h0_375) (H376 := h0_376) (H400 := h0_400) (H402 := h0_402) (H403 := h0_403) (H412 := h0_412)
      · exact p1_24_3 (h := mc_h0) (hk := hk) (hc := hc) (HL := mc_h0_len) (HZ := mc_h0_sz) (H0 := h0_0) (H375 := h0_375) (H376 := h0_376) (H400 := h0_400) (H402 := h0_402) (H403 := h0_403) (H412 := h0_412)
      · exact p1_24_4 (h := mc_h0) (hk := hk) (hc := hc) (HL := mc_h0_len) (HZ := mc_h0_sz) (H0 := h0_0) (H375 := h0_375) (H376 := h0_376) (H400 := h0_400) (H402 := h0_402) (H403 := h0_403) (H412 := h0_412)
      · exact p1_24_5 (h := mc_h0) (hk := hk) (hc := hc) (HL := mc_h0_len) (HZ := mc_h0_sz) (H0 := h0_0) (H375 := h0_375) (H376 := h0_376) (H400 := h0_400) (H402 := h0_402) (H403 := h0_403) (H412 := h0_412)
      · exact p1_24_6 (h := mc_h0) (hk := hk) (hc := hc) (HL := mc_h0_len) (HZ := mc_h0_sz) (H0 := h0_0) (H375 := h0_375) (H376 := h0_376) (H400 := h0_400) (H402 := h0_402) (H403 := h0_403) (H412 := h0_412)
      · exact p1_24_7 (h := mc_h0) (hk := hk) (hc := hc) (HL := mc_h0_len) (HZ := mc_h0_sz) (H0 := h0_0) (H375 := h0_375) (H376 := h0_376) (H400 := h0_400) (H402 := h0_402) (H403 := h0_403) (H412 := h0_412)
theorem p1k_26 {xs : Nat → Int32} (hk : xs 0 &&& nI 63 = nI 26) : mj_fin 4 xs mc_h0 := by
  by_cases q : (xs 1).toInt < 0
  · exact p1_26_n (h := mc_h0) (hk := hk) (hx1 := rfl) (hc := rfl) (hp := q) (HL := mc_h0_len) (HZ := mc_h0_sz) (H0 := h0_0) (H38 := h0_38) (H400 := h0_400) (H401 := h0_401)
  · exact p1_26_p (h := mc_h0) (hk := hk) (hx1 := rfl) (hc := rfl) (hp := (by omega)) (HL := mc_h0_len) (HZ := mc_h0_sz) (H0 := h0_0) (H38 := h0_38) (H400 := h0_400) (H401 := h0_401)
theorem p1k_27 {xs : Nat → Int32} (hk : xs 0 &&& nI 63 = nI 27) : mj_fin 4 xs mc_h0 := by
  by_cases q : (xs 1).toInt < 0
  · exact p1_27_n (h := mc_h0) (hk := hk) (hx1 := rfl) (hc := rfl) (hp := q) (HL := mc_h0_len) (HZ := mc_h0_sz) (H0 := h0_0) (H38 := h0_38) (H400 := h0_400) (H401 := h0_401)
  · exact p1_27_p (h := mc_h0) (hk := hk) (hx1 := rfl) (hc := rfl) (hp := (by omega)) (HL := mc_h0_len) (HZ := mc_h0_sz) (H0 := h0_0) (H38 := h0_38) (H400 := h0_400) (H401 := h0_401)
theorem p1k_28 {xs : Nat → Int32} (hk : xs 0 &&& nI 63 = nI 28) : mj_fin 4 xs mc_h0 := by
  by_cases q : (xs 1).toInt < 0
  · exact p1_28_n (h := mc_h0) (hk := hk) (hx1 := rfl) (hc := rfl) (hp := q) (HL := mc_h0_len) (HZ := mc_h0_sz) (H0 := h0_0) (H38 := h0_38) (H400 := h0_400) (H401 := h0_401)
  · exact p1_28_p (h := mc_h0) (hk := hk) (hx1 := rfl) (hc := rfl) (hp := (by omega)) (HL := mc_h0_len) (HZ := mc_h0_sz) (H0 := h0_0) (H38 := h0_38) (H400 := h0_400) (H401 := h0_401)
theorem p1k_29 {xs : Nat → Int32} (hk : xs 0 &&& nI 63 = nI 29) : mj_fin 4 xs mc_h0 := by
  by_cases q : (xs 1).toInt < 0
  · exact p1_29_n (h := mc_h0) (hk := hk) (hx1 := rfl) (hp := q) (HL := mc_h0_len) (HZ := mc_h0_sz) (H0 := h0_0) (H400 := h0_400)
  · by_cases q2 : 2 < (xs 1).toInt
    · exact p1_29_m (h := mc_h0) (hk := hk) (hx1 := rfl) (hp := q2) (HL := mc_h0_len) (HZ := mc_h0_sz) (H0 := h0_0) (H400 := h0_400)
    · obtain t1 | t1 | t1 : (xs 1).toInt = 0 ∨ (xs 1).toInt = 1 ∨ (xs 1).toInt = 2 := by omega
      · by_cases r : (xs 2).toInt < 0
        · exact p1_29_0n (h := mc_h0) (hk := hk) (hx1 := (toI_is (v := 0) (by omega) t1)) (hx2 := rfl) (hp := r) (HL := mc_h0_len) (HZ := mc_h0_sz) (H0 := h0_0) (H400 := h0_400)
        · by_cases r2 : 7 < (xs 2).toInt
          · exact p1_29_0m (h := mc_h0) (hk := hk) (hx1 := (toI_is (v := 0) (by omega) t1)) (hx2 := rfl) (hp := r2) (HL := mc_h0_len) (HZ := mc_h0_sz) (H0 := h0_0) (H400 := h0_400)
          · obtain t2 | t2 | t2 | t2 | t2 | t2 | t2 | t2 : (xs 2).toInt = 0 ∨ (xs 2).toInt = 1 ∨ (xs 2).toInt = 2 ∨ (xs 2).toInt = 3 ∨ (xs 2).toInt = 4 ∨ (xs 2).toInt = 5 ∨ (xs 2).toInt = 6 ∨ (xs 2).toInt = 7 := by omega
            · exact p1_29_00 (h := mc_h0) (hk := hk) (hx1 := (toI_is (v := 0) (by omega) t1)) (hx2 := (toI_is (v := 0) (by omega) t2)) (HL := mc_h0_len) (HZ := mc_h0_sz) (H0 := h0_0) (H393 := h0_393) (H394 := h0_394) (H400 := h0_400) (H410 := h0_410) (H412 := h0_412)
            · exact p1_29_01 (h := mc_h0) (hk := hk) (hx1 := (toI_is (v := 0) (by omega) t1)) (hx2 := (toI_is (v := 1) (by omega) t2)) (HL := mc_h0_len) (HZ := mc_h0_sz) (H0 := h0_0) (H400 := h0_400)
            · exact p1_29_02 (h := mc_h0) (hk := hk) (hx1 := (toI_is (v := 0) (by omega) t1)) (hx2 := (toI_is (v := 2) (by omega) t2)) (HL := mc_h0_len) (HZ := mc_h0_sz) (H0 := h0_0) (H393 := h0_393) (H394 := h0_394) (H400 := h0_400) (H410 := h0_410) (H412 := h0_412)
            · exact p1_29_03 (h := mc_h0) (hk := hk) (hx1 := (toI_is (v := 0) (by omega) t1)) (hx2 := (toI_is (v := 3) (by omega) t2)) (HL := mc_h0_len) (HZ := mc_h0_sz) (H0 := h0_0) (H400 := h0_400)
            · exact p1_29_04 (h := mc_h0) (hk := hk) (hx1 := (toI_is (v := 0) (by omega) t1)) (hx2 := (toI_is (v := 4) (by omega) t2)) (HL := mc_h0_len) (HZ := mc_h0_sz) (H0 := h0_0) (H393 := h0_393) (H394 := h0_394) (H400 := h0_400) (H410 := h0_410) (H412 := h0_412)
            · exact p1_29_05 (h := mc_h0) (hk := hk) (hx1 := (toI_is (v := 0) (by omega) t1)) (hx2 := (toI_is (v := 5) (by omega) t2)) (HL := mc_h0_len) (HZ := mc_h0_sz) (H0 := h0_0) (H400 := h0_400)
            · exact p1_29_06 (h := mc_h0) (hk := hk) (hx1 := (toI_is (v := 0) (by omega) t1)) (hx2 := (toI_is (v := 6) (by omega) t2)) (HL := mc_h0_len) (HZ := mc_h0_sz) (H0 := h0_0) (H393 := h0_393) (H394 := h0_394) (H400 := h0_400) (H410 := h0_410) (H412 := h0_412)
            · exact p1_29_07 (h := mc_h0) (hk := hk) (hx1 := (toI_is (v := 0) (by omega) t1)) (hx2 := (toI_is (v := 7) (by omega) t2)) (HL := mc_h0_len) (HZ := mc_h0_sz) (H0 := h0_0) (H400 := h0_400)
      · by_cases r : (xs 2).toInt < 0
        · exact p1_29_1n (h := mc_h0) (hk := hk) (hx1 := (toI_is (v := 1) (by omega) t1)) (hx2 := rfl) (hp := r) (HL := mc_h0_len) (HZ := mc_h0_sz) (H0 := h0_0) (H400 := h0_400)
        · by_cases r2 : 7 < (xs 2).toInt
          · exact p1_29_1m (h := mc_h0) (hk := hk) (hx1 := (toI_is (v := 1) (by omega) t1)) (hx2 := rfl) (hp := r2) (HL := mc_h0_len) (HZ := mc_h0_sz) (H0 := h0_0) (H400 := h0_400)
          · obtain t2 | t2 | t2 | t2 | t2 | t2 | t2 | t2 : (xs 2).toInt = 0 ∨ (xs 2).toInt = 1 ∨ (xs 2).toInt = 2 ∨ (xs 2).toInt = 3 ∨ (xs 2).toInt = 4 ∨ (xs 2).toInt = 5 ∨ (xs 2).toInt = 6 ∨ (xs 2).toInt = 7 := by omega
            · exact p1_29_10 (h := mc_h0) (hk := hk) (hx1 := (toI_is (v := 1) (by omega) t1)) (hx2 := (toI_is (v := 0) (by omega) t2)) (HL := mc_h0_len) (HZ := mc_h0_sz) (H0 := h0_0) (H393 := h0_393) (H394 := h0_394) (H400 := h0_400) (H410 := h0_410) (H412 := h0_412)
            · exact p1_29_11 (h := mc_h0) (hk := hk) (hx1 := (toI_is (v := 1) (by omega) t1)) (hx2 := (toI_is (v := 1) (by omega) t2)) (HL := mc_h0_len) (HZ := mc_h0_sz) (H0 := h0_0) (H393 := h0_393) (H394 := h0_394) (H400 := h0_400) (H410 := h0_410) (H412 := h0_412)
            · exact p1_29_12 (h := mc_h0) (hk := hk) (hx1 := (toI_is (v := 1) (by omega) t1)) (hx2 := (toI_is (v := 2) (by omega) t2)) (HL := mc_h0_len) (HZ := mc_h0_sz) (H0 := h0_0) (H400 := h0_400)
            · exact p1_29_13 (h := mc_h0) (hk := hk) (hx1 := (toI_is (v := 1) (by omega) t1)) (hx2 := (toI_is (v := 3) (by omega) t2)) (HL := mc_h0_len) (HZ := mc_h0_sz) (H0 := h0_0) (H400 := h0_400)
            · exact p1_29_14 (h := mc_h0) (hk := hk) (hx1 := (toI_is (v := 1) (by omega) t1)) (hx2 := (toI_is (v := 4) (by omega) t2)) (HL := mc_h0_len) (HZ := mc_h0_sz) (H0 := h0_0) (H393 := h0_393) (H394 := h0_394) (H400 := h0_400) (H410 := h0_410) (H412 := h0_412)
            · exact p1_29_15 (h := mc_h0) (hk := hk) (hx1 := (toI_is (v := 1) (by omega) t1)) (hx2 := (toI_is (v := 5) (by omega) t2)) (HL := mc_h0_len) (HZ := mc_h0_sz) (H0 := h0_0) (H393 := h0_393) (H394 := h0_394) (H400 := h0_400) (H410 := h0_410) (H412 := h0_412)
            · exact p1_29_16 (h := mc_h0) (hk := hk) (hx1 := (toI_is (v := 1) (by omega) t1)) (hx2 := (toI_is (v := 6) (by omega) t2)) (HL := mc_h0_len) (HZ := mc_h0_sz) (H0 := h0_0) (H400 := h0_400)
            · exact p1_29_17 (h := mc_h0) (hk := hk) (hx1 := (toI_is (v := 1) (by omega) t1)) (hx2 := (toI_is (v := 7) (by omega) t2)) (HL := mc_h0_len) (HZ := mc_h0_sz) (H0 := h0_0) (H400 := h0_400)
      · by_cases r : (xs 2).toInt < 0
        · exact p1_29_2n (h := mc_h0) (hk := hk) (hx1 := (toI_is (v := 2) (by omega) t1)) (hx2 := rfl) (hp := r) (HL := mc_h0_len) (HZ := mc_h0_sz) (H0 := h0_0) (H400 := h0_400)
        · by_cases r2 : 7 < (xs 2).toInt
          · exact p1_29_2m (h := mc_h0) (hk := hk) (hx1 := (toI_is (v := 2) (by omega) t1)) (hx2 := rfl) (hp := r2) (HL := mc_h0_len) (HZ := mc_h0_sz) (H0 := h0_0) (H400 := h0_400)
          · obtain t2 | t2 | t2 | t2 | t2 | t2 | t2 | t2 : (xs 2).toInt = 0 ∨ (xs 2).toInt = 1 ∨ (xs 2).toInt = 2 ∨ (xs 2).toInt = 3 ∨ (xs 2).toInt = 4 ∨ (xs 2).toInt = 5 ∨ (xs 2).toInt = 6 ∨ (xs 2).toInt = 7 := by omega
            · exact p1_29_20 (h := mc_h0) (hk := hk) (hx1 := (toI_is (v := 2) (by omega) t1)) (hx2 := (toI_is (v := 0) (by omega) t2)) (HL := mc_h0_len) (HZ := mc_h0_sz) (H0 := h0_0) (H393 := h0_393) (H394 := h0_394) (H400 := h0_400) (H410 := h0_410) (H412 := h0_412)
            · exact p1_29_21 (h := mc_h0) (hk := hk) (hx1 := (toI_is (v := 2) (by omega) t1)) (hx2 := (toI_is (v := 1) (by omega) t2)) (HL := mc_h0_len) (HZ := mc_h0_sz) (H0 := h0_0) (H393 := h0_393) (H394 := h0_394) (H400 := h0_400) (H410 := h0_410) (H412 := h0_412)
            · exact p1_29_22 (h := mc_h0) (hk := hk) (hx1 := (toI_is (v := 2) (by omega) t1)) (hx2 := (toI_is (v := 2) (by omega) t2)) (HL := mc_h0_len) (HZ := mc_h0_sz) (H0 := h0_0) (H393 := h0_393) (H394 := h0_394) (H400 := h0_400) (H410 := h0_410) (H412 := h0_412)
            · exact p1_29_23 (h := mc_h0) (hk := hk) (hx1 := (toI_is (v := 2) (by omega) t1)) (hx2 := (toI_is (v := 3) (by omega) t2)) (HL := mc_h0_len) (HZ := mc_h0_sz) (H0 := h0_0) (H393 := h0_393) (H394 := h0_394) (H400 := h0_400) (H410 := h0_410) (H412 := h0_412)
            · exact p1_29_24 (h := mc_h0) (hk := hk) (hx1 := (toI_is (v := 2) (by omega) t1)) (hx2 := (toI_is (v := 4) (by omega) t2)) (HL := mc_h0_len) (HZ := mc_h0_sz) (H0 := h0_0) (H400 := h0_400)
            · exact p1_29_25 (h := mc_h0) (hk := hk) (hx1 := (toI_is (v := 2) (by omega) t1)) (hx2 := (toI_is (v := 5) (by omega) t2)) (HL := mc_h0_len) (HZ := mc_h0_sz) (H0 := h0_0) (H400 := h0_400)
            · exact p1_29_26 (h := mc_h0) (hk := hk) (hx1 := (toI_is (v := 2) (by omega) t1)) (hx2 := (toI_is (v := 6) (by omega) t2)) (HL := mc_h0_len) (HZ := mc_h0_sz) (H0 := h0_0) (H400 := h0_400)
            · exact p1_29_27 (h := mc_h0) (hk := hk) (hx1 := (toI_is (v := 2) (by omega) t1)) (hx2 := (toI_is (v := 7) (by omega) t2)) (HL := mc_h0_len) (HZ := mc_h0_sz) (H0 := h0_0) (H400 := h0_400)
theorem p1k_32 {xs : Nat → Int32} (hk : xs 0 &&& nI 63 = nI 32) : mj_fin 4 xs mc_h0 := by
  by_cases q : (xs 1).toInt < 0
  · exact p1_32_n (h := mc_h0) (hk := hk) (hx1 := rfl) (hp := q) (HL := mc_h0_len) (HZ := mc_h0_sz) (H0 := h0_0) (H400 := h0_400)
  · by_cases q2 : 7 < (xs 1).toInt
    · exact p1_32_m (h := mc_h0) (hk := hk) (hx1 := rfl) (hp := q2) (HL := mc_h0_len) (HZ := mc_h0_sz) (H0 := h0_0) (H400 := h0_400)
    · obtain t1 | t1 | t1 | t1 | t1 | t1 | t1 | t1 : (xs 1).toInt = 0 ∨ (xs 1).toInt = 1 ∨ (xs 1).toInt = 2 ∨ (xs 1).toInt = 3 ∨ (xs 1).toInt = 4 ∨ (xs 1).toInt = 5 ∨ (xs 1).toInt = 6 ∨ (xs 1).toInt = 7 := by omega
      · exact p1_32_0 (h := mc_h0) (hk := hk) (hx1 := (toI_is (v := 0) (by omega) t1)) (HL := mc_h0_len) (HZ := mc_h0_sz) (H0 := h0_0) (H393 := h0_393) (H400 := h0_400) (H410 := h0_410) (H412 := h0_412)
      · exact p1_32_1 (h := mc_h0) (hk := hk) (hx1 := (toI_is (v := 1) (by omega) t1)) (HL := mc_h0_len) (HZ := mc_h0_sz) (H0 := h0_0) (H393 := h0_393) (H400 := h0_400) (H410 := h0_410) (H412 := h0_412)
      · exact p1_32_2 (h := mc_h0) (hk := hk) (hx1 := (toI_is (v := 2) (by omega) t1)) (HL := mc_h0_len) (HZ := mc_h0_sz) (H0 := h0_0) (H393 := h0_393) (H400 := h0_400) (H410 := h0_410) (H412 := h0_412)
      · exact p1_32_3 (h := mc_h0) (hk := hk) (hx1 := (toI_is (v := 3) (by omega) t1)) (HL := mc_h0_len) (HZ := mc_h0_sz) (H0 := h0_0) (H393 := h0_393) (H400 := h0_400) (H410 := h0_410) (H412 := h0_412)
      · exact p1_32_4 (h := mc_h0) (hk := hk) (hx1 := (toI_is (v := 4) (by omega) t1)) (HL := mc_h0_len) (HZ := mc_h0_sz) (H0 := h0_0) (H393 := h0_393) (H400 := h0_400) (H410 := h0_410) (H412 := h0_412)
      · exact p1_32_5 (h := mc_h0) (hk := hk) (hx1 := (toI_is (v := 5) (by omega) t1)) (HL := mc_h0_len) (HZ := mc_h0_sz) (H0 := h0_0) (H393 := h0_393) (H400 := h0_400) (H410 := h0_410) (H412 := h0_412)
      · exact p1_32_6 (h := mc_h0) (hk := hk) (hx1 := (toI_is (v := 6) (by omega) t1)) (HL := mc_h0_len) (HZ := mc_h0_sz) (H0 := h0_0) (H393 := h0_393) (H400 := h0_400) (H410 := h0_410) (H412 := h0_412)
      · exact p1_32_7 (h := mc_h0) (hk := hk) (hx1 := (toI_is (v := 7) (by omega) t1)) (HL := mc_h0_len) (HZ := mc_h0_sz) (H0 := h0_0) (H393 := h0_393) (H400 := h0_400) (H410 := h0_410) (H412 := h0_412)
theorem p1k_33 {xs : Nat → Int32} (hk : xs 0 &&& nI 63 = nI 33) : mj_fin 4 xs mc_h0 := by
  by_cases q : (xs 1).toInt < 0
  · exact p1_33_n (h := mc_h0) (hk := hk) (hx1 := rfl) (hp := q) (HL := mc_h0_len) (HZ := mc_h0_sz) (H0 := h0_0) (H400 := h0_400)
  · by_cases q2 : 7 < (xs 1).toInt
    · exact p1_33_m (h := mc_h0) (hk := hk) (hx1 := rfl) (hp := q2) (HL := mc_h0_len) (HZ := mc_h0_sz) (H0 := h0_0) (H400 := h0_400)
    · obtain t1 | t1 | t1 | t1 | t1 | t1 | t1 | t1 : (xs 1).toInt = 0 ∨ (xs 1).toInt = 1 ∨ (xs 1).toInt = 2 ∨ (xs 1).toInt = 3 ∨ (xs 1).toInt = 4 ∨ (xs 1).toInt = 5 ∨ (xs 1).toInt = 6 ∨ (xs 1).toInt = 7 := by omega
      · exact p1_33_0 (h := mc_h0) (hk := hk) (hx1 := (toI_is (v := 0) (by omega) t1)) (HL := mc_h0_len) (HZ := mc_h0_sz) (H0 := h0_0) (H393 := h0_393) (H394 := h0_394) (H400 := h0_400) (H410 := h0_410) (H412 := h0_412)
      · exact p1_33_1 (h := mc_h0) (hk := hk) (hx1 := (toI_is (v := 1) (by omega) t1)) (HL := mc_h0_len) (HZ := mc_h0_sz) (H0 := h0_0) (H393 := h0_393) (H394 := h0_394) (H400 := h0_400) (H410 := h0_410) (H412 := h0_412)
      · exact p1_33_2 (h := mc_h0) (hk := hk) (hx1 := (toI_is (v := 2) (by omega) t1)) (HL := mc_h0_len) (HZ := mc_h0_sz) (H0 := h0_0) (H393 := h0_393) (H394 := h0_394) (H400 := h0_400) (H410 := h0_410) (H412 := h0_412)
      · exact p1_33_3 (h := mc_h0) (hk := hk) (hx1 := (toI_is (v := 3) (by omega) t1)) (HL := mc_h0_len) (HZ := mc_h0_sz) (H0 := h0_0) (H393 := h0_393) (H394 := h0_394) (H400 := h0_400) (H410 := h0_410) (H412 := h0_412)
      · exact p1_33_4 (h := mc_h0) (hk := hk) (hx1 := (toI_is (v := 4) (by omega) t1)) (HL := mc_h0_len) (HZ := mc_h0_sz) (H0 := h0_0) (H393 := h0_393) (H394 := h0_394) (H400 := h0_400) (H410 := h0_410) (H412 := h0_412)
      · exact p1_33_5 (h := mc_h0) (hk := hk) (hx1 := (toI_is (v := 5) (by omega) t1)) (HL := mc_h0_len) (HZ := mc_h0_sz) (H0 := h0_0) (H393 := h0_393) (H394 := h0_394) (H400 := h0_400) (H410 := h0_410) (H412 := h0_412)
      · exact p1_33_6 (h := mc_h0) (hk := hk) (hx1 := (toI_is (v := 6) (by omega) t1)) (HL := mc_h0_len) (HZ := mc_h0_sz) (H0 := h0_0) (H393 := h0_393) (H394 := h0_394) (H400 := h0_400) (H410 := h0_410) (H412 := h0_412)
      · exact p1_33_7 (h := mc_h0) (hk := hk) (hx1 := (toI_is (v := 7) (by omega) t1)) (HL := mc_h0_len) (HZ := mc_h0_sz) (H0 := h0_0) (H393 := h0_393) (H394 := h0_394) (H400 := h0_400) (H410 := h0_410) (H412 := h0_412)
theorem p1k_41 {xs : Nat → Int32} (hk : xs 0 &&& nI 63 = nI 41) : mj_fin 4 xs mc_h0 := by
  by_cases q : (xs 1).toInt < 0
  · exact p1_41_n (h := mc_h0) (hk := hk) (hx1 := rfl) (hp := q) (HL := mc_h0_len) (HZ := mc_h0_sz) (H0 := h0_0) (H400 := h0_400)
  · by_cases q2 : 7 < (xs 1).toInt
    · exact p1_41_m (h := mc_h0) (hk := hk) (hx1 := rfl) (hp := q2) (HL := mc_h0_len) (HZ := mc_h0_sz) (H0 := h0_0) (H400 := h0_400)
    · obtain t1 | t1 | t1 | t1 | t1 | t1 | t1 | t1 : (xs 1).toInt = 0 ∨ (xs 1).toInt = 1 ∨ (xs 1).toInt = 2 ∨ (xs 1).toInt = 3 ∨ (xs 1).toInt = 4 ∨ (xs 1).toInt = 5 ∨ (xs 1).toInt = 6 ∨ (xs 1).toInt = 7 := by omega
      · by_cases r : (xs 2).toInt < 0
        · exact p1_41_0n (h := mc_h0) (hk := hk) (hx1 := (toI_is (v := 0) (by omega) t1)) (hx2 := rfl) (hq := r) (HL := mc_h0_len) (HZ := mc_h0_sz) (H0 := h0_0) (H400 := h0_400)
        · by_cases r2 : 7 < (xs 2).toInt
          · exact p1_41_0m (h := mc_h0) (hk := hk) (hx1 := (toI_is (v := 0) (by omega) t1)) (hx2 := rfl) (hq := r2) (HL := mc_h0_len) (HZ := mc_h0_sz) (H0 := h0_0) (H400 := h0_400)
          · exact p1_41_0 (h := mc_h0) (hk := hk) (hx1 := (toI_is (v := 0) (by omega) t1)) (hx2 := rfl) (hq := ⟨by omega, by omega⟩) (HL := mc_h0_len) (HZ := mc_h0_sz) (H0 := h0_0) (H397 := h0_397) (H400 := h0_400) (H411 := h0_411) (H412 := h0_412)
      · by_cases r : (xs 2).toInt < 0
        · exact p1_41_1n (h := mc_h0) (hk := hk) (hx1 := (toI_is (v := 1) (by omega) t1)) (hx2 := rfl) (hq := r) (HL := mc_h0_len) (HZ := mc_h0_sz) (H0 := h0_0) (H400 := h0_400)
        · by_cases r2 : 7 < (xs 2).toInt
          · exact p1_41_1m (h := mc_h0) (hk := hk) (hx1 := (toI_is (v := 1) (by omega) t1)) (hx2 := rfl) (hq := r2) (HL := mc_h0_len) (HZ := mc_h0_sz) (H0 := h0_0) (H400 := h0_400)
          · exact p1_41_1 (h := mc_h0) (hk := hk) (hx1 := (toI_is (v := 1) (by omega) t1)) (hx2 := rfl) (hq := ⟨by omega, by omega⟩) (HL := mc_h0_len) (HZ := mc_h0_sz) (H0 := h0_0) (H397 := h0_397) (H400 := h0_400) (H411 := h0_411) (H412 := h0_412)
      · by_cases r : (xs 2).toInt < 0
        · exact p1_41_2n (h := mc_h0) (hk := hk) (hx1 := (toI_is (v := 2) (by omega) t1)) (hx2 := rfl) (hq := r) (HL := mc_h0_len) (HZ := mc_h0_sz) (H0 := h0_0) (H400 := h0_400)
        · by_cases r2 : 7 < (xs 2).toInt
          · exact p1_41_2m (h := mc_h0) (hk := hk) (hx1 := (toI_is (v := 2) (by omega) t1)) (hx2 := rfl) (hq := r2) (HL := mc_h0_len) (HZ := mc_h0_sz) (H0 := h0_0) (H400 := h0_400)
          · exact p1_41_2 (h := mc_h0) (hk := hk) (hx1 := (toI_is (v := 2) (by omega) t1)) (hx2 := rfl) (hq := ⟨by omega, by omega⟩) (HL := mc_h0_len) (HZ := mc_h0_sz) (H0 := h0_0) (H397 := h0_397) (H400 := h0_400) (H411 := h0_411) (H412 := h0_412)
      · by_cases r : (xs 2).toInt < 0
        · exact p1_41_3n (h := mc_h0) (hk := hk) (hx1 := (toI_is (v := 3) (by omega) t1)) (hx2 := rfl) (hq := r) (HL := mc_h0_len) (HZ := mc_h0_sz) (H0 := h0_0) (H400 := h0_400)
        · by_cases r2 : 7 < (xs 2).toInt
          · exact p1_41_3m (h := mc_h0) (hk := hk) (hx1 := (toI_is (v := 3) (by omega) t1)) (hx2 := rfl) (hq := r2) (HL := mc_h0_len) (HZ := mc_h0_sz) (H0 := h0_0) (H400 := h0_400)
          · exact p1_41_3 (h := mc_h0) (hk := hk) (hx1 := (toI_is (v := 3) (by omega) t1)) (hx2 := rfl) (hq := ⟨by omega, by omega⟩) (HL := mc_h0_len) (HZ := mc_h0_sz) (H0 := h0_0) (H397 := h0_397) (H400 := h0_400) (H411 := h0_411) (H412 := h0_412)
      · by_cases r : (xs 2).toInt < 0
        · exact p1_41_4n (h := mc_h0) (hk := hk) (hx1 := (toI_is (v := 4) (by omega) t1)) (hx2 := rfl) (hq := r) (HL := mc_h0_len) (HZ := mc_h0_sz) (H0 := h0_0) (H400 := h0_400)
        · by_cases r2 : 7 < (xs 2).toInt
          · exact p1_41_4m (h := mc_h0) (hk := hk) (hx1 := (toI_is (v := 4) (by omega) t1)) (hx2 := rfl) (hq := r2) (HL := mc_h0_len) (HZ := mc_h0_sz) (H0 := h0_0) (H400 := h0_400)
          · exact p1_41_4 (h := mc_h0) (hk := hk) (hx1 := (toI_is (v := 4) (by omega) t1)) (hx2 := rfl) (hq := ⟨by omega, by omega⟩) (HL := mc_h0_len) (HZ := mc_h0_sz) (H0 := h0_0) (H397 := h0_397) (H400 := h0_400) (H411 := h0_411) (H412 := h0_412)
      · by_cases r : (xs 2).toInt < 0
        · exact p1_41_5n (h := mc_h0) (hk := hk) (hx1 := (toI_is (v := 5) (by omega) t1)) (hx2 := rfl) (hq := r) (HL := mc_h0_len) (HZ := mc_h0_sz) (H0 := h0_0) (H400 := h0_400)
        · by_cases r2 : 7 < (xs 2).toInt
          · exact p1_41_5m (h := mc_h0) (hk := hk) (hx1 := (toI_is (v := 5) (by omega) t1)) (hx2 := rfl) (hq := r2) (HL := mc_h0_len) (HZ := mc_h0_sz) (H0 := h0_0) (H400 := h0_400)
          · exact p1_41_5 (h := mc_h0) (hk := hk) (hx1 := (toI_is (v := 5) (by omega) t1)) (hx2 := rfl) (hq := ⟨by omega, by omega⟩) (HL := mc_h0_len) (HZ := mc_h0_sz) (H0 := h0_0) (H397 := h0_397) (H400 := h0_400) (H411 := h0_411) (H412 := h0_412)
      · by_cases r : (xs 2).toInt < 0
        · exact p1_41_6n (h := mc_h0) (hk := hk) (hx1 := (toI_is (v := 6) (by omega) t1)) (hx2 := rfl) (hq := r) (HL := mc_h0_len) (HZ := mc_h0_sz) (H0 := h0_0) (H400 := h0_400)
        · by_cases r2 : 7 < (xs 2).toInt
          · exact p1_41_6m (h := mc_h0) (hk := hk) (hx1 := (toI_is (v := 6) (by omega) t1)) (hx2 := rfl) (hq := r2) (HL := mc_h0_len) (HZ := mc_h0_sz) (H0 := h0_0) (H400 := h0_400)
          · exact p1_41_6 (h := mc_h0) (hk := hk) (hx1 := (toI_is (v := 6) (by omega) t1)) (hx2 := rfl) (hq := ⟨by omega, by omega⟩) (HL := mc_h0_len) (HZ := mc_h0_sz) (H0 := h0_0) (H397 := h0_397) (H400 := h0_400) (H411 := h0_411) (H412 := h0_412)
      · by_cases r : (xs 2).toInt < 0
        · exact p1_41_7n (h := mc_h0) (hk := hk) (hx1 := (toI_is (v := 7) (by omega) t1)) (hx2 := rfl) (hq := r) (HL := mc_h0_len) (HZ := mc_h0_sz) (H0 := h0_0) (H400 := h0_400)
        · by_cases r2 : 7 < (xs 2).toInt
          · exact p1_41_7m (h := mc_h0) (hk := hk) (hx1 := (toI_is (v := 7) (by omega) t1)) (hx2 := rfl) (hq := r2) (HL := mc_h0_len) (HZ := mc_h0_sz) (H0 := h0_0) (H400 := h0_400)
          · exact p1_41_7 (h := mc_h0) (hk := hk) (hx1 := (toI_is (v := 7) (by omega) t1)) (hx2 := rfl) (hq := ⟨by omega, by omega⟩) (HL := mc_h0_len) (HZ := mc_h0_sz) (H0 := h0_0) (H397 := h0_397) (H400 := h0_400) (H411 := h0_411) (H412 := h0_412)
theorem p1k_44 {xs : Nat → Int32} (hk : xs 0 &&& nI 63 = nI 44) : mj_fin 4 xs mc_h0 := by
  by_cases q : (xs 1).toInt < 1
  · exact p1_44_n (h := mc_h0) (hk := hk) (hx1 := rfl) (hp := q) (HL := mc_h0_len) (HZ := mc_h0_sz) (H0 := h0_0) (H400 := h0_400)
  · by_cases q2 : 10 < (xs 1).toInt
    · exact p1_44_m (h := mc_h0) (hk := hk) (hx1 := rfl) (hp := q2) (HL := mc_h0_len) (HZ := mc_h0_sz) (H0 := h0_0) (H400 := h0_400)
    · by_cases r : (xs 2).toInt < 1
      · exact p1_44_on (h := mc_h0) (hk := hk) (hx1 := rfl) (hx2 := rfl) (hp := ⟨by omega, by omega⟩) (hq := r) (HL := mc_h0_len) (HZ := mc_h0_sz) (H0 := h0_0) (H400 := h0_400)
      · by_cases r2 : 10 < (xs 2).toInt
        · exact p1_44_om (h := mc_h0) (hk := hk) (hx1 := rfl) (hx2 := rfl) (hp := ⟨by omega, by omega⟩) (hq := r2) (HL := mc_h0_len) (HZ := mc_h0_sz) (H0 := h0_0) (H400 := h0_400)
        · obtain ⟨p, hpb, hx1⟩ := toI_ex (x := xs 1) (by omega)
          obtain ⟨w, hwb, hx2⟩ := toI_ex (x := xs 2) (by omega)
          rw [hx1, mI_ti hpb] at q q2
          rw [hx2, mI_ti hwb] at r r2
          cases hR : pbR p w with
          | none => exact p1_44_z (h := mc_h0) (hk := hk) (hx1 := hx1) (hx2 := hx2) (hp1 := (by omega)) (hp := (by omega)) (hq1 := (by omega)) (hq := (by omega)) (hR := hR) (HL := mc_h0_len) (HZ := mc_h0_sz) (H0 := h0_0) (H400 := h0_400)
          | some d => exact p1_44_s (h := mc_h0) (hk := hk) (hx1 := hx1) (hx2 := hx2) (hp1 := (by omega)) (hp := (by omega)) (hq1 := (by omega)) (hq := (by omega)) (hR := hR) (hd := (by have h1 := pbR_lt hR; have h2 := pb_2 (show p ≤ 10 by omega); omega)) (HL := mc_h0_len) (HZ := mc_h0_sz) (H0 := h0_0) (H400 := h0_400) (H412 := h0_412)
theorem p1k_45 {xs : Nat → Int32} (hk : xs 0 &&& nI 63 = nI 45) : mj_fin 4 xs mc_h0 := by
  by_cases q : (xs 1).toInt < 1
  · exact p1_45_n (h := mc_h0) (hk := hk) (hx1 := rfl) (hp := q) (HL := mc_h0_len) (HZ := mc_h0_sz) (H0 := h0_0) (H400 := h0_400)
  · by_cases q2 : 10 < (xs 1).toInt
    · exact p1_45_m (h := mc_h0) (hk := hk) (hx1 := rfl) (hp := q2) (HL := mc_h0_len) (HZ := mc_h0_sz) (H0 := h0_0) (H400 := h0_400)
    · obtain ⟨p, hpb, hx1⟩ := toI_ex (x := xs 1) (by omega)
      rw [hx1, mI_ti hpb] at q q2
      by_cases r : p = 1
      · subst r
        cases hR : pbR 1 1 with
        | none => exact absurd hR (pbR_pp (by decide) (by decide))
        | some d => exact p1_45_1 (h := mc_h0) (hk := hk) (hx1 := hx1) (hR := hR) (hd := (by have h1 := pbR_lt hR; have h2 := pb_2 (show 1 ≤ 10 by omega); omega)) (HL := mc_h0_len) (HZ := mc_h0_sz) (H0 := h0_0) (H400 := h0_400) (H412 := h0_412)
      · cases hR : pbR p 1 with
        | none => exact p1_45_z (h := mc_h0) (hk := hk) (hx1 := hx1) (hp1 := (by omega)) (hp := (by omega)) (hp2 := (by omega)) (hR := hR) (HL := mc_h0_len) (HZ := mc_h0_sz) (H0 := h0_0) (H400 := h0_400) (H412 := h0_412)
        | some d => exact p1_45_s (h := mc_h0) (hk := hk) (hx1 := hx1) (hp1 := (by omega)) (hp := (by omega)) (hp2 := (by omega)) (hR := hR) (hd := (by have h1 := pbR_lt hR; have h2 := pb_2 (show p ≤ 10 by omega); omega)) (HL := mc_h0_len) (HZ := mc_h0_sz) (H0 := h0_0) (H400 := h0_400) (H412 := h0_412)
theorem p1k_0 {xs : Nat → Int32} (hk : xs 0 &&& nI 63 = nI 0) : mj_fin 4 xs mc_h0 := by
  obtain ⟨n, hn, hc⟩ := i2c_is (xs 1)
  by_cases q : n < 256
  · exact p1_0_l (h := mc_h0) (hk := hk) (hn := q) (hc := hc) (hn3 := (ch_nar hn)) (hb := rfl) (hn1 := (b8_nar _)) (hfb := (b8_fit _)) (HL := mc_h0_len) (HZ := mc_h0_sz) (H0 := h0_0) (H1 := h0_1) (H2 := h0_2) (H3 := h0_3) (H400 := h0_400) (H412 := h0_412)
  · exact p1_0_u (h := mc_h0) (hk := hk) (hn := hn) (hn2 := (by omega)) (hc := hc) (hn3 := (ch_nar hn)) (hr0 := rfl) (hb0 := rfl) (hm0 := (b8_nar _)) (hf0 := (b8_fit _)) (hr1 := rfl) (hb1 := rfl) (hm1 := (b8_nar _)) (hf1 := (b8_fit _)) (HL := mc_h0_len) (HZ := mc_h0_sz) (H0 := h0_0) (H1 := h0_1) (H2 := h0_2) (H3 := h0_3) (H400 := h0_400) (H412 := h0_412)
theorem p1_all {xs : Nat → Int32} : mj_fin 4 xs mc_h0 := by
  obtain ⟨k, hk64, hk⟩ := and63 (xs 0)
  obtain rfl | rfl | rfl | rfl | rfl | rfl | rfl | rfl | rfl | rfl | rfl | rfl | rfl | rfl | rfl | rfl | rfl | rfl | rfl | rfl | rfl | rfl | rfl | rfl | rfl | rfl | rfl | rfl | rfl | rfl | rfl | rfl | rfl | rfl | rfl | rfl | rfl | rfl | rfl | rfl | rfl | rfl | rfl | rfl | rfl | rfl | rfl | rfl | rfl | rfl | rfl | rfl | rfl | rfl | rfl | rfl | rfl | rfl | rfl | rfl | rfl | rfl | rfl | rfl : k = 0 ∨ k = 1 ∨ k = 2 ∨ k = 3 ∨ k = 4 ∨ k = 5 ∨ k = 6 ∨ k = 7 ∨ k = 8 ∨ k = 9 ∨ k = 10 ∨ k = 11 ∨ k = 12 ∨ k = 13 ∨ k = 14 ∨ k = 15 ∨ k = 16 ∨ k = 17 ∨ k = 18 ∨ k = 19 ∨ k = 20 ∨ k = 21 ∨ k = 22 ∨ k = 23 ∨ k = 24 ∨ k = 25 ∨ k = 26 ∨ k = 27 ∨ k = 28 ∨ k = 29 ∨ k = 30 ∨ k = 31 ∨ k = 32 ∨ k = 33 ∨ k = 34 ∨ k = 35 ∨ k = 36 ∨ k = 37 ∨ k = 38 ∨ k = 39 ∨ k = 40 ∨ k = 41 ∨ k = 42 ∨ k = 43 ∨ k = 44 ∨ k = 45 ∨ k = 46 ∨ k = 47 ∨ k = 48 ∨ k = 49 ∨ k = 50 ∨ k = 51 ∨ k = 52 ∨ k = 53 ∨ k = 54 ∨ k = 55 ∨ k = 56 ∨ k = 57 ∨ k = 58 ∨ k = 59 ∨ k = 60 ∨ k = 61 ∨ k = 62 ∨ k = 63 := by omega
  · exact p1k_0 hk
  · exact p1k_1 hk
  · exact p1k_2 hk
  · exact p1k_3 hk
  · exact p1k_4 hk
  · exact p1k_5 hk
  · exact p1k_6 hk
  · exact p1k_7 hk
  · exact p1k_8 hk
  · exact p1k_9 hk
  · exact p1k_10 hk
  · exact p1k_11 hk
  · exact p1k_12 hk
  · exact p1k_13 hk
  · exact p1k_14 hk
  · exact p1k_15 hk
  · exact p1k_16 hk
  · exact p1k_17 hk
  · exact p1k_18 hk
  · exact p1k_19 hk
  · exact p1k_20 hk
  · exact p1k_21 hk
  · exact p1k_22 hk
  · exact p1k_23 hk
  · exact p1k_24 hk
  · exact p1k_25 hk
  · exact p1k_26 hk
  · exact p1k_27 hk
  · exact p1k_28 hk
  · exact p1k_29 hk
  · exact p1k_30 hk
  · exact p1k_31 hk
  · exact p1k_32 hk
  · exact p1k_33 hk
  · exact p1k_34 hk
  · exact p1k_35 hk
  · exact p1k_36 hk
  · exact p1k_37 hk
  · exact p1k_38 hk
  · exact p1k_39 hk
  · exact p1k_40 hk
  · exact p1k_41 hk
  · exact p1k_42 hk
  · exact p1k_43 hk
  · exact p1k_44 hk
  · exact p1k_45 hk
  · exact p1k_46 hk
  · exact p1k_47 hk
  · exact p1k_48 hk
  · exact p1k_49 hk
  · exact p1k_50 hk
  · exact p1k_51 hk
  · exact p1k_52 hk
  · exact p1k_53 hk
  · exact p1k_54 hk
  · exact p1k_55 hk
  · exact p1k_56 hk
  · exact p1k_57 hk
  · exact p1k_58 hk
  · exact p1k_59 hk
  · exact p1k_60 hk
  · exact p1k_61 hk
  · exact p1k_62 hk
  · exact p1k_63 hk
theorem p1L_0 {xs : Nat → Int32} : mj_fin 0 xs mc_h0 := p1_L0 (h := mc_h0)  (HL := mc_h0_len) (HZ := mc_h0_sz) 
theorem p1L_1 {xs : Nat → Int32} : mj_fin 1 xs mc_h0 := p1_L1 (h := mc_h0)  (HL := mc_h0_len) (HZ := mc_h0_sz) 
theorem p1L_2 {xs : Nat → Int32} : mj_fin 2 xs mc_h0 := p1_L2 (h := mc_h0)  (HL := mc_h0_len) (HZ := mc_h0_sz) 
theorem p1L_3 {xs : Nat → Int32} : mj_fin 3 xs mc_h0 := p1_L3 (h := mc_h0)  (HL := mc_h0_len) (HZ := mc_h0_sz) 
theorem p1_fin {L : Nat} (hL : L ≤ 4) (xs : Nat → Int32) : ∃ n d k h', d ≤ 1000 ∧ mj_lwE mj_Gg L xs n d k (0, mj_entry 10 [.retAddr 1], [], []) = some h' ∧ h'.length ≤ 5000 ∧ mj_sz h' ≤ 400000 := by
  have h : mj_fin L xs mc_h0 := by
    obtain rfl | rfl | rfl | rfl | rfl : L = 0 ∨ L = 1 ∨ L = 2 ∨ L = 3 ∨ L = 4 := by omega
    · exact p1L_0
    · exact p1L_1
    · exact p1L_2
    · exact p1L_3
    · exact p1_all
  obtain ⟨n, k, h', h1, h2⟩ := mj_law0 h
  exact ⟨n, 100, k, h', by omega, h2 100 (Nat.le_refl _), h1⟩
