/-! Chars and bytes; ints by numbers. -/
theorem cpr_1 {f : Nat → Int32} (h : fits .byte (.int (f 0)) = true) : mj_cpr f 0 1 = true := by
  show (fits .byte (.int (f (0 + 0))) && true) = true
  rw [Nat.add_zero, h]
  rfl
theorem cpr_2 {f : Nat → Int32} (h : fits .byte (.int (f 0)) = true) (g : fits .byte (.int (f 1)) = true) : mj_cpr f 0 2 = true := by
  show (fits .byte (.int (f (0 + 0))) && (fits .byte (.int (f (0 + 1))) && true)) = true
  rw [Nat.add_zero, Nat.zero_add, h, g]
  rfl
theorem nI_u {n : Nat} (hn : n < 4294967296) : (nI n).toUInt32.toNat = n := by
  show (UInt32.ofNat n).toNat = n
  exact UInt32.toNat_ofNat_of_lt' hn
theorem ch_nar {n : Nat} (hn : n < 65536) : vp_nar .char (nI n) = nI n := by
  rw [vp_nar_char]
  have h1 : (nI n).toUInt32.toUInt16.toUInt32 = (nI n).toUInt32 := by
    apply UInt32.toNat_inj.mp
    rw [UInt16.toNat_toUInt32, UInt32.toNat_toUInt16, nI_u (by omega)]
    exact Nat.mod_eq_of_lt hn
  rw [h1]
  rfl
theorem b8_nar (x : Int32) : vp_nar .byte x.toInt8.toInt32 = x.toInt8.toInt32 := by
  rw [vp_nar_byte, Int8.toInt8_toInt32]
theorem b8_fit (x : Int32) : fits .byte (.int x.toInt8.toInt32) = true := by
  have h1 := Int8.le_toInt x.toInt8
  have h2 := Int8.toInt_lt x.toInt8
  show (decide ((-128 : Int32) ≤ x.toInt8.toInt32) && decide (x.toInt8.toInt32 ≤ (127 : Int32))) = true
  rw [Bool.and_eq_true]
  have e1 : (-128 : Int32).toInt = -128 := by decide
  have e2 : (127 : Int32).toInt = 127 := by decide
  constructor
  · apply decide_eq_true
    rw [Int32.le_iff_toInt_le, Int8.toInt_toInt32, e1]
    omega
  · apply decide_eq_true
    rw [Int32.le_iff_toInt_le, Int8.toInt_toInt32, e2]
    omega
/-- a char -/
theorem i2c_is (x : Int32) : ∃ n, n < 65536 ∧ (x.toUInt32 % 65536).toInt32 = nI n := by
  refine ⟨(x.toUInt32 % 65536).toNat, ?_, ?_⟩
  · rw [UInt32.toNat_mod]
    exact Nat.mod_lt _ (by decide)
  · show _ = Int32.ofNat _
    rw [← UInt32.toInt32_ofNat', UInt32.ofNat_toNat]
theorem toI_is {x : Int32} {v : Nat} (hv : v < 2147483648) (h : x.toInt = v) : x = nI v := Int32.toInt_inj.mp (h.trans (mI_ti hv).symm)
theorem toI_ex {x : Int32} (h : 0 ≤ x.toInt) : ∃ v, v < 2147483648 ∧ x = nI v := by
  have h2 := Int32.toInt_lt x
  exact ⟨x.toInt.toNat, by omega, toI_is (by omega) (by omega)⟩
theorem and63 (x : Int32) : ∃ k, k < 64 ∧ x &&& nI 63 = nI k := by
  refine ⟨x.toUInt32.toNat &&& 63, Nat.lt_of_le_of_lt Nat.and_le_right (by decide), ?_⟩
  apply Int32.toBitVec_inj.mp
  apply BitVec.eq_of_toNat_eq
  rw [Int32.toBitVec_and, BitVec.toNat_and]
  show x.toBitVec.toNat &&& 63 = (BitVec.ofNat 32 (x.toUInt32.toNat &&& 63)).toNat
  rw [BitVec.toNat_ofNat, Nat.mod_eq_of_lt (Nat.lt_of_le_of_lt Nat.and_le_right (by decide))]
  rfl
theorem nar_ch {n : Nat} (hn : n < 65536) : mj_nar 2 (nI n) = true := decide_eq_true (ch_nar hn)
