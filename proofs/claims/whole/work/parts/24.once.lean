/-! What is said once: classes, methods. -/
def mj_K0 : vw_C := (mj_R0, mj_F0, 17)
theorem mj_u0 : ∀ w ∈ u_ws mj_K0.1 mj_K0.2.1 mj_K0.2.2, w ∈ mj_Tw := (mj_ac (mj_w2 76 rfl rfl) (mj_ac (mj_w2 78 rfl rfl) (mj_ac (mj_w2 80 rfl rfl) (mj_ac (mj_w2 82 rfl rfl) (mj_ac (mj_w2 84 rfl rfl) (mj_ac (mj_w2 86 rfl rfl) (mj_ac (mj_w2 88 rfl rfl) (mj_ac (mj_w2 90 rfl rfl) (mj_ac (mj_w2 92 rfl rfl) (mj_ac (mj_w2 94 rfl rfl) (mj_ac (mj_w2 96 rfl rfl) (mj_ac (mj_w2 98 rfl rfl) (mj_ac (mj_w2 100 rfl rfl) (mj_ac (mj_w2 102 rfl rfl) (mj_ac (mj_w2 104 rfl rfl) (mj_ac (mj_w2 106 rfl rfl) (mj_ac (mj_w2 108 rfl rfl) mj_an)))))))))))))))))
theorem mj_pd0 : ∀ k, k < mj_K0.2.2 → parseFieldDescriptor (mj_K0.2.1 k).2.2.1 = some (mj_cty 0 k) := by decide +kernel
theorem mj_ds0 : ∀ a, a < mj_K0.2.2 → ∀ b, b < mj_K0.2.2 → a ≠ b → (mj_K0.2.1 a).2.1 ≠ (mj_K0.2.1 b).2.1 := by decide +kernel
theorem mj_nw0 : mj_nwc mj_Tw 0 mj_K0 := ⟨rfl, _, rfl, rfl, mj_u0, mj_pd0, (mj_w1 49 rfl rfl), (mj_w1 1 rfl rfl), by decide +kernel, mj_dfl_ok 0⟩
def mj_K1 : vw_C := (mj_R1, mj_F1, 3)
theorem mj_u1 : ∀ w ∈ u_ws mj_K1.1 mj_K1.2.1 mj_K1.2.2, w ∈ mj_Tw := (mj_ac (mj_w1 180 rfl rfl) (mj_ac (mj_w1 182 rfl rfl) (mj_ac (mj_w1 184 rfl rfl) mj_an)))
theorem mj_pd1 : ∀ k, k < mj_K1.2.2 → parseFieldDescriptor (mj_K1.2.1 k).2.2.1 = some (mj_cty 1 k) := by decide +kernel
theorem mj_ds1 : ∀ a, a < mj_K1.2.2 → ∀ b, b < mj_K1.2.2 → a ≠ b → (mj_K1.2.1 a).2.1 ≠ (mj_K1.2.1 b).2.1 := by decide +kernel
theorem mj_nw1 : mj_nwc mj_Tw 1 mj_K1 := ⟨rfl, _, rfl, rfl, mj_u1, mj_pd1, (mj_w1 57 rfl rfl), (mj_w1 2 rfl rfl), by decide +kernel, mj_dfl_ok 1⟩
def mj_K2 : vw_C := (mj_R2, mj_F2, 2)
theorem mj_u2 : ∀ w ∈ u_ws mj_K2.1 mj_K2.2.1 mj_K2.2.2, w ∈ mj_Tw := (mj_ac (mj_w1 72 rfl rfl) (mj_ac (mj_w1 74 rfl rfl) mj_an))
theorem mj_pd2 : ∀ k, k < mj_K2.2.2 → parseFieldDescriptor (mj_K2.2.1 k).2.2.1 = some (mj_cty 2 k) := by decide +kernel
theorem mj_ds2 : ∀ a, a < mj_K2.2.2 → ∀ b, b < mj_K2.2.2 → a ≠ b → (mj_K2.2.1 a).2.1 ≠ (mj_K2.2.1 b).2.1 := by decide +kernel
theorem mj_nw2 : mj_nwc mj_Tw 2 mj_K2 := ⟨rfl, _, rfl, rfl, mj_u2, mj_pd2, (mj_w1 63 rfl rfl), (mj_w1 3 rfl rfl), by decide +kernel, mj_dfl_ok 2⟩
def mj_K3 : vw_C := (mj_R3, mj_F3, 3)
theorem mj_u3 : ∀ w ∈ u_ws mj_K3.1 mj_K3.2.1 mj_K3.2.2, w ∈ mj_Tw := (mj_ac (mj_w1 141 rfl rfl) (mj_ac (mj_w1 143 rfl rfl) (mj_ac (mj_w1 145 rfl rfl) mj_an)))
theorem mj_pd3 : ∀ k, k < mj_K3.2.2 → parseFieldDescriptor (mj_K3.2.1 k).2.2.1 = some (mj_cty 3 k) := by decide +kernel
theorem mj_ds3 : ∀ a, a < mj_K3.2.2 → ∀ b, b < mj_K3.2.2 → a ≠ b → (mj_K3.2.1 a).2.1 ≠ (mj_K3.2.1 b).2.1 := by decide +kernel
theorem mj_nw3 : mj_nwc mj_Tw 3 mj_K3 := ⟨rfl, _, rfl, rfl, mj_u3, mj_pd3, (mj_w1 79 rfl rfl), (mj_w1 4 rfl rfl), by decide +kernel, mj_dfl_ok 3⟩
def mj_K4 : vw_C := (mj_R4, mj_F4, 8)
theorem mj_u4 : ∀ w ∈ u_ws mj_K4.1 mj_K4.2.1 mj_K4.2.2, w ∈ mj_Tw := (mj_ac (mj_w1 121 rfl rfl) (mj_ac (mj_w1 123 rfl rfl) (mj_ac (mj_w1 125 rfl rfl) (mj_ac (mj_w1 127 rfl rfl) (mj_ac (mj_w1 129 rfl rfl) (mj_ac (mj_w1 131 rfl rfl) (mj_ac (mj_w1 133 rfl rfl) (mj_ac (mj_w1 135 rfl rfl) mj_an))))))))
theorem mj_pd4 : ∀ k, k < mj_K4.2.2 → parseFieldDescriptor (mj_K4.2.1 k).2.2.1 = some (mj_cty 4 k) := by decide +kernel
theorem mj_ds4 : ∀ a, a < mj_K4.2.2 → ∀ b, b < mj_K4.2.2 → a ≠ b → (mj_K4.2.1 a).2.1 ≠ (mj_K4.2.1 b).2.1 := by decide +kernel
theorem mj_nw4 : mj_nwc mj_Tw 4 mj_K4 := ⟨rfl, _, rfl, rfl, mj_u4, mj_pd4, (mj_w1 86 rfl rfl), (mj_w1 5 rfl rfl), by decide +kernel, mj_dfl_ok 4⟩
def mj_K5 : vw_C := (mj_R5, mj_F5, 6)
theorem mj_u5 : ∀ w ∈ u_ws mj_K5.1 mj_K5.2.1 mj_K5.2.2, w ∈ mj_Tw := (mj_ac (mj_w1 160 rfl rfl) (mj_ac (mj_w1 162 rfl rfl) (mj_ac (mj_w1 164 rfl rfl) (mj_ac (mj_w1 166 rfl rfl) (mj_ac (mj_w1 168 rfl rfl) (mj_ac (mj_w1 170 rfl rfl) mj_an))))))
theorem mj_pd5 : ∀ k, k < mj_K5.2.2 → parseFieldDescriptor (mj_K5.2.1 k).2.2.1 = some (mj_cty 5 k) := by decide +kernel
theorem mj_ds5 : ∀ a, a < mj_K5.2.2 → ∀ b, b < mj_K5.2.2 → a ≠ b → (mj_K5.2.1 a).2.1 ≠ (mj_K5.2.1 b).2.1 := by decide +kernel
theorem mj_nw5 : mj_nwc mj_Tw 5 mj_K5 := ⟨rfl, _, rfl, rfl, mj_u5, mj_pd5, (mj_w1 149 rfl rfl), (mj_w1 6 rfl rfl), by decide +kernel, mj_dfl_ok 5⟩
def mj_K6 : vw_C := (mj_R6, mj_F6, 3)
theorem mj_u6 : ∀ w ∈ u_ws mj_K6.1 mj_K6.2.1 mj_K6.2.2, w ∈ mj_Tw := (mj_ac (mj_w1 199 rfl rfl) (mj_ac (mj_w1 201 rfl rfl) (mj_ac (mj_w1 203 rfl rfl) mj_an)))
theorem mj_pd6 : ∀ k, k < mj_K6.2.2 → parseFieldDescriptor (mj_K6.2.1 k).2.2.1 = some (mj_cty 6 k) := by decide +kernel
theorem mj_ds6 : ∀ a, a < mj_K6.2.2 → ∀ b, b < mj_K6.2.2 → a ≠ b → (mj_K6.2.1 a).2.1 ≠ (mj_K6.2.1 b).2.1 := by decide +kernel
theorem mj_nw6 : mj_nwc mj_Tw 6 mj_K6 := ⟨rfl, _, rfl, rfl, mj_u6, mj_pd6, (mj_w1 188 rfl rfl), (mj_w1 7 rfl rfl), by decide +kernel, mj_dfl_ok 6⟩
def mj_K7 : vw_C := (mj_R7, mj_F7, 3)
theorem mj_u7 : ∀ w ∈ u_ws mj_K7.1 mj_K7.2.1 mj_K7.2.2, w ∈ mj_Tw := (mj_ac (mj_w1 217 rfl rfl) (mj_ac (mj_w1 219 rfl rfl) (mj_ac (mj_w1 221 rfl rfl) mj_an)))
theorem mj_pd7 : ∀ k, k < mj_K7.2.2 → parseFieldDescriptor (mj_K7.2.1 k).2.2.1 = some (mj_cty 7 k) := by decide +kernel
theorem mj_ds7 : ∀ a, a < mj_K7.2.2 → ∀ b, b < mj_K7.2.2 → a ≠ b → (mj_K7.2.1 a).2.1 ≠ (mj_K7.2.1 b).2.1 := by decide +kernel
theorem mj_nw7 : mj_nwc mj_Tw 7 mj_K7 := ⟨rfl, _, rfl, rfl, mj_u7, mj_pd7, (mj_w1 209 rfl rfl), (mj_w1 8 rfl rfl), by decide +kernel, mj_dfl_ok 7⟩
def mj_K8 : vw_C := (mj_R8, mj_F8, 13)
theorem mj_u8 : ∀ w ∈ u_ws mj_K8.1 mj_K8.2.1 mj_K8.2.2, w ∈ mj_Tw := (mj_ac (mj_w2 9 rfl rfl) (mj_ac (mj_w2 11 rfl rfl) (mj_ac (mj_w2 13 rfl rfl) (mj_ac (mj_w2 15 rfl rfl) (mj_ac (mj_w2 17 rfl rfl) (mj_ac (mj_w2 19 rfl rfl) (mj_ac (mj_w2 21 rfl rfl) (mj_ac (mj_w2 23 rfl rfl) (mj_ac (mj_w2 25 rfl rfl) (mj_ac (mj_w2 27 rfl rfl) (mj_ac (mj_w2 29 rfl rfl) (mj_ac (mj_w2 31 rfl rfl) (mj_ac (mj_w2 33 rfl rfl) mj_an)))))))))))))
theorem mj_pd8 : ∀ k, k < mj_K8.2.2 → parseFieldDescriptor (mj_K8.2.1 k).2.2.1 = some (mj_cty 8 k) := by decide +kernel
theorem mj_ds8 : ∀ a, a < mj_K8.2.2 → ∀ b, b < mj_K8.2.2 → a ≠ b → (mj_K8.2.1 a).2.1 ≠ (mj_K8.2.1 b).2.1 := by decide +kernel
theorem mj_nw8 : mj_nwc mj_Tw 8 mj_K8 := ⟨rfl, _, rfl, rfl, mj_u8, mj_pd8, (mj_w1 226 rfl rfl), (mj_w1 9 rfl rfl), by decide +kernel, mj_dfl_ok 8⟩
def mj_K9 : vw_C := (mj_R9, mj_F9, 5)
theorem mj_u9 : ∀ w ∈ u_ws mj_K9.1 mj_K9.2.1 mj_K9.2.2, w ∈ mj_Tw := (mj_ac (mj_w2 48 rfl rfl) (mj_ac (mj_w2 50 rfl rfl) (mj_ac (mj_w2 52 rfl rfl) (mj_ac (mj_w2 54 rfl rfl) (mj_ac (mj_w2 56 rfl rfl) mj_an)))))
theorem mj_pd9 : ∀ k, k < mj_K9.2.2 → parseFieldDescriptor (mj_K9.2.1 k).2.2.1 = some (mj_cty 9 k) := by decide +kernel
theorem mj_ds9 : ∀ a, a < mj_K9.2.2 → ∀ b, b < mj_K9.2.2 → a ≠ b → (mj_K9.2.1 a).2.1 ≠ (mj_K9.2.1 b).2.1 := by decide +kernel
theorem mj_nw9 : mj_nwc mj_Tw 9 mj_K9 := ⟨rfl, _, rfl, rfl, mj_u9, mj_pd9, (mj_w2 38 rfl rfl), (mj_w1 10 rfl rfl), by decide +kernel, mj_dfl_ok 9⟩
def mj_K10 : vw_C := (mj_R10, mj_F10, 1)
theorem mj_u10 : ∀ w ∈ u_ws mj_K10.1 mj_K10.2.1 mj_K10.2.2, w ∈ mj_Tw := (mj_ac (mj_w2 238 rfl rfl) mj_an)
theorem mj_pd10 : ∀ k, k < mj_K10.2.2 → parseFieldDescriptor (mj_K10.2.1 k).2.2.1 = some (mj_cty 10 k) := by decide +kernel
theorem mj_ds10 : ∀ a, a < mj_K10.2.2 → ∀ b, b < mj_K10.2.2 → a ≠ b → (mj_K10.2.1 a).2.1 ≠ (mj_K10.2.1 b).2.1 := by decide +kernel
theorem mj_nw10 : mj_nwc mj_Tw 10 mj_K10 := ⟨rfl, _, rfl, rfl, mj_u10, mj_pd10, (mj_w2 232 rfl rfl), (mj_w1 46 rfl rfl), by decide +kernel, mj_dfl_ok 10⟩
def mj_K11 : vw_C := (mj_R11, mj_F11, 0)
theorem mj_tc11 : mj_thc mj_Tw 11 mj_K11 7 prog_31_method_2_code ["java/lang/RuntimeException", "java/lang/Exception"] := ⟨⟨by decide +kernel, by decide +kernel, by decide +kernel, by decide +kernel⟩, rfl, rfl, rfl, by decide +kernel, by decide +kernel, by decide, (mj_w1 19 rfl rfl), by decide +kernel, by decide +kernel⟩
def mj_K12 : vw_C := (mj_R12, mj_F12, 0)
theorem mj_tc12 : mj_thc mj_Tw 12 mj_K12 13 prog_56_method_4_code ["java/lang/RuntimeException", "java/lang/Exception"] := ⟨⟨by decide +kernel, by decide +kernel, by decide +kernel, by decide +kernel⟩, rfl, rfl, rfl, by decide +kernel, by decide +kernel, by decide, (mj_w1 33 rfl rfl), by decide +kernel, by decide +kernel⟩
def mj_K13 : vw_C := (mj_R13, mj_F13, 0)
theorem mj_tc13 : mj_thc mj_Tw 13 mj_K13 7 prog_30_method_2_code ["java/lang/RuntimeException", "java/lang/Exception"] := ⟨⟨by decide +kernel, by decide +kernel, by decide +kernel, by decide +kernel⟩, rfl, rfl, rfl, by decide +kernel, by decide +kernel, by decide, (mj_w1 30 rfl rfl), by decide +kernel, by decide +kernel⟩
def mj_K14 : vw_C := (mj_R14, mj_F14, 0)
theorem mj_tc14 : mj_thc mj_Tw 14 mj_K14 7 prog_32_method_2_code ["java/lang/RuntimeException", "java/lang/Exception"] := ⟨⟨by decide +kernel, by decide +kernel, by decide +kernel, by decide +kernel⟩, rfl, rfl, rfl, by decide +kernel, by decide +kernel, by decide, (mj_w1 42 rfl rfl), by decide +kernel, by decide +kernel⟩
def mj_K15 : vw_C := (mj_R15, mj_F15, 0)
theorem mj_tc15 : mj_thc mj_Tw 15 mj_K15 7 prog_45_method_2_code ["java/lang/RuntimeException", "java/lang/Exception"] := ⟨⟨by decide +kernel, by decide +kernel, by decide +kernel, by decide +kernel⟩, rfl, rfl, rfl, by decide +kernel, by decide +kernel, by decide, (mj_w1 44 rfl rfl), by decide +kernel, by decide +kernel⟩
def mj_K16 : vw_C := (mj_R16, mj_F16, 3)
theorem mj_u16 : ∀ w ∈ u_ws mj_K16.1 mj_K16.2.1 mj_K16.2.2, w ∈ mj_Tw := (mj_ac (mj_w6 124 rfl rfl) (mj_ac (mj_w6 126 rfl rfl) (mj_ac (mj_w6 128 rfl rfl) mj_an)))
theorem mj_pd16 : ∀ k, k < mj_K16.2.2 → parseFieldDescriptor (mj_K16.2.1 k).2.2.1 = some (mj_cty 16 k) := by decide +kernel
theorem mj_ds16 : ∀ a, a < mj_K16.2.2 → ∀ b, b < mj_K16.2.2 → a ≠ b → (mj_K16.2.1 a).2.1 ≠ (mj_K16.2.1 b).2.1 := by decide +kernel
theorem mj_nw16 : mj_nwc mj_Tw 16 mj_K16 := ⟨rfl, _, rfl, rfl, mj_u16, mj_pd16, (mj_w6 116 rfl rfl), (mj_w1 47 rfl rfl), by decide +kernel, mj_dfl_ok 16⟩
def mj_K17 : vw_C := (mj_R17, mj_F17, 11)
theorem mj_u17 : ∀ w ∈ u_ws mj_K17.1 mj_K17.2.1 mj_K17.2.2, w ∈ mj_Tw := (mj_ac (mj_w7 23 rfl rfl) (mj_ac (mj_w7 25 rfl rfl) (mj_ac (mj_w7 27 rfl rfl) (mj_ac (mj_w7 29 rfl rfl) (mj_ac (mj_w7 31 rfl rfl) (mj_ac (mj_w7 33 rfl rfl) (mj_ac (mj_w7 35 rfl rfl) (mj_ac (mj_w7 37 rfl rfl) (mj_ac (mj_w7 39 rfl rfl) (mj_ac (mj_w7 41 rfl rfl) (mj_ac (mj_w7 43 rfl rfl) mj_an)))))))))))
theorem mj_pd17 : ∀ k, k < mj_K17.2.2 → parseFieldDescriptor (mj_K17.2.1 k).2.2.1 = some (mj_cty 17 k) := by decide +kernel
theorem mj_ds17 : ∀ a, a < mj_K17.2.2 → ∀ b, b < mj_K17.2.2 → a ≠ b → (mj_K17.2.1 a).2.1 ≠ (mj_K17.2.1 b).2.1 := by decide +kernel
theorem mj_nw17 : mj_nwc mj_Tw 17 mj_K17 := ⟨rfl, _, rfl, rfl, mj_u17, mj_pd17, (mj_w6 166 rfl rfl), (mj_w1 11 rfl rfl), by decide +kernel, mj_dfl_ok 17⟩
def mj_K18 : vw_C := (mj_R18, mj_F18, 3)
theorem mj_u18 : ∀ w ∈ u_ws mj_K18.1 mj_K18.2.1 mj_K18.2.2, w ∈ mj_Tw := (mj_ac (mj_w6 193 rfl rfl) (mj_ac (mj_w6 195 rfl rfl) (mj_ac (mj_w6 197 rfl rfl) mj_an)))
theorem mj_pd18 : ∀ k, k < mj_K18.2.2 → parseFieldDescriptor (mj_K18.2.1 k).2.2.1 = some (mj_cty 18 k) := by decide +kernel
theorem mj_ds18 : ∀ a, a < mj_K18.2.2 → ∀ b, b < mj_K18.2.2 → a ≠ b → (mj_K18.2.1 a).2.1 ≠ (mj_K18.2.1 b).2.1 := by decide +kernel
theorem mj_nw18 : mj_nwc mj_Tw 18 mj_K18 := ⟨rfl, _, rfl, rfl, mj_u18, mj_pd18, (mj_w6 172 rfl rfl), (mj_w1 14 rfl rfl), by decide +kernel, mj_dfl_ok 18⟩
def mj_K19 : vw_C := (mj_R19, mj_F19, 11)
theorem mj_u19 : ∀ w ∈ u_ws mj_K19.1 mj_K19.2.1 mj_K19.2.2, w ∈ mj_Tw := (mj_ac (mj_w6 227 rfl rfl) (mj_ac (mj_w6 229 rfl rfl) (mj_ac (mj_w6 231 rfl rfl) (mj_ac (mj_w6 233 rfl rfl) (mj_ac (mj_w6 235 rfl rfl) (mj_ac (mj_w6 237 rfl rfl) (mj_ac (mj_w6 239 rfl rfl) (mj_ac (mj_w7 1 rfl rfl) (mj_ac (mj_w7 3 rfl rfl) (mj_ac (mj_w7 5 rfl rfl) (mj_ac (mj_w7 7 rfl rfl) mj_an)))))))))))
theorem mj_pd19 : ∀ k, k < mj_K19.2.2 → parseFieldDescriptor (mj_K19.2.1 k).2.2.1 = some (mj_cty 19 k) := by decide +kernel
theorem mj_ds19 : ∀ a, a < mj_K19.2.2 → ∀ b, b < mj_K19.2.2 → a ≠ b → (mj_K19.2.1 a).2.1 ≠ (mj_K19.2.1 b).2.1 := by decide +kernel
theorem mj_nw19 : mj_nwc mj_Tw 19 mj_K19 := ⟨rfl, _, rfl, rfl, mj_u19, mj_pd19, (mj_w6 201 rfl rfl), (mj_w1 15 rfl rfl), by decide +kernel, mj_dfl_ok 19⟩
def mj_K20 : vw_C := (mj_R20, mj_F20, 4)
theorem mj_u20 : ∀ w ∈ u_ws mj_K20.1 mj_K20.2.1 mj_K20.2.2, w ∈ mj_Tw := (mj_ac (mj_w7 89 rfl rfl) (mj_ac (mj_w7 91 rfl rfl) (mj_ac (mj_w7 93 rfl rfl) (mj_ac (mj_w7 95 rfl rfl) mj_an))))
theorem mj_pd20 : ∀ k, k < mj_K20.2.2 → parseFieldDescriptor (mj_K20.2.1 k).2.2.1 = some (mj_cty 20 k) := by decide +kernel
theorem mj_ds20 : ∀ a, a < mj_K20.2.2 → ∀ b, b < mj_K20.2.2 → a ≠ b → (mj_K20.2.1 a).2.1 ≠ (mj_K20.2.1 b).2.1 := by decide +kernel
theorem mj_nw20 : mj_nwc mj_Tw 20 mj_K20 := ⟨rfl, _, rfl, rfl, mj_u20, mj_pd20, (mj_w7 69 rfl rfl), (mj_w1 22 rfl rfl), by decide +kernel, mj_dfl_ok 20⟩
def mj_K21 : vw_C := (mj_R21, mj_F21, 4)
theorem mj_u21 : ∀ w ∈ u_ws mj_K21.1 mj_K21.2.1 mj_K21.2.2, w ∈ mj_Tw := (mj_ac (mj_w8 69 rfl rfl) (mj_ac (mj_w8 71 rfl rfl) (mj_ac (mj_w8 73 rfl rfl) (mj_ac (mj_w8 75 rfl rfl) mj_an))))
theorem mj_pd21 : ∀ k, k < mj_K21.2.2 → parseFieldDescriptor (mj_K21.2.1 k).2.2.1 = some (mj_cty 21 k) := by decide +kernel
theorem mj_ds21 : ∀ a, a < mj_K21.2.2 → ∀ b, b < mj_K21.2.2 → a ≠ b → (mj_K21.2.1 a).2.1 ≠ (mj_K21.2.1 b).2.1 := by decide +kernel
theorem mj_nw21 : mj_nwc mj_Tw 21 mj_K21 := ⟨rfl, _, rfl, rfl, mj_u21, mj_pd21, (mj_w7 231 rfl rfl), (mj_w1 20 rfl rfl), by decide +kernel, mj_dfl_ok 21⟩
def mj_K22 : vw_C := (mj_R22, mj_F22, 3)
theorem mj_u22 : ∀ w ∈ u_ws mj_K22.1 mj_K22.2.1 mj_K22.2.2, w ∈ mj_Tw := (mj_ac (mj_w8 100 rfl rfl) (mj_ac (mj_w8 102 rfl rfl) (mj_ac (mj_w8 104 rfl rfl) mj_an)))
theorem mj_pd22 : ∀ k, k < mj_K22.2.2 → parseFieldDescriptor (mj_K22.2.1 k).2.2.1 = some (mj_cty 22 k) := by decide +kernel
theorem mj_ds22 : ∀ a, a < mj_K22.2.2 → ∀ b, b < mj_K22.2.2 → a ≠ b → (mj_K22.2.1 a).2.1 ≠ (mj_K22.2.1 b).2.1 := by decide +kernel
theorem mj_nw22 : mj_nwc mj_Tw 22 mj_K22 := ⟨rfl, _, rfl, rfl, mj_u22, mj_pd22, (mj_w8 92 rfl rfl), (mj_w1 34 rfl rfl), by decide +kernel, mj_dfl_ok 22⟩
def mj_K23 : vw_C := (mj_R23, mj_F23, 2)
theorem mj_u23 : ∀ w ∈ u_ws mj_K23.1 mj_K23.2.1 mj_K23.2.2, w ∈ mj_Tw := (mj_ac (mj_w8 180 rfl rfl) (mj_ac (mj_w8 182 rfl rfl) mj_an))
theorem mj_pd23 : ∀ k, k < mj_K23.2.2 → parseFieldDescriptor (mj_K23.2.1 k).2.2.1 = some (mj_cty 23 k) := by decide +kernel
theorem mj_ds23 : ∀ a, a < mj_K23.2.2 → ∀ b, b < mj_K23.2.2 → a ≠ b → (mj_K23.2.1 a).2.1 ≠ (mj_K23.2.1 b).2.1 := by decide +kernel
def mj_K24 : vw_C := (mj_R24, mj_F24, 8)
theorem mj_u24 : ∀ w ∈ u_ws mj_K24.1 mj_K24.2.1 mj_K24.2.2, w ∈ mj_Tw := (mj_ac (mj_w9 24 rfl rfl) (mj_ac (mj_w9 26 rfl rfl) (mj_ac (mj_w9 28 rfl rfl) (mj_ac (mj_w9 30 rfl rfl) (mj_ac (mj_w9 32 rfl rfl) (mj_ac (mj_w9 34 rfl rfl) (mj_ac (mj_w9 36 rfl rfl) (mj_ac (mj_w9 38 rfl rfl) mj_an))))))))
theorem mj_pd24 : ∀ k, k < mj_K24.2.2 → parseFieldDescriptor (mj_K24.2.1 k).2.2.1 = some (mj_cty 24 k) := by decide +kernel
theorem mj_ds24 : ∀ a, a < mj_K24.2.2 → ∀ b, b < mj_K24.2.2 → a ≠ b → (mj_K24.2.1 a).2.1 ≠ (mj_K24.2.1 b).2.1 := by decide +kernel
theorem mj_nw24 : mj_nwc mj_Tw 24 mj_K24 := ⟨rfl, _, rfl, rfl, mj_u24, mj_pd24, (mj_w8 234 rfl rfl), (mj_w1 37 rfl rfl), by decide +kernel, mj_dfl_ok 24⟩
def mj_K25 : vw_C := (mj_R25, mj_F25, 4)
theorem mj_u25 : ∀ w ∈ u_ws mj_K25.1 mj_K25.2.1 mj_K25.2.2, w ∈ mj_Tw := (mj_ac (mj_w9 55 rfl rfl) (mj_ac (mj_w9 57 rfl rfl) (mj_ac (mj_w9 59 rfl rfl) (mj_ac (mj_w9 61 rfl rfl) mj_an))))
theorem mj_pd25 : ∀ k, k < mj_K25.2.2 → parseFieldDescriptor (mj_K25.2.1 k).2.2.1 = some (mj_cty 25 k) := by decide +kernel
theorem mj_ds25 : ∀ a, a < mj_K25.2.2 → ∀ b, b < mj_K25.2.2 → a ≠ b → (mj_K25.2.1 a).2.1 ≠ (mj_K25.2.1 b).2.1 := by decide +kernel
theorem mj_nw25 : mj_nwc mj_Tw 25 mj_K25 := ⟨rfl, _, rfl, rfl, mj_u25, mj_pd25, (mj_w9 42 rfl rfl), (mj_w1 38 rfl rfl), by decide +kernel, mj_dfl_ok 25⟩
def mj_K26 : vw_C := (mj_R26, mj_F26, 3)
theorem mj_u26 : ∀ w ∈ u_ws mj_K26.1 mj_K26.2.1 mj_K26.2.2, w ∈ mj_Tw := (mj_ac (mj_w10 48 rfl rfl) (mj_ac (mj_w10 50 rfl rfl) (mj_ac (mj_w10 52 rfl rfl) mj_an)))
theorem mj_pd26 : ∀ k, k < mj_K26.2.2 → parseFieldDescriptor (mj_K26.2.1 k).2.2.1 = some (mj_cty 26 k) := by decide +kernel
theorem mj_ds26 : ∀ a, a < mj_K26.2.2 → ∀ b, b < mj_K26.2.2 → a ≠ b → (mj_K26.2.1 a).2.1 ≠ (mj_K26.2.1 b).2.1 := by decide +kernel
theorem mj_nw26 : mj_nwc mj_Tw 26 mj_K26 := ⟨rfl, _, rfl, rfl, mj_u26, mj_pd26, (mj_w9 176 rfl rfl), (mj_w1 39 rfl rfl), by decide +kernel, mj_dfl_ok 26⟩
def mj_K27 : vw_C := (mj_R27, mj_F27, 4)
theorem mj_u27 : ∀ w ∈ u_ws mj_K27.1 mj_K27.2.1 mj_K27.2.2, w ∈ mj_Tw := (mj_ac (mj_w9 206 rfl rfl) (mj_ac (mj_w9 208 rfl rfl) (mj_ac (mj_w9 210 rfl rfl) (mj_ac (mj_w9 212 rfl rfl) mj_an))))
theorem mj_pd27 : ∀ k, k < mj_K27.2.2 → parseFieldDescriptor (mj_K27.2.1 k).2.2.1 = some (mj_cty 27 k) := by decide +kernel
theorem mj_ds27 : ∀ a, a < mj_K27.2.2 → ∀ b, b < mj_K27.2.2 → a ≠ b → (mj_K27.2.1 a).2.1 ≠ (mj_K27.2.1 b).2.1 := by decide +kernel
theorem mj_nw27 : mj_nwc mj_Tw 27 mj_K27 := ⟨rfl, _, rfl, rfl, mj_u27, mj_pd27, (mj_w9 197 rfl rfl), (mj_w1 40 rfl rfl), by decide +kernel, mj_dfl_ok 27⟩
def mj_K28 : vw_C := (mj_R28, mj_F28, 5)
theorem mj_u28 : ∀ w ∈ u_ws mj_K28.1 mj_K28.2.1 mj_K28.2.2, w ∈ mj_Tw := (mj_ac (mj_w10 24 rfl rfl) (mj_ac (mj_w10 26 rfl rfl) (mj_ac (mj_w10 28 rfl rfl) (mj_ac (mj_w10 30 rfl rfl) (mj_ac (mj_w10 32 rfl rfl) mj_an)))))
theorem mj_pd28 : ∀ k, k < mj_K28.2.2 → parseFieldDescriptor (mj_K28.2.1 k).2.2.1 = some (mj_cty 28 k) := by decide +kernel
theorem mj_ds28 : ∀ a, a < mj_K28.2.2 → ∀ b, b < mj_K28.2.2 → a ≠ b → (mj_K28.2.1 a).2.1 ≠ (mj_K28.2.1 b).2.1 := by decide +kernel
theorem mj_nw28 : mj_nwc mj_Tw 28 mj_K28 := ⟨rfl, _, rfl, rfl, mj_u28, mj_pd28, (mj_w10 8 rfl rfl), (mj_w1 41 rfl rfl), by decide +kernel, mj_dfl_ok 28⟩
def mj_K29 : vw_C := (mj_R29, mj_F29, 1)
theorem mj_u29 : ∀ w ∈ u_ws mj_K29.1 mj_K29.2.1 mj_K29.2.2, w ∈ mj_Tw := (mj_ac (mj_w11 141 rfl rfl) mj_an)
theorem mj_pd29 : ∀ k, k < mj_K29.2.2 → parseFieldDescriptor (mj_K29.2.1 k).2.2.1 = some (mj_cty 29 k) := by decide +kernel
theorem mj_ds29 : ∀ a, a < mj_K29.2.2 → ∀ b, b < mj_K29.2.2 → a ≠ b → (mj_K29.2.1 a).2.1 ≠ (mj_K29.2.1 b).2.1 := by decide +kernel
theorem mj_nw29 : mj_nwc mj_Tw 29 mj_K29 := ⟨rfl, _, rfl, rfl, mj_u29, mj_pd29, (mj_w11 132 rfl rfl), (mj_w1 32 rfl rfl), by decide +kernel, mj_dfl_ok 29⟩
theorem mj_M0 : mj_Mm 0 = mj_m0 ∧ 0 < 9000 := ⟨rfl, by decide⟩
theorem mj_nm0 : mj_noMH mj_m0.1 := by unfold mj_noMH; decide +kernel
theorem mj_np0 : mj_np mj_m0.1 0 := by unfold mj_np; decide +kernel
theorem mj_cd0 : mj_cw mj_Tw mj_m0 := (mj_w1 52 rfl rfl)
theorem mj_M1 : mj_Mm 1 = mj_m1 ∧ 1 < 9000 := ⟨rfl, by decide⟩
theorem mj_nm1 : mj_noMH mj_m1.1 := by unfold mj_noMH; decide +kernel
theorem mj_np1 : mj_np mj_m1.1 0 := by unfold mj_np; decide +kernel
theorem mj_cd1 : mj_cw mj_Tw mj_m1 := (mj_w1 55 rfl rfl)
theorem mj_M2 : mj_Mm 2 = mj_m2 ∧ 2 < 9000 := ⟨rfl, by decide⟩
theorem mj_nm2 : mj_noMH mj_m2.1 := by unfold mj_noMH; decide +kernel
theorem mj_np2 : mj_np mj_m2.1 0 := by unfold mj_np; decide +kernel
theorem mj_cd2 : mj_cw mj_Tw mj_m2 := (mj_w1 60 rfl rfl)
theorem mj_M3 : mj_Mm 3 = mj_m3 ∧ 3 < 9000 := ⟨rfl, by decide⟩
theorem mj_nm3 : mj_noMH mj_m3.1 := by unfold mj_noMH; decide +kernel
theorem mj_np3 : mj_np mj_m3.1 0 := by unfold mj_np; decide +kernel
theorem mj_cd3 : mj_cw mj_Tw mj_m3 := (mj_w1 66 rfl rfl)
theorem mj_M4 : mj_Mm 4 = mj_m4 ∧ 4 < 9000 := ⟨rfl, by decide⟩
theorem mj_nm4 : mj_noMH mj_m4.1 := by unfold mj_noMH; decide +kernel
theorem mj_np4 : mj_np mj_m4.1 0 := by unfold mj_np; decide +kernel
theorem mj_cd4 : mj_cw mj_Tw mj_m4 := (mj_w1 82 rfl rfl)
theorem mj_M5 : mj_Mm 5 = mj_m5 ∧ 5 < 9000 := ⟨rfl, by decide⟩
theorem mj_nm5 : mj_noMH mj_m5.1 := by unfold mj_noMH; decide +kernel
theorem mj_np5 : mj_np mj_m5.1 0 := by unfold mj_np; decide +kernel
theorem mj_cd5 : mj_cw mj_Tw mj_m5 := (mj_w1 89 rfl rfl)
theorem mj_M6 : mj_Mm 6 = mj_m6 ∧ 6 < 9000 := ⟨rfl, by decide⟩
theorem mj_nm6 : mj_noMH mj_m6.1 := by unfold mj_noMH; decide +kernel
theorem mj_np6 : mj_np mj_m6.1 2 := by unfold mj_np; decide +kernel
theorem mj_cd6 : mj_cw mj_Tw mj_m6 := (mj_w1 152 rfl rfl)
theorem mj_M7 : mj_Mm 7 = mj_m7 ∧ 7 < 9000 := ⟨rfl, by decide⟩
theorem mj_nm7 : mj_noMH mj_m7.1 := by unfold mj_noMH; decide +kernel
theorem mj_np7 : mj_np mj_m7.1 0 := by unfold mj_np; decide +kernel
theorem mj_cd7 : mj_cw mj_Tw mj_m7 := (mj_w1 191 rfl rfl)
theorem mj_M8 : mj_Mm 8 = mj_m8 ∧ 8 < 9000 := ⟨rfl, by decide⟩
theorem mj_nm8 : mj_noMH mj_m8.1 := by unfold mj_noMH; decide +kernel
theorem mj_np8 : mj_np mj_m8.1 0 := by unfold mj_np; decide +kernel
theorem mj_cd8 : mj_cw mj_Tw mj_m8 := (mj_w1 212 rfl rfl)
theorem mj_M9 : mj_Mm 9 = mj_m9 ∧ 9 < 9000 := ⟨rfl, by decide⟩
theorem mj_nm9 : mj_noMH mj_m9.1 := by unfold mj_noMH; decide +kernel
theorem mj_np9 : mj_np mj_m9.1 2 := by unfold mj_np; decide +kernel
theorem mj_cd9 : mj_cw mj_Tw mj_m9 := (mj_w1 229 rfl rfl)
theorem mj_M10 : mj_Mm 10 = mj_m10 ∧ 10 < 9000 := ⟨rfl, by decide⟩
theorem mj_nm10 : mj_noMH mj_m10.1 := by unfold mj_noMH; decide +kernel
theorem mj_np10 : mj_np mj_m10.1 0 := by unfold mj_np; decide +kernel
theorem mj_cd10 : mj_cw mj_Tw mj_m10 := (mj_w2 41 rfl rfl)
theorem mj_M11 : mj_Mm 11 = mj_m11 ∧ 11 < 9000 := ⟨rfl, by decide⟩
theorem mj_nm11 : mj_noMH mj_m11.1 := by unfold mj_noMH; decide +kernel
theorem mj_np11 : mj_np mj_m11.1 0 := by unfold mj_np; decide +kernel
theorem mj_cd11 : mj_cw mj_Tw mj_m11 := (mj_w2 114 rfl rfl)
theorem mj_M12 : mj_Mm 12 = mj_m12 ∧ 12 < 9000 := ⟨rfl, by decide⟩
theorem mj_nm12 : mj_noMH mj_m12.1 := by unfold mj_noMH; decide +kernel
theorem mj_np12 : mj_np mj_m12.1 0 := by unfold mj_np; decide +kernel
theorem mj_cd12 : mj_cw mj_Tw mj_m12 := (mj_w2 118 rfl rfl)
theorem mj_M13 : mj_Mm 13 = mj_m13 ∧ 13 < 9000 := ⟨rfl, by decide⟩
theorem mj_nm13 : mj_noMH mj_m13.1 := by unfold mj_noMH; decide +kernel
theorem mj_np13 : mj_np mj_m13.1 0 := by unfold mj_np; decide +kernel
theorem mj_cd13 : mj_cw mj_Tw mj_m13 := (mj_w2 122 rfl rfl)
theorem mj_M14 : mj_Mm 14 = mj_m14 ∧ 14 < 9000 := ⟨rfl, by decide⟩
theorem mj_nm14 : mj_noMH mj_m14.1 := by unfold mj_noMH; decide +kernel
theorem mj_np14 : mj_np mj_m14.1 0 := by unfold mj_np; decide +kernel
theorem mj_cd14 : mj_cw mj_Tw mj_m14 := (mj_w2 126 rfl rfl)
theorem mj_M15 : mj_Mm 15 = mj_m15 ∧ 15 < 9000 := ⟨rfl, by decide⟩
theorem mj_nm15 : mj_noMH mj_m15.1 := by unfold mj_noMH; decide +kernel
theorem mj_np15 : mj_np mj_m15.1 0 := by unfold mj_np; decide +kernel
theorem mj_cd15 : mj_cw mj_Tw mj_m15 := (mj_w2 130 rfl rfl)
theorem mj_M16 : mj_Mm 16 = mj_m16 ∧ 16 < 9000 := ⟨rfl, by decide⟩
theorem mj_nm16 : mj_noMH mj_m16.1 := by unfold mj_noMH; decide +kernel
theorem mj_np16 : mj_np mj_m16.1 0 := by unfold mj_np; decide +kernel
theorem mj_cd16 : mj_cw mj_Tw mj_m16 := (mj_w2 134 rfl rfl)
theorem mj_M17 : mj_Mm 17 = mj_m17 ∧ 17 < 9000 := ⟨rfl, by decide⟩
theorem mj_nm17 : mj_noMH mj_m17.1 := by unfold mj_noMH; decide +kernel
theorem mj_np17 : mj_np mj_m17.1 0 := by unfold mj_np; decide +kernel
theorem mj_cd17 : mj_cw mj_Tw mj_m17 := (mj_w2 138 rfl rfl)
theorem mj_M18 : mj_Mm 18 = mj_m18 ∧ 18 < 9000 := ⟨rfl, by decide⟩
theorem mj_nm18 : mj_noMH mj_m18.1 := by unfold mj_noMH; decide +kernel
theorem mj_np18 : mj_np mj_m18.1 0 := by unfold mj_np; decide +kernel
theorem mj_cd18 : mj_cw mj_Tw mj_m18 := (mj_w2 142 rfl rfl)
theorem mj_M19 : mj_Mm 19 = mj_m19 ∧ 19 < 9000 := ⟨rfl, by decide⟩
theorem mj_nm19 : mj_noMH mj_m19.1 := by unfold mj_noMH; decide +kernel
theorem mj_np19 : mj_np mj_m19.1 0 := by unfold mj_np; decide +kernel
theorem mj_cd19 : mj_cw mj_Tw mj_m19 := (mj_w2 146 rfl rfl)
theorem mj_M20 : mj_Mm 20 = mj_m20 ∧ 20 < 9000 := ⟨rfl, by decide⟩
theorem mj_nm20 : mj_noMH mj_m20.1 := by unfold mj_noMH; decide +kernel
theorem mj_np20 : mj_np mj_m20.1 1 := by unfold mj_np; decide +kernel
theorem mj_cd20 : mj_cw mj_Tw mj_m20 := (mj_w2 150 rfl rfl)
theorem mj_M21 : mj_Mm 21 = mj_m21 ∧ 21 < 9000 := ⟨rfl, by decide⟩
theorem mj_nm21 : mj_noMH mj_m21.1 := by unfold mj_noMH; decide +kernel
theorem mj_np21 : mj_np mj_m21.1 0 := by unfold mj_np; decide +kernel
theorem mj_cd21 : mj_cw mj_Tw mj_m21 := (mj_w2 154 rfl rfl)
theorem mj_M22 : mj_Mm 22 = mj_m22 ∧ 22 < 9000 := ⟨rfl, by decide⟩
theorem mj_nm22 : mj_noMH mj_m22.1 := by unfold mj_noMH; decide +kernel
theorem mj_np22 : mj_np mj_m22.1 0 := by unfold mj_np; decide +kernel
theorem mj_cd22 : mj_cw mj_Tw mj_m22 := (mj_w2 158 rfl rfl)
theorem mj_M23 : mj_Mm 23 = mj_m23 ∧ 23 < 9000 := ⟨rfl, by decide⟩
theorem mj_nm23 : mj_noMH mj_m23.1 := by unfold mj_noMH; decide +kernel
theorem mj_np23 : mj_np mj_m23.1 0 := by unfold mj_np; decide +kernel
theorem mj_cd23 : mj_cw mj_Tw mj_m23 := (mj_w2 162 rfl rfl)
theorem mj_M24 : mj_Mm 24 = mj_m24 ∧ 24 < 9000 := ⟨rfl, by decide⟩
theorem mj_nm24 : mj_noMH mj_m24.1 := by unfold mj_noMH; decide +kernel
theorem mj_np24 : mj_np mj_m24.1 0 := by unfold mj_np; decide +kernel
theorem mj_cd24 : mj_cw mj_Tw mj_m24 := (mj_w2 166 rfl rfl)
theorem mj_M25 : mj_Mm 25 = mj_m25 ∧ 25 < 9000 := ⟨rfl, by decide⟩
theorem mj_nm25 : mj_noMH mj_m25.1 := by unfold mj_noMH; decide +kernel
theorem mj_np25 : mj_np mj_m25.1 0 := by unfold mj_np; decide +kernel
theorem mj_cd25 : mj_cw mj_Tw mj_m25 := (mj_w2 170 rfl rfl)
theorem mj_M26 : mj_Mm 26 = mj_m26 ∧ 26 < 9000 := ⟨rfl, by decide⟩
theorem mj_nm26 : mj_noMH mj_m26.1 := by unfold mj_noMH; decide +kernel
theorem mj_np26 : mj_np mj_m26.1 0 := by unfold mj_np; decide +kernel
theorem mj_cd26 : mj_cw mj_Tw mj_m26 := (mj_w2 174 rfl rfl)
theorem mj_M27 : mj_Mm 27 = mj_m27 ∧ 27 < 9000 := ⟨rfl, by decide⟩
theorem mj_nm27 : mj_noMH mj_m27.1 := by unfold mj_noMH; decide +kernel
theorem mj_np27 : mj_np mj_m27.1 2 := by unfold mj_np; decide +kernel
theorem mj_cd27 : mj_cw mj_Tw mj_m27 := (mj_w2 177 rfl rfl)
theorem mj_M28 : mj_Mm 28 = mj_m28 ∧ 28 < 9000 := ⟨rfl, by decide⟩
theorem mj_nm28 : mj_noMH mj_m28.1 := by unfold mj_noMH; decide +kernel
theorem mj_np28 : mj_np mj_m28.1 0 := by unfold mj_np; decide +kernel
theorem mj_cd28 : mj_cw mj_Tw mj_m28 := (mj_w2 181 rfl rfl)
theorem mj_M29 : mj_Mm 29 = mj_m29 ∧ 29 < 9000 := ⟨rfl, by decide⟩
theorem mj_nm29 : mj_noMH mj_m29.1 := by unfold mj_noMH; decide +kernel
theorem mj_np29 : mj_np mj_m29.1 0 := by unfold mj_np; decide +kernel
theorem mj_cd29 : mj_cw mj_Tw mj_m29 := (mj_w2 185 rfl rfl)
theorem mj_M30 : mj_Mm 30 = mj_m30 ∧ 30 < 9000 := ⟨rfl, by decide⟩
theorem mj_nm30 : mj_noMH mj_m30.1 := by unfold mj_noMH; decide +kernel
theorem mj_np30 : mj_np mj_m30.1 0 := by unfold mj_np; decide +kernel
theorem mj_cd30 : mj_cw mj_Tw mj_m30 := (mj_w2 189 rfl rfl)
theorem mj_M31 : mj_Mm 31 = mj_m31 ∧ 31 < 9000 := ⟨rfl, by decide⟩
theorem mj_nm31 : mj_noMH mj_m31.1 := by unfold mj_noMH; decide +kernel
theorem mj_np31 : mj_np mj_m31.1 1 := by unfold mj_np; decide +kernel
theorem mj_cd31 : mj_cw mj_Tw mj_m31 := (mj_w2 193 rfl rfl)
theorem mj_M32 : mj_Mm 32 = mj_m32 ∧ 32 < 9000 := ⟨rfl, by decide⟩
theorem mj_nm32 : mj_noMH mj_m32.1 := by unfold mj_noMH; decide +kernel
theorem mj_np32 : mj_np mj_m32.1 2 := by unfold mj_np; decide +kernel
theorem mj_cd32 : mj_cw mj_Tw mj_m32 := (mj_w2 196 rfl rfl)
theorem mj_M33 : mj_Mm 33 = mj_m33 ∧ 33 < 9000 := ⟨rfl, by decide⟩
theorem mj_nm33 : mj_noMH mj_m33.1 := by unfold mj_noMH; decide +kernel
theorem mj_np33 : mj_np mj_m33.1 1 := by unfold mj_np; decide +kernel
theorem mj_cd33 : mj_cw mj_Tw mj_m33 := (mj_w2 200 rfl rfl)
theorem mj_M34 : mj_Mm 34 = mj_m34 ∧ 34 < 9000 := ⟨rfl, by decide⟩
theorem mj_nm34 : mj_noMH mj_m34.1 := by unfold mj_noMH; decide +kernel
theorem mj_np34 : mj_np mj_m34.1 2 := by unfold mj_np; decide +kernel
theorem mj_cd34 : mj_cw mj_Tw mj_m34 := (mj_w2 203 rfl rfl)
theorem mj_M35 : mj_Mm 35 = mj_m35 ∧ 35 < 9000 := ⟨rfl, by decide⟩
theorem mj_nm35 : mj_noMH mj_m35.1 := by unfold mj_noMH; decide +kernel
theorem mj_np35 : mj_np mj_m35.1 0 := by unfold mj_np; decide +kernel
theorem mj_cd35 : mj_cw mj_Tw mj_m35 := (mj_w2 207 rfl rfl)
theorem mj_M36 : mj_Mm 36 = mj_m36 ∧ 36 < 9000 := ⟨rfl, by decide⟩
theorem mj_nm36 : mj_noMH mj_m36.1 := by unfold mj_noMH; decide +kernel
theorem mj_np36 : mj_np mj_m36.1 0 := by unfold mj_np; decide +kernel
theorem mj_cd36 : mj_cw mj_Tw mj_m36 := (mj_w2 211 rfl rfl)
theorem mj_M37 : mj_Mm 37 = mj_m37 ∧ 37 < 9000 := ⟨rfl, by decide⟩
theorem mj_nm37 : mj_noMH mj_m37.1 := by unfold mj_noMH; decide +kernel
theorem mj_np37 : mj_np mj_m37.1 0 := by unfold mj_np; decide +kernel
theorem mj_cd37 : mj_cw mj_Tw mj_m37 := (mj_w2 215 rfl rfl)
theorem mj_M38 : mj_Mm 38 = mj_m38 ∧ 38 < 9000 := ⟨rfl, by decide⟩
theorem mj_nm38 : mj_noMH mj_m38.1 := by unfold mj_noMH; decide +kernel
theorem mj_np38 : mj_np mj_m38.1 1 := by unfold mj_np; decide +kernel
theorem mj_cd38 : mj_cw mj_Tw mj_m38 := (mj_w2 219 rfl rfl)
theorem mj_M39 : mj_Mm 39 = mj_m39 ∧ 39 < 9000 := ⟨rfl, by decide⟩
theorem mj_nm39 : mj_noMH mj_m39.1 := by unfold mj_noMH; decide +kernel
theorem mj_np39 : mj_np mj_m39.1 2 := by unfold mj_np; decide +kernel
theorem mj_cd39 : mj_cw mj_Tw mj_m39 := (mj_w2 222 rfl rfl)
theorem mj_M40 : mj_Mm 40 = mj_m40 ∧ 40 < 9000 := ⟨rfl, by decide⟩
theorem mj_nm40 : mj_noMH mj_m40.1 := by unfold mj_noMH; decide +kernel
theorem mj_np40 : mj_np mj_m40.1 2 := by unfold mj_np; decide +kernel
theorem mj_cd40 : mj_cw mj_Tw mj_m40 := (mj_w2 226 rfl rfl)
theorem mj_M41 : mj_Mm 41 = mj_m41 ∧ 41 < 9000 := ⟨rfl, by decide⟩
theorem mj_nm41 : mj_noMH mj_m41.1 := by unfold mj_noMH; decide +kernel
theorem mj_np41 : mj_np mj_m41.1 0 := by unfold mj_np; decide +kernel
theorem mj_cd41 : mj_cw mj_Tw mj_m41 := (mj_w2 230 rfl rfl)
theorem mj_M42 : mj_Mm 42 = mj_m42 ∧ 42 < 9000 := ⟨rfl, by decide⟩
theorem mj_nm42 : mj_noMH mj_m42.1 := by unfold mj_noMH; decide +kernel
theorem mj_np42 : mj_np mj_m42.1 0 := by unfold mj_np; decide +kernel
theorem mj_cd42 : mj_cw mj_Tw mj_m42 := (mj_w2 235 rfl rfl)
theorem mj_M43 : mj_Mm 43 = mj_m43 ∧ 43 < 9000 := ⟨rfl, by decide⟩
theorem mj_nm43 : mj_noMH mj_m43.1 := by unfold mj_noMH; decide +kernel
theorem mj_np43 : mj_np mj_m43.1 0 := by unfold mj_np; decide +kernel
theorem mj_cd43 : mj_cw mj_Tw mj_m43 := (mj_w3 4 rfl rfl)
theorem mj_M44 : mj_Mm 44 = mj_m44 ∧ 44 < 9000 := ⟨rfl, by decide⟩
theorem mj_nm44 : mj_noMH mj_m44.1 := by unfold mj_noMH; decide +kernel
theorem mj_np44 : mj_np mj_m44.1 1 := by unfold mj_np; decide +kernel
theorem mj_cd44 : mj_cw mj_Tw mj_m44 := (mj_w3 8 rfl rfl)
theorem mj_M45 : mj_Mm 45 = mj_m45 ∧ 45 < 9000 := ⟨rfl, by decide⟩
theorem mj_nm45 : mj_noMH mj_m45.1 := by unfold mj_noMH; decide +kernel
theorem mj_np45 : mj_np mj_m45.1 1 := by unfold mj_np; decide +kernel
theorem mj_cd45 : mj_cw mj_Tw mj_m45 := (mj_w3 13 rfl rfl)
theorem mj_M46 : mj_Mm 46 = mj_m46 ∧ 46 < 9000 := ⟨rfl, by decide⟩
theorem mj_nm46 : mj_noMH mj_m46.1 := by unfold mj_noMH; decide +kernel
theorem mj_np46 : mj_np mj_m46.1 1 := by unfold mj_np; decide +kernel
theorem mj_cd46 : mj_cw mj_Tw mj_m46 := (mj_w3 17 rfl rfl)
theorem mj_M47 : mj_Mm 47 = mj_m47 ∧ 47 < 9000 := ⟨rfl, by decide⟩
theorem mj_nm47 : mj_noMH mj_m47.1 := by unfold mj_noMH; decide +kernel
theorem mj_np47 : mj_np mj_m47.1 1 := by unfold mj_np; decide +kernel
theorem mj_cd47 : mj_cw mj_Tw mj_m47 := (mj_w3 22 rfl rfl)
theorem mj_M48 : mj_Mm 48 = mj_m48 ∧ 48 < 9000 := ⟨rfl, by decide⟩
theorem mj_nm48 : mj_noMH mj_m48.1 := by unfold mj_noMH; decide +kernel
theorem mj_np48 : mj_np mj_m48.1 0 := by unfold mj_np; decide +kernel
theorem mj_cd48 : mj_cw mj_Tw mj_m48 := (mj_w3 27 rfl rfl)
theorem mj_M49 : mj_Mm 49 = mj_m49 ∧ 49 < 9000 := ⟨rfl, by decide⟩
theorem mj_nm49 : mj_noMH mj_m49.1 := by unfold mj_noMH; decide +kernel
theorem mj_np49 : mj_np mj_m49.1 2 := by unfold mj_np; decide +kernel
theorem mj_cd49 : mj_cw mj_Tw mj_m49 := (mj_w3 31 rfl rfl)
theorem mj_M50 : mj_Mm 50 = mj_m50 ∧ 50 < 9000 := ⟨rfl, by decide⟩
theorem mj_nm50 : mj_noMH mj_m50.1 := by unfold mj_noMH; decide +kernel
theorem mj_np50 : mj_np mj_m50.1 2 := by unfold mj_np; decide +kernel
theorem mj_cd50 : mj_cw mj_Tw mj_m50 := (mj_w3 35 rfl rfl)
theorem mj_M51 : mj_Mm 51 = mj_m51 ∧ 51 < 9000 := ⟨rfl, by decide⟩
theorem mj_nm51 : mj_noMH mj_m51.1 := by unfold mj_noMH; decide +kernel
theorem mj_np51 : mj_np mj_m51.1 2 := by unfold mj_np; decide +kernel
theorem mj_cd51 : mj_cw mj_Tw mj_m51 := (mj_w3 38 rfl rfl)
theorem mj_M52 : mj_Mm 52 = mj_m52 ∧ 52 < 9000 := ⟨rfl, by decide⟩
theorem mj_nm52 : mj_noMH mj_m52.1 := by unfold mj_noMH; decide +kernel
theorem mj_np52 : mj_np mj_m52.1 2 := by unfold mj_np; decide +kernel
theorem mj_cd52 : mj_cw mj_Tw mj_m52 := (mj_w3 43 rfl rfl)
theorem mj_M53 : mj_Mm 53 = mj_m53 ∧ 53 < 9000 := ⟨rfl, by decide⟩
theorem mj_nm53 : mj_noMH mj_m53.1 := by unfold mj_noMH; decide +kernel
theorem mj_np53 : mj_np mj_m53.1 2 := by unfold mj_np; decide +kernel
theorem mj_cd53 : mj_cw mj_Tw mj_m53 := (mj_w3 46 rfl rfl)
theorem mj_M54 : mj_Mm 54 = mj_m54 ∧ 54 < 9000 := ⟨rfl, by decide⟩
theorem mj_nm54 : mj_noMH mj_m54.1 := by unfold mj_noMH; decide +kernel
theorem mj_np54 : mj_np mj_m54.1 0 := by unfold mj_np; decide +kernel
theorem mj_cd54 : mj_cw mj_Tw mj_m54 := (mj_w3 50 rfl rfl)
theorem mj_M55 : mj_Mm 55 = mj_m55 ∧ 55 < 9000 := ⟨rfl, by decide⟩
theorem mj_nm55 : mj_noMH mj_m55.1 := by unfold mj_noMH; decide +kernel
theorem mj_np55 : mj_np mj_m55.1 1 := by unfold mj_np; decide +kernel
theorem mj_cd55 : mj_cw mj_Tw mj_m55 := (mj_w3 54 rfl rfl)
theorem mj_M56 : mj_Mm 56 = mj_m56 ∧ 56 < 9000 := ⟨rfl, by decide⟩
theorem mj_nm56 : mj_noMH mj_m56.1 := by unfold mj_noMH; decide +kernel
theorem mj_np56 : mj_np mj_m56.1 0 := by unfold mj_np; decide +kernel
theorem mj_cd56 : mj_cw mj_Tw mj_m56 := (mj_w3 58 rfl rfl)
theorem mj_M57 : mj_Mm 57 = mj_m57 ∧ 57 < 9000 := ⟨rfl, by decide⟩
theorem mj_nm57 : mj_noMH mj_m57.1 := by unfold mj_noMH; decide +kernel
theorem mj_np57 : mj_np mj_m57.1 1 := by unfold mj_np; decide +kernel
theorem mj_cd57 : mj_cw mj_Tw mj_m57 := (mj_w3 62 rfl rfl)
theorem mj_M58 : mj_Mm 58 = mj_m58 ∧ 58 < 9000 := ⟨rfl, by decide⟩
theorem mj_nm58 : mj_noMH mj_m58.1 := by unfold mj_noMH; decide +kernel
theorem mj_np58 : mj_np mj_m58.1 2 := by unfold mj_np; decide +kernel
theorem mj_cd58 : mj_cw mj_Tw mj_m58 := (mj_w3 65 rfl rfl)
theorem mj_M59 : mj_Mm 59 = mj_m59 ∧ 59 < 9000 := ⟨rfl, by decide⟩
theorem mj_nm59 : mj_noMH mj_m59.1 := by unfold mj_noMH; decide +kernel
theorem mj_np59 : mj_np mj_m59.1 2 := by unfold mj_np; decide +kernel
theorem mj_cd59 : mj_cw mj_Tw mj_m59 := (mj_w3 68 rfl rfl)
theorem mj_M60 : mj_Mm 60 = mj_m60 ∧ 60 < 9000 := ⟨rfl, by decide⟩
theorem mj_nm60 : mj_noMH mj_m60.1 := by unfold mj_noMH; decide +kernel
theorem mj_np60 : mj_np mj_m60.1 0 := by unfold mj_np; decide +kernel
theorem mj_cd60 : mj_cw mj_Tw mj_m60 := (mj_w3 72 rfl rfl)
theorem mj_M61 : mj_Mm 61 = mj_m61 ∧ 61 < 9000 := ⟨rfl, by decide⟩
theorem mj_nm61 : mj_noMH mj_m61.1 := by unfold mj_noMH; decide +kernel
theorem mj_np61 : mj_np mj_m61.1 0 := by unfold mj_np; decide +kernel
theorem mj_cd61 : mj_cw mj_Tw mj_m61 := (mj_w3 76 rfl rfl)
theorem mj_M62 : mj_Mm 62 = mj_m62 ∧ 62 < 9000 := ⟨rfl, by decide⟩
theorem mj_nm62 : mj_noMH mj_m62.1 := by unfold mj_noMH; decide +kernel
theorem mj_np62 : mj_np mj_m62.1 2 := by unfold mj_np; decide +kernel
theorem mj_cd62 : mj_cw mj_Tw mj_m62 := (mj_w3 79 rfl rfl)
theorem mj_M63 : mj_Mm 63 = mj_m63 ∧ 63 < 9000 := ⟨rfl, by decide⟩
theorem mj_nm63 : mj_noMH mj_m63.1 := by unfold mj_noMH; decide +kernel
theorem mj_np63 : mj_np mj_m63.1 1 := by unfold mj_np; decide +kernel
theorem mj_cd63 : mj_cw mj_Tw mj_m63 := (mj_w3 82 rfl rfl)
theorem mj_M64 : mj_Mm 64 = mj_m64 ∧ 64 < 9000 := ⟨rfl, by decide⟩
theorem mj_nm64 : mj_noMH mj_m64.1 := by unfold mj_noMH; decide +kernel
theorem mj_np64 : mj_np mj_m64.1 0 := by unfold mj_np; decide +kernel
theorem mj_cd64 : mj_cw mj_Tw mj_m64 := (mj_w3 87 rfl rfl)
theorem mj_M65 : mj_Mm 65 = mj_m65 ∧ 65 < 9000 := ⟨rfl, by decide⟩
theorem mj_nm65 : mj_noMH mj_m65.1 := by unfold mj_noMH; decide +kernel
theorem mj_np65 : mj_np mj_m65.1 0 := by unfold mj_np; decide +kernel
theorem mj_cd65 : mj_cw mj_Tw mj_m65 := (mj_w3 92 rfl rfl)
theorem mj_M66 : mj_Mm 66 = mj_m66 ∧ 66 < 9000 := ⟨rfl, by decide⟩
theorem mj_nm66 : mj_noMH mj_m66.1 := by unfold mj_noMH; decide +kernel
theorem mj_np66 : mj_np mj_m66.1 0 := by unfold mj_np; decide +kernel
theorem mj_cd66 : mj_cw mj_Tw mj_m66 := (mj_w3 96 rfl rfl)
theorem mj_M67 : mj_Mm 67 = mj_m67 ∧ 67 < 9000 := ⟨rfl, by decide⟩
theorem mj_nm67 : mj_noMH mj_m67.1 := by unfold mj_noMH; decide +kernel
theorem mj_np67 : mj_np mj_m67.1 0 := by unfold mj_np; decide +kernel
theorem mj_cd67 : mj_cw mj_Tw mj_m67 := (mj_w3 100 rfl rfl)
theorem mj_M68 : mj_Mm 68 = mj_m68 ∧ 68 < 9000 := ⟨rfl, by decide⟩
theorem mj_nm68 : mj_noMH mj_m68.1 := by unfold mj_noMH; decide +kernel
theorem mj_np68 : mj_np mj_m68.1 1 := by unfold mj_np; decide +kernel
theorem mj_cd68 : mj_cw mj_Tw mj_m68 := (mj_w3 106 rfl rfl)
theorem mj_M69 : mj_Mm 69 = mj_m69 ∧ 69 < 9000 := ⟨rfl, by decide⟩
theorem mj_nm69 : mj_noMH mj_m69.1 := by unfold mj_noMH; decide +kernel
theorem mj_np69 : mj_np mj_m69.1 1 := by unfold mj_np; decide +kernel
theorem mj_cd69 : mj_cw mj_Tw mj_m69 := (mj_w3 111 rfl rfl)
theorem mj_M70 : mj_Mm 70 = mj_m70 ∧ 70 < 9000 := ⟨rfl, by decide⟩
theorem mj_nm70 : mj_noMH mj_m70.1 := by unfold mj_noMH; decide +kernel
theorem mj_np70 : mj_np mj_m70.1 0 := by unfold mj_np; decide +kernel
theorem mj_cd70 : mj_cw mj_Tw mj_m70 := (mj_w3 115 rfl rfl)
theorem mj_M71 : mj_Mm 71 = mj_m71 ∧ 71 < 9000 := ⟨rfl, by decide⟩
theorem mj_nm71 : mj_noMH mj_m71.1 := by unfold mj_noMH; decide +kernel
theorem mj_np71 : mj_np mj_m71.1 1 := by unfold mj_np; decide +kernel
theorem mj_cd71 : mj_cw mj_Tw mj_m71 := (mj_w3 120 rfl rfl)
theorem mj_M72 : mj_Mm 72 = mj_m72 ∧ 72 < 9000 := ⟨rfl, by decide⟩
theorem mj_nm72 : mj_noMH mj_m72.1 := by unfold mj_noMH; decide +kernel
theorem mj_np72 : mj_np mj_m72.1 5 := by unfold mj_np; decide +kernel
theorem mj_cd72 : mj_cw mj_Tw mj_m72 := (mj_w3 124 rfl rfl)
theorem mj_M73 : mj_Mm 73 = mj_m73 ∧ 73 < 9000 := ⟨rfl, by decide⟩
theorem mj_nm73 : mj_noMH mj_m73.1 := by unfold mj_noMH; decide +kernel
theorem mj_np73 : mj_np mj_m73.1 1 := by unfold mj_np; decide +kernel
theorem mj_cd73 : mj_cw mj_Tw mj_m73 := (mj_w3 128 rfl rfl)
theorem mj_M74 : mj_Mm 74 = mj_m74 ∧ 74 < 9000 := ⟨rfl, by decide⟩
theorem mj_nm74 : mj_noMH mj_m74.1 := by unfold mj_noMH; decide +kernel
theorem mj_np74 : mj_np mj_m74.1 1 := by unfold mj_np; decide +kernel
theorem mj_cd74 : mj_cw mj_Tw mj_m74 := (mj_w3 132 rfl rfl)
theorem mj_M75 : mj_Mm 75 = mj_m75 ∧ 75 < 9000 := ⟨rfl, by decide⟩
theorem mj_nm75 : mj_noMH mj_m75.1 := by unfold mj_noMH; decide +kernel
theorem mj_np75 : mj_np mj_m75.1 4 := by unfold mj_np; decide +kernel
theorem mj_cd75 : mj_cw mj_Tw mj_m75 := (mj_w3 135 rfl rfl)
theorem mj_M76 : mj_Mm 76 = mj_m76 ∧ 76 < 9000 := ⟨rfl, by decide⟩
theorem mj_nm76 : mj_noMH mj_m76.1 := by unfold mj_noMH; decide +kernel
theorem mj_np76 : mj_np mj_m76.1 2 := by unfold mj_np; decide +kernel
theorem mj_cd76 : mj_cw mj_Tw mj_m76 := (mj_w3 138 rfl rfl)
theorem mj_M77 : mj_Mm 77 = mj_m77 ∧ 77 < 9000 := ⟨rfl, by decide⟩
theorem mj_nm77 : mj_noMH mj_m77.1 := by unfold mj_noMH; decide +kernel
theorem mj_np77 : mj_np mj_m77.1 1 := by unfold mj_np; decide +kernel
theorem mj_cd77 : mj_cw mj_Tw mj_m77 := (mj_w3 142 rfl rfl)
theorem mj_M78 : mj_Mm 78 = mj_m78 ∧ 78 < 9000 := ⟨rfl, by decide⟩
theorem mj_nm78 : mj_noMH mj_m78.1 := by unfold mj_noMH; decide +kernel
theorem mj_np78 : mj_np mj_m78.1 1 := by unfold mj_np; decide +kernel
theorem mj_cd78 : mj_cw mj_Tw mj_m78 := (mj_w3 145 rfl rfl)
theorem mj_M79 : mj_Mm 79 = mj_m79 ∧ 79 < 9000 := ⟨rfl, by decide⟩
theorem mj_nm79 : mj_noMH mj_m79.1 := by unfold mj_noMH; decide +kernel
theorem mj_np79 : mj_np mj_m79.1 2 := by unfold mj_np; decide +kernel
theorem mj_cd79 : mj_cw mj_Tw mj_m79 := (mj_w3 149 rfl rfl)
theorem mj_M80 : mj_Mm 80 = mj_m80 ∧ 80 < 9000 := ⟨rfl, by decide⟩
theorem mj_nm80 : mj_noMH mj_m80.1 := by unfold mj_noMH; decide +kernel
theorem mj_np80 : mj_np mj_m80.1 1 := by unfold mj_np; decide +kernel
theorem mj_cd80 : mj_cw mj_Tw mj_m80 := (mj_w3 152 rfl rfl)
theorem mj_M81 : mj_Mm 81 = mj_m81 ∧ 81 < 9000 := ⟨rfl, by decide⟩
theorem mj_nm81 : mj_noMH mj_m81.1 := by unfold mj_noMH; decide +kernel
theorem mj_np81 : mj_np mj_m81.1 0 := by unfold mj_np; decide +kernel
theorem mj_cd81 : mj_cw mj_Tw mj_m81 := (mj_w3 157 rfl rfl)
theorem mj_M82 : mj_Mm 82 = mj_m82 ∧ 82 < 9000 := ⟨rfl, by decide⟩
theorem mj_nm82 : mj_noMH mj_m82.1 := by unfold mj_noMH; decide +kernel
theorem mj_np82 : mj_np mj_m82.1 0 := by unfold mj_np; decide +kernel
theorem mj_cd82 : mj_cw mj_Tw mj_m82 := (mj_w3 161 rfl rfl)
theorem mj_M83 : mj_Mm 83 = mj_m83 ∧ 83 < 9000 := ⟨rfl, by decide⟩
theorem mj_nm83 : mj_noMH mj_m83.1 := by unfold mj_noMH; decide +kernel
theorem mj_np83 : mj_np mj_m83.1 2 := by unfold mj_np; decide +kernel
theorem mj_cd83 : mj_cw mj_Tw mj_m83 := (mj_w3 165 rfl rfl)
theorem mj_M84 : mj_Mm 84 = mj_m84 ∧ 84 < 9000 := ⟨rfl, by decide⟩
theorem mj_nm84 : mj_noMH mj_m84.1 := by unfold mj_noMH; decide +kernel
theorem mj_np84 : mj_np mj_m84.1 0 := by unfold mj_np; decide +kernel
theorem mj_cd84 : mj_cw mj_Tw mj_m84 := (mj_w3 169 rfl rfl)
theorem mj_M85 : mj_Mm 85 = mj_m85 ∧ 85 < 9000 := ⟨rfl, by decide⟩
theorem mj_nm85 : mj_noMH mj_m85.1 := by unfold mj_noMH; decide +kernel
theorem mj_np85 : mj_np mj_m85.1 1 := by unfold mj_np; decide +kernel
theorem mj_cd85 : mj_cw mj_Tw mj_m85 := (mj_w3 173 rfl rfl)
theorem mj_M86 : mj_Mm 86 = mj_m86 ∧ 86 < 9000 := ⟨rfl, by decide⟩
theorem mj_nm86 : mj_noMH mj_m86.1 := by unfold mj_noMH; decide +kernel
theorem mj_np86 : mj_np mj_m86.1 1 := by unfold mj_np; decide +kernel
theorem mj_cd86 : mj_cw mj_Tw mj_m86 := (mj_w3 176 rfl rfl)
theorem mj_M87 : mj_Mm 87 = mj_m87 ∧ 87 < 9000 := ⟨rfl, by decide⟩
theorem mj_nm87 : mj_noMH mj_m87.1 := by unfold mj_noMH; decide +kernel
theorem mj_np87 : mj_np mj_m87.1 0 := by unfold mj_np; decide +kernel
theorem mj_cd87 : mj_cw mj_Tw mj_m87 := (mj_w3 180 rfl rfl)
theorem mj_M88 : mj_Mm 88 = mj_m88 ∧ 88 < 9000 := ⟨rfl, by decide⟩
theorem mj_nm88 : mj_noMH mj_m88.1 := by unfold mj_noMH; decide +kernel
theorem mj_np88 : mj_np mj_m88.1 2 := by unfold mj_np; decide +kernel
theorem mj_cd88 : mj_cw mj_Tw mj_m88 := (mj_w3 184 rfl rfl)
theorem mj_M89 : mj_Mm 89 = mj_m89 ∧ 89 < 9000 := ⟨rfl, by decide⟩
theorem mj_nm89 : mj_noMH mj_m89.1 := by unfold mj_noMH; decide +kernel
theorem mj_np89 : mj_np mj_m89.1 1 := by unfold mj_np; decide +kernel
theorem mj_cd89 : mj_cw mj_Tw mj_m89 := (mj_w3 188 rfl rfl)
theorem mj_M90 : mj_Mm 90 = mj_m90 ∧ 90 < 9000 := ⟨rfl, by decide⟩
theorem mj_nm90 : mj_noMH mj_m90.1 := by unfold mj_noMH; decide +kernel
theorem mj_np90 : mj_np mj_m90.1 1 := by unfold mj_np; decide +kernel
theorem mj_cd90 : mj_cw mj_Tw mj_m90 := (mj_w3 192 rfl rfl)
theorem mj_M91 : mj_Mm 91 = mj_m91 ∧ 91 < 9000 := ⟨rfl, by decide⟩
theorem mj_nm91 : mj_noMH mj_m91.1 := by unfold mj_noMH; decide +kernel
theorem mj_np91 : mj_np mj_m91.1 1 := by unfold mj_np; decide +kernel
theorem mj_cd91 : mj_cw mj_Tw mj_m91 := (mj_w3 196 rfl rfl)
theorem mj_M92 : mj_Mm 92 = mj_m92 ∧ 92 < 9000 := ⟨rfl, by decide⟩
theorem mj_nm92 : mj_noMH mj_m92.1 := by unfold mj_noMH; decide +kernel
theorem mj_np92 : mj_np mj_m92.1 0 := by unfold mj_np; decide +kernel
theorem mj_cd92 : mj_cw mj_Tw mj_m92 := (mj_w3 201 rfl rfl)
theorem mj_M93 : mj_Mm 93 = mj_m93 ∧ 93 < 9000 := ⟨rfl, by decide⟩
theorem mj_nm93 : mj_noMH mj_m93.1 := by unfold mj_noMH; decide +kernel
theorem mj_np93 : mj_np mj_m93.1 1 := by unfold mj_np; decide +kernel
theorem mj_cd93 : mj_cw mj_Tw mj_m93 := (mj_w3 204 rfl rfl)
theorem mj_M94 : mj_Mm 94 = mj_m94 ∧ 94 < 9000 := ⟨rfl, by decide⟩
theorem mj_nm94 : mj_noMH mj_m94.1 := by unfold mj_noMH; decide +kernel
theorem mj_np94 : mj_np mj_m94.1 1 := by unfold mj_np; decide +kernel
theorem mj_cd94 : mj_cw mj_Tw mj_m94 := (mj_w3 207 rfl rfl)
theorem mj_M95 : mj_Mm 95 = mj_m95 ∧ 95 < 9000 := ⟨rfl, by decide⟩
theorem mj_nm95 : mj_noMH mj_m95.1 := by unfold mj_noMH; decide +kernel
theorem mj_np95 : mj_np mj_m95.1 1 := by unfold mj_np; decide +kernel
theorem mj_cd95 : mj_cw mj_Tw mj_m95 := (mj_w3 210 rfl rfl)
theorem mj_M96 : mj_Mm 96 = mj_m96 ∧ 96 < 9000 := ⟨rfl, by decide⟩
theorem mj_nm96 : mj_noMH mj_m96.1 := by unfold mj_noMH; decide +kernel
theorem mj_np96 : mj_np mj_m96.1 1 := by unfold mj_np; decide +kernel
theorem mj_cd96 : mj_cw mj_Tw mj_m96 := (mj_w3 214 rfl rfl)
theorem mj_M97 : mj_Mm 97 = mj_m97 ∧ 97 < 9000 := ⟨rfl, by decide⟩
theorem mj_nm97 : mj_noMH mj_m97.1 := by unfold mj_noMH; decide +kernel
theorem mj_np97 : mj_np mj_m97.1 1 := by unfold mj_np; decide +kernel
theorem mj_cd97 : mj_cw mj_Tw mj_m97 := (mj_w3 218 rfl rfl)
theorem mj_M98 : mj_Mm 98 = mj_m98 ∧ 98 < 9000 := ⟨rfl, by decide⟩
theorem mj_nm98 : mj_noMH mj_m98.1 := by unfold mj_noMH; decide +kernel
theorem mj_np98 : mj_np mj_m98.1 4 := by unfold mj_np; decide +kernel
theorem mj_cd98 : mj_cw mj_Tw mj_m98 := (mj_w3 222 rfl rfl)
theorem mj_M99 : mj_Mm 99 = mj_m99 ∧ 99 < 9000 := ⟨rfl, by decide⟩
theorem mj_nm99 : mj_noMH mj_m99.1 := by unfold mj_noMH; decide +kernel
theorem mj_np99 : mj_np mj_m99.1 1 := by unfold mj_np; decide +kernel
theorem mj_cd99 : mj_cw mj_Tw mj_m99 := (mj_w3 227 rfl rfl)
theorem mj_M100 : mj_Mm 100 = mj_m100 ∧ 100 < 9000 := ⟨rfl, by decide⟩
theorem mj_nm100 : mj_noMH mj_m100.1 := by unfold mj_noMH; decide +kernel
theorem mj_np100 : mj_np mj_m100.1 1 := by unfold mj_np; decide +kernel
theorem mj_cd100 : mj_cw mj_Tw mj_m100 := (mj_w3 230 rfl rfl)
theorem mj_M101 : mj_Mm 101 = mj_m101 ∧ 101 < 9000 := ⟨rfl, by decide⟩
theorem mj_nm101 : mj_noMH mj_m101.1 := by unfold mj_noMH; decide +kernel
theorem mj_np101 : mj_np mj_m101.1 2 := by unfold mj_np; decide +kernel
theorem mj_cd101 : mj_cw mj_Tw mj_m101 := (mj_w3 234 rfl rfl)
theorem mj_M102 : mj_Mm 102 = mj_m102 ∧ 102 < 9000 := ⟨rfl, by decide⟩
theorem mj_nm102 : mj_noMH mj_m102.1 := by unfold mj_noMH; decide +kernel
theorem mj_np102 : mj_np mj_m102.1 3 := by unfold mj_np; decide +kernel
theorem mj_cd102 : mj_cw mj_Tw mj_m102 := (mj_w3 238 rfl rfl)
theorem mj_M103 : mj_Mm 103 = mj_m103 ∧ 103 < 9000 := ⟨rfl, by decide⟩
theorem mj_nm103 : mj_noMH mj_m103.1 := by unfold mj_noMH; decide +kernel
theorem mj_np103 : mj_np mj_m103.1 4 := by unfold mj_np; decide +kernel
theorem mj_cd103 : mj_cw mj_Tw mj_m103 := (mj_w4 1 rfl rfl)
theorem mj_M104 : mj_Mm 104 = mj_m104 ∧ 104 < 9000 := ⟨rfl, by decide⟩
theorem mj_nm104 : mj_noMH mj_m104.1 := by unfold mj_noMH; decide +kernel
theorem mj_np104 : mj_np mj_m104.1 1 := by unfold mj_np; decide +kernel
theorem mj_cd104 : mj_cw mj_Tw mj_m104 := (mj_w4 6 rfl rfl)
theorem mj_M105 : mj_Mm 105 = mj_m105 ∧ 105 < 9000 := ⟨rfl, by decide⟩
theorem mj_nm105 : mj_noMH mj_m105.1 := by unfold mj_noMH; decide +kernel
theorem mj_np105 : mj_np mj_m105.1 1 := by unfold mj_np; decide +kernel
theorem mj_cd105 : mj_cw mj_Tw mj_m105 := (mj_w4 10 rfl rfl)
theorem mj_M106 : mj_Mm 106 = mj_m106 ∧ 106 < 9000 := ⟨rfl, by decide⟩
theorem mj_nm106 : mj_noMH mj_m106.1 := by unfold mj_noMH; decide +kernel
theorem mj_np106 : mj_np mj_m106.1 0 := by unfold mj_np; decide +kernel
theorem mj_cd106 : mj_cw mj_Tw mj_m106 := (mj_w4 14 rfl rfl)
theorem mj_M107 : mj_Mm 107 = mj_m107 ∧ 107 < 9000 := ⟨rfl, by decide⟩
theorem mj_nm107 : mj_noMH mj_m107.1 := by unfold mj_noMH; decide +kernel
theorem mj_np107 : mj_np mj_m107.1 1 := by unfold mj_np; decide +kernel
theorem mj_cd107 : mj_cw mj_Tw mj_m107 := (mj_w4 19 rfl rfl)
theorem mj_M108 : mj_Mm 108 = mj_m108 ∧ 108 < 9000 := ⟨rfl, by decide⟩
theorem mj_nm108 : mj_noMH mj_m108.1 := by unfold mj_noMH; decide +kernel
theorem mj_np108 : mj_np mj_m108.1 1 := by unfold mj_np; decide +kernel
theorem mj_cd108 : mj_cw mj_Tw mj_m108 := (mj_w4 23 rfl rfl)
theorem mj_M109 : mj_Mm 109 = mj_m109 ∧ 109 < 9000 := ⟨rfl, by decide⟩
theorem mj_nm109 : mj_noMH mj_m109.1 := by unfold mj_noMH; decide +kernel
theorem mj_np109 : mj_np mj_m109.1 1 := by unfold mj_np; decide +kernel
theorem mj_cd109 : mj_cw mj_Tw mj_m109 := (mj_w4 27 rfl rfl)
theorem mj_M110 : mj_Mm 110 = mj_m110 ∧ 110 < 9000 := ⟨rfl, by decide⟩
theorem mj_nm110 : mj_noMH mj_m110.1 := by unfold mj_noMH; decide +kernel
theorem mj_np110 : mj_np mj_m110.1 3 := by unfold mj_np; decide +kernel
theorem mj_cd110 : mj_cwW mj_Tw mj_m110 := (mj_w4 30 rfl rfl)
theorem mj_M111 : mj_Mm 111 = mj_m111 ∧ 111 < 9000 := ⟨rfl, by decide⟩
theorem mj_nm111 : mj_noMH mj_m111.1 := by unfold mj_noMH; decide +kernel
theorem mj_np111 : mj_np mj_m111.1 1 := by unfold mj_np; decide +kernel
theorem mj_cd111 : mj_cw mj_Tw mj_m111 := (mj_w4 35 rfl rfl)
theorem mj_M112 : mj_Mm 112 = mj_m112 ∧ 112 < 9000 := ⟨rfl, by decide⟩
theorem mj_nm112 : mj_noMH mj_m112.1 := by unfold mj_noMH; decide +kernel
theorem mj_np112 : mj_np mj_m112.1 0 := by unfold mj_np; decide +kernel
theorem mj_cd112 : mj_cw mj_Tw mj_m112 := (mj_w4 39 rfl rfl)
theorem mj_M113 : mj_Mm 113 = mj_m113 ∧ 113 < 9000 := ⟨rfl, by decide⟩
theorem mj_nm113 : mj_noMH mj_m113.1 := by unfold mj_noMH; decide +kernel
theorem mj_np113 : mj_np mj_m113.1 0 := by unfold mj_np; decide +kernel
theorem mj_cd113 : mj_cw mj_Tw mj_m113 := (mj_w4 64 rfl rfl)
theorem mj_M114 : mj_Mm 114 = mj_m114 ∧ 114 < 9000 := ⟨rfl, by decide⟩
theorem mj_nm114 : mj_noMH mj_m114.1 := by unfold mj_noMH; decide +kernel
theorem mj_np114 : mj_np mj_m114.1 1 := by unfold mj_np; decide +kernel
theorem mj_cd114 : mj_cw mj_Tw mj_m114 := (mj_w4 87 rfl rfl)
theorem mj_M115 : mj_Mm 115 = mj_m115 ∧ 115 < 9000 := ⟨rfl, by decide⟩
theorem mj_nm115 : mj_noMH mj_m115.1 := by unfold mj_noMH; decide +kernel
theorem mj_np115 : mj_np mj_m115.1 1 := by unfold mj_np; decide +kernel
theorem mj_cd115 : mj_cw mj_Tw mj_m115 := (mj_w4 90 rfl rfl)
theorem mj_M116 : mj_Mm 116 = mj_m116 ∧ 116 < 9000 := ⟨rfl, by decide⟩
theorem mj_nm116 : mj_noMH mj_m116.1 := by unfold mj_noMH; decide +kernel
theorem mj_np116 : mj_np mj_m116.1 1 := by unfold mj_np; decide +kernel
theorem mj_cd116 : mj_cw mj_Tw mj_m116 := (mj_w4 93 rfl rfl)
theorem mj_M117 : mj_Mm 117 = mj_m117 ∧ 117 < 9000 := ⟨rfl, by decide⟩
theorem mj_nm117 : mj_noMH mj_m117.1 := by unfold mj_noMH; decide +kernel
theorem mj_np117 : mj_np mj_m117.1 1 := by unfold mj_np; decide +kernel
theorem mj_cd117 : mj_cw mj_Tw mj_m117 := (mj_w4 96 rfl rfl)
theorem mj_M118 : mj_Mm 118 = mj_m118 ∧ 118 < 9000 := ⟨rfl, by decide⟩
theorem mj_nm118 : mj_noMH mj_m118.1 := by unfold mj_noMH; decide +kernel
theorem mj_np118 : mj_np mj_m118.1 2 := by unfold mj_np; decide +kernel
theorem mj_cd118 : mj_cwW mj_Tw mj_m118 := (mj_w4 114 rfl rfl)
theorem mj_M119 : mj_Mm 119 = mj_m119 ∧ 119 < 9000 := ⟨rfl, by decide⟩
theorem mj_nm119 : mj_noMH mj_m119.1 := by unfold mj_noMH; decide +kernel
theorem mj_np119 : mj_np mj_m119.1 0 := by unfold mj_np; decide +kernel
theorem mj_cd119 : mj_cw mj_Tw mj_m119 := (mj_w4 119 rfl rfl)
theorem mj_M120 : mj_Mm 120 = mj_m120 ∧ 120 < 9000 := ⟨rfl, by decide⟩
theorem mj_nm120 : mj_noMH mj_m120.1 := by unfold mj_noMH; decide +kernel
theorem mj_np120 : mj_np mj_m120.1 1 := by unfold mj_np; decide +kernel
theorem mj_cd120 : mj_cw mj_Tw mj_m120 := (mj_w4 132 rfl rfl)
theorem mj_M121 : mj_Mm 121 = mj_m121 ∧ 121 < 9000 := ⟨rfl, by decide⟩
theorem mj_nm121 : mj_noMH mj_m121.1 := by unfold mj_noMH; decide +kernel
theorem mj_np121 : mj_np mj_m121.1 0 := by unfold mj_np; decide +kernel
theorem mj_cd121 : mj_cw mj_Tw mj_m121 := (mj_w4 139 rfl rfl)
theorem mj_M122 : mj_Mm 122 = mj_m122 ∧ 122 < 9000 := ⟨rfl, by decide⟩
theorem mj_nm122 : mj_noMH mj_m122.1 := by unfold mj_noMH; decide +kernel
theorem mj_np122 : mj_np mj_m122.1 2 := by unfold mj_np; decide +kernel
theorem mj_cd122 : mj_cwW mj_Tw mj_m122 := (mj_w4 142 rfl rfl)
theorem mj_M123 : mj_Mm 123 = mj_m123 ∧ 123 < 9000 := ⟨rfl, by decide⟩
theorem mj_nm123 : mj_noMH mj_m123.1 := by unfold mj_noMH; decide +kernel
theorem mj_np123 : mj_np mj_m123.1 0 := by unfold mj_np; decide +kernel
theorem mj_cd123 : mj_cw mj_Tw mj_m123 := (mj_w4 146 rfl rfl)
theorem mj_M124 : mj_Mm 124 = mj_m124 ∧ 124 < 9000 := ⟨rfl, by decide⟩
theorem mj_nm124 : mj_noMH mj_m124.1 := by unfold mj_noMH; decide +kernel
theorem mj_np124 : mj_np mj_m124.1 0 := by unfold mj_np; decide +kernel
theorem mj_cd124 : mj_cw mj_Tw mj_m124 := (mj_w4 150 rfl rfl)
theorem mj_M125 : mj_Mm 125 = mj_m125 ∧ 125 < 9000 := ⟨rfl, by decide⟩
theorem mj_nm125 : mj_noMH mj_m125.1 := by unfold mj_noMH; decide +kernel
theorem mj_np125 : mj_np mj_m125.1 2 := by unfold mj_np; decide +kernel
theorem mj_cd125 : mj_cwW mj_Tw mj_m125 := (mj_w4 153 rfl rfl)
theorem mj_M126 : mj_Mm 126 = mj_m126 ∧ 126 < 9000 := ⟨rfl, by decide⟩
theorem mj_nm126 : mj_noMH mj_m126.1 := by unfold mj_noMH; decide +kernel
theorem mj_np126 : mj_np mj_m126.1 0 := by unfold mj_np; decide +kernel
theorem mj_cd126 : mj_cw mj_Tw mj_m126 := (mj_w4 158 rfl rfl)
theorem mj_M127 : mj_Mm 127 = mj_m127 ∧ 127 < 9000 := ⟨rfl, by decide⟩
theorem mj_nm127 : mj_noMH mj_m127.1 := by unfold mj_noMH; decide +kernel
theorem mj_np127 : mj_np mj_m127.1 1 := by unfold mj_np; decide +kernel
theorem mj_cd127 : mj_cw mj_Tw mj_m127 := (mj_w4 171 rfl rfl)
theorem mj_M128 : mj_Mm 128 = mj_m128 ∧ 128 < 9000 := ⟨rfl, by decide⟩
theorem mj_nm128 : mj_noMH mj_m128.1 := by unfold mj_noMH; decide +kernel
theorem mj_np128 : mj_np mj_m128.1 0 := by unfold mj_np; decide +kernel
theorem mj_cd128 : mj_cw mj_Tw mj_m128 := (mj_w4 178 rfl rfl)
theorem mj_M129 : mj_Mm 129 = mj_m129 ∧ 129 < 9000 := ⟨rfl, by decide⟩
theorem mj_nm129 : mj_noMH mj_m129.1 := by unfold mj_noMH; decide +kernel
theorem mj_np129 : mj_np mj_m129.1 0 := by unfold mj_np; decide +kernel
theorem mj_cd129 : mj_cw mj_Tw mj_m129 := (mj_w4 183 rfl rfl)
theorem mj_M130 : mj_Mm 130 = mj_m130 ∧ 130 < 9000 := ⟨rfl, by decide⟩
theorem mj_nm130 : mj_noMH mj_m130.1 := by unfold mj_noMH; decide +kernel
theorem mj_np130 : mj_np mj_m130.1 1 := by unfold mj_np; decide +kernel
theorem mj_cd130 : mj_cw mj_Tw mj_m130 := (mj_w4 187 rfl rfl)
theorem mj_M131 : mj_Mm 131 = mj_m131 ∧ 131 < 9000 := ⟨rfl, by decide⟩
theorem mj_nm131 : mj_noMH mj_m131.1 := by unfold mj_noMH; decide +kernel
theorem mj_np131 : mj_np mj_m131.1 0 := by unfold mj_np; decide +kernel
theorem mj_cd131 : mj_cw mj_Tw mj_m131 := (mj_w4 192 rfl rfl)
theorem mj_M132 : mj_Mm 132 = mj_m132 ∧ 132 < 9000 := ⟨rfl, by decide⟩
theorem mj_nm132 : mj_noMH mj_m132.1 := by unfold mj_noMH; decide +kernel
theorem mj_np132 : mj_np mj_m132.1 3 := by unfold mj_np; decide +kernel
theorem mj_cd132 : mj_cwW mj_Tw mj_m132 := (mj_w4 195 rfl rfl)
theorem mj_M133 : mj_Mm 133 = mj_m133 ∧ 133 < 9000 := ⟨rfl, by decide⟩
theorem mj_nm133 : mj_noMH mj_m133.1 := by unfold mj_noMH; decide +kernel
theorem mj_np133 : mj_np mj_m133.1 1 := by unfold mj_np; decide +kernel
theorem mj_cd133 : mj_cw mj_Tw mj_m133 := (mj_w4 200 rfl rfl)
theorem mj_M134 : mj_Mm 134 = mj_m134 ∧ 134 < 9000 := ⟨rfl, by decide⟩
theorem mj_nm134 : mj_noMH mj_m134.1 := by unfold mj_noMH; decide +kernel
theorem mj_np134 : mj_np mj_m134.1 1 := by unfold mj_np; decide +kernel
theorem mj_cd134 : mj_cw mj_Tw mj_m134 := (mj_w4 204 rfl rfl)
theorem mj_M135 : mj_Mm 135 = mj_m135 ∧ 135 < 9000 := ⟨rfl, by decide⟩
theorem mj_nm135 : mj_noMH mj_m135.1 := by unfold mj_noMH; decide +kernel
theorem mj_np135 : mj_np mj_m135.1 1 := by unfold mj_np; decide +kernel
theorem mj_cd135 : mj_cw mj_Tw mj_m135 := (mj_w4 217 rfl rfl)
theorem mj_M136 : mj_Mm 136 = mj_m136 ∧ 136 < 9000 := ⟨rfl, by decide⟩
theorem mj_nm136 : mj_noMH mj_m136.1 := by unfold mj_noMH; decide +kernel
theorem mj_np136 : mj_np mj_m136.1 3 := by unfold mj_np; decide +kernel
theorem mj_cd136 : mj_cwW mj_Tw mj_m136 := (mj_w4 223 rfl rfl)
theorem mj_M137 : mj_Mm 137 = mj_m137 ∧ 137 < 9000 := ⟨rfl, by decide⟩
theorem mj_nm137 : mj_noMH mj_m137.1 := by unfold mj_noMH; decide +kernel
theorem mj_np137 : mj_np mj_m137.1 1 := by unfold mj_np; decide +kernel
theorem mj_cd137 : mj_cw mj_Tw mj_m137 := (mj_w4 227 rfl rfl)
theorem mj_M138 : mj_Mm 138 = mj_m138 ∧ 138 < 9000 := ⟨rfl, by decide⟩
theorem mj_nm138 : mj_noMH mj_m138.1 := by unfold mj_noMH; decide +kernel
theorem mj_np138 : mj_np mj_m138.1 1 := by unfold mj_np; decide +kernel
theorem mj_cd138 : mj_cw mj_Tw mj_m138 := (mj_w4 231 rfl rfl)
theorem mj_M139 : mj_Mm 139 = mj_m139 ∧ 139 < 9000 := ⟨rfl, by decide⟩
theorem mj_nm139 : mj_noMH mj_m139.1 := by unfold mj_noMH; decide +kernel
theorem mj_np139 : mj_np mj_m139.1 4 := by unfold mj_np; decide +kernel
theorem mj_cd139 : mj_cwW mj_Tw mj_m139 := (mj_w4 235 rfl rfl)
theorem mj_M140 : mj_Mm 140 = mj_m140 ∧ 140 < 9000 := ⟨rfl, by decide⟩
theorem mj_nm140 : mj_noMH mj_m140.1 := by unfold mj_noMH; decide +kernel
theorem mj_np140 : mj_np mj_m140.1 2 := by unfold mj_np; decide +kernel
theorem mj_cd140 : mj_cw mj_Tw mj_m140 := (mj_w4 239 rfl rfl)
theorem mj_M141 : mj_Mm 141 = mj_m141 ∧ 141 < 9000 := ⟨rfl, by decide⟩
theorem mj_nm141 : mj_noMH mj_m141.1 := by unfold mj_noMH; decide +kernel
theorem mj_np141 : mj_np mj_m141.1 3 := by unfold mj_np; decide +kernel
theorem mj_cd141 : mj_cwW mj_Tw mj_m141 := (mj_w5 4 rfl rfl)
theorem mj_M142 : mj_Mm 142 = mj_m142 ∧ 142 < 9000 := ⟨rfl, by decide⟩
theorem mj_nm142 : mj_noMH mj_m142.1 := by unfold mj_noMH; decide +kernel
theorem mj_np142 : mj_np mj_m142.1 1 := by unfold mj_np; decide +kernel
theorem mj_cd142 : mj_cw mj_Tw mj_m142 := (mj_w5 8 rfl rfl)
theorem mj_M143 : mj_Mm 143 = mj_m143 ∧ 143 < 9000 := ⟨rfl, by decide⟩
theorem mj_nm143 : mj_noMH mj_m143.1 := by unfold mj_noMH; decide +kernel
theorem mj_np143 : mj_np mj_m143.1 4 := by unfold mj_np; decide +kernel
theorem mj_cd143 : mj_cwW mj_Tw mj_m143 := (mj_w5 11 rfl rfl)
theorem mj_M144 : mj_Mm 144 = mj_m144 ∧ 144 < 9000 := ⟨rfl, by decide⟩
theorem mj_nm144 : mj_noMH mj_m144.1 := by unfold mj_noMH; decide +kernel
theorem mj_np144 : mj_np mj_m144.1 2 := by unfold mj_np; decide +kernel
theorem mj_cd144 : mj_cw mj_Tw mj_m144 := (mj_w5 15 rfl rfl)
theorem mj_M145 : mj_Mm 145 = mj_m145 ∧ 145 < 9000 := ⟨rfl, by decide⟩
theorem mj_nm145 : mj_noMH mj_m145.1 := by unfold mj_noMH; decide +kernel
theorem mj_np145 : mj_np mj_m145.1 4 := by unfold mj_np; decide +kernel
theorem mj_cd145 : mj_cwW mj_Tw mj_m145 := (mj_w5 20 rfl rfl)
theorem mj_M146 : mj_Mm 146 = mj_m146 ∧ 146 < 9000 := ⟨rfl, by decide⟩
theorem mj_nm146 : mj_noMH mj_m146.1 := by unfold mj_noMH; decide +kernel
theorem mj_np146 : mj_np mj_m146.1 2 := by unfold mj_np; decide +kernel
theorem mj_cd146 : mj_cw mj_Tw mj_m146 := (mj_w5 24 rfl rfl)
theorem mj_M147 : mj_Mm 147 = mj_m147 ∧ 147 < 9000 := ⟨rfl, by decide⟩
theorem mj_nm147 : mj_noMH mj_m147.1 := by unfold mj_noMH; decide +kernel
theorem mj_np147 : mj_np mj_m147.1 1 := by unfold mj_np; decide +kernel
theorem mj_cd147 : mj_cw mj_Tw mj_m147 := (mj_w5 30 rfl rfl)
theorem mj_M148 : mj_Mm 148 = mj_m148 ∧ 148 < 9000 := ⟨rfl, by decide⟩
theorem mj_nm148 : mj_noMH mj_m148.1 := by unfold mj_noMH; decide +kernel
theorem mj_np148 : mj_np mj_m148.1 2 := by unfold mj_np; decide +kernel
theorem mj_cd148 : mj_cw mj_Tw mj_m148 := (mj_w5 34 rfl rfl)
theorem mj_M149 : mj_Mm 149 = mj_m149 ∧ 149 < 9000 := ⟨rfl, by decide⟩
theorem mj_nm149 : mj_noMH mj_m149.1 := by unfold mj_noMH; decide +kernel
theorem mj_np149 : mj_np mj_m149.1 3 := by unfold mj_np; decide +kernel
theorem mj_cd149 : mj_cwW mj_Tw mj_m149 := (mj_w5 37 rfl rfl)
theorem mj_M150 : mj_Mm 150 = mj_m150 ∧ 150 < 9000 := ⟨rfl, by decide⟩
theorem mj_nm150 : mj_noMH mj_m150.1 := by unfold mj_noMH; decide +kernel
theorem mj_np150 : mj_np mj_m150.1 1 := by unfold mj_np; decide +kernel
theorem mj_cd150 : mj_cw mj_Tw mj_m150 := (mj_w5 41 rfl rfl)
theorem mj_M151 : mj_Mm 151 = mj_m151 ∧ 151 < 9000 := ⟨rfl, by decide⟩
theorem mj_nm151 : mj_noMH mj_m151.1 := by unfold mj_noMH; decide +kernel
theorem mj_np151 : mj_np mj_m151.1 3 := by unfold mj_np; decide +kernel
theorem mj_cd151 : mj_cwW mj_Tw mj_m151 := (mj_w5 44 rfl rfl)
theorem mj_M152 : mj_Mm 152 = mj_m152 ∧ 152 < 9000 := ⟨rfl, by decide⟩
theorem mj_nm152 : mj_noMH mj_m152.1 := by unfold mj_noMH; decide +kernel
theorem mj_np152 : mj_np mj_m152.1 1 := by unfold mj_np; decide +kernel
theorem mj_cd152 : mj_cw mj_Tw mj_m152 := (mj_w5 48 rfl rfl)
theorem mj_M153 : mj_Mm 153 = mj_m153 ∧ 153 < 9000 := ⟨rfl, by decide⟩
theorem mj_nm153 : mj_noMH mj_m153.1 := by unfold mj_noMH; decide +kernel
theorem mj_np153 : mj_np mj_m153.1 4 := by unfold mj_np; decide +kernel
theorem mj_cd153 : mj_cwW mj_Tw mj_m153 := (mj_w5 53 rfl rfl)
theorem mj_M154 : mj_Mm 154 = mj_m154 ∧ 154 < 9000 := ⟨rfl, by decide⟩
theorem mj_nm154 : mj_noMH mj_m154.1 := by unfold mj_noMH; decide +kernel
theorem mj_np154 : mj_np mj_m154.1 2 := by unfold mj_np; decide +kernel
theorem mj_cd154 : mj_cw mj_Tw mj_m154 := (mj_w5 57 rfl rfl)
theorem mj_M155 : mj_Mm 155 = mj_m155 ∧ 155 < 9000 := ⟨rfl, by decide⟩
theorem mj_nm155 : mj_noMH mj_m155.1 := by unfold mj_noMH; decide +kernel
theorem mj_np155 : mj_np mj_m155.1 2 := by unfold mj_np; decide +kernel
theorem mj_cd155 : mj_cw mj_Tw mj_m155 := (mj_w5 61 rfl rfl)
theorem mj_M156 : mj_Mm 156 = mj_m156 ∧ 156 < 9000 := ⟨rfl, by decide⟩
theorem mj_nm156 : mj_noMH mj_m156.1 := by unfold mj_noMH; decide +kernel
theorem mj_np156 : mj_np mj_m156.1 2 := by unfold mj_np; decide +kernel
theorem mj_cd156 : mj_cw mj_Tw mj_m156 := (mj_w5 65 rfl rfl)
theorem mj_M157 : mj_Mm 157 = mj_m157 ∧ 157 < 9000 := ⟨rfl, by decide⟩
theorem mj_nm157 : mj_noMH mj_m157.1 := by unfold mj_noMH; decide +kernel
theorem mj_np157 : mj_np mj_m157.1 4 := by unfold mj_np; decide +kernel
theorem mj_cd157 : mj_cwW mj_Tw mj_m157 := (mj_w5 68 rfl rfl)
theorem mj_M158 : mj_Mm 158 = mj_m158 ∧ 158 < 9000 := ⟨rfl, by decide⟩
theorem mj_nm158 : mj_noMH mj_m158.1 := by unfold mj_noMH; decide +kernel
theorem mj_np158 : mj_np mj_m158.1 2 := by unfold mj_np; decide +kernel
theorem mj_cd158 : mj_cw mj_Tw mj_m158 := (mj_w5 72 rfl rfl)
theorem mj_M159 : mj_Mm 159 = mj_m159 ∧ 159 < 9000 := ⟨rfl, by decide⟩
theorem mj_nm159 : mj_noMH mj_m159.1 := by unfold mj_noMH; decide +kernel
theorem mj_np159 : mj_np mj_m159.1 0 := by unfold mj_np; decide +kernel
theorem mj_cd159 : mj_cw mj_Tw mj_m159 := (mj_w5 78 rfl rfl)
theorem mj_M160 : mj_Mm 160 = mj_m160 ∧ 160 < 9000 := ⟨rfl, by decide⟩
theorem mj_nm160 : mj_noMH mj_m160.1 := by unfold mj_noMH; decide +kernel
theorem mj_np160 : mj_np mj_m160.1 1 := by unfold mj_np; decide +kernel
theorem mj_cd160 : mj_cw mj_Tw mj_m160 := (mj_w5 82 rfl rfl)
theorem mj_M161 : mj_Mm 161 = mj_m161 ∧ 161 < 9000 := ⟨rfl, by decide⟩
theorem mj_nm161 : mj_noMH mj_m161.1 := by unfold mj_noMH; decide +kernel
theorem mj_np161 : mj_np mj_m161.1 0 := by unfold mj_np; decide +kernel
theorem mj_cd161 : mj_cw mj_Tw mj_m161 := (mj_w5 86 rfl rfl)
theorem mj_M162 : mj_Mm 162 = mj_m162 ∧ 162 < 9000 := ⟨rfl, by decide⟩
theorem mj_nm162 : mj_noMH mj_m162.1 := by unfold mj_noMH; decide +kernel
theorem mj_np162 : mj_np mj_m162.1 0 := by unfold mj_np; decide +kernel
theorem mj_cd162 : mj_cw mj_Tw mj_m162 := (mj_w5 91 rfl rfl)
theorem mj_M163 : mj_Mm 163 = mj_m163 ∧ 163 < 9000 := ⟨rfl, by decide⟩
theorem mj_nm163 : mj_noMH mj_m163.1 := by unfold mj_noMH; decide +kernel
theorem mj_np163 : mj_np mj_m163.1 1 := by unfold mj_np; decide +kernel
theorem mj_cd163 : mj_cw mj_Tw mj_m163 := (mj_w5 96 rfl rfl)
theorem mj_M164 : mj_Mm 164 = mj_m164 ∧ 164 < 9000 := ⟨rfl, by decide⟩
theorem mj_nm164 : mj_noMH mj_m164.1 := by unfold mj_noMH; decide +kernel
theorem mj_np164 : mj_np mj_m164.1 1 := by unfold mj_np; decide +kernel
theorem mj_cd164 : mj_cw mj_Tw mj_m164 := (mj_w5 101 rfl rfl)
theorem mj_M165 : mj_Mm 165 = mj_m165 ∧ 165 < 9000 := ⟨rfl, by decide⟩
theorem mj_nm165 : mj_noMH mj_m165.1 := by unfold mj_noMH; decide +kernel
theorem mj_np165 : mj_np mj_m165.1 1 := by unfold mj_np; decide +kernel
theorem mj_cd165 : mj_cw mj_Tw mj_m165 := (mj_w5 105 rfl rfl)
theorem mj_M166 : mj_Mm 166 = mj_m166 ∧ 166 < 9000 := ⟨rfl, by decide⟩
theorem mj_nm166 : mj_noMH mj_m166.1 := by unfold mj_noMH; decide +kernel
theorem mj_np166 : mj_np mj_m166.1 2 := by unfold mj_np; decide +kernel
theorem mj_cd166 : mj_cw mj_Tw mj_m166 := (mj_w5 111 rfl rfl)
theorem mj_M167 : mj_Mm 167 = mj_m167 ∧ 167 < 9000 := ⟨rfl, by decide⟩
theorem mj_nm167 : mj_noMH mj_m167.1 := by unfold mj_noMH; decide +kernel
theorem mj_np167 : mj_np mj_m167.1 1 := by unfold mj_np; decide +kernel
theorem mj_cd167 : mj_cw mj_Tw mj_m167 := (mj_w5 115 rfl rfl)
theorem mj_M168 : mj_Mm 168 = mj_m168 ∧ 168 < 9000 := ⟨rfl, by decide⟩
theorem mj_nm168 : mj_noMH mj_m168.1 := by unfold mj_noMH; decide +kernel
theorem mj_np168 : mj_np mj_m168.1 2 := by unfold mj_np; decide +kernel
theorem mj_cd168 : mj_cw mj_Tw mj_m168 := (mj_w5 120 rfl rfl)
theorem mj_M169 : mj_Mm 169 = mj_m169 ∧ 169 < 9000 := ⟨rfl, by decide⟩
theorem mj_nm169 : mj_noMH mj_m169.1 := by unfold mj_noMH; decide +kernel
theorem mj_np169 : mj_np mj_m169.1 1 := by unfold mj_np; decide +kernel
theorem mj_cd169 : mj_cw mj_Tw mj_m169 := (mj_w5 124 rfl rfl)
theorem mj_M170 : mj_Mm 170 = mj_m170 ∧ 170 < 9000 := ⟨rfl, by decide⟩
theorem mj_nm170 : mj_noMH mj_m170.1 := by unfold mj_noMH; decide +kernel
theorem mj_np170 : mj_np mj_m170.1 0 := by unfold mj_np; decide +kernel
theorem mj_cd170 : mj_cw mj_Tw mj_m170 := (mj_w5 128 rfl rfl)
theorem mj_M171 : mj_Mm 171 = mj_m171 ∧ 171 < 9000 := ⟨rfl, by decide⟩
theorem mj_nm171 : mj_noMH mj_m171.1 := by unfold mj_noMH; decide +kernel
theorem mj_np171 : mj_np mj_m171.1 2 := by unfold mj_np; decide +kernel
theorem mj_cd171 : mj_cw mj_Tw mj_m171 := (mj_w5 132 rfl rfl)
theorem mj_M172 : mj_Mm 172 = mj_m172 ∧ 172 < 9000 := ⟨rfl, by decide⟩
theorem mj_nm172 : mj_noMH mj_m172.1 := by unfold mj_noMH; decide +kernel
theorem mj_np172 : mj_np mj_m172.1 3 := by unfold mj_np; decide +kernel
theorem mj_cd172 : mj_cw mj_Tw mj_m172 := (mj_w5 137 rfl rfl)
theorem mj_M173 : mj_Mm 173 = mj_m173 ∧ 173 < 9000 := ⟨rfl, by decide⟩
theorem mj_nm173 : mj_noMH mj_m173.1 := by unfold mj_noMH; decide +kernel
theorem mj_np173 : mj_np mj_m173.1 1 := by unfold mj_np; decide +kernel
theorem mj_cd173 : mj_cw mj_Tw mj_m173 := (mj_w5 141 rfl rfl)
theorem mj_M174 : mj_Mm 174 = mj_m174 ∧ 174 < 9000 := ⟨rfl, by decide⟩
theorem mj_nm174 : mj_noMH mj_m174.1 := by unfold mj_noMH; decide +kernel
theorem mj_np174 : mj_np mj_m174.1 1 := by unfold mj_np; decide +kernel
theorem mj_cd174 : mj_cw mj_Tw mj_m174 := (mj_w5 145 rfl rfl)
theorem mj_M175 : mj_Mm 175 = mj_m175 ∧ 175 < 9000 := ⟨rfl, by decide⟩
theorem mj_nm175 : mj_noMH mj_m175.1 := by unfold mj_noMH; decide +kernel
theorem mj_np175 : mj_np mj_m175.1 3 := by unfold mj_np; decide +kernel
theorem mj_cd175 : mj_cw mj_Tw mj_m175 := (mj_w5 149 rfl rfl)
theorem mj_M176 : mj_Mm 176 = mj_m176 ∧ 176 < 9000 := ⟨rfl, by decide⟩
theorem mj_nm176 : mj_noMH mj_m176.1 := by unfold mj_noMH; decide +kernel
theorem mj_np176 : mj_np mj_m176.1 3 := by unfold mj_np; decide +kernel
theorem mj_cd176 : mj_cw mj_Tw mj_m176 := (mj_w5 153 rfl rfl)
theorem mj_M177 : mj_Mm 177 = mj_m177 ∧ 177 < 9000 := ⟨rfl, by decide⟩
theorem mj_nm177 : mj_noMH mj_m177.1 := by unfold mj_noMH; decide +kernel
theorem mj_np177 : mj_np mj_m177.1 2 := by unfold mj_np; decide +kernel
theorem mj_cd177 : mj_cwW mj_Tw mj_m177 := (mj_w5 156 rfl rfl)
theorem mj_M178 : mj_Mm 178 = mj_m178 ∧ 178 < 9000 := ⟨rfl, by decide⟩
theorem mj_nm178 : mj_noMH mj_m178.1 := by unfold mj_noMH; decide +kernel
theorem mj_np178 : mj_np mj_m178.1 0 := by unfold mj_np; decide +kernel
theorem mj_cd178 : mj_cw mj_Tw mj_m178 := (mj_w5 160 rfl rfl)
theorem mj_M179 : mj_Mm 179 = mj_m179 ∧ 179 < 9000 := ⟨rfl, by decide⟩
theorem mj_nm179 : mj_noMH mj_m179.1 := by unfold mj_noMH; decide +kernel
theorem mj_np179 : mj_np mj_m179.1 2 := by unfold mj_np; decide +kernel
theorem mj_cd179 : mj_cwW mj_Tw mj_m179 := (mj_w5 163 rfl rfl)
theorem mj_M180 : mj_Mm 180 = mj_m180 ∧ 180 < 9000 := ⟨rfl, by decide⟩
theorem mj_nm180 : mj_noMH mj_m180.1 := by unfold mj_noMH; decide +kernel
theorem mj_np180 : mj_np mj_m180.1 0 := by unfold mj_np; decide +kernel
theorem mj_cd180 : mj_cw mj_Tw mj_m180 := (mj_w5 167 rfl rfl)
theorem mj_M181 : mj_Mm 181 = mj_m181 ∧ 181 < 9000 := ⟨rfl, by decide⟩
theorem mj_nm181 : mj_noMH mj_m181.1 := by unfold mj_noMH; decide +kernel
theorem mj_np181 : mj_np mj_m181.1 2 := by unfold mj_np; decide +kernel
theorem mj_cd181 : mj_cwW mj_Tw mj_m181 := (mj_w5 170 rfl rfl)
theorem mj_M182 : mj_Mm 182 = mj_m182 ∧ 182 < 9000 := ⟨rfl, by decide⟩
theorem mj_nm182 : mj_noMH mj_m182.1 := by unfold mj_noMH; decide +kernel
theorem mj_np182 : mj_np mj_m182.1 0 := by unfold mj_np; decide +kernel
theorem mj_cd182 : mj_cw mj_Tw mj_m182 := (mj_w5 174 rfl rfl)
theorem mj_M183 : mj_Mm 183 = mj_m183 ∧ 183 < 9000 := ⟨rfl, by decide⟩
theorem mj_nm183 : mj_noMH mj_m183.1 := by unfold mj_noMH; decide +kernel
theorem mj_np183 : mj_np mj_m183.1 2 := by unfold mj_np; decide +kernel
theorem mj_cd183 : mj_cwW mj_Tw mj_m183 := (mj_w5 177 rfl rfl)
theorem mj_M184 : mj_Mm 184 = mj_m184 ∧ 184 < 9000 := ⟨rfl, by decide⟩
theorem mj_nm184 : mj_noMH mj_m184.1 := by unfold mj_noMH; decide +kernel
theorem mj_np184 : mj_np mj_m184.1 0 := by unfold mj_np; decide +kernel
theorem mj_cd184 : mj_cw mj_Tw mj_m184 := (mj_w5 181 rfl rfl)
theorem mj_M185 : mj_Mm 185 = mj_m185 ∧ 185 < 9000 := ⟨rfl, by decide⟩
theorem mj_nm185 : mj_noMH mj_m185.1 := by unfold mj_noMH; decide +kernel
theorem mj_np185 : mj_np mj_m185.1 3 := by unfold mj_np; decide +kernel
theorem mj_cd185 : mj_cwW mj_Tw mj_m185 := (mj_w5 184 rfl rfl)
theorem mj_M186 : mj_Mm 186 = mj_m186 ∧ 186 < 9000 := ⟨rfl, by decide⟩
theorem mj_nm186 : mj_noMH mj_m186.1 := by unfold mj_noMH; decide +kernel
theorem mj_np186 : mj_np mj_m186.1 1 := by unfold mj_np; decide +kernel
theorem mj_cd186 : mj_cw mj_Tw mj_m186 := (mj_w5 188 rfl rfl)
theorem mj_M187 : mj_Mm 187 = mj_m187 ∧ 187 < 9000 := ⟨rfl, by decide⟩
theorem mj_nm187 : mj_noMH mj_m187.1 := by unfold mj_noMH; decide +kernel
theorem mj_np187 : mj_np mj_m187.1 1 := by unfold mj_np; decide +kernel
theorem mj_cd187 : mj_cw mj_Tw mj_m187 := (mj_w5 192 rfl rfl)
theorem mj_M188 : mj_Mm 188 = mj_m188 ∧ 188 < 9000 := ⟨rfl, by decide⟩
theorem mj_nm188 : mj_noMH mj_m188.1 := by unfold mj_noMH; decide +kernel
theorem mj_np188 : mj_np mj_m188.1 1 := by unfold mj_np; decide +kernel
theorem mj_cd188 : mj_cw mj_Tw mj_m188 := (mj_w5 197 rfl rfl)
theorem mj_M189 : mj_Mm 189 = mj_m189 ∧ 189 < 9000 := ⟨rfl, by decide⟩
theorem mj_nm189 : mj_noMH mj_m189.1 := by unfold mj_noMH; decide +kernel
theorem mj_np189 : mj_np mj_m189.1 3 := by unfold mj_np; decide +kernel
theorem mj_cd189 : mj_cwW mj_Tw mj_m189 := (mj_w5 200 rfl rfl)
theorem mj_M190 : mj_Mm 190 = mj_m190 ∧ 190 < 9000 := ⟨rfl, by decide⟩
theorem mj_nm190 : mj_noMH mj_m190.1 := by unfold mj_noMH; decide +kernel
theorem mj_np190 : mj_np mj_m190.1 1 := by unfold mj_np; decide +kernel
theorem mj_cd190 : mj_cw mj_Tw mj_m190 := (mj_w5 204 rfl rfl)
theorem mj_M191 : mj_Mm 191 = mj_m191 ∧ 191 < 9000 := ⟨rfl, by decide⟩
theorem mj_nm191 : mj_noMH mj_m191.1 := by unfold mj_noMH; decide +kernel
theorem mj_np191 : mj_np mj_m191.1 1 := by unfold mj_np; decide +kernel
theorem mj_cd191 : mj_cw mj_Tw mj_m191 := (mj_w5 208 rfl rfl)
theorem mj_M192 : mj_Mm 192 = mj_m192 ∧ 192 < 9000 := ⟨rfl, by decide⟩
theorem mj_nm192 : mj_noMH mj_m192.1 := by unfold mj_noMH; decide +kernel
theorem mj_np192 : mj_np mj_m192.1 4 := by unfold mj_np; decide +kernel
theorem mj_cd192 : mj_cwW mj_Tw mj_m192 := (mj_w5 211 rfl rfl)
theorem mj_M193 : mj_Mm 193 = mj_m193 ∧ 193 < 9000 := ⟨rfl, by decide⟩
theorem mj_nm193 : mj_noMH mj_m193.1 := by unfold mj_noMH; decide +kernel
theorem mj_np193 : mj_np mj_m193.1 2 := by unfold mj_np; decide +kernel
theorem mj_cd193 : mj_cw mj_Tw mj_m193 := (mj_w5 216 rfl rfl)
theorem mj_M194 : mj_Mm 194 = mj_m194 ∧ 194 < 9000 := ⟨rfl, by decide⟩
theorem mj_nm194 : mj_noMH mj_m194.1 := by unfold mj_noMH; decide +kernel
theorem mj_np194 : mj_np mj_m194.1 1 := by unfold mj_np; decide +kernel
theorem mj_cd194 : mj_cw mj_Tw mj_m194 := (mj_w5 220 rfl rfl)
theorem mj_M195 : mj_Mm 195 = mj_m195 ∧ 195 < 9000 := ⟨rfl, by decide⟩
theorem mj_nm195 : mj_noMH mj_m195.1 := by unfold mj_noMH; decide +kernel
theorem mj_np195 : mj_np mj_m195.1 1 := by unfold mj_np; decide +kernel
theorem mj_cd195 : mj_cw mj_Tw mj_m195 := (mj_w5 236 rfl rfl)
theorem mj_M196 : mj_Mm 196 = mj_m196 ∧ 196 < 9000 := ⟨rfl, by decide⟩
theorem mj_nm196 : mj_noMH mj_m196.1 := by unfold mj_noMH; decide +kernel
theorem mj_np196 : mj_np mj_m196.1 3 := by unfold mj_np; decide +kernel
theorem mj_cd196 : mj_cwW mj_Tw mj_m196 := (mj_w6 2 rfl rfl)
theorem mj_M197 : mj_Mm 197 = mj_m197 ∧ 197 < 9000 := ⟨rfl, by decide⟩
theorem mj_nm197 : mj_noMH mj_m197.1 := by unfold mj_noMH; decide +kernel
theorem mj_np197 : mj_np mj_m197.1 1 := by unfold mj_np; decide +kernel
theorem mj_cd197 : mj_cw mj_Tw mj_m197 := (mj_w6 6 rfl rfl)
theorem mj_M198 : mj_Mm 198 = mj_m198 ∧ 198 < 9000 := ⟨rfl, by decide⟩
theorem mj_nm198 : mj_noMH mj_m198.1 := by unfold mj_noMH; decide +kernel
theorem mj_np198 : mj_np mj_m198.1 1 := by unfold mj_np; decide +kernel
theorem mj_cd198 : mj_cw mj_Tw mj_m198 := (mj_w6 9 rfl rfl)
theorem mj_M199 : mj_Mm 199 = mj_m199 ∧ 199 < 9000 := ⟨rfl, by decide⟩
theorem mj_nm199 : mj_noMH mj_m199.1 := by unfold mj_noMH; decide +kernel
theorem mj_np199 : mj_np mj_m199.1 5 := by unfold mj_np; decide +kernel
theorem mj_cd199 : mj_cwW mj_Tw mj_m199 := (mj_w6 15 rfl rfl)
theorem mj_M200 : mj_Mm 200 = mj_m200 ∧ 200 < 9000 := ⟨rfl, by decide⟩
theorem mj_nm200 : mj_noMH mj_m200.1 := by unfold mj_noMH; decide +kernel
theorem mj_np200 : mj_np mj_m200.1 3 := by unfold mj_np; decide +kernel
theorem mj_cd200 : mj_cw mj_Tw mj_m200 := (mj_w6 19 rfl rfl)
theorem mj_M201 : mj_Mm 201 = mj_m201 ∧ 201 < 9000 := ⟨rfl, by decide⟩
theorem mj_nm201 : mj_noMH mj_m201.1 := by unfold mj_noMH; decide +kernel
theorem mj_np201 : mj_np mj_m201.1 3 := by unfold mj_np; decide +kernel
theorem mj_cd201 : mj_cw mj_Tw mj_m201 := (mj_w6 23 rfl rfl)
theorem mj_M202 : mj_Mm 202 = mj_m202 ∧ 202 < 9000 := ⟨rfl, by decide⟩
theorem mj_nm202 : mj_noMH mj_m202.1 := by unfold mj_noMH; decide +kernel
theorem mj_np202 : mj_np mj_m202.1 4 := by unfold mj_np; decide +kernel
theorem mj_cd202 : mj_cwW mj_Tw mj_m202 := (mj_w6 26 rfl rfl)
theorem mj_M203 : mj_Mm 203 = mj_m203 ∧ 203 < 9000 := ⟨rfl, by decide⟩
theorem mj_nm203 : mj_noMH mj_m203.1 := by unfold mj_noMH; decide +kernel
theorem mj_np203 : mj_np mj_m203.1 2 := by unfold mj_np; decide +kernel
theorem mj_cd203 : mj_cw mj_Tw mj_m203 := (mj_w6 30 rfl rfl)
theorem mj_M204 : mj_Mm 204 = mj_m204 ∧ 204 < 9000 := ⟨rfl, by decide⟩
theorem mj_nm204 : mj_noMH mj_m204.1 := by unfold mj_noMH; decide +kernel
theorem mj_np204 : mj_np mj_m204.1 4 := by unfold mj_np; decide +kernel
theorem mj_cd204 : mj_cwW mj_Tw mj_m204 := (mj_w6 33 rfl rfl)
theorem mj_M205 : mj_Mm 205 = mj_m205 ∧ 205 < 9000 := ⟨rfl, by decide⟩
theorem mj_nm205 : mj_noMH mj_m205.1 := by unfold mj_noMH; decide +kernel
theorem mj_np205 : mj_np mj_m205.1 2 := by unfold mj_np; decide +kernel
theorem mj_cd205 : mj_cw mj_Tw mj_m205 := (mj_w6 37 rfl rfl)
theorem mj_M206 : mj_Mm 206 = mj_m206 ∧ 206 < 9000 := ⟨rfl, by decide⟩
theorem mj_nm206 : mj_noMH mj_m206.1 := by unfold mj_noMH; decide +kernel
theorem mj_np206 : mj_np mj_m206.1 2 := by unfold mj_np; decide +kernel
theorem mj_cd206 : mj_cw mj_Tw mj_m206 := (mj_w6 41 rfl rfl)
theorem mj_M207 : mj_Mm 207 = mj_m207 ∧ 207 < 9000 := ⟨rfl, by decide⟩
theorem mj_nm207 : mj_noMH mj_m207.1 := by unfold mj_noMH; decide +kernel
theorem mj_np207 : mj_np mj_m207.1 4 := by unfold mj_np; decide +kernel
theorem mj_cd207 : mj_cwW mj_Tw mj_m207 := (mj_w6 44 rfl rfl)
theorem mj_M208 : mj_Mm 208 = mj_m208 ∧ 208 < 9000 := ⟨rfl, by decide⟩
theorem mj_nm208 : mj_noMH mj_m208.1 := by unfold mj_noMH; decide +kernel
theorem mj_np208 : mj_np mj_m208.1 2 := by unfold mj_np; decide +kernel
theorem mj_cd208 : mj_cw mj_Tw mj_m208 := (mj_w6 48 rfl rfl)
theorem mj_M209 : mj_Mm 209 = mj_m209 ∧ 209 < 9000 := ⟨rfl, by decide⟩
theorem mj_nm209 : mj_noMH mj_m209.1 := by unfold mj_noMH; decide +kernel
theorem mj_np209 : mj_np mj_m209.1 0 := by unfold mj_np; decide +kernel
theorem mj_cd209 : mj_cw mj_Tw mj_m209 := (mj_w6 54 rfl rfl)
theorem mj_M210 : mj_Mm 210 = mj_m210 ∧ 210 < 9000 := ⟨rfl, by decide⟩
theorem mj_nm210 : mj_noMH mj_m210.1 := by unfold mj_noMH; decide +kernel
theorem mj_np210 : mj_np mj_m210.1 1 := by unfold mj_np; decide +kernel
theorem mj_cd210 : mj_cw mj_Tw mj_m210 := (mj_w6 59 rfl rfl)
theorem mj_M211 : mj_Mm 211 = mj_m211 ∧ 211 < 9000 := ⟨rfl, by decide⟩
theorem mj_nm211 : mj_noMH mj_m211.1 := by unfold mj_noMH; decide +kernel
theorem mj_np211 : mj_np mj_m211.1 2 := by unfold mj_np; decide +kernel
theorem mj_cd211 : mj_cwW mj_Tw mj_m211 := (mj_w6 62 rfl rfl)
theorem mj_M212 : mj_Mm 212 = mj_m212 ∧ 212 < 9000 := ⟨rfl, by decide⟩
theorem mj_nm212 : mj_noMH mj_m212.1 := by unfold mj_noMH; decide +kernel
theorem mj_np212 : mj_np mj_m212.1 0 := by unfold mj_np; decide +kernel
theorem mj_cd212 : mj_cw mj_Tw mj_m212 := (mj_w6 66 rfl rfl)
theorem mj_M213 : mj_Mm 213 = mj_m213 ∧ 213 < 9000 := ⟨rfl, by decide⟩
theorem mj_nm213 : mj_noMH mj_m213.1 := by unfold mj_noMH; decide +kernel
theorem mj_np213 : mj_np mj_m213.1 0 := by unfold mj_np; decide +kernel
theorem mj_cd213 : mj_cw mj_Tw mj_m213 := (mj_w6 71 rfl rfl)
theorem mj_M214 : mj_Mm 214 = mj_m214 ∧ 214 < 9000 := ⟨rfl, by decide⟩
theorem mj_nm214 : mj_noMH mj_m214.1 := by unfold mj_noMH; decide +kernel
theorem mj_np214 : mj_np mj_m214.1 3 := by unfold mj_np; decide +kernel
theorem mj_cd214 : mj_cwW mj_Tw mj_m214 := (mj_w6 74 rfl rfl)
theorem mj_M215 : mj_Mm 215 = mj_m215 ∧ 215 < 9000 := ⟨rfl, by decide⟩
theorem mj_nm215 : mj_noMH mj_m215.1 := by unfold mj_noMH; decide +kernel
theorem mj_np215 : mj_np mj_m215.1 1 := by unfold mj_np; decide +kernel
theorem mj_cd215 : mj_cw mj_Tw mj_m215 := (mj_w6 78 rfl rfl)
theorem mj_M216 : mj_Mm 216 = mj_m216 ∧ 216 < 9000 := ⟨rfl, by decide⟩
theorem mj_nm216 : mj_noMH mj_m216.1 := by unfold mj_noMH; decide +kernel
theorem mj_np216 : mj_np mj_m216.1 3 := by unfold mj_np; decide +kernel
theorem mj_cd216 : mj_cwW mj_Tw mj_m216 := (mj_w6 82 rfl rfl)
theorem mj_M217 : mj_Mm 217 = mj_m217 ∧ 217 < 9000 := ⟨rfl, by decide⟩
theorem mj_nm217 : mj_noMH mj_m217.1 := by unfold mj_noMH; decide +kernel
theorem mj_np217 : mj_np mj_m217.1 1 := by unfold mj_np; decide +kernel
theorem mj_cd217 : mj_cw mj_Tw mj_m217 := (mj_w6 86 rfl rfl)
theorem mj_M218 : mj_Mm 218 = mj_m218 ∧ 218 < 9000 := ⟨rfl, by decide⟩
theorem mj_nm218 : mj_noMH mj_m218.1 := by unfold mj_noMH; decide +kernel
theorem mj_np218 : mj_np mj_m218.1 3 := by unfold mj_np; decide +kernel
theorem mj_cd218 : mj_cwW mj_Tw mj_m218 := (mj_w6 89 rfl rfl)
theorem mj_M219 : mj_Mm 219 = mj_m219 ∧ 219 < 9000 := ⟨rfl, by decide⟩
theorem mj_nm219 : mj_noMH mj_m219.1 := by unfold mj_noMH; decide +kernel
theorem mj_np219 : mj_np mj_m219.1 1 := by unfold mj_np; decide +kernel
theorem mj_cd219 : mj_cw mj_Tw mj_m219 := (mj_w6 93 rfl rfl)
theorem mj_M220 : mj_Mm 220 = mj_m220 ∧ 220 < 9000 := ⟨rfl, by decide⟩
theorem mj_nm220 : mj_noMH mj_m220.1 := by unfold mj_noMH; decide +kernel
theorem mj_np220 : mj_np mj_m220.1 4 := by unfold mj_np; decide +kernel
theorem mj_cd220 : mj_cwW mj_Tw mj_m220 := (mj_w6 98 rfl rfl)
theorem mj_M221 : mj_Mm 221 = mj_m221 ∧ 221 < 9000 := ⟨rfl, by decide⟩
theorem mj_nm221 : mj_noMH mj_m221.1 := by unfold mj_noMH; decide +kernel
theorem mj_np221 : mj_np mj_m221.1 2 := by unfold mj_np; decide +kernel
theorem mj_cd221 : mj_cw mj_Tw mj_m221 := (mj_w6 102 rfl rfl)
theorem mj_M222 : mj_Mm 222 = mj_m222 ∧ 222 < 9000 := ⟨rfl, by decide⟩
theorem mj_nm222 : mj_noMH mj_m222.1 := by unfold mj_noMH; decide +kernel
theorem mj_np222 : mj_np mj_m222.1 4 := by unfold mj_np; decide +kernel
theorem mj_cd222 : mj_cwW mj_Tw mj_m222 := (mj_w6 105 rfl rfl)
theorem mj_M223 : mj_Mm 223 = mj_m223 ∧ 223 < 9000 := ⟨rfl, by decide⟩
theorem mj_nm223 : mj_noMH mj_m223.1 := by unfold mj_noMH; decide +kernel
theorem mj_np223 : mj_np mj_m223.1 2 := by unfold mj_np; decide +kernel
theorem mj_cd223 : mj_cw mj_Tw mj_m223 := (mj_w6 109 rfl rfl)
theorem mj_M224 : mj_Mm 224 = mj_m224 ∧ 224 < 9000 := ⟨rfl, by decide⟩
theorem mj_nm224 : mj_noMH mj_m224.1 := by unfold mj_noMH; decide +kernel
theorem mj_np224 : mj_np mj_m224.1 2 := by unfold mj_np; decide +kernel
theorem mj_cd224 : mj_cw mj_Tw mj_m224 := (mj_w6 114 rfl rfl)
theorem mj_M225 : mj_Mm 225 = mj_m225 ∧ 225 < 9000 := ⟨rfl, by decide⟩
theorem mj_nm225 : mj_noMH mj_m225.1 := by unfold mj_noMH; decide +kernel
theorem mj_np225 : mj_np mj_m225.1 0 := by unfold mj_np; decide +kernel
theorem mj_cd225 : mj_cw mj_Tw mj_m225 := (mj_w6 119 rfl rfl)
theorem mj_M226 : mj_Mm 226 = mj_m226 ∧ 226 < 9000 := ⟨rfl, by decide⟩
theorem mj_nm226 : mj_noMH mj_m226.1 := by unfold mj_noMH; decide +kernel
theorem mj_np226 : mj_np mj_m226.1 2 := by unfold mj_np; decide +kernel
theorem mj_cd226 : mj_cw mj_Tw mj_m226 := (mj_w6 134 rfl rfl)
theorem mj_M227 : mj_Mm 227 = mj_m227 ∧ 227 < 9000 := ⟨rfl, by decide⟩
theorem mj_nm227 : mj_noMH mj_m227.1 := by unfold mj_noMH; decide +kernel
theorem mj_np227 : mj_np mj_m227.1 2 := by unfold mj_np; decide +kernel
theorem mj_cd227 : mj_cw mj_Tw mj_m227 := (mj_w6 139 rfl rfl)
theorem mj_M228 : mj_Mm 228 = mj_m228 ∧ 228 < 9000 := ⟨rfl, by decide⟩
theorem mj_nm228 : mj_noMH mj_m228.1 := by unfold mj_noMH; decide +kernel
theorem mj_np228 : mj_np mj_m228.1 2 := by unfold mj_np; decide +kernel
theorem mj_cd228 : mj_cw mj_Tw mj_m228 := (mj_w6 142 rfl rfl)
theorem mj_M229 : mj_Mm 229 = mj_m229 ∧ 229 < 9000 := ⟨rfl, by decide⟩
theorem mj_nm229 : mj_noMH mj_m229.1 := by unfold mj_noMH; decide +kernel
theorem mj_np229 : mj_np mj_m229.1 1 := by unfold mj_np; decide +kernel
theorem mj_cd229 : mj_cw mj_Tw mj_m229 := (mj_w6 147 rfl rfl)
theorem mj_M230 : mj_Mm 230 = mj_m230 ∧ 230 < 9000 := ⟨rfl, by decide⟩
theorem mj_nm230 : mj_noMH mj_m230.1 := by unfold mj_noMH; decide +kernel
theorem mj_np230 : mj_np mj_m230.1 3 := by unfold mj_np; decide +kernel
theorem mj_cd230 : mj_cwW mj_Tw mj_m230 := (mj_w6 151 rfl rfl)
theorem mj_M231 : mj_Mm 231 = mj_m231 ∧ 231 < 9000 := ⟨rfl, by decide⟩
theorem mj_nm231 : mj_noMH mj_m231.1 := by unfold mj_noMH; decide +kernel
theorem mj_np231 : mj_np mj_m231.1 1 := by unfold mj_np; decide +kernel
theorem mj_cd231 : mj_cw mj_Tw mj_m231 := (mj_w6 155 rfl rfl)
theorem mj_M232 : mj_Mm 232 = mj_m232 ∧ 232 < 9000 := ⟨rfl, by decide⟩
theorem mj_nm232 : mj_noMH mj_m232.1 := by unfold mj_noMH; decide +kernel
theorem mj_np232 : mj_np mj_m232.1 2 := by unfold mj_np; decide +kernel
theorem mj_cd232 : mj_cwW mj_Tw mj_m232 := (mj_w6 159 rfl rfl)
theorem mj_M233 : mj_Mm 233 = mj_m233 ∧ 233 < 9000 := ⟨rfl, by decide⟩
theorem mj_nm233 : mj_noMH mj_m233.1 := by unfold mj_noMH; decide +kernel
theorem mj_np233 : mj_np mj_m233.1 0 := by unfold mj_np; decide +kernel
theorem mj_cd233 : mj_cw mj_Tw mj_m233 := (mj_w6 163 rfl rfl)
theorem mj_M234 : mj_Mm 234 = mj_m234 ∧ 234 < 9000 := ⟨rfl, by decide⟩
theorem mj_nm234 : mj_noMH mj_m234.1 := by unfold mj_noMH; decide +kernel
theorem mj_np234 : mj_np mj_m234.1 0 := by unfold mj_np; decide +kernel
theorem mj_cd234 : mj_cw mj_Tw mj_m234 := (mj_w6 169 rfl rfl)
theorem mj_M235 : mj_Mm 235 = mj_m235 ∧ 235 < 9000 := ⟨rfl, by decide⟩
theorem mj_nm235 : mj_noMH mj_m235.1 := by unfold mj_noMH; decide +kernel
theorem mj_np235 : mj_np mj_m235.1 0 := by unfold mj_np; decide +kernel
theorem mj_cd235 : mj_cw mj_Tw mj_m235 := (mj_w6 175 rfl rfl)
theorem mj_M236 : mj_Mm 236 = mj_m236 ∧ 236 < 9000 := ⟨rfl, by decide⟩
theorem mj_nm236 : mj_noMH mj_m236.1 := by unfold mj_noMH; decide +kernel
theorem mj_np236 : mj_np mj_m236.1 0 := by unfold mj_np; decide +kernel
theorem mj_cd236 : mj_cw mj_Tw mj_m236 := (mj_w6 178 rfl rfl)
theorem mj_M237 : mj_Mm 237 = mj_m237 ∧ 237 < 9000 := ⟨rfl, by decide⟩
theorem mj_nm237 : mj_noMH mj_m237.1 := by unfold mj_noMH; decide +kernel
theorem mj_np237 : mj_np mj_m237.1 0 := by unfold mj_np; decide +kernel
theorem mj_cd237 : mj_cw mj_Tw mj_m237 := (mj_w6 181 rfl rfl)
theorem mj_M238 : mj_Mm 238 = mj_m238 ∧ 238 < 9000 := ⟨rfl, by decide⟩
theorem mj_nm238 : mj_noMH mj_m238.1 := by unfold mj_noMH; decide +kernel
theorem mj_np238 : mj_np mj_m238.1 1 := by unfold mj_np; decide +kernel
theorem mj_cd238 : mj_cw mj_Tw mj_m238 := (mj_w6 204 rfl rfl)
theorem mj_M239 : mj_Mm 239 = mj_m239 ∧ 239 < 9000 := ⟨rfl, by decide⟩
theorem mj_nm239 : mj_noMH mj_m239.1 := by unfold mj_noMH; decide +kernel
theorem mj_np239 : mj_np mj_m239.1 0 := by unfold mj_np; decide +kernel
theorem mj_cd239 : mj_cw mj_Tw mj_m239 := (mj_w7 49 rfl rfl)
theorem mj_M240 : mj_Mm 240 = mj_m240 ∧ 240 < 9000 := ⟨rfl, by decide⟩
theorem mj_nm240 : mj_noMH mj_m240.1 := by unfold mj_noMH; decide +kernel
theorem mj_np240 : mj_np mj_m240.1 1 := by unfold mj_np; decide +kernel
theorem mj_cd240 : mj_cw mj_Tw mj_m240 := (mj_w7 53 rfl rfl)
theorem mj_M241 : mj_Mm 241 = mj_m241 ∧ 241 < 9000 := ⟨rfl, by decide⟩
theorem mj_nm241 : mj_noMH mj_m241.1 := by unfold mj_noMH; decide +kernel
theorem mj_np241 : mj_np mj_m241.1 0 := by unfold mj_np; decide +kernel
theorem mj_cd241 : mj_cw mj_Tw mj_m241 := (mj_w7 57 rfl rfl)
theorem mj_M242 : mj_Mm 242 = mj_m242 ∧ 242 < 9000 := ⟨rfl, by decide⟩
theorem mj_nm242 : mj_noMH mj_m242.1 := by unfold mj_noMH; decide +kernel
theorem mj_np242 : mj_np mj_m242.1 0 := by unfold mj_np; decide +kernel
theorem mj_cd242 : mj_cw mj_Tw mj_m242 := (mj_w7 61 rfl rfl)
theorem mj_M243 : mj_Mm 243 = mj_m243 ∧ 243 < 9000 := ⟨rfl, by decide⟩
theorem mj_nm243 : mj_noMH mj_m243.1 := by unfold mj_noMH; decide +kernel
theorem mj_np243 : mj_np mj_m243.1 1 := by unfold mj_np; decide +kernel
theorem mj_cd243 : mj_cw mj_Tw mj_m243 := (mj_w7 67 rfl rfl)
theorem mj_M244 : mj_Mm 244 = mj_m244 ∧ 244 < 9000 := ⟨rfl, by decide⟩
theorem mj_nm244 : mj_noMH mj_m244.1 := by unfold mj_noMH; decide +kernel
theorem mj_np244 : mj_np mj_m244.1 0 := by unfold mj_np; decide +kernel
theorem mj_cd244 : mj_cw mj_Tw mj_m244 := (mj_w7 72 rfl rfl)
theorem mj_M245 : mj_Mm 245 = mj_m245 ∧ 245 < 9000 := ⟨rfl, by decide⟩
theorem mj_nm245 : mj_noMH mj_m245.1 := by unfold mj_noMH; decide +kernel
theorem mj_np245 : mj_np mj_m245.1 1 := by unfold mj_np; decide +kernel
theorem mj_cd245 : mj_cw mj_Tw mj_m245 := (mj_w7 75 rfl rfl)
theorem mj_M246 : mj_Mm 246 = mj_m246 ∧ 246 < 9000 := ⟨rfl, by decide⟩
theorem mj_nm246 : mj_noMH mj_m246.1 := by unfold mj_noMH; decide +kernel
theorem mj_np246 : mj_np mj_m246.1 1 := by unfold mj_np; decide +kernel
theorem mj_cd246 : mj_cw mj_Tw mj_m246 := (mj_w7 80 rfl rfl)
theorem mj_M247 : mj_Mm 247 = mj_m247 ∧ 247 < 9000 := ⟨rfl, by decide⟩
theorem mj_nm247 : mj_noMH mj_m247.1 := by unfold mj_noMH; decide +kernel
theorem mj_np247 : mj_np mj_m247.1 1 := by unfold mj_np; decide +kernel
theorem mj_cd247 : mj_cw mj_Tw mj_m247 := (mj_w7 83 rfl rfl)
theorem mj_M248 : mj_Mm 248 = mj_m248 ∧ 248 < 9000 := ⟨rfl, by decide⟩
theorem mj_nm248 : mj_noMH mj_m248.1 := by unfold mj_noMH; decide +kernel
theorem mj_np248 : mj_np mj_m248.1 1 := by unfold mj_np; decide +kernel
theorem mj_cd248 : mj_cw mj_Tw mj_m248 := (mj_w7 101 rfl rfl)
theorem mj_M249 : mj_Mm 249 = mj_m249 ∧ 249 < 9000 := ⟨rfl, by decide⟩
theorem mj_nm249 : mj_noMH mj_m249.1 := by unfold mj_noMH; decide +kernel
theorem mj_np249 : mj_np mj_m249.1 1 := by unfold mj_np; decide +kernel
theorem mj_cd249 : mj_cw mj_Tw mj_m249 := (mj_w7 104 rfl rfl)
theorem mj_M250 : mj_Mm 250 = mj_m250 ∧ 250 < 9000 := ⟨rfl, by decide⟩
theorem mj_nm250 : mj_noMH mj_m250.1 := by unfold mj_noMH; decide +kernel
theorem mj_np250 : mj_np mj_m250.1 0 := by unfold mj_np; decide +kernel
theorem mj_cd250 : mj_cw mj_Tw mj_m250 := (mj_w7 108 rfl rfl)
theorem mj_M251 : mj_Mm 251 = mj_m251 ∧ 251 < 9000 := ⟨rfl, by decide⟩
theorem mj_nm251 : mj_noMH mj_m251.1 := by unfold mj_noMH; decide +kernel
theorem mj_np251 : mj_np mj_m251.1 1 := by unfold mj_np; decide +kernel
theorem mj_cd251 : mj_cw mj_Tw mj_m251 := (mj_w7 112 rfl rfl)
theorem mj_M252 : mj_Mm 252 = mj_m252 ∧ 252 < 9000 := ⟨rfl, by decide⟩
theorem mj_nm252 : mj_noMH mj_m252.1 := by unfold mj_noMH; decide +kernel
theorem mj_np252 : mj_np mj_m252.1 1 := by unfold mj_np; decide +kernel
theorem mj_cd252 : mj_cw mj_Tw mj_m252 := (mj_w7 116 rfl rfl)
theorem mj_M253 : mj_Mm 253 = mj_m253 ∧ 253 < 9000 := ⟨rfl, by decide⟩
theorem mj_nm253 : mj_noMH mj_m253.1 := by unfold mj_noMH; decide +kernel
theorem mj_np253 : mj_np mj_m253.1 3 := by unfold mj_np; decide +kernel
theorem mj_cd253 : mj_cw mj_Tw mj_m253 := (mj_w7 119 rfl rfl)
theorem mj_M254 : mj_Mm 254 = mj_m254 ∧ 254 < 9000 := ⟨rfl, by decide⟩
theorem mj_nm254 : mj_noMH mj_m254.1 := by unfold mj_noMH; decide +kernel
theorem mj_np254 : mj_np mj_m254.1 2 := by unfold mj_np; decide +kernel
theorem mj_cd254 : mj_cw mj_Tw mj_m254 := (mj_w7 124 rfl rfl)
theorem mj_M255 : mj_Mm 255 = mj_m255 ∧ 255 < 9000 := ⟨rfl, by decide⟩
theorem mj_nm255 : mj_noMH mj_m255.1 := by unfold mj_noMH; decide +kernel
theorem mj_np255 : mj_np mj_m255.1 2 := by unfold mj_np; decide +kernel
theorem mj_cd255 : mj_cw mj_Tw mj_m255 := (mj_w7 128 rfl rfl)
theorem mj_M256 : mj_Mm 256 = mj_m256 ∧ 256 < 9000 := ⟨rfl, by decide⟩
theorem mj_nm256 : mj_noMH mj_m256.1 := by unfold mj_noMH; decide +kernel
theorem mj_np256 : mj_np mj_m256.1 0 := by unfold mj_np; decide +kernel
theorem mj_cd256 : mj_cw mj_Tw mj_m256 := (mj_w7 142 rfl rfl)
theorem mj_M257 : mj_Mm 257 = mj_m257 ∧ 257 < 9000 := ⟨rfl, by decide⟩
theorem mj_nm257 : mj_noMH mj_m257.1 := by unfold mj_noMH; decide +kernel
theorem mj_np257 : mj_np mj_m257.1 6 := by unfold mj_np; decide +kernel
theorem mj_cd257 : mj_cw mj_Tw mj_m257 := (mj_w7 145 rfl rfl)
theorem mj_M258 : mj_Mm 258 = mj_m258 ∧ 258 < 9000 := ⟨rfl, by decide⟩
theorem mj_nm258 : mj_noMH mj_m258.1 := by unfold mj_noMH; decide +kernel
theorem mj_np258 : mj_np mj_m258.1 3 := by unfold mj_np; decide +kernel
theorem mj_cd258 : mj_cw mj_Tw mj_m258 := (mj_w7 148 rfl rfl)
theorem mj_M259 : mj_Mm 259 = mj_m259 ∧ 259 < 9000 := ⟨rfl, by decide⟩
theorem mj_nm259 : mj_noMH mj_m259.1 := by unfold mj_noMH; decide +kernel
theorem mj_np259 : mj_np mj_m259.1 1 := by unfold mj_np; decide +kernel
theorem mj_cd259 : mj_cw mj_Tw mj_m259 := (mj_w7 151 rfl rfl)
theorem mj_M260 : mj_Mm 260 = mj_m260 ∧ 260 < 9000 := ⟨rfl, by decide⟩
theorem mj_nm260 : mj_noMH mj_m260.1 := by unfold mj_noMH; decide +kernel
theorem mj_np260 : mj_np mj_m260.1 3 := by unfold mj_np; decide +kernel
theorem mj_cd260 : mj_cw mj_Tw mj_m260 := (mj_w7 154 rfl rfl)
theorem mj_M261 : mj_Mm 261 = mj_m261 ∧ 261 < 9000 := ⟨rfl, by decide⟩
theorem mj_nm261 : mj_noMH mj_m261.1 := by unfold mj_noMH; decide +kernel
theorem mj_np261 : mj_np mj_m261.1 4 := by unfold mj_np; decide +kernel
theorem mj_cd261 : mj_cw mj_Tw mj_m261 := (mj_w7 159 rfl rfl)
theorem mj_M262 : mj_Mm 262 = mj_m262 ∧ 262 < 9000 := ⟨rfl, by decide⟩
theorem mj_nm262 : mj_noMH mj_m262.1 := by unfold mj_noMH; decide +kernel
theorem mj_np262 : mj_np mj_m262.1 3 := by unfold mj_np; decide +kernel
theorem mj_cd262 : mj_cw mj_Tw mj_m262 := (mj_w7 162 rfl rfl)
theorem mj_M263 : mj_Mm 263 = mj_m263 ∧ 263 < 9000 := ⟨rfl, by decide⟩
theorem mj_nm263 : mj_noMH mj_m263.1 := by unfold mj_noMH; decide +kernel
theorem mj_np263 : mj_np mj_m263.1 2 := by unfold mj_np; decide +kernel
theorem mj_cd263 : mj_cw mj_Tw mj_m263 := (mj_w7 173 rfl rfl)
theorem mj_M264 : mj_Mm 264 = mj_m264 ∧ 264 < 9000 := ⟨rfl, by decide⟩
theorem mj_nm264 : mj_noMH mj_m264.1 := by unfold mj_noMH; decide +kernel
theorem mj_np264 : mj_np mj_m264.1 1 := by unfold mj_np; decide +kernel
theorem mj_cd264 : mj_cw mj_Tw mj_m264 := (mj_w7 177 rfl rfl)
theorem mj_M265 : mj_Mm 265 = mj_m265 ∧ 265 < 9000 := ⟨rfl, by decide⟩
theorem mj_nm265 : mj_noMH mj_m265.1 := by unfold mj_noMH; decide +kernel
theorem mj_np265 : mj_np mj_m265.1 0 := by unfold mj_np; decide +kernel
theorem mj_cd265 : mj_cw mj_Tw mj_m265 := (mj_w7 182 rfl rfl)
theorem mj_M266 : mj_Mm 266 = mj_m266 ∧ 266 < 9000 := ⟨rfl, by decide⟩
theorem mj_nm266 : mj_noMH mj_m266.1 := by unfold mj_noMH; decide +kernel
theorem mj_np266 : mj_np mj_m266.1 5 := by unfold mj_np; decide +kernel
theorem mj_cd266 : mj_cw mj_Tw mj_m266 := (mj_w7 185 rfl rfl)
theorem mj_M267 : mj_Mm 267 = mj_m267 ∧ 267 < 9000 := ⟨rfl, by decide⟩
theorem mj_nm267 : mj_noMH mj_m267.1 := by unfold mj_noMH; decide +kernel
theorem mj_np267 : mj_np mj_m267.1 5 := by unfold mj_np; decide +kernel
theorem mj_cd267 : mj_cw mj_Tw mj_m267 := (mj_w7 188 rfl rfl)
theorem mj_M268 : mj_Mm 268 = mj_m268 ∧ 268 < 9000 := ⟨rfl, by decide⟩
theorem mj_nm268 : mj_noMH mj_m268.1 := by unfold mj_noMH; decide +kernel
theorem mj_np268 : mj_np mj_m268.1 3 := by unfold mj_np; decide +kernel
theorem mj_cd268 : mj_cw mj_Tw mj_m268 := (mj_w7 191 rfl rfl)
theorem mj_M269 : mj_Mm 269 = mj_m269 ∧ 269 < 9000 := ⟨rfl, by decide⟩
theorem mj_nm269 : mj_noMH mj_m269.1 := by unfold mj_noMH; decide +kernel
theorem mj_np269 : mj_np mj_m269.1 3 := by unfold mj_np; decide +kernel
theorem mj_cd269 : mj_cw mj_Tw mj_m269 := (mj_w7 194 rfl rfl)
theorem mj_M270 : mj_Mm 270 = mj_m270 ∧ 270 < 9000 := ⟨rfl, by decide⟩
theorem mj_nm270 : mj_noMH mj_m270.1 := by unfold mj_noMH; decide +kernel
theorem mj_np270 : mj_np mj_m270.1 4 := by unfold mj_np; decide +kernel
theorem mj_cd270 : mj_cw mj_Tw mj_m270 := (mj_w7 197 rfl rfl)
theorem mj_M271 : mj_Mm 271 = mj_m271 ∧ 271 < 9000 := ⟨rfl, by decide⟩
theorem mj_nm271 : mj_noMH mj_m271.1 := by unfold mj_noMH; decide +kernel
theorem mj_np271 : mj_np mj_m271.1 3 := by unfold mj_np; decide +kernel
theorem mj_cd271 : mj_cw mj_Tw mj_m271 := (mj_w7 201 rfl rfl)
theorem mj_M272 : mj_Mm 272 = mj_m272 ∧ 272 < 9000 := ⟨rfl, by decide⟩
theorem mj_nm272 : mj_noMH mj_m272.1 := by unfold mj_noMH; decide +kernel
theorem mj_np272 : mj_np mj_m272.1 1 := by unfold mj_np; decide +kernel
theorem mj_cd272 : mj_cw mj_Tw mj_m272 := (mj_w7 207 rfl rfl)
theorem mj_M273 : mj_Mm 273 = mj_m273 ∧ 273 < 9000 := ⟨rfl, by decide⟩
theorem mj_nm273 : mj_noMH mj_m273.1 := by unfold mj_noMH; decide +kernel
theorem mj_np273 : mj_np mj_m273.1 1 := by unfold mj_np; decide +kernel
theorem mj_cd273 : mj_cw mj_Tw mj_m273 := (mj_w7 210 rfl rfl)
theorem mj_M274 : mj_Mm 274 = mj_m274 ∧ 274 < 9000 := ⟨rfl, by decide⟩
theorem mj_nm274 : mj_noMH mj_m274.1 := by unfold mj_noMH; decide +kernel
theorem mj_np274 : mj_np mj_m274.1 1 := by unfold mj_np; decide +kernel
theorem mj_cd274 : mj_cw mj_Tw mj_m274 := (mj_w7 213 rfl rfl)
theorem mj_M275 : mj_Mm 275 = mj_m275 ∧ 275 < 9000 := ⟨rfl, by decide⟩
theorem mj_nm275 : mj_noMH mj_m275.1 := by unfold mj_noMH; decide +kernel
theorem mj_np275 : mj_np mj_m275.1 3 := by unfold mj_np; decide +kernel
theorem mj_cd275 : mj_cw mj_Tw mj_m275 := (mj_w7 216 rfl rfl)
theorem mj_M276 : mj_Mm 276 = mj_m276 ∧ 276 < 9000 := ⟨rfl, by decide⟩
theorem mj_nm276 : mj_noMH mj_m276.1 := by unfold mj_noMH; decide +kernel
theorem mj_np276 : mj_np mj_m276.1 2 := by unfold mj_np; decide +kernel
theorem mj_cd276 : mj_cw mj_Tw mj_m276 := (mj_w7 219 rfl rfl)
theorem mj_M277 : mj_Mm 277 = mj_m277 ∧ 277 < 9000 := ⟨rfl, by decide⟩
theorem mj_nm277 : mj_noMH mj_m277.1 := by unfold mj_noMH; decide +kernel
theorem mj_np277 : mj_np mj_m277.1 2 := by unfold mj_np; decide +kernel
theorem mj_cd277 : mj_cw mj_Tw mj_m277 := (mj_w7 222 rfl rfl)
theorem mj_M278 : mj_Mm 278 = mj_m278 ∧ 278 < 9000 := ⟨rfl, by decide⟩
theorem mj_nm278 : mj_noMH mj_m278.1 := by unfold mj_noMH; decide +kernel
theorem mj_np278 : mj_np mj_m278.1 3 := by unfold mj_np; decide +kernel
theorem mj_cd278 : mj_cw mj_Tw mj_m278 := (mj_w7 225 rfl rfl)
theorem mj_M279 : mj_Mm 279 = mj_m279 ∧ 279 < 9000 := ⟨rfl, by decide⟩
theorem mj_nm279 : mj_noMH mj_m279.1 := by unfold mj_noMH; decide +kernel
theorem mj_np279 : mj_np mj_m279.1 0 := by unfold mj_np; decide +kernel
theorem mj_cd279 : mj_cw mj_Tw mj_m279 := (mj_w7 229 rfl rfl)
theorem mj_M280 : mj_Mm 280 = mj_m280 ∧ 280 < 9000 := ⟨rfl, by decide⟩
theorem mj_nm280 : mj_noMH mj_m280.1 := by unfold mj_noMH; decide +kernel
theorem mj_np280 : mj_np mj_m280.1 1 := by unfold mj_np; decide +kernel
theorem mj_cd280 : mj_cw mj_Tw mj_m280 := (mj_w7 234 rfl rfl)
theorem mj_M281 : mj_Mm 281 = mj_m281 ∧ 281 < 9000 := ⟨rfl, by decide⟩
theorem mj_nm281 : mj_noMH mj_m281.1 := by unfold mj_noMH; decide +kernel
theorem mj_np281 : mj_np mj_m281.1 2 := by unfold mj_np; decide +kernel
theorem mj_cd281 : mj_cw mj_Tw mj_m281 := (mj_w7 237 rfl rfl)
theorem mj_M282 : mj_Mm 282 = mj_m282 ∧ 282 < 9000 := ⟨rfl, by decide⟩
theorem mj_nm282 : mj_noMH mj_m282.1 := by unfold mj_noMH; decide +kernel
theorem mj_np282 : mj_np mj_m282.1 0 := by unfold mj_np; decide +kernel
theorem mj_cd282 : mj_cw mj_Tw mj_m282 := (mj_w8 3 rfl rfl)
theorem mj_M283 : mj_Mm 283 = mj_m283 ∧ 283 < 9000 := ⟨rfl, by decide⟩
theorem mj_nm283 : mj_noMH mj_m283.1 := by unfold mj_noMH; decide +kernel
theorem mj_np283 : mj_np mj_m283.1 0 := by unfold mj_np; decide +kernel
theorem mj_cd283 : mj_cw mj_Tw mj_m283 := (mj_w8 9 rfl rfl)
theorem mj_M284 : mj_Mm 284 = mj_m284 ∧ 284 < 9000 := ⟨rfl, by decide⟩
theorem mj_nm284 : mj_noMH mj_m284.1 := by unfold mj_noMH; decide +kernel
theorem mj_np284 : mj_np mj_m284.1 0 := by unfold mj_np; decide +kernel
theorem mj_cd284 : mj_cw mj_Tw mj_m284 := (mj_w8 11 rfl rfl)
theorem mj_M285 : mj_Mm 285 = mj_m285 ∧ 285 < 9000 := ⟨rfl, by decide⟩
theorem mj_nm285 : mj_noMH mj_m285.1 := by unfold mj_noMH; decide +kernel
theorem mj_np285 : mj_np mj_m285.1 3 := by unfold mj_np; decide +kernel
theorem mj_cd285 : mj_cw mj_Tw mj_m285 := (mj_w8 15 rfl rfl)
theorem mj_M286 : mj_Mm 286 = mj_m286 ∧ 286 < 9000 := ⟨rfl, by decide⟩
theorem mj_nm286 : mj_noMH mj_m286.1 := by unfold mj_noMH; decide +kernel
theorem mj_np286 : mj_np mj_m286.1 3 := by unfold mj_np; decide +kernel
theorem mj_cd286 : mj_cw mj_Tw mj_m286 := (mj_w8 18 rfl rfl)
theorem mj_M287 : mj_Mm 287 = mj_m287 ∧ 287 < 9000 := ⟨rfl, by decide⟩
theorem mj_nm287 : mj_noMH mj_m287.1 := by unfold mj_noMH; decide +kernel
theorem mj_np287 : mj_np mj_m287.1 2 := by unfold mj_np; decide +kernel
theorem mj_cd287 : mj_cw mj_Tw mj_m287 := (mj_w8 21 rfl rfl)
theorem mj_M288 : mj_Mm 288 = mj_m288 ∧ 288 < 9000 := ⟨rfl, by decide⟩
theorem mj_nm288 : mj_noMH mj_m288.1 := by unfold mj_noMH; decide +kernel
theorem mj_np288 : mj_np mj_m288.1 1 := by unfold mj_np; decide +kernel
theorem mj_cd288 : mj_cw mj_Tw mj_m288 := (mj_w8 28 rfl rfl)
theorem mj_M289 : mj_Mm 289 = mj_m289 ∧ 289 < 9000 := ⟨rfl, by decide⟩
theorem mj_nm289 : mj_noMH mj_m289.1 := by unfold mj_noMH; decide +kernel
theorem mj_np289 : mj_np mj_m289.1 1 := by unfold mj_np; decide +kernel
theorem mj_cd289 : mj_cw mj_Tw mj_m289 := (mj_w8 31 rfl rfl)
theorem mj_M290 : mj_Mm 290 = mj_m290 ∧ 290 < 9000 := ⟨rfl, by decide⟩
theorem mj_nm290 : mj_noMH mj_m290.1 := by unfold mj_noMH; decide +kernel
theorem mj_np290 : mj_np mj_m290.1 1 := by unfold mj_np; decide +kernel
theorem mj_cd290 : mj_cw mj_Tw mj_m290 := (mj_w8 34 rfl rfl)
theorem mj_M291 : mj_Mm 291 = mj_m291 ∧ 291 < 9000 := ⟨rfl, by decide⟩
theorem mj_nm291 : mj_noMH mj_m291.1 := by unfold mj_noMH; decide +kernel
theorem mj_np291 : mj_np mj_m291.1 3 := by unfold mj_np; decide +kernel
theorem mj_cd291 : mj_cw mj_Tw mj_m291 := (mj_w8 37 rfl rfl)
theorem mj_M292 : mj_Mm 292 = mj_m292 ∧ 292 < 9000 := ⟨rfl, by decide⟩
theorem mj_nm292 : mj_noMH mj_m292.1 := by unfold mj_noMH; decide +kernel
theorem mj_np292 : mj_np mj_m292.1 4 := by unfold mj_np; decide +kernel
theorem mj_cd292 : mj_cw mj_Tw mj_m292 := (mj_w8 44 rfl rfl)
theorem mj_M293 : mj_Mm 293 = mj_m293 ∧ 293 < 9000 := ⟨rfl, by decide⟩
theorem mj_nm293 : mj_noMH mj_m293.1 := by unfold mj_noMH; decide +kernel
theorem mj_np293 : mj_np mj_m293.1 3 := by unfold mj_np; decide +kernel
theorem mj_cd293 : mj_cw mj_Tw mj_m293 := (mj_w8 47 rfl rfl)
theorem mj_M294 : mj_Mm 294 = mj_m294 ∧ 294 < 9000 := ⟨rfl, by decide⟩
theorem mj_nm294 : mj_noMH mj_m294.1 := by unfold mj_noMH; decide +kernel
theorem mj_np294 : mj_np mj_m294.1 3 := by unfold mj_np; decide +kernel
theorem mj_cd294 : mj_cw mj_Tw mj_m294 := (mj_w8 56 rfl rfl)
theorem mj_M295 : mj_Mm 295 = mj_m295 ∧ 295 < 9000 := ⟨rfl, by decide⟩
theorem mj_nm295 : mj_noMH mj_m295.1 := by unfold mj_noMH; decide +kernel
theorem mj_np295 : mj_np mj_m295.1 5 := by unfold mj_np; decide +kernel
theorem mj_cd295 : mj_cw mj_Tw mj_m295 := (mj_w8 59 rfl rfl)
theorem mj_M296 : mj_Mm 296 = mj_m296 ∧ 296 < 9000 := ⟨rfl, by decide⟩
theorem mj_nm296 : mj_noMH mj_m296.1 := by unfold mj_noMH; decide +kernel
theorem mj_np296 : mj_np mj_m296.1 2 := by unfold mj_np; decide +kernel
theorem mj_cd296 : mj_cw mj_Tw mj_m296 := (mj_w8 62 rfl rfl)
theorem mj_M297 : mj_Mm 297 = mj_m297 ∧ 297 < 9000 := ⟨rfl, by decide⟩
theorem mj_nm297 : mj_noMH mj_m297.1 := by unfold mj_noMH; decide +kernel
theorem mj_np297 : mj_np mj_m297.1 2 := by unfold mj_np; decide +kernel
theorem mj_cd297 : mj_cw mj_Tw mj_m297 := (mj_w8 66 rfl rfl)
theorem mj_M298 : mj_Mm 298 = mj_m298 ∧ 298 < 9000 := ⟨rfl, by decide⟩
theorem mj_nm298 : mj_noMH mj_m298.1 := by unfold mj_noMH; decide +kernel
theorem mj_np298 : mj_np mj_m298.1 0 := by unfold mj_np; decide +kernel
theorem mj_cd298 : mj_cw mj_Tw mj_m298 := (mj_w8 81 rfl rfl)
theorem mj_M299 : mj_Mm 299 = mj_m299 ∧ 299 < 9000 := ⟨rfl, by decide⟩
theorem mj_nm299 : mj_noMH mj_m299.1 := by unfold mj_noMH; decide +kernel
theorem mj_np299 : mj_np mj_m299.1 0 := by unfold mj_np; decide +kernel
theorem mj_cd299 : mj_cw mj_Tw mj_m299 := (mj_w8 85 rfl rfl)
theorem mj_M300 : mj_Mm 300 = mj_m300 ∧ 300 < 9000 := ⟨rfl, by decide⟩
theorem mj_nm300 : mj_noMH mj_m300.1 := by unfold mj_noMH; decide +kernel
theorem mj_np300 : mj_np mj_m300.1 1 := by unfold mj_np; decide +kernel
theorem mj_cd300 : mj_cwW mj_Tw mj_m300 := (mj_w8 89 rfl rfl)
theorem mj_M301 : mj_Mm 301 = mj_m301 ∧ 301 < 9000 := ⟨rfl, by decide⟩
theorem mj_nm301 : mj_noMH mj_m301.1 := by unfold mj_noMH; decide +kernel
theorem mj_np301 : mj_np mj_m301.1 1 := by unfold mj_np; decide +kernel
theorem mj_cd301 : mj_cw mj_Tw mj_m301 := (mj_w8 95 rfl rfl)
theorem mj_M302 : mj_Mm 302 = mj_m302 ∧ 302 < 9000 := ⟨rfl, by decide⟩
theorem mj_nm302 : mj_noMH mj_m302.1 := by unfold mj_noMH; decide +kernel
theorem mj_np302 : mj_np mj_m302.1 0 := by unfold mj_np; decide +kernel
theorem mj_cd302 : mj_cw mj_Tw mj_m302 := (mj_w8 110 rfl rfl)
theorem mj_M303 : mj_Mm 303 = mj_m303 ∧ 303 < 9000 := ⟨rfl, by decide⟩
theorem mj_nm303 : mj_noMH mj_m303.1 := by unfold mj_noMH; decide +kernel
theorem mj_np303 : mj_np mj_m303.1 1 := by unfold mj_np; decide +kernel
theorem mj_cd303 : mj_cw mj_Tw mj_m303 := (mj_w8 114 rfl rfl)
theorem mj_M304 : mj_Mm 304 = mj_m304 ∧ 304 < 9000 := ⟨rfl, by decide⟩
theorem mj_nm304 : mj_noMH mj_m304.1 := by unfold mj_noMH; decide +kernel
theorem mj_np304 : mj_np mj_m304.1 1 := by unfold mj_np; decide +kernel
theorem mj_cd304 : mj_cw mj_Tw mj_m304 := (mj_w8 120 rfl rfl)
theorem mj_M305 : mj_Mm 305 = mj_m305 ∧ 305 < 9000 := ⟨rfl, by decide⟩
theorem mj_nm305 : mj_noMH mj_m305.1 := by unfold mj_noMH; decide +kernel
theorem mj_np305 : mj_np mj_m305.1 0 := by unfold mj_np; decide +kernel
theorem mj_cd305 : mj_cw mj_Tw mj_m305 := (mj_w8 125 rfl rfl)
theorem mj_M306 : mj_Mm 306 = mj_m306 ∧ 306 < 9000 := ⟨rfl, by decide⟩
theorem mj_nm306 : mj_noMH mj_m306.1 := by unfold mj_noMH; decide +kernel
theorem mj_np306 : mj_np mj_m306.1 1 := by unfold mj_np; decide +kernel
theorem mj_cd306 : mj_cw mj_Tw mj_m306 := (mj_w8 129 rfl rfl)
theorem mj_M307 : mj_Mm 307 = mj_m307 ∧ 307 < 9000 := ⟨rfl, by decide⟩
theorem mj_nm307 : mj_noMH mj_m307.1 := by unfold mj_noMH; decide +kernel
theorem mj_np307 : mj_np mj_m307.1 0 := by unfold mj_np; decide +kernel
theorem mj_cd307 : mj_cw mj_Tw mj_m307 := (mj_w8 133 rfl rfl)
theorem mj_M308 : mj_Mm 308 = mj_m308 ∧ 308 < 9000 := ⟨rfl, by decide⟩
theorem mj_nm308 : mj_noMH mj_m308.1 := by unfold mj_noMH; decide +kernel
theorem mj_np308 : mj_np mj_m308.1 2 := by unfold mj_np; decide +kernel
theorem mj_cd308 : mj_cw mj_Tw mj_m308 := (mj_w8 136 rfl rfl)
theorem mj_M309 : mj_Mm 309 = mj_m309 ∧ 309 < 9000 := ⟨rfl, by decide⟩
theorem mj_nm309 : mj_noMH mj_m309.1 := by unfold mj_noMH; decide +kernel
theorem mj_np309 : mj_np mj_m309.1 2 := by unfold mj_np; decide +kernel
theorem mj_cd309 : mj_cw mj_Tw mj_m309 := (mj_w8 140 rfl rfl)
theorem mj_M310 : mj_Mm 310 = mj_m310 ∧ 310 < 9000 := ⟨rfl, by decide⟩
theorem mj_nm310 : mj_noMH mj_m310.1 := by unfold mj_noMH; decide +kernel
theorem mj_np310 : mj_np mj_m310.1 0 := by unfold mj_np; decide +kernel
theorem mj_cd310 : mj_cw mj_Tw mj_m310 := (mj_w8 144 rfl rfl)
theorem mj_M311 : mj_Mm 311 = mj_m311 ∧ 311 < 9000 := ⟨rfl, by decide⟩
theorem mj_nm311 : mj_noMH mj_m311.1 := by unfold mj_noMH; decide +kernel
theorem mj_np311 : mj_np mj_m311.1 3 := by unfold mj_np; decide +kernel
theorem mj_cd311 : mj_cw mj_Tw mj_m311 := (mj_w8 147 rfl rfl)
theorem mj_M312 : mj_Mm 312 = mj_m312 ∧ 312 < 9000 := ⟨rfl, by decide⟩
theorem mj_nm312 : mj_noMH mj_m312.1 := by unfold mj_noMH; decide +kernel
theorem mj_np312 : mj_np mj_m312.1 0 := by unfold mj_np; decide +kernel
theorem mj_cd312 : mj_cw mj_Tw mj_m312 := (mj_w8 151 rfl rfl)
theorem mj_M313 : mj_Mm 313 = mj_m313 ∧ 313 < 9000 := ⟨rfl, by decide⟩
theorem mj_nm313 : mj_noMH mj_m313.1 := by unfold mj_noMH; decide +kernel
theorem mj_np313 : mj_np mj_m313.1 1 := by unfold mj_np; decide +kernel
theorem mj_cd313 : mj_cw mj_Tw mj_m313 := (mj_w8 155 rfl rfl)
theorem mj_M314 : mj_Mm 314 = mj_m314 ∧ 314 < 9000 := ⟨rfl, by decide⟩
theorem mj_nm314 : mj_noMH mj_m314.1 := by unfold mj_noMH; decide +kernel
theorem mj_np314 : mj_np mj_m314.1 2 := by unfold mj_np; decide +kernel
theorem mj_cd314 : mj_cw mj_Tw mj_m314 := (mj_w8 159 rfl rfl)
theorem mj_M315 : mj_Mm 315 = mj_m315 ∧ 315 < 9000 := ⟨rfl, by decide⟩
theorem mj_nm315 : mj_noMH mj_m315.1 := by unfold mj_noMH; decide +kernel
theorem mj_np315 : mj_np mj_m315.1 2 := by unfold mj_np; decide +kernel
theorem mj_cd315 : mj_cw mj_Tw mj_m315 := (mj_w8 171 rfl rfl)
theorem mj_M316 : mj_Mm 316 = mj_m316 ∧ 316 < 9000 := ⟨rfl, by decide⟩
theorem mj_nm316 : mj_noMH mj_m316.1 := by unfold mj_noMH; decide +kernel
theorem mj_np316 : mj_np mj_m316.1 0 := by unfold mj_np; decide +kernel
theorem mj_cd316 : mj_cw mj_Tw mj_m316 := (mj_w8 174 rfl rfl)
theorem mj_M317 : mj_Mm 317 = mj_m317 ∧ 317 < 9000 := ⟨rfl, by decide⟩
theorem mj_nm317 : mj_noMH mj_m317.1 := by unfold mj_noMH; decide +kernel
theorem mj_np317 : mj_np mj_m317.1 1 := by unfold mj_np; decide +kernel
theorem mj_cd317 : mj_cw mj_Tw mj_m317 := (mj_w8 190 rfl rfl)
theorem mj_M318 : mj_Mm 318 = mj_m318 ∧ 318 < 9000 := ⟨rfl, by decide⟩
theorem mj_nm318 : mj_noMH mj_m318.1 := by unfold mj_noMH; decide +kernel
theorem mj_np318 : mj_np mj_m318.1 2 := by unfold mj_np; decide +kernel
theorem mj_cd318 : mj_cw mj_Tw mj_m318 := (mj_w8 194 rfl rfl)
theorem mj_M319 : mj_Mm 319 = mj_m319 ∧ 319 < 9000 := ⟨rfl, by decide⟩
theorem mj_nm319 : mj_noMH mj_m319.1 := by unfold mj_noMH; decide +kernel
theorem mj_np319 : mj_np mj_m319.1 4 := by unfold mj_np; decide +kernel
theorem mj_cd319 : mj_cw mj_Tw mj_m319 := (mj_w8 198 rfl rfl)
theorem mj_M320 : mj_Mm 320 = mj_m320 ∧ 320 < 9000 := ⟨rfl, by decide⟩
theorem mj_nm320 : mj_noMH mj_m320.1 := by unfold mj_noMH; decide +kernel
theorem mj_np320 : mj_np mj_m320.1 1 := by unfold mj_np; decide +kernel
theorem mj_cd320 : mj_cw mj_Tw mj_m320 := (mj_w8 201 rfl rfl)
theorem mj_M321 : mj_Mm 321 = mj_m321 ∧ 321 < 9000 := ⟨rfl, by decide⟩
theorem mj_nm321 : mj_noMH mj_m321.1 := by unfold mj_noMH; decide +kernel
theorem mj_np321 : mj_np mj_m321.1 4 := by unfold mj_np; decide +kernel
theorem mj_cd321 : mj_cw mj_Tw mj_m321 := (mj_w8 206 rfl rfl)
theorem mj_M322 : mj_Mm 322 = mj_m322 ∧ 322 < 9000 := ⟨rfl, by decide⟩
theorem mj_nm322 : mj_noMH mj_m322.1 := by unfold mj_noMH; decide +kernel
theorem mj_np322 : mj_np mj_m322.1 4 := by unfold mj_np; decide +kernel
theorem mj_cd322 : mj_cw mj_Tw mj_m322 := (mj_w8 209 rfl rfl)
theorem mj_M323 : mj_Mm 323 = mj_m323 ∧ 323 < 9000 := ⟨rfl, by decide⟩
theorem mj_nm323 : mj_noMH mj_m323.1 := by unfold mj_noMH; decide +kernel
theorem mj_np323 : mj_np mj_m323.1 4 := by unfold mj_np; decide +kernel
theorem mj_cd323 : mj_cw mj_Tw mj_m323 := (mj_w8 215 rfl rfl)
theorem mj_M324 : mj_Mm 324 = mj_m324 ∧ 324 < 9000 := ⟨rfl, by decide⟩
theorem mj_nm324 : mj_noMH mj_m324.1 := by unfold mj_noMH; decide +kernel
theorem mj_np324 : mj_np mj_m324.1 4 := by unfold mj_np; decide +kernel
theorem mj_cd324 : mj_cw mj_Tw mj_m324 := (mj_w8 218 rfl rfl)
theorem mj_M325 : mj_Mm 325 = mj_m325 ∧ 325 < 9000 := ⟨rfl, by decide⟩
theorem mj_nm325 : mj_noMH mj_m325.1 := by unfold mj_noMH; decide +kernel
theorem mj_np325 : mj_np mj_m325.1 4 := by unfold mj_np; decide +kernel
theorem mj_cd325 : mj_cw mj_Tw mj_m325 := (mj_w8 221 rfl rfl)
theorem mj_M326 : mj_Mm 326 = mj_m326 ∧ 326 < 9000 := ⟨rfl, by decide⟩
theorem mj_nm326 : mj_noMH mj_m326.1 := by unfold mj_noMH; decide +kernel
theorem mj_np326 : mj_np mj_m326.1 1 := by unfold mj_np; decide +kernel
theorem mj_cd326 : mj_cw mj_Tw mj_m326 := (mj_w8 224 rfl rfl)
theorem mj_M327 : mj_Mm 327 = mj_m327 ∧ 327 < 9000 := ⟨rfl, by decide⟩
theorem mj_nm327 : mj_noMH mj_m327.1 := by unfold mj_noMH; decide +kernel
theorem mj_np327 : mj_np mj_m327.1 1 := by unfold mj_np; decide +kernel
theorem mj_cd327 : mj_cw mj_Tw mj_m327 := (mj_w8 227 rfl rfl)
theorem mj_M328 : mj_Mm 328 = mj_m328 ∧ 328 < 9000 := ⟨rfl, by decide⟩
theorem mj_nm328 : mj_noMH mj_m328.1 := by unfold mj_noMH; decide +kernel
theorem mj_np328 : mj_np mj_m328.1 1 := by unfold mj_np; decide +kernel
theorem mj_cd328 : mj_cw mj_Tw mj_m328 := (mj_w8 231 rfl rfl)
theorem mj_M329 : mj_Mm 329 = mj_m329 ∧ 329 < 9000 := ⟨rfl, by decide⟩
theorem mj_nm329 : mj_noMH mj_m329.1 := by unfold mj_noMH; decide +kernel
theorem mj_np329 : mj_np mj_m329.1 1 := by unfold mj_np; decide +kernel
theorem mj_cd329 : mj_cw mj_Tw mj_m329 := (mj_w8 237 rfl rfl)
theorem mj_M330 : mj_Mm 330 = mj_m330 ∧ 330 < 9000 := ⟨rfl, by decide⟩
theorem mj_nm330 : mj_noMH mj_m330.1 := by unfold mj_noMH; decide +kernel
theorem mj_np330 : mj_np mj_m330.1 0 := by unfold mj_np; decide +kernel
theorem mj_cd330 : mj_cw mj_Tw mj_m330 := (mj_w9 45 rfl rfl)
theorem mj_M331 : mj_Mm 331 = mj_m331 ∧ 331 < 9000 := ⟨rfl, by decide⟩
theorem mj_nm331 : mj_noMH mj_m331.1 := by unfold mj_noMH; decide +kernel
theorem mj_np331 : mj_np mj_m331.1 1 := by unfold mj_np; decide +kernel
theorem mj_cd331 : mj_cw mj_Tw mj_m331 := (mj_w9 67 rfl rfl)
theorem mj_M332 : mj_Mm 332 = mj_m332 ∧ 332 < 9000 := ⟨rfl, by decide⟩
theorem mj_nm332 : mj_noMH mj_m332.1 := by unfold mj_noMH; decide +kernel
theorem mj_np332 : mj_np mj_m332.1 1 := by unfold mj_np; decide +kernel
theorem mj_cd332 : mj_cw mj_Tw mj_m332 := (mj_w9 72 rfl rfl)
theorem mj_M333 : mj_Mm 333 = mj_m333 ∧ 333 < 9000 := ⟨rfl, by decide⟩
theorem mj_nm333 : mj_noMH mj_m333.1 := by unfold mj_noMH; decide +kernel
theorem mj_np333 : mj_np mj_m333.1 0 := by unfold mj_np; decide +kernel
theorem mj_cd333 : mj_cw mj_Tw mj_m333 := (mj_w9 77 rfl rfl)
theorem mj_M334 : mj_Mm 334 = mj_m334 ∧ 334 < 9000 := ⟨rfl, by decide⟩
theorem mj_nm334 : mj_noMH mj_m334.1 := by unfold mj_noMH; decide +kernel
theorem mj_np334 : mj_np mj_m334.1 1 := by unfold mj_np; decide +kernel
theorem mj_cd334 : mj_cw mj_Tw mj_m334 := (mj_w9 81 rfl rfl)
theorem mj_M335 : mj_Mm 335 = mj_m335 ∧ 335 < 9000 := ⟨rfl, by decide⟩
theorem mj_nm335 : mj_noMH mj_m335.1 := by unfold mj_noMH; decide +kernel
theorem mj_np335 : mj_np mj_m335.1 0 := by unfold mj_np; decide +kernel
theorem mj_cd335 : mj_cw mj_Tw mj_m335 := (mj_w9 85 rfl rfl)
theorem mj_M336 : mj_Mm 336 = mj_m336 ∧ 336 < 9000 := ⟨rfl, by decide⟩
theorem mj_nm336 : mj_noMH mj_m336.1 := by unfold mj_noMH; decide +kernel
theorem mj_np336 : mj_np mj_m336.1 2 := by unfold mj_np; decide +kernel
theorem mj_cd336 : mj_cw mj_Tw mj_m336 := (mj_w9 89 rfl rfl)
theorem mj_M337 : mj_Mm 337 = mj_m337 ∧ 337 < 9000 := ⟨rfl, by decide⟩
theorem mj_nm337 : mj_noMH mj_m337.1 := by unfold mj_noMH; decide +kernel
theorem mj_np337 : mj_np mj_m337.1 1 := by unfold mj_np; decide +kernel
theorem mj_cd337 : mj_cw mj_Tw mj_m337 := (mj_w9 99 rfl rfl)
theorem mj_M338 : mj_Mm 338 = mj_m338 ∧ 338 < 9000 := ⟨rfl, by decide⟩
theorem mj_nm338 : mj_noMH mj_m338.1 := by unfold mj_noMH; decide +kernel
theorem mj_np338 : mj_np mj_m338.1 3 := by unfold mj_np; decide +kernel
theorem mj_cd338 : mj_cw mj_Tw mj_m338 := (mj_w9 103 rfl rfl)
theorem mj_M339 : mj_Mm 339 = mj_m339 ∧ 339 < 9000 := ⟨rfl, by decide⟩
theorem mj_nm339 : mj_noMH mj_m339.1 := by unfold mj_noMH; decide +kernel
theorem mj_np339 : mj_np mj_m339.1 0 := by unfold mj_np; decide +kernel
theorem mj_cd339 : mj_cw mj_Tw mj_m339 := (mj_w9 107 rfl rfl)
theorem mj_M340 : mj_Mm 340 = mj_m340 ∧ 340 < 9000 := ⟨rfl, by decide⟩
theorem mj_nm340 : mj_noMH mj_m340.1 := by unfold mj_noMH; decide +kernel
theorem mj_np340 : mj_np mj_m340.1 1 := by unfold mj_np; decide +kernel
theorem mj_cd340 : mj_cw mj_Tw mj_m340 := (mj_w9 111 rfl rfl)
theorem mj_M341 : mj_Mm 341 = mj_m341 ∧ 341 < 9000 := ⟨rfl, by decide⟩
theorem mj_nm341 : mj_noMH mj_m341.1 := by unfold mj_noMH; decide +kernel
theorem mj_np341 : mj_np mj_m341.1 2 := by unfold mj_np; decide +kernel
theorem mj_cd341 : mj_cw mj_Tw mj_m341 := (mj_w9 115 rfl rfl)
theorem mj_M342 : mj_Mm 342 = mj_m342 ∧ 342 < 9000 := ⟨rfl, by decide⟩
theorem mj_nm342 : mj_noMH mj_m342.1 := by unfold mj_noMH; decide +kernel
theorem mj_np342 : mj_np mj_m342.1 3 := by unfold mj_np; decide +kernel
theorem mj_cd342 : mj_cw mj_Tw mj_m342 := (mj_w9 152 rfl rfl)
theorem mj_M343 : mj_Mm 343 = mj_m343 ∧ 343 < 9000 := ⟨rfl, by decide⟩
theorem mj_nm343 : mj_noMH mj_m343.1 := by unfold mj_noMH; decide +kernel
theorem mj_np343 : mj_np mj_m343.1 0 := by unfold mj_np; decide +kernel
theorem mj_cd343 : mj_cw mj_Tw mj_m343 := (mj_w9 161 rfl rfl)
theorem mj_M344 : mj_Mm 344 = mj_m344 ∧ 344 < 9000 := ⟨rfl, by decide⟩
theorem mj_nm344 : mj_noMH mj_m344.1 := by unfold mj_noMH; decide +kernel
theorem mj_np344 : mj_np mj_m344.1 0 := by unfold mj_np; decide +kernel
theorem mj_cd344 : mj_cwW mj_Tw mj_m344 := (mj_w9 165 rfl rfl)
theorem mj_M345 : mj_Mm 345 = mj_m345 ∧ 345 < 9000 := ⟨rfl, by decide⟩
theorem mj_nm345 : mj_noMH mj_m345.1 := by unfold mj_noMH; decide +kernel
theorem mj_np345 : mj_np mj_m345.1 0 := by unfold mj_np; decide +kernel
theorem mj_cd345 : mj_cw mj_Tw mj_m345 := (mj_w9 174 rfl rfl)
theorem mj_M346 : mj_Mm 346 = mj_m346 ∧ 346 < 9000 := ⟨rfl, by decide⟩
theorem mj_nm346 : mj_noMH mj_m346.1 := by unfold mj_noMH; decide +kernel
theorem mj_np346 : mj_np mj_m346.1 2 := by unfold mj_np; decide +kernel
theorem mj_cd346 : mj_cw mj_Tw mj_m346 := (mj_w9 179 rfl rfl)
theorem mj_M347 : mj_Mm 347 = mj_m347 ∧ 347 < 9000 := ⟨rfl, by decide⟩
theorem mj_nm347 : mj_noMH mj_m347.1 := by unfold mj_noMH; decide +kernel
theorem mj_np347 : mj_np mj_m347.1 1 := by unfold mj_np; decide +kernel
theorem mj_cd347 : mj_cw mj_Tw mj_m347 := (mj_w9 186 rfl rfl)
theorem mj_M348 : mj_Mm 348 = mj_m348 ∧ 348 < 9000 := ⟨rfl, by decide⟩
theorem mj_nm348 : mj_noMH mj_m348.1 := by unfold mj_noMH; decide +kernel
theorem mj_np348 : mj_np mj_m348.1 0 := by unfold mj_np; decide +kernel
theorem mj_cd348 : mj_cw mj_Tw mj_m348 := (mj_w9 195 rfl rfl)
theorem mj_M349 : mj_Mm 349 = mj_m349 ∧ 349 < 9000 := ⟨rfl, by decide⟩
theorem mj_nm349 : mj_noMH mj_m349.1 := by unfold mj_noMH; decide +kernel
theorem mj_np349 : mj_np mj_m349.1 1 := by unfold mj_np; decide +kernel
theorem mj_cd349 : mj_cw mj_Tw mj_m349 := (mj_w9 200 rfl rfl)
theorem mj_M350 : mj_Mm 350 = mj_m350 ∧ 350 < 9000 := ⟨rfl, by decide⟩
theorem mj_nm350 : mj_noMH mj_m350.1 := by unfold mj_noMH; decide +kernel
theorem mj_np350 : mj_np mj_m350.1 0 := by unfold mj_np; decide +kernel
theorem mj_cd350 : mj_cw mj_Tw mj_m350 := (mj_w9 224 rfl rfl)
theorem mj_M351 : mj_Mm 351 = mj_m351 ∧ 351 < 9000 := ⟨rfl, by decide⟩
theorem mj_nm351 : mj_noMH mj_m351.1 := by unfold mj_noMH; decide +kernel
theorem mj_np351 : mj_np mj_m351.1 0 := by unfold mj_np; decide +kernel
theorem mj_cd351 : mj_cw mj_Tw mj_m351 := (mj_w9 233 rfl rfl)
theorem mj_M352 : mj_Mm 352 = mj_m352 ∧ 352 < 9000 := ⟨rfl, by decide⟩
theorem mj_nm352 : mj_noMH mj_m352.1 := by unfold mj_noMH; decide +kernel
theorem mj_np352 : mj_np mj_m352.1 0 := by unfold mj_np; decide +kernel
theorem mj_cd352 : mj_cw mj_Tw mj_m352 := (mj_w9 237 rfl rfl)
theorem mj_M353 : mj_Mm 353 = mj_m353 ∧ 353 < 9000 := ⟨rfl, by decide⟩
theorem mj_nm353 : mj_noMH mj_m353.1 := by unfold mj_noMH; decide +kernel
theorem mj_np353 : mj_np mj_m353.1 0 := by unfold mj_np; decide +kernel
theorem mj_cd353 : mj_cw mj_Tw mj_m353 := (mj_w10 1 rfl rfl)
theorem mj_M354 : mj_Mm 354 = mj_m354 ∧ 354 < 9000 := ⟨rfl, by decide⟩
theorem mj_nm354 : mj_noMH mj_m354.1 := by unfold mj_noMH; decide +kernel
theorem mj_np354 : mj_np mj_m354.1 0 := by unfold mj_np; decide +kernel
theorem mj_cd354 : mj_cw mj_Tw mj_m354 := (mj_w10 4 rfl rfl)
theorem mj_M355 : mj_Mm 355 = mj_m355 ∧ 355 < 9000 := ⟨rfl, by decide⟩
theorem mj_nm355 : mj_noMH mj_m355.1 := by unfold mj_noMH; decide +kernel
theorem mj_np355 : mj_np mj_m355.1 2 := by unfold mj_np; decide +kernel
theorem mj_cd355 : mj_cw mj_Tw mj_m355 := (mj_w10 11 rfl rfl)
theorem mj_M356 : mj_Mm 356 = mj_m356 ∧ 356 < 9000 := ⟨rfl, by decide⟩
theorem mj_nm356 : mj_noMH mj_m356.1 := by unfold mj_noMH; decide +kernel
theorem mj_np356 : mj_np mj_m356.1 1 := by unfold mj_np; decide +kernel
theorem mj_cd356 : mj_cw mj_Tw mj_m356 := (mj_w10 60 rfl rfl)
theorem mj_M357 : mj_Mm 357 = mj_m357 ∧ 357 < 9000 := ⟨rfl, by decide⟩
theorem mj_nm357 : mj_noMH mj_m357.1 := by unfold mj_noMH; decide +kernel
theorem mj_np357 : mj_np mj_m357.1 1 := by unfold mj_np; decide +kernel
theorem mj_cd357 : mj_cw mj_Tw mj_m357 := (mj_w10 64 rfl rfl)
theorem mj_M358 : mj_Mm 358 = mj_m358 ∧ 358 < 9000 := ⟨rfl, by decide⟩
theorem mj_nm358 : mj_noMH mj_m358.1 := by unfold mj_noMH; decide +kernel
theorem mj_np358 : mj_np mj_m358.1 1 := by unfold mj_np; decide +kernel
theorem mj_cd358 : mj_cw mj_Tw mj_m358 := (mj_w10 74 rfl rfl)
theorem mj_M359 : mj_Mm 359 = mj_m359 ∧ 359 < 9000 := ⟨rfl, by decide⟩
theorem mj_nm359 : mj_noMH mj_m359.1 := by unfold mj_noMH; decide +kernel
theorem mj_np359 : mj_np mj_m359.1 2 := by unfold mj_np; decide +kernel
theorem mj_cd359 : mj_cw mj_Tw mj_m359 := (mj_w10 77 rfl rfl)
theorem mj_M360 : mj_Mm 360 = mj_m360 ∧ 360 < 9000 := ⟨rfl, by decide⟩
theorem mj_nm360 : mj_noMH mj_m360.1 := by unfold mj_noMH; decide +kernel
theorem mj_np360 : mj_np mj_m360.1 1 := by unfold mj_np; decide +kernel
theorem mj_cd360 : mj_cw mj_Tw mj_m360 := (mj_w10 82 rfl rfl)
theorem mj_M361 : mj_Mm 361 = mj_m361 ∧ 361 < 9000 := ⟨rfl, by decide⟩
theorem mj_nm361 : mj_noMH mj_m361.1 := by unfold mj_noMH; decide +kernel
theorem mj_np361 : mj_np mj_m361.1 1 := by unfold mj_np; decide +kernel
theorem mj_cd361 : mj_cw mj_Tw mj_m361 := (mj_w10 85 rfl rfl)
theorem mj_M362 : mj_Mm 362 = mj_m362 ∧ 362 < 9000 := ⟨rfl, by decide⟩
theorem mj_nm362 : mj_noMH mj_m362.1 := by unfold mj_noMH; decide +kernel
theorem mj_np362 : mj_np mj_m362.1 0 := by unfold mj_np; decide +kernel
theorem mj_cd362 : mj_cw mj_Tw mj_m362 := (mj_w10 96 rfl rfl)
theorem mj_M363 : mj_Mm 363 = mj_m363 ∧ 363 < 9000 := ⟨rfl, by decide⟩
theorem mj_nm363 : mj_noMH mj_m363.1 := by unfold mj_noMH; decide +kernel
theorem mj_np363 : mj_np mj_m363.1 1 := by unfold mj_np; decide +kernel
theorem mj_cd363 : mj_cw mj_Tw mj_m363 := (mj_w10 106 rfl rfl)
theorem mj_M364 : mj_Mm 364 = mj_m364 ∧ 364 < 9000 := ⟨rfl, by decide⟩
theorem mj_nm364 : mj_noMH mj_m364.1 := by unfold mj_noMH; decide +kernel
theorem mj_np364 : mj_np mj_m364.1 0 := by unfold mj_np; decide +kernel
theorem mj_cd364 : mj_cw mj_Tw mj_m364 := (mj_w10 117 rfl rfl)
theorem mj_M365 : mj_Mm 365 = mj_m365 ∧ 365 < 9000 := ⟨rfl, by decide⟩
theorem mj_nm365 : mj_noMH mj_m365.1 := by unfold mj_noMH; decide +kernel
theorem mj_np365 : mj_np mj_m365.1 0 := by unfold mj_np; decide +kernel
theorem mj_cd365 : mj_cw mj_Tw mj_m365 := (mj_w10 122 rfl rfl)
theorem mj_M366 : mj_Mm 366 = mj_m366 ∧ 366 < 9000 := ⟨rfl, by decide⟩
theorem mj_nm366 : mj_noMH mj_m366.1 := by unfold mj_noMH; decide +kernel
theorem mj_np366 : mj_np mj_m366.1 0 := by unfold mj_np; decide +kernel
theorem mj_cd366 : mj_cw mj_Tw mj_m366 := (mj_w10 130 rfl rfl)
theorem mj_M367 : mj_Mm 367 = mj_m367 ∧ 367 < 9000 := ⟨rfl, by decide⟩
theorem mj_nm367 : mj_noMH mj_m367.1 := by unfold mj_noMH; decide +kernel
theorem mj_np367 : mj_np mj_m367.1 1 := by unfold mj_np; decide +kernel
theorem mj_cd367 : mj_cw mj_Tw mj_m367 := (mj_w10 134 rfl rfl)
theorem mj_M368 : mj_Mm 368 = mj_m368 ∧ 368 < 9000 := ⟨rfl, by decide⟩
theorem mj_nm368 : mj_noMH mj_m368.1 := by unfold mj_noMH; decide +kernel
theorem mj_np368 : mj_np mj_m368.1 1 := by unfold mj_np; decide +kernel
theorem mj_cd368 : mj_cw mj_Tw mj_m368 := (mj_w10 155 rfl rfl)
theorem mj_M369 : mj_Mm 369 = mj_m369 ∧ 369 < 9000 := ⟨rfl, by decide⟩
theorem mj_nm369 : mj_noMH mj_m369.1 := by unfold mj_noMH; decide +kernel
theorem mj_np369 : mj_np mj_m369.1 2 := by unfold mj_np; decide +kernel
theorem mj_cd369 : mj_cw mj_Tw mj_m369 := (mj_w10 159 rfl rfl)
theorem mj_M370 : mj_Mm 370 = mj_m370 ∧ 370 < 9000 := ⟨rfl, by decide⟩
theorem mj_nm370 : mj_noMH mj_m370.1 := by unfold mj_noMH; decide +kernel
theorem mj_np370 : mj_np mj_m370.1 1 := by unfold mj_np; decide +kernel
theorem mj_cd370 : mj_cw mj_Tw mj_m370 := (mj_w10 164 rfl rfl)
theorem mj_M371 : mj_Mm 371 = mj_m371 ∧ 371 < 9000 := ⟨rfl, by decide⟩
theorem mj_nm371 : mj_noMH mj_m371.1 := by unfold mj_noMH; decide +kernel
theorem mj_np371 : mj_np mj_m371.1 2 := by unfold mj_np; decide +kernel
theorem mj_cd371 : mj_cw mj_Tw mj_m371 := (mj_w10 168 rfl rfl)
theorem mj_M372 : mj_Mm 372 = mj_m372 ∧ 372 < 9000 := ⟨rfl, by decide⟩
theorem mj_nm372 : mj_noMH mj_m372.1 := by unfold mj_noMH; decide +kernel
theorem mj_np372 : mj_np mj_m372.1 2 := by unfold mj_np; decide +kernel
theorem mj_cd372 : mj_cw mj_Tw mj_m372 := (mj_w10 173 rfl rfl)
theorem mj_M373 : mj_Mm 373 = mj_m373 ∧ 373 < 9000 := ⟨rfl, by decide⟩
theorem mj_nm373 : mj_noMH mj_m373.1 := by unfold mj_noMH; decide +kernel
theorem mj_np373 : mj_np mj_m373.1 1 := by unfold mj_np; decide +kernel
theorem mj_cd373 : mj_cw mj_Tw mj_m373 := (mj_w10 176 rfl rfl)
theorem mj_M374 : mj_Mm 374 = mj_m374 ∧ 374 < 9000 := ⟨rfl, by decide⟩
theorem mj_nm374 : mj_noMH mj_m374.1 := by unfold mj_noMH; decide +kernel
theorem mj_np374 : mj_np mj_m374.1 1 := by unfold mj_np; decide +kernel
theorem mj_cd374 : mj_cw mj_Tw mj_m374 := (mj_w10 180 rfl rfl)
theorem mj_M375 : mj_Mm 375 = mj_m375 ∧ 375 < 9000 := ⟨rfl, by decide⟩
theorem mj_nm375 : mj_noMH mj_m375.1 := by unfold mj_noMH; decide +kernel
theorem mj_np375 : mj_np mj_m375.1 0 := by unfold mj_np; decide +kernel
theorem mj_cd375 : mj_cw mj_Tw mj_m375 := (mj_w10 184 rfl rfl)
theorem mj_M376 : mj_Mm 376 = mj_m376 ∧ 376 < 9000 := ⟨rfl, by decide⟩
theorem mj_nm376 : mj_noMH mj_m376.1 := by unfold mj_noMH; decide +kernel
theorem mj_np376 : mj_np mj_m376.1 1 := by unfold mj_np; decide +kernel
theorem mj_cd376 : mj_cw mj_Tw mj_m376 := (mj_w10 188 rfl rfl)
theorem mj_M377 : mj_Mm 377 = mj_m377 ∧ 377 < 9000 := ⟨rfl, by decide⟩
theorem mj_nm377 : mj_noMH mj_m377.1 := by unfold mj_noMH; decide +kernel
theorem mj_np377 : mj_np mj_m377.1 2 := by unfold mj_np; decide +kernel
theorem mj_cd377 : mj_cw mj_Tw mj_m377 := (mj_w10 192 rfl rfl)
theorem mj_M378 : mj_Mm 378 = mj_m378 ∧ 378 < 9000 := ⟨rfl, by decide⟩
theorem mj_nm378 : mj_noMH mj_m378.1 := by unfold mj_noMH; decide +kernel
theorem mj_np378 : mj_np mj_m378.1 2 := by unfold mj_np; decide +kernel
theorem mj_cd378 : mj_cw mj_Tw mj_m378 := (mj_w10 196 rfl rfl)
theorem mj_M379 : mj_Mm 379 = mj_m379 ∧ 379 < 9000 := ⟨rfl, by decide⟩
theorem mj_nm379 : mj_noMH mj_m379.1 := by unfold mj_noMH; decide +kernel
theorem mj_np379 : mj_np mj_m379.1 2 := by unfold mj_np; decide +kernel
theorem mj_cd379 : mj_cw mj_Tw mj_m379 := (mj_w10 205 rfl rfl)
theorem mj_M380 : mj_Mm 380 = mj_m380 ∧ 380 < 9000 := ⟨rfl, by decide⟩
theorem mj_nm380 : mj_noMH mj_m380.1 := by unfold mj_noMH; decide +kernel
theorem mj_np380 : mj_np mj_m380.1 0 := by unfold mj_np; decide +kernel
theorem mj_cd380 : mj_cw mj_Tw mj_m380 := (mj_w10 209 rfl rfl)
theorem mj_M381 : mj_Mm 381 = mj_m381 ∧ 381 < 9000 := ⟨rfl, by decide⟩
theorem mj_nm381 : mj_noMH mj_m381.1 := by unfold mj_noMH; decide +kernel
theorem mj_np381 : mj_np mj_m381.1 0 := by unfold mj_np; decide +kernel
theorem mj_cd381 : mj_cw mj_Tw mj_m381 := (mj_w10 213 rfl rfl)
theorem mj_M382 : mj_Mm 382 = mj_m382 ∧ 382 < 9000 := ⟨rfl, by decide⟩
theorem mj_nm382 : mj_noMH mj_m382.1 := by unfold mj_noMH; decide +kernel
theorem mj_np382 : mj_np mj_m382.1 0 := by unfold mj_np; decide +kernel
theorem mj_cd382 : mj_cw mj_Tw mj_m382 := (mj_w10 217 rfl rfl)
theorem mj_M383 : mj_Mm 383 = mj_m383 ∧ 383 < 9000 := ⟨rfl, by decide⟩
theorem mj_nm383 : mj_noMH mj_m383.1 := by unfold mj_noMH; decide +kernel
theorem mj_np383 : mj_np mj_m383.1 0 := by unfold mj_np; decide +kernel
theorem mj_cd383 : mj_cw mj_Tw mj_m383 := (mj_w10 221 rfl rfl)
theorem mj_M384 : mj_Mm 384 = mj_m384 ∧ 384 < 9000 := ⟨rfl, by decide⟩
theorem mj_nm384 : mj_noMH mj_m384.1 := by unfold mj_noMH; decide +kernel
theorem mj_np384 : mj_np mj_m384.1 1 := by unfold mj_np; decide +kernel
theorem mj_cd384 : mj_cw mj_Tw mj_m384 := (mj_w10 225 rfl rfl)
theorem mj_M385 : mj_Mm 385 = mj_m385 ∧ 385 < 9000 := ⟨rfl, by decide⟩
theorem mj_nm385 : mj_noMH mj_m385.1 := by unfold mj_noMH; decide +kernel
theorem mj_np385 : mj_np mj_m385.1 0 := by unfold mj_np; decide +kernel
theorem mj_cd385 : mj_cw mj_Tw mj_m385 := (mj_w10 229 rfl rfl)
theorem mj_M386 : mj_Mm 386 = mj_m386 ∧ 386 < 9000 := ⟨rfl, by decide⟩
theorem mj_nm386 : mj_noMH mj_m386.1 := by unfold mj_noMH; decide +kernel
theorem mj_np386 : mj_np mj_m386.1 0 := by unfold mj_np; decide +kernel
theorem mj_cd386 : mj_cw mj_Tw mj_m386 := (mj_w10 233 rfl rfl)
theorem mj_M387 : mj_Mm 387 = mj_m387 ∧ 387 < 9000 := ⟨rfl, by decide⟩
theorem mj_nm387 : mj_noMH mj_m387.1 := by unfold mj_noMH; decide +kernel
theorem mj_np387 : mj_np mj_m387.1 3 := by unfold mj_np; decide +kernel
theorem mj_cd387 : mj_cw mj_Tw mj_m387 := (mj_w10 238 rfl rfl)
theorem mj_M388 : mj_Mm 388 = mj_m388 ∧ 388 < 9000 := ⟨rfl, by decide⟩
theorem mj_nm388 : mj_noMH mj_m388.1 := by unfold mj_noMH; decide +kernel
theorem mj_np388 : mj_np mj_m388.1 2 := by unfold mj_np; decide +kernel
theorem mj_cd388 : mj_cw mj_Tw mj_m388 := (mj_w11 2 rfl rfl)
theorem mj_M389 : mj_Mm 389 = mj_m389 ∧ 389 < 9000 := ⟨rfl, by decide⟩
theorem mj_nm389 : mj_noMH mj_m389.1 := by unfold mj_noMH; decide +kernel
theorem mj_np389 : mj_np mj_m389.1 3 := by unfold mj_np; decide +kernel
theorem mj_cd389 : mj_cw mj_Tw mj_m389 := (mj_w11 7 rfl rfl)
theorem mj_M390 : mj_Mm 390 = mj_m390 ∧ 390 < 9000 := ⟨rfl, by decide⟩
theorem mj_nm390 : mj_noMH mj_m390.1 := by unfold mj_noMH; decide +kernel
theorem mj_np390 : mj_np mj_m390.1 1 := by unfold mj_np; decide +kernel
theorem mj_cd390 : mj_cw mj_Tw mj_m390 := (mj_w11 11 rfl rfl)
theorem mj_M391 : mj_Mm 391 = mj_m391 ∧ 391 < 9000 := ⟨rfl, by decide⟩
theorem mj_nm391 : mj_noMH mj_m391.1 := by unfold mj_noMH; decide +kernel
theorem mj_np391 : mj_np mj_m391.1 1 := by unfold mj_np; decide +kernel
theorem mj_cd391 : mj_cw mj_Tw mj_m391 := (mj_w11 15 rfl rfl)
theorem mj_M392 : mj_Mm 392 = mj_m392 ∧ 392 < 9000 := ⟨rfl, by decide⟩
theorem mj_nm392 : mj_noMH mj_m392.1 := by unfold mj_noMH; decide +kernel
theorem mj_np392 : mj_np mj_m392.1 3 := by unfold mj_np; decide +kernel
theorem mj_cd392 : mj_cw mj_Tw mj_m392 := (mj_w11 19 rfl rfl)
theorem mj_M393 : mj_Mm 393 = mj_m393 ∧ 393 < 9000 := ⟨rfl, by decide⟩
theorem mj_nm393 : mj_noMH mj_m393.1 := by unfold mj_noMH; decide +kernel
theorem mj_np393 : mj_np mj_m393.1 2 := by unfold mj_np; decide +kernel
theorem mj_cd393 : mj_cw mj_Tw mj_m393 := (mj_w11 23 rfl rfl)
theorem mj_M394 : mj_Mm 394 = mj_m394 ∧ 394 < 9000 := ⟨rfl, by decide⟩
theorem mj_nm394 : mj_noMH mj_m394.1 := by unfold mj_noMH; decide +kernel
theorem mj_np394 : mj_np mj_m394.1 1 := by unfold mj_np; decide +kernel
theorem mj_cd394 : mj_cw mj_Tw mj_m394 := (mj_w11 27 rfl rfl)
theorem mj_M395 : mj_Mm 395 = mj_m395 ∧ 395 < 9000 := ⟨rfl, by decide⟩
theorem mj_nm395 : mj_noMH mj_m395.1 := by unfold mj_noMH; decide +kernel
theorem mj_np395 : mj_np mj_m395.1 1 := by unfold mj_np; decide +kernel
theorem mj_cd395 : mj_cw mj_Tw mj_m395 := (mj_w11 31 rfl rfl)
theorem mj_M396 : mj_Mm 396 = mj_m396 ∧ 396 < 9000 := ⟨rfl, by decide⟩
theorem mj_nm396 : mj_noMH mj_m396.1 := by unfold mj_noMH; decide +kernel
theorem mj_np396 : mj_np mj_m396.1 1 := by unfold mj_np; decide +kernel
theorem mj_cd396 : mj_cw mj_Tw mj_m396 := (mj_w11 35 rfl rfl)
theorem mj_M397 : mj_Mm 397 = mj_m397 ∧ 397 < 9000 := ⟨rfl, by decide⟩
theorem mj_nm397 : mj_noMH mj_m397.1 := by unfold mj_noMH; decide +kernel
theorem mj_np397 : mj_np mj_m397.1 0 := by unfold mj_np; decide +kernel
theorem mj_cd397 : mj_cw mj_Tw mj_m397 := (mj_w11 39 rfl rfl)
theorem mj_M398 : mj_Mm 398 = mj_m398 ∧ 398 < 9000 := ⟨rfl, by decide⟩
theorem mj_nm398 : mj_noMH mj_m398.1 := by unfold mj_noMH; decide +kernel
theorem mj_np398 : mj_np mj_m398.1 0 := by unfold mj_np; decide +kernel
theorem mj_cd398 : mj_cw mj_Tw mj_m398 := (mj_w11 44 rfl rfl)
theorem mj_M399 : mj_Mm 399 = mj_m399 ∧ 399 < 9000 := ⟨rfl, by decide⟩
theorem mj_nm399 : mj_noMH mj_m399.1 := by unfold mj_noMH; decide +kernel
theorem mj_np399 : mj_np mj_m399.1 0 := by unfold mj_np; decide +kernel
theorem mj_cd399 : mj_cw mj_Tw mj_m399 := (mj_w11 48 rfl rfl)
theorem mj_M400 : mj_Mm 400 = mj_m400 ∧ 400 < 9000 := ⟨rfl, by decide⟩
theorem mj_nm400 : mj_noMH mj_m400.1 := by unfold mj_noMH; decide +kernel
theorem mj_np400 : mj_np mj_m400.1 0 := by unfold mj_np; decide +kernel
theorem mj_cd400 : mj_cw mj_Tw mj_m400 := (mj_w11 52 rfl rfl)
theorem mj_M401 : mj_Mm 401 = mj_m401 ∧ 401 < 9000 := ⟨rfl, by decide⟩
theorem mj_nm401 : mj_noMH mj_m401.1 := by unfold mj_noMH; decide +kernel
theorem mj_np401 : mj_np mj_m401.1 0 := by unfold mj_np; decide +kernel
theorem mj_cd401 : mj_cw mj_Tw mj_m401 := (mj_w11 56 rfl rfl)
theorem mj_M402 : mj_Mm 402 = mj_m402 ∧ 402 < 9000 := ⟨rfl, by decide⟩
theorem mj_nm402 : mj_noMH mj_m402.1 := by unfold mj_noMH; decide +kernel
theorem mj_np402 : mj_np mj_m402.1 0 := by unfold mj_np; decide +kernel
theorem mj_cd402 : mj_cw mj_Tw mj_m402 := (mj_w11 60 rfl rfl)
theorem mj_M403 : mj_Mm 403 = mj_m403 ∧ 403 < 9000 := ⟨rfl, by decide⟩
theorem mj_nm403 : mj_noMH mj_m403.1 := by unfold mj_noMH; decide +kernel
theorem mj_np403 : mj_np mj_m403.1 1 := by unfold mj_np; decide +kernel
theorem mj_cd403 : mj_cw mj_Tw mj_m403 := (mj_w11 64 rfl rfl)
theorem mj_M404 : mj_Mm 404 = mj_m404 ∧ 404 < 9000 := ⟨rfl, by decide⟩
theorem mj_nm404 : mj_noMH mj_m404.1 := by unfold mj_noMH; decide +kernel
theorem mj_np404 : mj_np mj_m404.1 1 := by unfold mj_np; decide +kernel
theorem mj_cd404 : mj_cw mj_Tw mj_m404 := (mj_w11 68 rfl rfl)
theorem mj_M405 : mj_Mm 405 = mj_m405 ∧ 405 < 9000 := ⟨rfl, by decide⟩
theorem mj_nm405 : mj_noMH mj_m405.1 := by unfold mj_noMH; decide +kernel
theorem mj_np405 : mj_np mj_m405.1 1 := by unfold mj_np; decide +kernel
theorem mj_cd405 : mj_cw mj_Tw mj_m405 := (mj_w11 72 rfl rfl)
theorem mj_M406 : mj_Mm 406 = mj_m406 ∧ 406 < 9000 := ⟨rfl, by decide⟩
theorem mj_nm406 : mj_noMH mj_m406.1 := by unfold mj_noMH; decide +kernel
theorem mj_np406 : mj_np mj_m406.1 2 := by unfold mj_np; decide +kernel
theorem mj_cd406 : mj_cw mj_Tw mj_m406 := (mj_w11 76 rfl rfl)
theorem mj_M407 : mj_Mm 407 = mj_m407 ∧ 407 < 9000 := ⟨rfl, by decide⟩
theorem mj_nm407 : mj_noMH mj_m407.1 := by unfold mj_noMH; decide +kernel
theorem mj_np407 : mj_np mj_m407.1 0 := by unfold mj_np; decide +kernel
theorem mj_cd407 : mj_cw mj_Tw mj_m407 := (mj_w11 80 rfl rfl)
theorem mj_M408 : mj_Mm 408 = mj_m408 ∧ 408 < 9000 := ⟨rfl, by decide⟩
theorem mj_nm408 : mj_noMH mj_m408.1 := by unfold mj_noMH; decide +kernel
theorem mj_np408 : mj_np mj_m408.1 1 := by unfold mj_np; decide +kernel
theorem mj_cd408 : mj_cw mj_Tw mj_m408 := (mj_w11 86 rfl rfl)
theorem mj_M409 : mj_Mm 409 = mj_m409 ∧ 409 < 9000 := ⟨rfl, by decide⟩
theorem mj_nm409 : mj_noMH mj_m409.1 := by unfold mj_noMH; decide +kernel
theorem mj_np409 : mj_np mj_m409.1 3 := by unfold mj_np; decide +kernel
theorem mj_cd409 : mj_cw mj_Tw mj_m409 := (mj_w11 91 rfl rfl)
theorem mj_M410 : mj_Mm 410 = mj_m410 ∧ 410 < 9000 := ⟨rfl, by decide⟩
theorem mj_nm410 : mj_noMH mj_m410.1 := by unfold mj_noMH; decide +kernel
theorem mj_np410 : mj_np mj_m410.1 1 := by unfold mj_np; decide +kernel
theorem mj_cd410 : mj_cw mj_Tw mj_m410 := (mj_w11 96 rfl rfl)
theorem mj_M411 : mj_Mm 411 = mj_m411 ∧ 411 < 9000 := ⟨rfl, by decide⟩
theorem mj_nm411 : mj_noMH mj_m411.1 := by unfold mj_noMH; decide +kernel
theorem mj_np411 : mj_np mj_m411.1 0 := by unfold mj_np; decide +kernel
theorem mj_cd411 : mj_cw mj_Tw mj_m411 := (mj_w11 101 rfl rfl)
theorem mj_M412 : mj_Mm 412 = mj_m412 ∧ 412 < 9000 := ⟨rfl, by decide⟩
theorem mj_nm412 : mj_noMH mj_m412.1 := by unfold mj_noMH; decide +kernel
theorem mj_np412 : mj_np mj_m412.1 3 := by unfold mj_np; decide +kernel
theorem mj_cd412 : mj_cw mj_Tw mj_m412 := (mj_w11 105 rfl rfl)
theorem mj_M413 : mj_Mm 413 = mj_m413 ∧ 413 < 9000 := ⟨rfl, by decide⟩
theorem mj_nm413 : mj_noMH mj_m413.1 := by unfold mj_noMH; decide +kernel
theorem mj_np413 : mj_np mj_m413.1 2 := by unfold mj_np; decide +kernel
theorem mj_cd413 : mj_cw mj_Tw mj_m413 := (mj_w11 109 rfl rfl)
theorem mj_M414 : mj_Mm 414 = mj_m414 ∧ 414 < 9000 := ⟨rfl, by decide⟩
theorem mj_nm414 : mj_noMH mj_m414.1 := by unfold mj_noMH; decide +kernel
theorem mj_np414 : mj_np mj_m414.1 3 := by unfold mj_np; decide +kernel
theorem mj_cd414 : mj_cw mj_Tw mj_m414 := (mj_w11 113 rfl rfl)
theorem mj_M415 : mj_Mm 415 = mj_m415 ∧ 415 < 9000 := ⟨rfl, by decide⟩
theorem mj_nm415 : mj_noMH mj_m415.1 := by unfold mj_noMH; decide +kernel
theorem mj_np415 : mj_np mj_m415.1 2 := by unfold mj_np; decide +kernel
theorem mj_cd415 : mj_cw mj_Tw mj_m415 := (mj_w11 119 rfl rfl)
theorem mj_M416 : mj_Mm 416 = mj_m416 ∧ 416 < 9000 := ⟨rfl, by decide⟩
theorem mj_nm416 : mj_noMH mj_m416.1 := by unfold mj_noMH; decide +kernel
theorem mj_np416 : mj_np mj_m416.1 2 := by unfold mj_np; decide +kernel
theorem mj_cd416 : mj_cw mj_Tw mj_m416 := (mj_w11 123 rfl rfl)
theorem mj_M417 : mj_Mm 417 = mj_m417 ∧ 417 < 9000 := ⟨rfl, by decide⟩
theorem mj_nm417 : mj_noMH mj_m417.1 := by unfold mj_noMH; decide +kernel
theorem mj_np417 : mj_np mj_m417.1 1 := by unfold mj_np; decide +kernel
theorem mj_cd417 : mj_cw mj_Tw mj_m417 := (mj_w11 126 rfl rfl)
theorem mj_M418 : mj_Mm 418 = mj_m418 ∧ 418 < 9000 := ⟨rfl, by decide⟩
theorem mj_nm418 : mj_noMH mj_m418.1 := by unfold mj_noMH; decide +kernel
theorem mj_np418 : mj_np mj_m418.1 1 := by unfold mj_np; decide +kernel
theorem mj_cd418 : mj_cw mj_Tw mj_m418 := (mj_w11 135 rfl rfl)
theorem mj_M419 : mj_Mm 419 = mj_m419 ∧ 419 < 9000 := ⟨rfl, by decide⟩
theorem mj_nm419 : mj_noMH mj_m419.1 := by unfold mj_noMH; decide +kernel
theorem mj_np419 : mj_np mj_m419.1 0 := by unfold mj_np; decide +kernel
theorem mj_cd419 : mj_cw mj_Tw mj_m419 := (mj_w11 138 rfl rfl)
theorem mj_M420 : mj_Mm 420 = mj_m420 ∧ 420 < 9000 := ⟨rfl, by decide⟩
theorem mj_nm420 : mj_noMH mj_m420.1 := by unfold mj_noMH; decide +kernel
theorem mj_np420 : mj_np mj_m420.1 0 := by unfold mj_np; decide +kernel
theorem mj_cd420 : mj_cw mj_Tw mj_m420 := (mj_w11 147 rfl rfl)
theorem mj_M421 : mj_Mm 421 = mj_m421 ∧ 421 < 9000 := ⟨rfl, by decide⟩
theorem mj_nm421 : mj_noMH mj_m421.1 := by unfold mj_noMH; decide +kernel
theorem mj_np421 : mj_np mj_m421.1 0 := by unfold mj_np; decide +kernel
theorem mj_cd421 : mj_cw mj_Tw mj_m421 := (mj_w11 156 rfl rfl)
theorem mj_M422 : mj_Mm 422 = mj_m422 ∧ 422 < 9000 := ⟨rfl, by decide⟩
theorem mj_nm422 : mj_noMH mj_m422.1 := by unfold mj_noMH; decide +kernel
theorem mj_np422 : mj_np mj_m422.1 1 := by unfold mj_np; decide +kernel
theorem mj_cd422 : mj_cw mj_Tw mj_m422 := (mj_w11 165 rfl rfl)
theorem mj_M423 : mj_Mm 423 = mj_m423 ∧ 423 < 9000 := ⟨rfl, by decide⟩
theorem mj_nm423 : mj_noMH mj_m423.1 := by unfold mj_noMH; decide +kernel
theorem mj_np423 : mj_np mj_m423.1 2 := by unfold mj_np; decide +kernel
theorem mj_cd423 : mj_cw mj_Tw mj_m423 := (mj_w11 169 rfl rfl)
theorem mj_M424 : mj_Mm 424 = mj_m424 ∧ 424 < 9000 := ⟨rfl, by decide⟩
theorem mj_nm424 : mj_noMH mj_m424.1 := by unfold mj_noMH; decide +kernel
theorem mj_np424 : mj_np mj_m424.1 0 := by unfold mj_np; decide +kernel
theorem mj_cd424 : mj_cw mj_Tw mj_m424 := (mj_w11 175 rfl rfl)
theorem mj_M425 : mj_Mm 425 = mj_m425 ∧ 425 < 9000 := ⟨rfl, by decide⟩
theorem mj_nm425 : mj_noMH mj_m425.1 := by unfold mj_noMH; decide +kernel
theorem mj_np425 : mj_np mj_m425.1 0 := by unfold mj_np; decide +kernel
theorem mj_cd425 : mj_cw mj_Tw mj_m425 := (mj_w11 179 rfl rfl)
theorem mj_M426 : mj_Mm 426 = mj_m426 ∧ 426 < 9000 := ⟨rfl, by decide⟩
theorem mj_nm426 : mj_noMH mj_m426.1 := by unfold mj_noMH; decide +kernel
theorem mj_np426 : mj_np mj_m426.1 1 := by unfold mj_np; decide +kernel
theorem mj_cd426 : mj_cw mj_Tw mj_m426 := (mj_w11 183 rfl rfl)
theorem mj_M427 : mj_Mm 427 = mj_m427 ∧ 427 < 9000 := ⟨rfl, by decide⟩
theorem mj_nm427 : mj_noMH mj_m427.1 := by unfold mj_noMH; decide +kernel
theorem mj_np427 : mj_np mj_m427.1 1 := by unfold mj_np; decide +kernel
theorem mj_cd427 : mj_cw mj_Tw mj_m427 := (mj_w11 187 rfl rfl)
theorem mj_M428 : mj_Mm 428 = mj_m428 ∧ 428 < 9000 := ⟨rfl, by decide⟩
theorem mj_nm428 : mj_noMH mj_m428.1 := by unfold mj_noMH; decide +kernel
theorem mj_np428 : mj_np mj_m428.1 2 := by unfold mj_np; decide +kernel
theorem mj_cd428 : mj_cw mj_Tw mj_m428 := (mj_w11 190 rfl rfl)
theorem mj_M429 : mj_Mm 429 = mj_m429 ∧ 429 < 9000 := ⟨rfl, by decide⟩
theorem mj_nm429 : mj_noMH mj_m429.1 := by unfold mj_noMH; decide +kernel
theorem mj_np429 : mj_np mj_m429.1 1 := by unfold mj_np; decide +kernel
theorem mj_cd429 : mj_cw mj_Tw mj_m429 := (mj_w11 194 rfl rfl)
theorem mj_M430 : mj_Mm 430 = mj_m430 ∧ 430 < 9000 := ⟨rfl, by decide⟩
theorem mj_nm430 : mj_noMH mj_m430.1 := by unfold mj_noMH; decide +kernel
theorem mj_np430 : mj_np mj_m430.1 0 := by unfold mj_np; decide +kernel
theorem mj_cd430 : mj_cw mj_Tw mj_m430 := (mj_w11 198 rfl rfl)
theorem mj_M431 : mj_Mm 431 = mj_m431 ∧ 431 < 9000 := ⟨rfl, by decide⟩
theorem mj_nm431 : mj_noMH mj_m431.1 := by unfold mj_noMH; decide +kernel
theorem mj_np431 : mj_np mj_m431.1 2 := by unfold mj_np; decide +kernel
theorem mj_cd431 : mj_cw mj_Tw mj_m431 := (mj_w11 207 rfl rfl)
theorem mj_M432 : mj_Mm 432 = mj_m432 ∧ 432 < 9000 := ⟨rfl, by decide⟩
theorem mj_nm432 : mj_noMH mj_m432.1 := by unfold mj_noMH; decide +kernel
theorem mj_np432 : mj_np mj_m432.1 1 := by unfold mj_np; decide +kernel
theorem mj_cd432 : mj_cw mj_Tw mj_m432 := (mj_w11 211 rfl rfl)
theorem mj_M433 : mj_Mm 433 = mj_m433 ∧ 433 < 9000 := ⟨rfl, by decide⟩
theorem mj_nm433 : mj_noMH mj_m433.1 := by unfold mj_noMH; decide +kernel
theorem mj_np433 : mj_np mj_m433.1 1 := by unfold mj_np; decide +kernel
theorem mj_cd433 : mj_cw mj_Tw mj_m433 := (mj_w11 216 rfl rfl)
theorem mj_M434 : mj_Mm 434 = mj_m434 ∧ 434 < 9000 := ⟨rfl, by decide⟩
theorem mj_nm434 : mj_noMH mj_m434.1 := by unfold mj_noMH; decide +kernel
theorem mj_np434 : mj_np mj_m434.1 0 := by unfold mj_np; decide +kernel
theorem mj_cd434 : mj_cw mj_Tw mj_m434 := (mj_w11 233 rfl rfl)
theorem mj_M435 : mj_Mm 435 = mj_m435 ∧ 435 < 9000 := ⟨rfl, by decide⟩
theorem mj_nm435 : mj_noMH mj_m435.1 := by unfold mj_noMH; decide +kernel
theorem mj_np435 : mj_np mj_m435.1 1 := by unfold mj_np; decide +kernel
theorem mj_cd435 : mj_cw mj_Tw mj_m435 := (mj_w12 2 rfl rfl)
theorem mj_M436 : mj_Mm 436 = mj_m436 ∧ 436 < 9000 := ⟨rfl, by decide⟩
theorem mj_nm436 : mj_noMH mj_m436.1 := by unfold mj_noMH; decide +kernel
theorem mj_np436 : mj_np mj_m436.1 0 := by unfold mj_np; decide +kernel
theorem mj_cd436 : mj_cw mj_Tw mj_m436 := (mj_w12 12 rfl rfl)
theorem mj_M437 : mj_Mm 437 = mj_m437 ∧ 437 < 9000 := ⟨rfl, by decide⟩
theorem mj_nm437 : mj_noMH mj_m437.1 := by unfold mj_noMH; decide +kernel
theorem mj_np437 : mj_np mj_m437.1 0 := by unfold mj_np; decide +kernel
theorem mj_cd437 : mj_cw mj_Tw mj_m437 := (mj_w12 16 rfl rfl)
theorem mj_M438 : mj_Mm 438 = mj_m438 ∧ 438 < 9000 := ⟨rfl, by decide⟩
theorem mj_nm438 : mj_noMH mj_m438.1 := by unfold mj_noMH; decide +kernel
theorem mj_np438 : mj_np mj_m438.1 1 := by unfold mj_np; decide +kernel
theorem mj_cd438 : mj_cw mj_Tw mj_m438 := (mj_w12 20 rfl rfl)
theorem mj_M439 : mj_Mm 439 = mj_m439 ∧ 439 < 9000 := ⟨rfl, by decide⟩
theorem mj_nm439 : mj_noMH mj_m439.1 := by unfold mj_noMH; decide +kernel
theorem mj_np439 : mj_np mj_m439.1 2 := by unfold mj_np; decide +kernel
theorem mj_cd439 : mj_cw mj_Tw mj_m439 := (mj_w12 23 rfl rfl)
theorem mj_M440 : mj_Mm 440 = mj_m440 ∧ 440 < 9000 := ⟨rfl, by decide⟩
theorem mj_nm440 : mj_noMH mj_m440.1 := by unfold mj_noMH; decide +kernel
theorem mj_np440 : mj_np mj_m440.1 0 := by unfold mj_np; decide +kernel
theorem mj_cd440 : mj_cw mj_Tw mj_m440 := (mj_w12 27 rfl rfl)
theorem mj_M441 : mj_Mm 441 = mj_m441 ∧ 441 < 9000 := ⟨rfl, by decide⟩
theorem mj_nm441 : mj_noMH mj_m441.1 := by unfold mj_noMH; decide +kernel
theorem mj_np441 : mj_np mj_m441.1 0 := by unfold mj_np; decide +kernel
theorem mj_cd441 : mj_cw mj_Tw mj_m441 := (mj_w12 31 rfl rfl)
theorem mj_M442 : mj_Mm 442 = mj_m442 ∧ 442 < 9000 := ⟨rfl, by decide⟩
theorem mj_nm442 : mj_noMH mj_m442.1 := by unfold mj_noMH; decide +kernel
theorem mj_np442 : mj_np mj_m442.1 1 := by unfold mj_np; decide +kernel
theorem mj_cd442 : mj_cw mj_Tw mj_m442 := (mj_w12 34 rfl rfl)
theorem mj_M443 : mj_Mm 443 = mj_m443 ∧ 443 < 9000 := ⟨rfl, by decide⟩
theorem mj_nm443 : mj_noMH mj_m443.1 := by unfold mj_noMH; decide +kernel
theorem mj_np443 : mj_np mj_m443.1 1 := by unfold mj_np; decide +kernel
theorem mj_cd443 : mj_cw mj_Tw mj_m443 := (mj_w12 39 rfl rfl)
theorem mj_M444 : mj_Mm 444 = mj_m444 ∧ 444 < 9000 := ⟨rfl, by decide⟩
theorem mj_nm444 : mj_noMH mj_m444.1 := by unfold mj_noMH; decide +kernel
theorem mj_np444 : mj_np mj_m444.1 0 := by unfold mj_np; decide +kernel
theorem mj_cd444 : mj_cw mj_Tw mj_m444 := (mj_w12 43 rfl rfl)
theorem mj_M445 : mj_Mm 445 = mj_m445 ∧ 445 < 9000 := ⟨rfl, by decide⟩
theorem mj_nm445 : mj_noMH mj_m445.1 := by unfold mj_noMH; decide +kernel
theorem mj_np445 : mj_np mj_m445.1 0 := by unfold mj_np; decide +kernel
theorem mj_cd445 : mj_cw mj_Tw mj_m445 := (mj_w12 47 rfl rfl)
theorem mj_M446 : mj_Mm 446 = mj_m446 ∧ 446 < 9000 := ⟨rfl, by decide⟩
theorem mj_nm446 : mj_noMH mj_m446.1 := by unfold mj_noMH; decide +kernel
theorem mj_np446 : mj_np mj_m446.1 2 := by unfold mj_np; decide +kernel
theorem mj_cd446 : mj_cw mj_Tw mj_m446 := (mj_w12 51 rfl rfl)
theorem mj_M447 : mj_Mm 447 = mj_m447 ∧ 447 < 9000 := ⟨rfl, by decide⟩
theorem mj_nm447 : mj_noMH mj_m447.1 := by unfold mj_noMH; decide +kernel
theorem mj_np447 : mj_np mj_m447.1 1 := by unfold mj_np; decide +kernel
theorem mj_cd447 : mj_cw mj_Tw mj_m447 := (mj_w12 54 rfl rfl)
theorem mj_M448 : mj_Mm 448 = mj_m448 ∧ 448 < 9000 := ⟨rfl, by decide⟩
theorem mj_nm448 : mj_noMH mj_m448.1 := by unfold mj_noMH; decide +kernel
theorem mj_np448 : mj_np mj_m448.1 2 := by unfold mj_np; decide +kernel
theorem mj_cd448 : mj_cw mj_Tw mj_m448 := (mj_w12 57 rfl rfl)
theorem mj_M449 : mj_Mm 449 = mj_m449 ∧ 449 < 9000 := ⟨rfl, by decide⟩
theorem mj_nm449 : mj_noMH mj_m449.1 := by unfold mj_noMH; decide +kernel
theorem mj_np449 : mj_np mj_m449.1 2 := by unfold mj_np; decide +kernel
theorem mj_cd449 : mj_cw mj_Tw mj_m449 := (mj_w12 61 rfl rfl)
theorem mj_M450 : mj_Mm 450 = mj_m450 ∧ 450 < 9000 := ⟨rfl, by decide⟩
theorem mj_nm450 : mj_noMH mj_m450.1 := by unfold mj_noMH; decide +kernel
theorem mj_np450 : mj_np mj_m450.1 0 := by unfold mj_np; decide +kernel
theorem mj_cd450 : mj_cw mj_Tw mj_m450 := (mj_w12 65 rfl rfl)
theorem mj_M451 : mj_Mm 451 = mj_m451 ∧ 451 < 9000 := ⟨rfl, by decide⟩
theorem mj_nm451 : mj_noMH mj_m451.1 := by unfold mj_noMH; decide +kernel
theorem mj_np451 : mj_np mj_m451.1 1 := by unfold mj_np; decide +kernel
theorem mj_cd451 : mj_cw mj_Tw mj_m451 := (mj_w12 69 rfl rfl)
theorem mj_M452 : mj_Mm 452 = mj_m452 ∧ 452 < 9000 := ⟨rfl, by decide⟩
theorem mj_nm452 : mj_noMH mj_m452.1 := by unfold mj_noMH; decide +kernel
theorem mj_np452 : mj_np mj_m452.1 0 := by unfold mj_np; decide +kernel
theorem mj_cd452 : mj_cw mj_Tw mj_m452 := (mj_w12 73 rfl rfl)
theorem mj_M453 : mj_Mm 453 = mj_m453 ∧ 453 < 9000 := ⟨rfl, by decide⟩
theorem mj_nm453 : mj_noMH mj_m453.1 := by unfold mj_noMH; decide +kernel
theorem mj_np453 : mj_np mj_m453.1 1 := by unfold mj_np; decide +kernel
theorem mj_cd453 : mj_cw mj_Tw mj_m453 := (mj_w12 77 rfl rfl)
theorem mj_M454 : mj_Mm 454 = mj_m454 ∧ 454 < 9000 := ⟨rfl, by decide⟩
theorem mj_nm454 : mj_noMH mj_m454.1 := by unfold mj_noMH; decide +kernel
theorem mj_np454 : mj_np mj_m454.1 2 := by unfold mj_np; decide +kernel
theorem mj_cd454 : mj_cw mj_Tw mj_m454 := (mj_w12 81 rfl rfl)
theorem mj_M455 : mj_Mm 455 = mj_m455 ∧ 455 < 9000 := ⟨rfl, by decide⟩
theorem mj_nm455 : mj_noMH mj_m455.1 := by unfold mj_noMH; decide +kernel
theorem mj_np455 : mj_np mj_m455.1 0 := by unfold mj_np; decide +kernel
theorem mj_cd455 : mj_cw mj_Tw mj_m455 := (mj_w12 85 rfl rfl)
theorem mj_M456 : mj_Mm 456 = mj_m456 ∧ 456 < 9000 := ⟨rfl, by decide⟩
theorem mj_nm456 : mj_noMH mj_m456.1 := by unfold mj_noMH; decide +kernel
theorem mj_np456 : mj_np mj_m456.1 1 := by unfold mj_np; decide +kernel
theorem mj_cd456 : mj_cw mj_Tw mj_m456 := (mj_w12 89 rfl rfl)
theorem mj_M457 : mj_Mm 457 = mj_m457 ∧ 457 < 9000 := ⟨rfl, by decide⟩
theorem mj_nm457 : mj_noMH mj_m457.1 := by unfold mj_noMH; decide +kernel
theorem mj_np457 : mj_np mj_m457.1 0 := by unfold mj_np; decide +kernel
theorem mj_cd457 : mj_cw mj_Tw mj_m457 := (mj_w12 93 rfl rfl)
theorem mj_M458 : mj_Mm 458 = mj_m458 ∧ 458 < 9000 := ⟨rfl, by decide⟩
theorem mj_nm458 : mj_noMH mj_m458.1 := by unfold mj_noMH; decide +kernel
theorem mj_np458 : mj_np mj_m458.1 2 := by unfold mj_np; decide +kernel
theorem mj_cd458 : mj_cw mj_Tw mj_m458 := (mj_w12 98 rfl rfl)
theorem mj_M459 : mj_Mm 459 = mj_m459 ∧ 459 < 9000 := ⟨rfl, by decide⟩
theorem mj_nm459 : mj_noMH mj_m459.1 := by unfold mj_noMH; decide +kernel
theorem mj_np459 : mj_np mj_m459.1 2 := by unfold mj_np; decide +kernel
theorem mj_cd459 : mj_cw mj_Tw mj_m459 := (mj_w12 101 rfl rfl)
theorem mj_M460 : mj_Mm 460 = mj_m460 ∧ 460 < 9000 := ⟨rfl, by decide⟩
theorem mj_nm460 : mj_noMH mj_m460.1 := by unfold mj_noMH; decide +kernel
theorem mj_np460 : mj_np mj_m460.1 1 := by unfold mj_np; decide +kernel
theorem mj_cd460 : mj_cw mj_Tw mj_m460 := (mj_w12 106 rfl rfl)
theorem mj_M461 : mj_Mm 461 = mj_m461 ∧ 461 < 9000 := ⟨rfl, by decide⟩
theorem mj_nm461 : mj_noMH mj_m461.1 := by unfold mj_noMH; decide +kernel
theorem mj_np461 : mj_np mj_m461.1 0 := by unfold mj_np; decide +kernel
theorem mj_cd461 : mj_cw mj_Tw mj_m461 := (mj_w12 110 rfl rfl)
theorem mj_M462 : mj_Mm 462 = mj_m462 ∧ 462 < 9000 := ⟨rfl, by decide⟩
theorem mj_nm462 : mj_noMH mj_m462.1 := by unfold mj_noMH; decide +kernel
theorem mj_np462 : mj_np mj_m462.1 0 := by unfold mj_np; decide +kernel
theorem mj_cd462 : mj_cw mj_Tw mj_m462 := (mj_w12 114 rfl rfl)
theorem mj_M463 : mj_Mm 463 = mj_m463 ∧ 463 < 9000 := ⟨rfl, by decide⟩
theorem mj_nm463 : mj_noMH mj_m463.1 := by unfold mj_noMH; decide +kernel
theorem mj_np463 : mj_np mj_m463.1 0 := by unfold mj_np; decide +kernel
theorem mj_cd463 : mj_cw mj_Tw mj_m463 := (mj_w12 120 rfl rfl)
theorem mj_M464 : mj_Mm 464 = mj_m464 ∧ 464 < 9000 := ⟨rfl, by decide⟩
theorem mj_nm464 : mj_noMH mj_m464.1 := by unfold mj_noMH; decide +kernel
theorem mj_np464 : mj_np mj_m464.1 0 := by unfold mj_np; decide +kernel
theorem mj_cd464 : mj_cw mj_Tw mj_m464 := (mj_w12 124 rfl rfl)
theorem mj_tf23 : mj_okF0 mj_Tw 23 mj_K23 := ⟨1, 7, 13, prog_16_method_1_code, rfl, rfl, rfl, by decide +kernel, (mj_w1 35 rfl rfl), (mj_w8 161 rfl rfl), (mj_w8 170 rfl rfl), (mj_w8 171 rfl rfl), by decide +kernel, by decide +kernel, by decide +kernel, by decide +kernel, by decide +kernel, by decide +kernel, by decide +kernel, by decide +kernel, by decide +kernel, ((mj_e_pf "UncomputeryModel$Fault" (rfl : mj_cls[23]? = some mj_K23) (by decide) mj_u23 (Or.inl (mj_w8 176 rfl rfl)) (Or.inl rfl) mj_pd23 mj_ds23 (Or.inr ⟨rfl, rfl, rfl, (mj_w8 176 rfl rfl)⟩) : mj_okW mj_Tw mj_Mm mj_m315 6 (.putfield 7, 0, 23, 0)).1 rfl), ((mj_e_pf "UncomputeryModel$Fault" (rfl : mj_cls[23]? = some mj_K23) (by decide) mj_u23 (Or.inl (mj_w8 178 rfl rfl)) (Or.inl rfl) mj_pd23 mj_ds23 (Or.inr ⟨rfl, rfl, rfl, (mj_w8 178 rfl rfl)⟩) : mj_okW mj_Tw mj_Mm mj_m315 11 (.putfield 13, 1, 23, 0)).1 rfl), by decide +kernel, by decide +kernel, mj_u23, mj_pd23, rfl, rfl, by decide +kernel⟩
