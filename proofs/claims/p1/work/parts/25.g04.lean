theorem mj_wl192 : ∀ x ∈ ([(5, .invokevirtual 86, 193, 3, 1)] : List (Nat × mj_E)), mj_okW mj_Tw mj_Mm mj_m192 x.1 x.2 :=
  (mj_ac (mj_e_vi mj_M193 mj_nm193 mj_np193 (mj_w5 214 rfl rfl) (rfl : mj_cls[0]? = some mj_K0) (mj_w5 215 rfl rfl) (mj_w5 213 rfl rfl) mj_cd193)
   mj_an)
theorem mj_ok192 : mj_okRow mj_Tw mj_Mm mj_r192 := ⟨by decide +kernel, by decide +kernel, (mj_w1 0 rfl rfl), by decide, Or.inr ⟨mj_cd192, ⟨⟨rfl, rfl, rfl, by decide, mj_K14, rfl, (mj_w4 196 rfl rfl), (mj_w4 207 rfl rfl)⟩, ⟨⟨rfl, rfl, rfl, by decide, mj_K15, rfl, (mj_w5 212 rfl rfl), (mj_w5 226 rfl rfl)⟩, trivial⟩⟩⟩, mj_wlE (by decide +kernel) mj_wl192⟩
theorem mj_wl193 : ∀ x ∈ ([(1, .getfield 19, 1, 0, 0), (5, .invokevirtual 140, 134, 2, 7), (11, .new 144, 14, 0, 1), (22, .getfield 43, 6, 0, 0), (26, .getfield 39, 5, 0, 0), (29, .invokevirtual 251, 194, 2, 8), (33, .getfield 55, 8, 0, 0), (38, .invokevirtual 199, 155, 3, 9), (42, .getfield 55, 8, 0, 0), (48, .invokevirtual 218, 160, 2, 9), (53, .getfield 55, 8, 0, 0), (56, .invokevirtual 228, 18, 1, 9), (62, .new 254, 15, 0, 1), (74, .getfield 39, 5, 0, 0), (78, .getfield 43, 6, 0, 0), (81, .invokevirtual 251, 194, 2, 8), (86, .getfield 221, 15, 0, 0), (92, .putfield 221, 15, 0, 0)] : List (Nat × mj_E)), mj_okW mj_Tw mj_Mm mj_m193 x.1 x.2 :=
  (mj_ac (mj_e_gf "Uncomputery" (rfl : mj_cls[0]? = some mj_K0) (by decide) mj_u0 (Or.inl (mj_w2 60 rfl rfl)) (Or.inl rfl))
   (mj_ac (mj_e_vi mj_M134 mj_nm134 mj_np134 (mj_w4 202 rfl rfl) (rfl : mj_cls[6]? = some mj_K6) (mj_w4 203 rfl rfl) (mj_w4 201 rfl rfl) mj_cd134)
   (mj_ac (mj_e_th 146 148 mj_tc14 rfl (mj_w4 205 rfl rfl) (text := "no such procedure") (by decide +kernel) (mj_w4 215 rfl rfl) (by decide +kernel) (Or.inl ⟨by decide +kernel, by decide +kernel, by decide +kernel⟩))
   (mj_ac (mj_e_gf "Uncomputery" (rfl : mj_cls[0]? = some mj_K0) (by decide) mj_u0 (Or.inl (mj_w2 65 rfl rfl)) (Or.inl rfl))
   (mj_ac (mj_e_gf "Uncomputery" (rfl : mj_cls[0]? = some mj_K0) (by decide) mj_u0 (Or.inl (mj_w2 64 rfl rfl)) (Or.inl rfl))
   (mj_ac (mj_e_vi mj_M194 mj_nm194 mj_np194 (mj_w5 218 rfl rfl) (rfl : mj_cls[7]? = some mj_K7) (mj_w5 219 rfl rfl) (mj_w5 217 rfl rfl) mj_cd194)
   (mj_ac (mj_e_gf "Uncomputery" (rfl : mj_cls[0]? = some mj_K0) (by decide) mj_u0 (Or.inl (mj_w2 67 rfl rfl)) (Or.inl rfl))
   (mj_ac (mj_e_vi mj_M155 mj_nm155 mj_np155 (mj_w5 59 rfl rfl) (rfl : mj_cls[8]? = some mj_K8) (mj_w5 60 rfl rfl) (mj_w5 58 rfl rfl) mj_cd155)
   (mj_ac (mj_e_gf "Uncomputery" (rfl : mj_cls[0]? = some mj_K0) (by decide) mj_u0 (Or.inl (mj_w2 67 rfl rfl)) (Or.inl rfl))
   (mj_ac (mj_e_vi mj_M160 mj_nm160 mj_np160 (mj_w5 80 rfl rfl) (rfl : mj_cls[8]? = some mj_K8) (mj_w5 81 rfl rfl) (mj_w5 79 rfl rfl) mj_cd160)
   (mj_ac (mj_e_gf "Uncomputery" (rfl : mj_cls[0]? = some mj_K0) (by decide) mj_u0 (Or.inl (mj_w2 67 rfl rfl)) (Or.inl rfl))
   (mj_ac (mj_e_vi mj_M18 mj_nm18 mj_np18 (mj_w2 140 rfl rfl) (rfl : mj_cls[8]? = some mj_K8) (mj_w2 141 rfl rfl) (mj_w2 139 rfl rfl) mj_cd18)
   (mj_ac (mj_e_th 256 258 mj_tc15 rfl (mj_w5 224 rfl rfl) (text := "the run breaks or does not end") (by decide +kernel) (mj_w5 234 rfl rfl) (by decide +kernel) (Or.inr ⟨by decide +kernel, by decide +kernel, by decide +kernel⟩))
   (mj_ac (mj_e_gf "Uncomputery" (rfl : mj_cls[0]? = some mj_K0) (by decide) mj_u0 (Or.inl (mj_w2 64 rfl rfl)) (Or.inl rfl))
   (mj_ac (mj_e_gf "Uncomputery" (rfl : mj_cls[0]? = some mj_K0) (by decide) mj_u0 (Or.inl (mj_w2 65 rfl rfl)) (Or.inl rfl))
   (mj_ac (mj_e_vi mj_M194 mj_nm194 mj_np194 (mj_w5 218 rfl rfl) (rfl : mj_cls[7]? = some mj_K7) (mj_w5 219 rfl rfl) (mj_w5 217 rfl rfl) mj_cd194)
   (mj_ac (mj_e_gf "Uncomputery" (rfl : mj_cls[0]? = some mj_K0) (by decide) mj_u0 (Or.inl (mj_w2 74 rfl rfl)) (Or.inl rfl))
   (mj_ac (mj_e_pf "Uncomputery" (rfl : mj_cls[0]? = some mj_K0) (by decide) mj_u0 (Or.inl (mj_w2 74 rfl rfl)) (Or.inl rfl) mj_pd0 mj_ds0 (Or.inl rfl))
   mj_an))))))))))))))))))
theorem mj_ok193 : mj_okRow mj_Tw mj_Mm mj_r193 := ⟨by decide +kernel, by decide +kernel, (mj_w1 1 rfl rfl), by decide, Or.inl ⟨mj_cd193, rfl, rfl⟩, mj_wlE (by decide +kernel) mj_wl193⟩
theorem mj_wl194 : ∀ x ∈ ([(1, .getfield 9, 0, 7, 0), (6, .getfield 9, 0, 7, 0), (12, .invokestatic 18, 9000, 5, 0), (16, .getfield 15, 1, 7, 0), (21, .getfield 15, 1, 7, 0), (27, .invokestatic 18, 9000, 5, 0), (32, .getfield 24, 2, 7, 0), (35, .putfield 24, 2, 7, 0)] : List (Nat × mj_E)), mj_okW mj_Tw mj_Mm mj_m194 x.1 x.2 :=
  (mj_ac (mj_e_gf "Uncomputery$Store" (rfl : mj_cls[7]? = some mj_K7) (by decide) mj_u7 (Or.inl (mj_w1 214 rfl rfl)) (Or.inl rfl))
   (mj_ac (mj_e_gf "Uncomputery$Store" (rfl : mj_cls[7]? = some mj_K7) (by decide) mj_u7 (Or.inl (mj_w1 214 rfl rfl)) (Or.inl rfl))
   (mj_ac (mj_e_ac (mj_w5 221 rfl rfl) (mj_w5 223 rfl rfl) (mj_w5 222 rfl rfl) (mj_w1 27 rfl rfl))
   (mj_ac (mj_e_gf "Uncomputery$Store" (rfl : mj_cls[7]? = some mj_K7) (by decide) mj_u7 (Or.inl (mj_w1 215 rfl rfl)) (Or.inl rfl))
   (mj_ac (mj_e_gf "Uncomputery$Store" (rfl : mj_cls[7]? = some mj_K7) (by decide) mj_u7 (Or.inl (mj_w1 215 rfl rfl)) (Or.inl rfl))
   (mj_ac (mj_e_ac (mj_w5 221 rfl rfl) (mj_w5 223 rfl rfl) (mj_w5 222 rfl rfl) (mj_w1 27 rfl rfl))
   (mj_ac (mj_e_gf "Uncomputery$Store" (rfl : mj_cls[7]? = some mj_K7) (by decide) mj_u7 (Or.inl (mj_w1 216 rfl rfl)) (Or.inl rfl))
   (mj_ac (mj_e_pf "Uncomputery$Store" (rfl : mj_cls[7]? = some mj_K7) (by decide) mj_u7 (Or.inl (mj_w1 216 rfl rfl)) (Or.inl rfl) mj_pd7 mj_ds7 (Or.inl rfl))
   mj_an))))))))
theorem mj_ok194 : mj_okRow mj_Tw mj_Mm mj_r194 := ⟨by decide +kernel, by decide +kernel, (mj_w1 8 rfl rfl), by decide, Or.inl ⟨mj_cd194, rfl, rfl⟩, mj_wlE (by decide +kernel) mj_wl194⟩
theorem mj_wl195 : ∀ x ∈ ([] : List (Nat × mj_E)), mj_okW mj_Tw mj_Mm mj_m195 x.1 x.2 :=
  mj_an
theorem mj_ok195 : mj_okRow mj_Tw mj_Mm mj_r195 := ⟨by decide +kernel, by decide +kernel, (mj_w1 44 rfl rfl), by decide, Or.inl ⟨mj_cd195, rfl, rfl⟩, mj_wlE (by decide +kernel) mj_wl195⟩
theorem mj_wl196 : ∀ x ∈ ([(4, .invokevirtual 91, 197, 2, 1)] : List (Nat × mj_E)), mj_okW mj_Tw mj_Mm mj_m196 x.1 x.2 :=
  (mj_ac (mj_e_vi mj_M197 mj_nm197 mj_np197 (mj_w6 4 rfl rfl) (rfl : mj_cls[0]? = some mj_K0) (mj_w6 5 rfl rfl) (mj_w6 3 rfl rfl) mj_cd197)
   mj_an)
theorem mj_ok196 : mj_okRow mj_Tw mj_Mm mj_r196 := ⟨by decide +kernel, by decide +kernel, (mj_w1 0 rfl rfl), by decide, Or.inr ⟨mj_cd196, ⟨⟨rfl, rfl, rfl, by decide, mj_K13, rfl, (mj_w4 154 rfl rfl), (mj_w4 161 rfl rfl)⟩, trivial⟩⟩, mj_wlE (by decide +kernel) mj_wl196⟩
theorem mj_wl197 : ∀ x ∈ ([(1, .invokestatic 180, 86, 1, 0), (7, .new 121, 13, 0, 1), (19, .getfield 259, 16, 0, 0), (23, .getfield 39, 5, 0, 0), (30, .invokevirtual 185, 147, 2, 8), (33, .invokestatic 262, 198, 1, 0), (38, .putfield 259, 16, 0, 0), (42, .getfield 39, 5, 0, 0), (50, .invokevirtual 188, 148, 3, 8), (54, .getfield 259, 16, 0, 0)] : List (Nat × mj_E)), mj_okW mj_Tw mj_Mm mj_m197 x.1 x.2 :=
  (mj_ac (mj_e_st mj_M86 mj_nm86 mj_np86 (mj_w3 175 rfl rfl) (mj_w1 1 rfl rfl) mj_cd86 (mj_w5 25 rfl rfl))
   (mj_ac (mj_e_th 183 125 mj_tc13 rfl (mj_w4 159 rfl rfl) (text := "no such variable") (by decide +kernel) (mj_w4 169 rfl rfl) (by decide +kernel) (Or.inl ⟨by decide +kernel, by decide +kernel, by decide +kernel⟩))
   (mj_ac (mj_e_gf "Uncomputery" (rfl : mj_cls[0]? = some mj_K0) (by decide) mj_u0 (Or.inl (mj_w2 75 rfl rfl)) (Or.inl rfl))
   (mj_ac (mj_e_gf "Uncomputery" (rfl : mj_cls[0]? = some mj_K0) (by decide) mj_u0 (Or.inl (mj_w2 64 rfl rfl)) (Or.inl rfl))
   (mj_ac (mj_e_vi mj_M147 mj_nm147 mj_np147 (mj_w5 28 rfl rfl) (rfl : mj_cls[7]? = some mj_K7) (mj_w5 29 rfl rfl) (mj_w5 27 rfl rfl) mj_cd147)
   (mj_ac (mj_e_st mj_M198 mj_nm198 mj_np198 (mj_w6 8 rfl rfl) (mj_w1 32 rfl rfl) mj_cd198 (mj_w6 7 rfl rfl))
   (mj_ac (mj_e_pf "Uncomputery" (rfl : mj_cls[0]? = some mj_K0) (by decide) mj_u0 (Or.inl (mj_w2 75 rfl rfl)) (Or.inl rfl) mj_pd0 mj_ds0 (Or.inl rfl))
   (mj_ac (mj_e_gf "Uncomputery" (rfl : mj_cls[0]? = some mj_K0) (by decide) mj_u0 (Or.inl (mj_w2 64 rfl rfl)) (Or.inl rfl))
   (mj_ac (mj_e_vi mj_M148 mj_nm148 mj_np148 (mj_w5 32 rfl rfl) (rfl : mj_cls[7]? = some mj_K7) (mj_w5 33 rfl rfl) (mj_w5 31 rfl rfl) mj_cd148)
   (mj_ac (mj_e_gf "Uncomputery" (rfl : mj_cls[0]? = some mj_K0) (by decide) mj_u0 (Or.inl (mj_w2 75 rfl rfl)) (Or.inl rfl))
   mj_an))))))))))
theorem mj_ok197 : mj_okRow mj_Tw mj_Mm mj_r197 := ⟨by decide +kernel, by decide +kernel, (mj_w1 1 rfl rfl), by decide, Or.inl ⟨mj_cd197, rfl, rfl⟩, mj_wlE (by decide +kernel) mj_wl197⟩
theorem mj_wl198 : ∀ x ∈ ([(4, .ldc_w 265, 0, 1431655765, 0), (11, .ldc_w 266, 0, 858993459, 0), (18, .ldc_w 266, 0, 858993459, 0), (29, .ldc_w 267, 0, 252645135, 0)] : List (Nat × mj_E)), mj_okW mj_Tw mj_Mm mj_m198 x.1 x.2 :=
  (mj_ac (mj_e_lw (mj_w6 10 rfl rfl))
   (mj_ac (mj_e_lw (mj_w6 11 rfl rfl))
   (mj_ac (mj_e_lw (mj_w6 11 rfl rfl))
   (mj_ac (mj_e_lw (mj_w6 12 rfl rfl))
   mj_an))))
theorem mj_ok198 : mj_okRow mj_Tw mj_Mm mj_r198 := ⟨by decide +kernel, by decide +kernel, (mj_w1 32 rfl rfl), by decide, Or.inl ⟨mj_cd198, rfl, rfl⟩, mj_wlE (by decide +kernel) mj_wl198⟩
theorem mj_wl199 : ∀ x ∈ ([(7, .invokevirtual 95, 200, 4, 1)] : List (Nat × mj_E)), mj_okW mj_Tw mj_Mm mj_m199 x.1 x.2 :=
  (mj_ac (mj_e_vi mj_M200 mj_nm200 mj_np200 (mj_w6 17 rfl rfl) (rfl : mj_cls[0]? = some mj_K0) (mj_w6 18 rfl rfl) (mj_w6 16 rfl rfl) mj_cd200)
   mj_an)
theorem mj_ok199 : mj_okRow mj_Tw mj_Mm mj_r199 := ⟨by decide +kernel, by decide +kernel, (mj_w1 0 rfl rfl), by decide, Or.inr ⟨mj_cd199, ⟨⟨rfl, rfl, rfl, by decide, mj_K14, rfl, (mj_w4 196 rfl rfl), (mj_w4 207 rfl rfl)⟩, ⟨⟨rfl, rfl, rfl, by decide, mj_K13, rfl, (mj_w4 154 rfl rfl), (mj_w4 161 rfl rfl)⟩, ⟨⟨rfl, rfl, rfl, by decide, mj_K12, rfl, (mj_w4 115 rfl rfl), (mj_w4 122 rfl rfl)⟩, trivial⟩⟩⟩⟩, mj_wlE (by decide +kernel) mj_wl199⟩
theorem mj_wl200 : ∀ x ∈ ([(1, .getfield 19, 1, 0, 0), (5, .invokevirtual 140, 134, 2, 7), (11, .new 144, 14, 0, 1), (22, .invokestatic 180, 86, 1, 0), (28, .new 121, 13, 0, 1), (45, .invokevirtual 267, 201, 4, 1), (51, .new 109, 12, 0, 1), (63, .getfield 43, 6, 0, 0), (70, .invokevirtual 185, 147, 2, 8)] : List (Nat × mj_E)), mj_okW mj_Tw mj_Mm mj_m200 x.1 x.2 :=
  (mj_ac (mj_e_gf "Uncomputery" (rfl : mj_cls[0]? = some mj_K0) (by decide) mj_u0 (Or.inl (mj_w2 60 rfl rfl)) (Or.inl rfl))
   (mj_ac (mj_e_vi mj_M134 mj_nm134 mj_np134 (mj_w4 202 rfl rfl) (rfl : mj_cls[6]? = some mj_K6) (mj_w4 203 rfl rfl) (mj_w4 201 rfl rfl) mj_cd134)
   (mj_ac (mj_e_th 146 148 mj_tc14 rfl (mj_w4 205 rfl rfl) (text := "no such procedure") (by decide +kernel) (mj_w4 215 rfl rfl) (by decide +kernel) (Or.inl ⟨by decide +kernel, by decide +kernel, by decide +kernel⟩))
   (mj_ac (mj_e_st mj_M86 mj_nm86 mj_np86 (mj_w3 175 rfl rfl) (mj_w1 1 rfl rfl) mj_cd86 (mj_w5 25 rfl rfl))
   (mj_ac (mj_e_th 183 125 mj_tc13 rfl (mj_w4 159 rfl rfl) (text := "no such variable") (by decide +kernel) (mj_w4 169 rfl rfl) (by decide +kernel) (Or.inl ⟨by decide +kernel, by decide +kernel, by decide +kernel⟩))
   (mj_ac (mj_e_vi mj_M201 mj_nm201 mj_np201 (mj_w6 22 rfl rfl) (rfl : mj_cls[0]? = some mj_K0) (mj_wp 40 rfl rfl) (mj_w6 20 rfl rfl) mj_cd201)
   (mj_ac (mj_e_th 256 113 mj_tc12 rfl (mj_w4 120 rfl rfl) (text := "the run breaks or does not end") (by decide +kernel) (mj_w4 130 rfl rfl) (by decide +kernel) (Or.inr ⟨by decide +kernel, by decide +kernel, by decide +kernel⟩))
   (mj_ac (mj_e_gf "Uncomputery" (rfl : mj_cls[0]? = some mj_K0) (by decide) mj_u0 (Or.inl (mj_w2 65 rfl rfl)) (Or.inl rfl))
   (mj_ac (mj_e_vi mj_M147 mj_nm147 mj_np147 (mj_w5 28 rfl rfl) (rfl : mj_cls[7]? = some mj_K7) (mj_w5 29 rfl rfl) (mj_w5 27 rfl rfl) mj_cd147)
   mj_an)))))))))
theorem mj_ok200 : mj_okRow mj_Tw mj_Mm mj_r200 := ⟨by decide +kernel, by decide +kernel, (mj_w1 1 rfl rfl), by decide, Or.inl ⟨mj_cd200, rfl, rfl⟩, mj_wlE (by decide +kernel) mj_wl200⟩
theorem mj_wl201 : ∀ x ∈ ([(1, .getfield 43, 6, 0, 0), (5, .getfield 39, 5, 0, 0), (8, .invokevirtual 251, 194, 2, 8), (12, .getfield 43, 6, 0, 0), (17, .invokevirtual 188, 148, 3, 8), (21, .getfield 55, 8, 0, 0), (26, .invokevirtual 199, 155, 3, 9), (30, .getfield 55, 8, 0, 0), (36, .invokevirtual 218, 160, 2, 9), (41, .getfield 55, 8, 0, 0), (44, .invokevirtual 228, 18, 1, 9)] : List (Nat × mj_E)), mj_okW mj_Tw mj_Mm mj_m201 x.1 x.2 :=
  (mj_ac (mj_e_gf "Uncomputery" (rfl : mj_cls[0]? = some mj_K0) (by decide) mj_u0 (Or.inl (mj_w2 65 rfl rfl)) (Or.inl rfl))
   (mj_ac (mj_e_gf "Uncomputery" (rfl : mj_cls[0]? = some mj_K0) (by decide) mj_u0 (Or.inl (mj_w2 64 rfl rfl)) (Or.inl rfl))
   (mj_ac (mj_e_vi mj_M194 mj_nm194 mj_np194 (mj_w5 218 rfl rfl) (rfl : mj_cls[7]? = some mj_K7) (mj_w5 219 rfl rfl) (mj_w5 217 rfl rfl) mj_cd194)
   (mj_ac (mj_e_gf "Uncomputery" (rfl : mj_cls[0]? = some mj_K0) (by decide) mj_u0 (Or.inl (mj_w2 65 rfl rfl)) (Or.inl rfl))
   (mj_ac (mj_e_vi mj_M148 mj_nm148 mj_np148 (mj_w5 32 rfl rfl) (rfl : mj_cls[7]? = some mj_K7) (mj_w5 33 rfl rfl) (mj_w5 31 rfl rfl) mj_cd148)
   (mj_ac (mj_e_gf "Uncomputery" (rfl : mj_cls[0]? = some mj_K0) (by decide) mj_u0 (Or.inl (mj_w2 67 rfl rfl)) (Or.inl rfl))
   (mj_ac (mj_e_vi mj_M155 mj_nm155 mj_np155 (mj_w5 59 rfl rfl) (rfl : mj_cls[8]? = some mj_K8) (mj_w5 60 rfl rfl) (mj_w5 58 rfl rfl) mj_cd155)
   (mj_ac (mj_e_gf "Uncomputery" (rfl : mj_cls[0]? = some mj_K0) (by decide) mj_u0 (Or.inl (mj_w2 67 rfl rfl)) (Or.inl rfl))
   (mj_ac (mj_e_vi mj_M160 mj_nm160 mj_np160 (mj_w5 80 rfl rfl) (rfl : mj_cls[8]? = some mj_K8) (mj_w5 81 rfl rfl) (mj_w5 79 rfl rfl) mj_cd160)
   (mj_ac (mj_e_gf "Uncomputery" (rfl : mj_cls[0]? = some mj_K0) (by decide) mj_u0 (Or.inl (mj_w2 67 rfl rfl)) (Or.inl rfl))
   (mj_ac (mj_e_vi mj_M18 mj_nm18 mj_np18 (mj_w2 140 rfl rfl) (rfl : mj_cls[8]? = some mj_K8) (mj_w2 141 rfl rfl) (mj_w2 139 rfl rfl) mj_cd18)
   mj_an)))))))))))
theorem mj_ok201 : mj_okRow mj_Tw mj_Mm mj_r201 := ⟨by decide +kernel, by decide +kernel, (mj_w1 1 rfl rfl), by decide, Or.inl ⟨mj_cd201, rfl, rfl⟩, mj_wlE (by decide +kernel) mj_wl201⟩
theorem mj_wl202 : ∀ x ∈ ([(5, .invokevirtual 99, 203, 3, 1)] : List (Nat × mj_E)), mj_okW mj_Tw mj_Mm mj_m202 x.1 x.2 :=
  (mj_ac (mj_e_vi mj_M203 mj_nm203 mj_np203 (mj_w6 28 rfl rfl) (rfl : mj_cls[0]? = some mj_K0) (mj_w6 29 rfl rfl) (mj_w6 27 rfl rfl) mj_cd203)
   mj_an)
theorem mj_ok202 : mj_okRow mj_Tw mj_Mm mj_r202 := ⟨by decide +kernel, by decide +kernel, (mj_w1 0 rfl rfl), by decide, Or.inr ⟨mj_cd202, ⟨⟨rfl, rfl, rfl, by decide, mj_K14, rfl, (mj_w4 196 rfl rfl), (mj_w4 207 rfl rfl)⟩, ⟨⟨rfl, rfl, rfl, by decide, mj_K13, rfl, (mj_w4 154 rfl rfl), (mj_w4 161 rfl rfl)⟩, trivial⟩⟩⟩, mj_wlE (by decide +kernel) mj_wl202⟩
theorem mj_wl203 : ∀ x ∈ ([(1, .getfield 19, 1, 0, 0), (5, .invokevirtual 140, 134, 2, 7), (11, .new 144, 14, 0, 1), (22, .invokestatic 180, 86, 1, 0), (28, .new 121, 13, 0, 1), (58, .invokevirtual 267, 201, 4, 1)] : List (Nat × mj_E)), mj_okW mj_Tw mj_Mm mj_m203 x.1 x.2 :=
  (mj_ac (mj_e_gf "Uncomputery" (rfl : mj_cls[0]? = some mj_K0) (by decide) mj_u0 (Or.inl (mj_w2 60 rfl rfl)) (Or.inl rfl))
   (mj_ac (mj_e_vi mj_M134 mj_nm134 mj_np134 (mj_w4 202 rfl rfl) (rfl : mj_cls[6]? = some mj_K6) (mj_w4 203 rfl rfl) (mj_w4 201 rfl rfl) mj_cd134)
   (mj_ac (mj_e_th 146 148 mj_tc14 rfl (mj_w4 205 rfl rfl) (text := "no such procedure") (by decide +kernel) (mj_w4 215 rfl rfl) (by decide +kernel) (Or.inl ⟨by decide +kernel, by decide +kernel, by decide +kernel⟩))
   (mj_ac (mj_e_st mj_M86 mj_nm86 mj_np86 (mj_w3 175 rfl rfl) (mj_w1 1 rfl rfl) mj_cd86 (mj_w5 25 rfl rfl))
   (mj_ac (mj_e_th 183 125 mj_tc13 rfl (mj_w4 159 rfl rfl) (text := "no such variable") (by decide +kernel) (mj_w4 169 rfl rfl) (by decide +kernel) (Or.inl ⟨by decide +kernel, by decide +kernel, by decide +kernel⟩))
   (mj_ac (mj_e_vi mj_M201 mj_nm201 mj_np201 (mj_w6 22 rfl rfl) (rfl : mj_cls[0]? = some mj_K0) (mj_wp 40 rfl rfl) (mj_w6 20 rfl rfl) mj_cd201)
   mj_an))))))
theorem mj_ok203 : mj_okRow mj_Tw mj_Mm mj_r203 := ⟨by decide +kernel, by decide +kernel, (mj_w1 1 rfl rfl), by decide, Or.inl ⟨mj_cd203, rfl, rfl⟩, mj_wlE (by decide +kernel) mj_wl203⟩
theorem mj_wl204 : ∀ x ∈ ([(5, .invokevirtual 103, 205, 3, 1)] : List (Nat × mj_E)), mj_okW mj_Tw mj_Mm mj_m204 x.1 x.2 :=
  (mj_ac (mj_e_vi mj_M205 mj_nm205 mj_np205 (mj_w6 35 rfl rfl) (rfl : mj_cls[0]? = some mj_K0) (mj_w6 36 rfl rfl) (mj_w6 34 rfl rfl) mj_cd205)
   mj_an)
theorem mj_ok204 : mj_okRow mj_Tw mj_Mm mj_r204 := ⟨by decide +kernel, by decide +kernel, (mj_w1 0 rfl rfl), by decide, Or.inr ⟨mj_cd204, ⟨⟨rfl, rfl, rfl, by decide, mj_K14, rfl, (mj_w4 196 rfl rfl), (mj_w4 207 rfl rfl)⟩, ⟨⟨rfl, rfl, rfl, by decide, mj_K13, rfl, (mj_w4 154 rfl rfl), (mj_w4 161 rfl rfl)⟩, trivial⟩⟩⟩, mj_wlE (by decide +kernel) mj_wl204⟩
theorem mj_wl205 : ∀ x ∈ ([(1, .getfield 19, 1, 0, 0), (5, .invokevirtual 140, 134, 2, 7), (11, .new 144, 14, 0, 1), (22, .invokestatic 180, 86, 1, 0), (28, .new 121, 13, 0, 1), (58, .invokevirtual 267, 201, 4, 1), (66, .getfield 69, 13, 0, 0), (74, .getfield 69, 13, 0, 0), (79, .getfield 43, 6, 0, 0), (86, .invokevirtual 185, 147, 2, 8), (114, .getfield 69, 13, 0, 0), (125, .getfield 69, 13, 0, 0), (132, .invokevirtual 271, 206, 3, 1), (135, .invokestatic 275, 9004, 2, 0)] : List (Nat × mj_E)), mj_okW mj_Tw mj_Mm mj_m205 x.1 x.2 :=
  (mj_ac (mj_e_gf "Uncomputery" (rfl : mj_cls[0]? = some mj_K0) (by decide) mj_u0 (Or.inl (mj_w2 60 rfl rfl)) (Or.inl rfl))
   (mj_ac (mj_e_vi mj_M134 mj_nm134 mj_np134 (mj_w4 202 rfl rfl) (rfl : mj_cls[6]? = some mj_K6) (mj_w4 203 rfl rfl) (mj_w4 201 rfl rfl) mj_cd134)
   (mj_ac (mj_e_th 146 148 mj_tc14 rfl (mj_w4 205 rfl rfl) (text := "no such procedure") (by decide +kernel) (mj_w4 215 rfl rfl) (by decide +kernel) (Or.inl ⟨by decide +kernel, by decide +kernel, by decide +kernel⟩))
   (mj_ac (mj_e_st mj_M86 mj_nm86 mj_np86 (mj_w3 175 rfl rfl) (mj_w1 1 rfl rfl) mj_cd86 (mj_w5 25 rfl rfl))
   (mj_ac (mj_e_th 183 125 mj_tc13 rfl (mj_w4 159 rfl rfl) (text := "no such variable") (by decide +kernel) (mj_w4 169 rfl rfl) (by decide +kernel) (Or.inl ⟨by decide +kernel, by decide +kernel, by decide +kernel⟩))
   (mj_ac (mj_e_vi mj_M201 mj_nm201 mj_np201 (mj_w6 22 rfl rfl) (rfl : mj_cls[0]? = some mj_K0) (mj_wp 40 rfl rfl) (mj_w6 20 rfl rfl) mj_cd201)
   (mj_ac (mj_e_gf "Uncomputery" (rfl : mj_cls[0]? = some mj_K0) (by decide) mj_u0 (Or.inl (mj_w2 72 rfl rfl)) (Or.inl rfl))
   (mj_ac (mj_e_gf "Uncomputery" (rfl : mj_cls[0]? = some mj_K0) (by decide) mj_u0 (Or.inl (mj_w2 72 rfl rfl)) (Or.inl rfl))
   (mj_ac (mj_e_gf "Uncomputery" (rfl : mj_cls[0]? = some mj_K0) (by decide) mj_u0 (Or.inl (mj_w2 65 rfl rfl)) (Or.inl rfl))
   (mj_ac (mj_e_vi mj_M147 mj_nm147 mj_np147 (mj_w5 28 rfl rfl) (rfl : mj_cls[7]? = some mj_K7) (mj_w5 29 rfl rfl) (mj_w5 27 rfl rfl) mj_cd147)
   (mj_ac (mj_e_gf "Uncomputery" (rfl : mj_cls[0]? = some mj_K0) (by decide) mj_u0 (Or.inl (mj_w2 72 rfl rfl)) (Or.inl rfl))
   (mj_ac (mj_e_gf "Uncomputery" (rfl : mj_cls[0]? = some mj_K0) (by decide) mj_u0 (Or.inl (mj_w2 72 rfl rfl)) (Or.inl rfl))
   (mj_ac (mj_e_vi mj_M206 mj_nm206 mj_np206 (mj_w6 40 rfl rfl) (rfl : mj_cls[0]? = some mj_K0) (mj_wp 41 rfl rfl) (mj_w6 38 rfl rfl) mj_cd206)
   (mj_ac (mj_e_mx (mj_w3 83 rfl rfl) (mj_w2 202 rfl rfl) (mj_w1 25 rfl rfl) (mj_w2 203 rfl rfl))
   mj_an))))))))))))))
theorem mj_ok205 : mj_okRow mj_Tw mj_Mm mj_r205 := ⟨by decide +kernel, by decide +kernel, (mj_w1 1 rfl rfl), by decide, Or.inl ⟨mj_cd205, rfl, rfl⟩, mj_wlE (by decide +kernel) mj_wl205⟩
theorem mj_wl206 : ∀ x ∈ ([(14, .getfield 69, 13, 0, 0), (22, .getfield 69, 13, 0, 0)] : List (Nat × mj_E)), mj_okW mj_Tw mj_Mm mj_m206 x.1 x.2 :=
  (mj_ac (mj_e_gf "Uncomputery" (rfl : mj_cls[0]? = some mj_K0) (by decide) mj_u0 (Or.inl (mj_w2 72 rfl rfl)) (Or.inl rfl))
   (mj_ac (mj_e_gf "Uncomputery" (rfl : mj_cls[0]? = some mj_K0) (by decide) mj_u0 (Or.inl (mj_w2 72 rfl rfl)) (Or.inl rfl))
   mj_an))
theorem mj_ok206 : mj_okRow mj_Tw mj_Mm mj_r206 := ⟨by decide +kernel, by decide +kernel, (mj_w1 1 rfl rfl), by decide, Or.inl ⟨mj_cd206, rfl, rfl⟩, mj_wlE (by decide +kernel) mj_wl206⟩
theorem mj_wl207 : ∀ x ∈ ([(5, .invokevirtual 106, 208, 3, 1)] : List (Nat × mj_E)), mj_okW mj_Tw mj_Mm mj_m207 x.1 x.2 :=
  (mj_ac (mj_e_vi mj_M208 mj_nm208 mj_np208 (mj_w6 46 rfl rfl) (rfl : mj_cls[0]? = some mj_K0) (mj_w6 47 rfl rfl) (mj_w6 45 rfl rfl) mj_cd208)
   mj_an)
theorem mj_ok207 : mj_okRow mj_Tw mj_Mm mj_r207 := ⟨by decide +kernel, by decide +kernel, (mj_w1 0 rfl rfl), by decide, Or.inr ⟨mj_cd207, ⟨⟨rfl, rfl, rfl, by decide, mj_K13, rfl, (mj_w4 154 rfl rfl), (mj_w4 161 rfl rfl)⟩, ⟨⟨rfl, rfl, rfl, by decide, mj_K11, rfl, (mj_w4 31 rfl rfl), (mj_w4 42 rfl rfl)⟩, trivial⟩⟩⟩, mj_wlE (by decide +kernel) mj_wl207⟩
theorem mj_wl208 : ∀ x ∈ ([(19, .new 121, 13, 0, 1), (38, .new 121, 13, 0, 1), (50, .getfield 61, 9, 0, 0), (53, .invokevirtual 284, 209, 1, 10), (59, .new 82, 11, 0, 1), (71, .getfield 61, 9, 0, 0), (80, .invokevirtual 287, 210, 2, 10), (84, .getfield 61, 9, 0, 0), (87, .invokevirtual 291, 24, 1, 10)] : List (Nat × mj_E)), mj_okW mj_Tw mj_Mm mj_m208 x.1 x.2 :=
  (mj_ac (mj_e_th 280 125 mj_tc13 rfl (mj_w4 159 rfl rfl) (text := "lines are 0 to 2, controls 0 to 7") (by decide +kernel) (mj_w4 169 rfl rfl) (by decide +kernel) (Or.inr ⟨by decide +kernel, by decide +kernel, by decide +kernel⟩))
   (mj_ac (mj_e_th 282 125 mj_tc13 rfl (mj_w4 159 rfl rfl) (text := "the line is among its controls") (by decide +kernel) (mj_w4 169 rfl rfl) (by decide +kernel) (Or.inr ⟨by decide +kernel, by decide +kernel, by decide +kernel⟩))
   (mj_ac (mj_e_gf "Uncomputery" (rfl : mj_cls[0]? = some mj_K0) (by decide) mj_u0 (Or.inl (mj_w2 68 rfl rfl)) (Or.inl rfl))
   (mj_ac (mj_e_vi mj_M209 mj_nm209 mj_np209 (mj_w6 52 rfl rfl) (rfl : mj_cls[9]? = some mj_K9) (mj_w6 53 rfl rfl) (mj_w6 51 rfl rfl) mj_cd209)
   (mj_ac (mj_e_th 285 86 mj_tc11 rfl (mj_w4 40 rfl rfl) (text := "there are 24 gates") (by decide +kernel) (mj_w4 85 rfl rfl) (by decide +kernel) (Or.inr ⟨by decide +kernel, by decide +kernel, by decide +kernel⟩))
   (mj_ac (mj_e_gf "Uncomputery" (rfl : mj_cls[0]? = some mj_K0) (by decide) mj_u0 (Or.inl (mj_w2 68 rfl rfl)) (Or.inl rfl))
   (mj_ac (mj_e_vi mj_M210 mj_nm210 mj_np210 (mj_w6 57 rfl rfl) (rfl : mj_cls[9]? = some mj_K9) (mj_w6 58 rfl rfl) (mj_w6 56 rfl rfl) mj_cd210)
   (mj_ac (mj_e_gf "Uncomputery" (rfl : mj_cls[0]? = some mj_K0) (by decide) mj_u0 (Or.inl (mj_w2 68 rfl rfl)) (Or.inl rfl))
   (mj_ac (mj_e_vi mj_M24 mj_nm24 mj_np24 (mj_w2 164 rfl rfl) (rfl : mj_cls[9]? = some mj_K9) (mj_w2 165 rfl rfl) (mj_w2 163 rfl rfl) mj_cd24)
   mj_an)))))))))
theorem mj_ok208 : mj_okRow mj_Tw mj_Mm mj_r208 := ⟨by decide +kernel, by decide +kernel, (mj_w1 1 rfl rfl), by decide, Or.inl ⟨mj_cd208, rfl, rfl⟩, mj_wlE (by decide +kernel) mj_wl208⟩
theorem mj_wl209 : ∀ x ∈ ([(1, .getfield 21, 3, 9, 0)] : List (Nat × mj_E)), mj_okW mj_Tw mj_Mm mj_m209 x.1 x.2 :=
  (mj_ac (mj_e_gf "Uncomputery$Circuit" (rfl : mj_cls[9]? = some mj_K9) (by decide) mj_u9 (Or.inl (mj_w2 46 rfl rfl)) (Or.inl rfl))
   mj_an)
theorem mj_ok209 : mj_okRow mj_Tw mj_Mm mj_r209 := ⟨by decide +kernel, by decide +kernel, (mj_w1 10 rfl rfl), by decide, Or.inl ⟨mj_cd209, rfl, rfl⟩, mj_wlE (by decide +kernel) mj_wl209⟩
theorem mj_wl210 : ∀ x ∈ ([(1, .getfield 21, 3, 9, 0), (8, .getfield 21, 3, 9, 0), (12, .getfield 9, 0, 9, 0), (20, .getfield 9, 0, 9, 0), (24, .getfield 21, 3, 9, 0), (31, .getfield 21, 3, 9, 0), (36, .putfield 21, 3, 9, 0)] : List (Nat × mj_E)), mj_okW mj_Tw mj_Mm mj_m210 x.1 x.2 :=
  (mj_ac (mj_e_gf "Uncomputery$Circuit" (rfl : mj_cls[9]? = some mj_K9) (by decide) mj_u9 (Or.inl (mj_w2 46 rfl rfl)) (Or.inl rfl))
   (mj_ac (mj_e_gf "Uncomputery$Circuit" (rfl : mj_cls[9]? = some mj_K9) (by decide) mj_u9 (Or.inl (mj_w2 46 rfl rfl)) (Or.inl rfl))
   (mj_ac (mj_e_gf "Uncomputery$Circuit" (rfl : mj_cls[9]? = some mj_K9) (by decide) mj_u9 (Or.inl (mj_w2 43 rfl rfl)) (Or.inl rfl))
   (mj_ac (mj_e_gf "Uncomputery$Circuit" (rfl : mj_cls[9]? = some mj_K9) (by decide) mj_u9 (Or.inl (mj_w2 43 rfl rfl)) (Or.inl rfl))
   (mj_ac (mj_e_gf "Uncomputery$Circuit" (rfl : mj_cls[9]? = some mj_K9) (by decide) mj_u9 (Or.inl (mj_w2 46 rfl rfl)) (Or.inl rfl))
   (mj_ac (mj_e_gf "Uncomputery$Circuit" (rfl : mj_cls[9]? = some mj_K9) (by decide) mj_u9 (Or.inl (mj_w2 46 rfl rfl)) (Or.inl rfl))
   (mj_ac (mj_e_pf "Uncomputery$Circuit" (rfl : mj_cls[9]? = some mj_K9) (by decide) mj_u9 (Or.inl (mj_w2 46 rfl rfl)) (Or.inl rfl) mj_pd9 mj_ds9 (Or.inl rfl))
   mj_an)))))))
theorem mj_ok210 : mj_okRow mj_Tw mj_Mm mj_r210 := ⟨by decide +kernel, by decide +kernel, (mj_w1 10 rfl rfl), by decide, Or.inl ⟨mj_cd210, rfl, rfl⟩, mj_wlE (by decide +kernel) mj_wl210⟩
theorem mj_wl211 : ∀ x ∈ ([(3, .invokevirtual 110, 212, 1, 1)] : List (Nat × mj_E)), mj_okW mj_Tw mj_Mm mj_m211 x.1 x.2 :=
  (mj_ac (mj_e_vi mj_M212 mj_nm212 mj_np212 (mj_w6 64 rfl rfl) (rfl : mj_cls[0]? = some mj_K0) (mj_w6 65 rfl rfl) (mj_w6 63 rfl rfl) mj_cd212)
   mj_an)
theorem mj_ok211 : mj_okRow mj_Tw mj_Mm mj_r211 := ⟨by decide +kernel, by decide +kernel, (mj_w1 0 rfl rfl), by decide, Or.inr ⟨mj_cd211, ⟨⟨rfl, rfl, rfl, by decide, mj_K12, rfl, (mj_w4 115 rfl rfl), (mj_w4 122 rfl rfl)⟩, trivial⟩⟩, mj_wlE (by decide +kernel) mj_wl211⟩
theorem mj_wl212 : ∀ x ∈ ([(1, .getfield 61, 9, 0, 0), (4, .invokevirtual 291, 24, 1, 10), (10, .new 109, 12, 0, 1), (22, .getfield 61, 9, 0, 0), (25, .invokevirtual 294, 213, 1, 10)] : List (Nat × mj_E)), mj_okW mj_Tw mj_Mm mj_m212 x.1 x.2 :=
  (mj_ac (mj_e_gf "Uncomputery" (rfl : mj_cls[0]? = some mj_K0) (by decide) mj_u0 (Or.inl (mj_w2 68 rfl rfl)) (Or.inl rfl))
   (mj_ac (mj_e_vi mj_M24 mj_nm24 mj_np24 (mj_w2 164 rfl rfl) (rfl : mj_cls[9]? = some mj_K9) (mj_w2 165 rfl rfl) (mj_w2 163 rfl rfl) mj_cd24)
   (mj_ac (mj_e_th 292 113 mj_tc12 rfl (mj_w4 120 rfl rfl) (text := "there is no gate") (by decide +kernel) (mj_w4 130 rfl rfl) (by decide +kernel) (Or.inr ⟨by decide +kernel, by decide +kernel, by decide +kernel⟩))
   (mj_ac (mj_e_gf "Uncomputery" (rfl : mj_cls[0]? = some mj_K0) (by decide) mj_u0 (Or.inl (mj_w2 68 rfl rfl)) (Or.inl rfl))
   (mj_ac (mj_e_vi mj_M213 mj_nm213 mj_np213 (mj_w6 69 rfl rfl) (rfl : mj_cls[9]? = some mj_K9) (mj_w6 70 rfl rfl) (mj_w6 68 rfl rfl) mj_cd213)
   mj_an)))))
theorem mj_ok212 : mj_okRow mj_Tw mj_Mm mj_r212 := ⟨by decide +kernel, by decide +kernel, (mj_w1 1 rfl rfl), by decide, Or.inl ⟨mj_cd212, rfl, rfl⟩, mj_wlE (by decide +kernel) mj_wl212⟩
theorem mj_wl213 : ∀ x ∈ ([(1, .getfield 21, 3, 9, 0), (9, .getfield 21, 3, 9, 0), (13, .getfield 9, 0, 9, 0), (24, .getfield 21, 3, 9, 0), (29, .putfield 21, 3, 9, 0), (33, .getfield 9, 0, 9, 0), (37, .getfield 21, 3, 9, 0)] : List (Nat × mj_E)), mj_okW mj_Tw mj_Mm mj_m213 x.1 x.2 :=
  (mj_ac (mj_e_gf "Uncomputery$Circuit" (rfl : mj_cls[9]? = some mj_K9) (by decide) mj_u9 (Or.inl (mj_w2 46 rfl rfl)) (Or.inl rfl))
   (mj_ac (mj_e_gf "Uncomputery$Circuit" (rfl : mj_cls[9]? = some mj_K9) (by decide) mj_u9 (Or.inl (mj_w2 46 rfl rfl)) (Or.inl rfl))
   (mj_ac (mj_e_gf "Uncomputery$Circuit" (rfl : mj_cls[9]? = some mj_K9) (by decide) mj_u9 (Or.inl (mj_w2 43 rfl rfl)) (Or.inl rfl))
   (mj_ac (mj_e_gf "Uncomputery$Circuit" (rfl : mj_cls[9]? = some mj_K9) (by decide) mj_u9 (Or.inl (mj_w2 46 rfl rfl)) (Or.inl rfl))
   (mj_ac (mj_e_pf "Uncomputery$Circuit" (rfl : mj_cls[9]? = some mj_K9) (by decide) mj_u9 (Or.inl (mj_w2 46 rfl rfl)) (Or.inl rfl) mj_pd9 mj_ds9 (Or.inl rfl))
   (mj_ac (mj_e_gf "Uncomputery$Circuit" (rfl : mj_cls[9]? = some mj_K9) (by decide) mj_u9 (Or.inl (mj_w2 43 rfl rfl)) (Or.inl rfl))
   (mj_ac (mj_e_gf "Uncomputery$Circuit" (rfl : mj_cls[9]? = some mj_K9) (by decide) mj_u9 (Or.inl (mj_w2 46 rfl rfl)) (Or.inl rfl))
   mj_an)))))))
theorem mj_ok213 : mj_okRow mj_Tw mj_Mm mj_r213 := ⟨by decide +kernel, by decide +kernel, (mj_w1 10 rfl rfl), by decide, Or.inl ⟨mj_cd213, rfl, rfl⟩, mj_wlE (by decide +kernel) mj_wl213⟩
theorem mj_wl214 : ∀ x ∈ ([(4, .invokevirtual 113, 215, 2, 1)] : List (Nat × mj_E)), mj_okW mj_Tw mj_Mm mj_m214 x.1 x.2 :=
  (mj_ac (mj_e_vi mj_M215 mj_nm215 mj_np215 (mj_w6 76 rfl rfl) (rfl : mj_cls[0]? = some mj_K0) (mj_w6 77 rfl rfl) (mj_w6 75 rfl rfl) mj_cd215)
   mj_an)
theorem mj_ok214 : mj_okRow mj_Tw mj_Mm mj_r214 := ⟨by decide +kernel, by decide +kernel, (mj_w1 0 rfl rfl), by decide, Or.inr ⟨mj_cd214, ⟨⟨rfl, rfl, rfl, by decide, mj_K13, rfl, (mj_w4 154 rfl rfl), (mj_w4 161 rfl rfl)⟩, trivial⟩⟩, mj_wlE (by decide +kernel) mj_wl214⟩
theorem mj_wl215 : ∀ x ∈ ([(1, .invokestatic 297, 63, 1, 0), (7, .new 121, 13, 0, 1), (19, .getfield 61, 9, 0, 0), (23, .invokevirtual 302, 38, 2, 10)] : List (Nat × mj_E)), mj_okW mj_Tw mj_Mm mj_m215 x.1 x.2 :=
  (mj_ac (mj_e_st mj_M63 mj_nm63 mj_np63 (mj_w3 81 rfl rfl) (mj_w1 1 rfl rfl) mj_cd63 (mj_w3 80 rfl rfl))
   (mj_ac (mj_e_th 300 125 mj_tc13 rfl (mj_w4 159 rfl rfl) (text := "values are 0 to 7") (by decide +kernel) (mj_w4 169 rfl rfl) (by decide +kernel) (Or.inr ⟨by decide +kernel, by decide +kernel, by decide +kernel⟩))
   (mj_ac (mj_e_gf "Uncomputery" (rfl : mj_cls[0]? = some mj_K0) (by decide) mj_u0 (Or.inl (mj_w2 68 rfl rfl)) (Or.inl rfl))
   (mj_ac (mj_e_vi mj_M38 mj_nm38 mj_np38 (mj_w2 217 rfl rfl) (rfl : mj_cls[9]? = some mj_K9) (mj_w2 218 rfl rfl) (mj_w4 15 rfl rfl) mj_cd38)
   mj_an))))
theorem mj_ok215 : mj_okRow mj_Tw mj_Mm mj_r215 := ⟨by decide +kernel, by decide +kernel, (mj_w1 1 rfl rfl), by decide, Or.inl ⟨mj_cd215, rfl, rfl⟩, mj_wlE (by decide +kernel) mj_wl215⟩
theorem mj_wl216 : ∀ x ∈ ([(4, .invokevirtual 116, 217, 2, 1)] : List (Nat × mj_E)), mj_okW mj_Tw mj_Mm mj_m216 x.1 x.2 :=
  (mj_ac (mj_e_vi mj_M217 mj_nm217 mj_np217 (mj_w6 84 rfl rfl) (rfl : mj_cls[0]? = some mj_K0) (mj_w6 85 rfl rfl) (mj_w6 83 rfl rfl) mj_cd217)
   mj_an)
theorem mj_ok216 : mj_okRow mj_Tw mj_Mm mj_r216 := ⟨by decide +kernel, by decide +kernel, (mj_w1 0 rfl rfl), by decide, Or.inr ⟨mj_cd216, ⟨⟨rfl, rfl, rfl, by decide, mj_K13, rfl, (mj_w4 154 rfl rfl), (mj_w4 161 rfl rfl)⟩, trivial⟩⟩, mj_wlE (by decide +kernel) mj_wl216⟩
theorem mj_wl217 : ∀ x ∈ ([(1, .invokestatic 297, 63, 1, 0), (7, .new 121, 13, 0, 1), (19, .getfield 61, 9, 0, 0), (23, .invokevirtual 305, 107, 2, 10)] : List (Nat × mj_E)), mj_okW mj_Tw mj_Mm mj_m217 x.1 x.2 :=
  (mj_ac (mj_e_st mj_M63 mj_nm63 mj_np63 (mj_w3 81 rfl rfl) (mj_w1 1 rfl rfl) mj_cd63 (mj_w3 80 rfl rfl))
   (mj_ac (mj_e_th 300 125 mj_tc13 rfl (mj_w4 159 rfl rfl) (text := "values are 0 to 7") (by decide +kernel) (mj_w4 169 rfl rfl) (by decide +kernel) (Or.inr ⟨by decide +kernel, by decide +kernel, by decide +kernel⟩))
   (mj_ac (mj_e_gf "Uncomputery" (rfl : mj_cls[0]? = some mj_K0) (by decide) mj_u0 (Or.inl (mj_w2 68 rfl rfl)) (Or.inl rfl))
   (mj_ac (mj_e_vi mj_M107 mj_nm107 mj_np107 (mj_w4 17 rfl rfl) (rfl : mj_cls[9]? = some mj_K9) (mj_w4 18 rfl rfl) (mj_w4 16 rfl rfl) mj_cd107)
   mj_an))))
theorem mj_ok217 : mj_okRow mj_Tw mj_Mm mj_r217 := ⟨by decide +kernel, by decide +kernel, (mj_w1 1 rfl rfl), by decide, Or.inl ⟨mj_cd217, rfl, rfl⟩, mj_wlE (by decide +kernel) mj_wl217⟩
theorem mj_wl218 : ∀ x ∈ ([(4, .invokevirtual 119, 219, 2, 1)] : List (Nat × mj_E)), mj_okW mj_Tw mj_Mm mj_m218 x.1 x.2 :=
  (mj_ac (mj_e_vi mj_M219 mj_nm219 mj_np219 (mj_w6 91 rfl rfl) (rfl : mj_cls[0]? = some mj_K0) (mj_w6 92 rfl rfl) (mj_w6 90 rfl rfl) mj_cd219)
   mj_an)
theorem mj_ok218 : mj_okRow mj_Tw mj_Mm mj_r218 := ⟨by decide +kernel, by decide +kernel, (mj_w1 0 rfl rfl), by decide, Or.inr ⟨mj_cd218, ⟨⟨rfl, rfl, rfl, by decide, mj_K14, rfl, (mj_w4 196 rfl rfl), (mj_w4 207 rfl rfl)⟩, trivial⟩⟩, mj_wlE (by decide +kernel) mj_wl218⟩
theorem mj_wl219 : ∀ x ∈ ([(1, .getfield 61, 9, 0, 0), (4, .invokevirtual 314, 36, 1, 10), (17, .new 144, 14, 0, 1), (29, .getfield 61, 9, 0, 0), (33, .invokevirtual 319, 109, 2, 10)] : List (Nat × mj_E)), mj_okW mj_Tw mj_Mm mj_m219 x.1 x.2 :=
  (mj_ac (mj_e_gf "Uncomputery" (rfl : mj_cls[0]? = some mj_K0) (by decide) mj_u0 (Or.inl (mj_w2 68 rfl rfl)) (Or.inl rfl))
   (mj_ac (mj_e_vi mj_M36 mj_nm36 mj_np36 (mj_w2 209 rfl rfl) (rfl : mj_cls[9]? = some mj_K9) (mj_w2 210 rfl rfl) (mj_w2 208 rfl rfl) mj_cd36)
   (mj_ac (mj_e_th 317 148 mj_tc14 rfl (mj_w4 205 rfl rfl) (text := "no such gate") (by decide +kernel) (mj_w4 215 rfl rfl) (by decide +kernel) (Or.inr ⟨by decide +kernel, by decide +kernel, by decide +kernel⟩))
   (mj_ac (mj_e_gf "Uncomputery" (rfl : mj_cls[0]? = some mj_K0) (by decide) mj_u0 (Or.inl (mj_w2 68 rfl rfl)) (Or.inl rfl))
   (mj_ac (mj_e_vi mj_M109 mj_nm109 mj_np109 (mj_w4 25 rfl rfl) (rfl : mj_cls[9]? = some mj_K9) (mj_w4 26 rfl rfl) (mj_w6 95 rfl rfl) mj_cd109)
   mj_an)))))
theorem mj_ok219 : mj_okRow mj_Tw mj_Mm mj_r219 := ⟨by decide +kernel, by decide +kernel, (mj_w1 1 rfl rfl), by decide, Or.inl ⟨mj_cd219, rfl, rfl⟩, mj_wlE (by decide +kernel) mj_wl219⟩
theorem mj_wl220 : ∀ x ∈ ([(5, .invokevirtual 122, 221, 3, 1)] : List (Nat × mj_E)), mj_okW mj_Tw mj_Mm mj_m220 x.1 x.2 :=
  (mj_ac (mj_e_vi mj_M221 mj_nm221 mj_np221 (mj_w6 100 rfl rfl) (rfl : mj_cls[0]? = some mj_K0) (mj_w6 101 rfl rfl) (mj_w6 99 rfl rfl) mj_cd221)
   mj_an)
theorem mj_ok220 : mj_okRow mj_Tw mj_Mm mj_r220 := ⟨by decide +kernel, by decide +kernel, (mj_w1 0 rfl rfl), by decide, Or.inr ⟨mj_cd220, ⟨⟨rfl, rfl, rfl, by decide, mj_K13, rfl, (mj_w4 154 rfl rfl), (mj_w4 161 rfl rfl)⟩, trivial⟩⟩, mj_wlE (by decide +kernel) mj_wl220⟩
theorem mj_wl221 : ∀ x ∈ ([(1, .invokestatic 297, 63, 1, 0), (8, .invokestatic 297, 63, 1, 0), (14, .new 121, 13, 0, 1), (26, .getfield 65, 12, 0, 0), (33, .getfield 65, 12, 0, 0)] : List (Nat × mj_E)), mj_okW mj_Tw mj_Mm mj_m221 x.1 x.2 :=
  (mj_ac (mj_e_st mj_M63 mj_nm63 mj_np63 (mj_w3 81 rfl rfl) (mj_w1 1 rfl rfl) mj_cd63 (mj_w3 80 rfl rfl))
   (mj_ac (mj_e_st mj_M63 mj_nm63 mj_np63 (mj_w3 81 rfl rfl) (mj_w1 1 rfl rfl) mj_cd63 (mj_w3 80 rfl rfl))
   (mj_ac (mj_e_th 300 125 mj_tc13 rfl (mj_w4 159 rfl rfl) (text := "values are 0 to 7") (by decide +kernel) (mj_w4 169 rfl rfl) (by decide +kernel) (Or.inr ⟨by decide +kernel, by decide +kernel, by decide +kernel⟩))
   (mj_ac (mj_e_gf "Uncomputery" (rfl : mj_cls[0]? = some mj_K0) (by decide) mj_u0 (Or.inl (mj_w2 71 rfl rfl)) (Or.inl rfl))
   (mj_ac (mj_e_gf "Uncomputery" (rfl : mj_cls[0]? = some mj_K0) (by decide) mj_u0 (Or.inl (mj_w2 71 rfl rfl)) (Or.inl rfl))
   mj_an)))))
theorem mj_ok221 : mj_okRow mj_Tw mj_Mm mj_r221 := ⟨by decide +kernel, by decide +kernel, (mj_w1 1 rfl rfl), by decide, Or.inl ⟨mj_cd221, rfl, rfl⟩, mj_wlE (by decide +kernel) mj_wl221⟩
theorem mj_wl222 : ∀ x ∈ ([(5, .invokevirtual 125, 223, 3, 1)] : List (Nat × mj_E)), mj_okW mj_Tw mj_Mm mj_m222 x.1 x.2 :=
  (mj_ac (mj_e_vi mj_M223 mj_nm223 mj_np223 (mj_w6 107 rfl rfl) (rfl : mj_cls[0]? = some mj_K0) (mj_w6 108 rfl rfl) (mj_w6 106 rfl rfl) mj_cd223)
   mj_an)
theorem mj_ok222 : mj_okRow mj_Tw mj_Mm mj_r222 := ⟨by decide +kernel, by decide +kernel, (mj_w1 0 rfl rfl), by decide, Or.inr ⟨mj_cd222, ⟨⟨rfl, rfl, rfl, by decide, mj_K13, rfl, (mj_w4 154 rfl rfl), (mj_w4 161 rfl rfl)⟩, ⟨⟨rfl, rfl, rfl, by decide, mj_K12, rfl, (mj_w4 115 rfl rfl), (mj_w4 122 rfl rfl)⟩, trivial⟩⟩⟩, mj_wlE (by decide +kernel) mj_wl222⟩
theorem mj_wl223 : ∀ x ∈ ([(22, .new 121, 13, 0, 1), (36, .invokevirtual 350, 224, 3, 1), (44, .new 109, 12, 0, 1)] : List (Nat × mj_E)), mj_okW mj_Tw mj_Mm mj_m223 x.1 x.2 :=
  (mj_ac (mj_e_th 348 125 mj_tc13 rfl (mj_w4 159 rfl rfl) (text := "1 to 10 places and pebbles") (by decide +kernel) (mj_w4 169 rfl rfl) (by decide +kernel) (Or.inr ⟨by decide +kernel, by decide +kernel, by decide +kernel⟩))
   (mj_ac (mj_e_vi mj_M224 mj_nm224 mj_np224 (mj_w6 113 rfl rfl) (rfl : mj_cls[0]? = some mj_K0) (mj_wp 42 rfl rfl) (mj_w6 111 rfl rfl) mj_cd224)
   (mj_ac (mj_e_th 353 113 mj_tc12 rfl (mj_w4 120 rfl rfl) (text := "it cannot be done") (by decide +kernel) (mj_w4 130 rfl rfl) (by decide +kernel) (Or.inr ⟨by decide +kernel, by decide +kernel, by decide +kernel⟩))
   mj_an)))
theorem mj_ok223 : mj_okRow mj_Tw mj_Mm mj_r223 := ⟨by decide +kernel, by decide +kernel, (mj_w1 1 rfl rfl), by decide, Or.inl ⟨mj_cd223, rfl, rfl⟩, mj_wlE (by decide +kernel) mj_wl223⟩
theorem mj_wl224 : ∀ x ∈ ([(1, .getfield 381, 11, 0, 0), (8, .new 385, 16, 0, 0), (12, .invokespecial 387, 225, 1, 17), (15, .putfield 381, 11, 0, 0), (19, .getfield 381, 11, 0, 0), (24, .invokevirtual 388, 226, 3, 17)] : List (Nat × mj_E)), mj_okW mj_Tw mj_Mm mj_m224 x.1 x.2 :=
  (mj_ac (mj_e_gf "Uncomputery" (rfl : mj_cls[0]? = some mj_K0) (by decide) mj_u0 (Or.inl (mj_w2 70 rfl rfl)) (Or.inl rfl))
   (mj_ac (mj_e_new mj_nw16 (mj_w6 115 rfl rfl))
   (mj_ac (mj_e_inN "Uncomputery" mj_M225 mj_nm225 mj_np225 (mj_w6 118 rfl rfl) mj_cd225 rfl rfl (mj_w6 117 rfl rfl))
   (mj_ac (mj_e_pf "Uncomputery" (rfl : mj_cls[0]? = some mj_K0) (by decide) mj_u0 (Or.inl (mj_w2 70 rfl rfl)) (Or.inl rfl) mj_pd0 mj_ds0 (Or.inl rfl))
   (mj_ac (mj_e_gf "Uncomputery" (rfl : mj_cls[0]? = some mj_K0) (by decide) mj_u0 (Or.inl (mj_w2 70 rfl rfl)) (Or.inl rfl))
   (mj_ac (mj_e_vi mj_M226 mj_nm226 mj_np226 (mj_w6 132 rfl rfl) (rfl : mj_cls[16]? = some mj_K16) (mj_w6 133 rfl rfl) (mj_w6 131 rfl rfl) mj_cd226)
   mj_an))))))
theorem mj_ok224 : mj_okRow mj_Tw mj_Mm mj_r224 := ⟨by decide +kernel, by decide +kernel, (mj_w1 1 rfl rfl), by decide, Or.inl ⟨mj_cd224, rfl, rfl⟩, mj_wlE (by decide +kernel) mj_wl224⟩
theorem mj_wl225 : ∀ x ∈ ([(1, .invokespecial 3, 9003, 1, 0), (8, .newarray .int, 0, 0, 0), (10, .putfield 11, 0, 16, 0), (17, .newarray .int, 0, 0, 0), (19, .putfield 15, 1, 16, 0)] : List (Nat × mj_E)), mj_okW mj_Tw mj_Mm mj_m225 x.1 x.2 :=
  (mj_ac (mj_e_ob (mj_w6 120 rfl rfl) (mj_w1 54 rfl rfl) (mj_w1 55 rfl rfl))
   (mj_ac (mj_e_na rfl (by decide) (mj_w1 224 rfl rfl))
   (mj_ac (mj_e_pf "Uncomputery$PebbleLine" (rfl : mj_cls[16]? = some mj_K16) (by decide) mj_u16 (Or.inl (mj_w6 121 rfl rfl)) (Or.inl rfl) mj_pd16 mj_ds16 (Or.inr ⟨rfl, rfl, rfl, (mj_w6 121 rfl rfl)⟩))
   (mj_ac (mj_e_na rfl (by decide) (mj_w1 224 rfl rfl))
   (mj_ac (mj_e_pf "Uncomputery$PebbleLine" (rfl : mj_cls[16]? = some mj_K16) (by decide) mj_u16 (Or.inl (mj_w6 122 rfl rfl)) (Or.inl rfl) mj_pd16 mj_ds16 (Or.inr ⟨rfl, rfl, rfl, (mj_w6 122 rfl rfl)⟩))
   mj_an)))))
theorem mj_ok225 : mj_okRow mj_Tw mj_Mm mj_r225 := ⟨by decide +kernel, by decide +kernel, (mj_w1 47 rfl rfl), by decide, Or.inl ⟨mj_cd225, rfl, rfl⟩, mj_wlE (by decide +kernel) mj_wl225⟩
theorem mj_wl226 : ∀ x ∈ ([(1, .getfield 11, 0, 16, 0), (5, .invokestatic 18, 62, 2, 0), (10, .putfield 24, 2, 16, 0), (16, .invokevirtual 28, 227, 3, 17), (23, .getfield 24, 2, 16, 0), (31, .getfield 15, 1, 16, 0), (39, .getfield 15, 1, 16, 0), (68, .invokestatic 32, 228, 2, 0), (76, .invokestatic 36, 198, 1, 0), (89, .invokevirtual 42, 229, 2, 17), (94, .invokevirtual 28, 227, 3, 17), (115, .invokevirtual 42, 229, 2, 17)] : List (Nat × mj_E)), mj_okW mj_Tw mj_Mm mj_m226 x.1 x.2 :=
  (mj_ac (mj_e_gf "Uncomputery$PebbleLine" (rfl : mj_cls[16]? = some mj_K16) (by decide) mj_u16 (Or.inl (mj_w6 121 rfl rfl)) (Or.inl rfl))
   (mj_ac (mj_e_st mj_M62 mj_nm62 mj_np62 (mj_w3 78 rfl rfl) (mj_w1 26 rfl rfl) mj_cd62 (mj_w6 135 rfl rfl))
   (mj_ac (mj_e_pf "Uncomputery$PebbleLine" (rfl : mj_cls[16]? = some mj_K16) (by decide) mj_u16 (Or.inl (mj_w6 123 rfl rfl)) (Or.inl rfl) mj_pd16 mj_ds16 (Or.inl rfl))
   (mj_ac (mj_e_vi mj_M227 mj_nm227 mj_np227 (mj_w6 138 rfl rfl) (rfl : mj_cls[16]? = some mj_K16) (mj_wp 43 rfl rfl) (mj_w6 136 rfl rfl) mj_cd227)
   (mj_ac (mj_e_gf "Uncomputery$PebbleLine" (rfl : mj_cls[16]? = some mj_K16) (by decide) mj_u16 (Or.inl (mj_w6 123 rfl rfl)) (Or.inl rfl))
   (mj_ac (mj_e_gf "Uncomputery$PebbleLine" (rfl : mj_cls[16]? = some mj_K16) (by decide) mj_u16 (Or.inl (mj_w6 122 rfl rfl)) (Or.inl rfl))
   (mj_ac (mj_e_gf "Uncomputery$PebbleLine" (rfl : mj_cls[16]? = some mj_K16) (by decide) mj_u16 (Or.inl (mj_w6 122 rfl rfl)) (Or.inl rfl))
   (mj_ac (mj_e_st mj_M228 mj_nm228 mj_np228 (mj_w6 141 rfl rfl) (mj_w1 47 rfl rfl) mj_cd228 (mj_w6 140 rfl rfl))
   (mj_ac (mj_e_st mj_M198 mj_nm198 mj_np198 (mj_w6 8 rfl rfl) (mj_w1 32 rfl rfl) mj_cd198 (mj_w6 143 rfl rfl))
   (mj_ac (mj_e_vi mj_M229 mj_nm229 mj_np229 (mj_w6 146 rfl rfl) (rfl : mj_cls[16]? = some mj_K16) (mj_wp 44 rfl rfl) (mj_w6 144 rfl rfl) mj_cd229)
   (mj_ac (mj_e_vi mj_M227 mj_nm227 mj_np227 (mj_w6 138 rfl rfl) (rfl : mj_cls[16]? = some mj_K16) (mj_wp 43 rfl rfl) (mj_w6 136 rfl rfl) mj_cd227)
   (mj_ac (mj_e_vi mj_M229 mj_nm229 mj_np229 (mj_w6 146 rfl rfl) (rfl : mj_cls[16]? = some mj_K16) (mj_wp 44 rfl rfl) (mj_w6 144 rfl rfl) mj_cd229)
   mj_an))))))))))))
theorem mj_ok226 : mj_okRow mj_Tw mj_Mm mj_r226 := ⟨by decide +kernel, by decide +kernel, (mj_w1 47 rfl rfl), by decide, Or.inl ⟨mj_cd226, rfl, rfl⟩, mj_wlE (by decide +kernel) mj_wl226⟩
theorem mj_wl227 : ∀ x ∈ ([(6, .getfield 11, 0, 16, 0), (14, .getfield 11, 0, 16, 0), (24, .getfield 11, 0, 16, 0), (31, .getfield 24, 2, 16, 0), (38, .getfield 24, 2, 16, 0), (42, .getfield 15, 1, 16, 0), (50, .getfield 15, 1, 16, 0), (54, .getfield 24, 2, 16, 0), (61, .getfield 24, 2, 16, 0), (66, .putfield 24, 2, 16, 0)] : List (Nat × mj_E)), mj_okW mj_Tw mj_Mm mj_m227 x.1 x.2 :=
  (mj_ac (mj_e_gf "Uncomputery$PebbleLine" (rfl : mj_cls[16]? = some mj_K16) (by decide) mj_u16 (Or.inl (mj_w6 121 rfl rfl)) (Or.inl rfl))
   (mj_ac (mj_e_gf "Uncomputery$PebbleLine" (rfl : mj_cls[16]? = some mj_K16) (by decide) mj_u16 (Or.inl (mj_w6 121 rfl rfl)) (Or.inl rfl))
   (mj_ac (mj_e_gf "Uncomputery$PebbleLine" (rfl : mj_cls[16]? = some mj_K16) (by decide) mj_u16 (Or.inl (mj_w6 121 rfl rfl)) (Or.inl rfl))
   (mj_ac (mj_e_gf "Uncomputery$PebbleLine" (rfl : mj_cls[16]? = some mj_K16) (by decide) mj_u16 (Or.inl (mj_w6 123 rfl rfl)) (Or.inl rfl))
   (mj_ac (mj_e_gf "Uncomputery$PebbleLine" (rfl : mj_cls[16]? = some mj_K16) (by decide) mj_u16 (Or.inl (mj_w6 123 rfl rfl)) (Or.inl rfl))
   (mj_ac (mj_e_gf "Uncomputery$PebbleLine" (rfl : mj_cls[16]? = some mj_K16) (by decide) mj_u16 (Or.inl (mj_w6 122 rfl rfl)) (Or.inl rfl))
   (mj_ac (mj_e_gf "Uncomputery$PebbleLine" (rfl : mj_cls[16]? = some mj_K16) (by decide) mj_u16 (Or.inl (mj_w6 122 rfl rfl)) (Or.inl rfl))
   (mj_ac (mj_e_gf "Uncomputery$PebbleLine" (rfl : mj_cls[16]? = some mj_K16) (by decide) mj_u16 (Or.inl (mj_w6 123 rfl rfl)) (Or.inl rfl))
   (mj_ac (mj_e_gf "Uncomputery$PebbleLine" (rfl : mj_cls[16]? = some mj_K16) (by decide) mj_u16 (Or.inl (mj_w6 123 rfl rfl)) (Or.inl rfl))
   (mj_ac (mj_e_pf "Uncomputery$PebbleLine" (rfl : mj_cls[16]? = some mj_K16) (by decide) mj_u16 (Or.inl (mj_w6 123 rfl rfl)) (Or.inl rfl) mj_pd16 mj_ds16 (Or.inl rfl))
   mj_an))))))))))
theorem mj_ok227 : mj_okRow mj_Tw mj_Mm mj_r227 := ⟨by decide +kernel, by decide +kernel, (mj_w1 47 rfl rfl), by decide, Or.inl ⟨mj_cd227, rfl, rfl⟩, mj_wlE (by decide +kernel) mj_wl227⟩
theorem mj_wl228 : ∀ x ∈ ([] : List (Nat × mj_E)), mj_okW mj_Tw mj_Mm mj_m228 x.1 x.2 :=
  mj_an
theorem mj_ok228 : mj_okRow mj_Tw mj_Mm mj_r228 := ⟨by decide +kernel, by decide +kernel, (mj_w1 47 rfl rfl), by decide, Or.inl ⟨mj_cd228, rfl, rfl⟩, mj_wlE (by decide +kernel) mj_wl228⟩
theorem mj_wl229 : ∀ x ∈ ([(6, .getfield 11, 0, 16, 0), (14, .getfield 11, 0, 16, 0)] : List (Nat × mj_E)), mj_okW mj_Tw mj_Mm mj_m229 x.1 x.2 :=
  (mj_ac (mj_e_gf "Uncomputery$PebbleLine" (rfl : mj_cls[16]? = some mj_K16) (by decide) mj_u16 (Or.inl (mj_w6 121 rfl rfl)) (Or.inl rfl))
   (mj_ac (mj_e_gf "Uncomputery$PebbleLine" (rfl : mj_cls[16]? = some mj_K16) (by decide) mj_u16 (Or.inl (mj_w6 121 rfl rfl)) (Or.inl rfl))
   mj_an))
theorem mj_ok229 : mj_okRow mj_Tw mj_Mm mj_r229 := ⟨by decide +kernel, by decide +kernel, (mj_w1 47 rfl rfl), by decide, Or.inl ⟨mj_cd229, rfl, rfl⟩, mj_wlE (by decide +kernel) mj_wl229⟩
theorem mj_wl230 : ∀ x ∈ ([(4, .invokevirtual 128, 231, 2, 1)] : List (Nat × mj_E)), mj_okW mj_Tw mj_Mm mj_m230 x.1 x.2 :=
  (mj_ac (mj_e_vi mj_M231 mj_nm231 mj_np231 (mj_w6 153 rfl rfl) (rfl : mj_cls[0]? = some mj_K0) (mj_w6 154 rfl rfl) (mj_w6 152 rfl rfl) mj_cd231)
   mj_an)
theorem mj_ok230 : mj_okRow mj_Tw mj_Mm mj_r230 := ⟨by decide +kernel, by decide +kernel, (mj_w1 0 rfl rfl), by decide, Or.inr ⟨mj_cd230, ⟨⟨rfl, rfl, rfl, by decide, mj_K13, rfl, (mj_w4 154 rfl rfl), (mj_w4 161 rfl rfl)⟩, trivial⟩⟩, mj_wlE (by decide +kernel) mj_wl230⟩
theorem mj_wl231 : ∀ x ∈ ([(11, .new 121, 13, 0, 1), (32, .invokevirtual 350, 224, 3, 1)] : List (Nat × mj_E)), mj_okW mj_Tw mj_Mm mj_m231 x.1 x.2 :=
  (mj_ac (mj_e_th 355 125 mj_tc13 rfl (mj_w4 159 rfl rfl) (text := "1 to 10 places") (by decide +kernel) (mj_w4 169 rfl rfl) (by decide +kernel) (Or.inr ⟨by decide +kernel, by decide +kernel, by decide +kernel⟩))
   (mj_ac (mj_e_vi mj_M224 mj_nm224 mj_np224 (mj_w6 113 rfl rfl) (rfl : mj_cls[0]? = some mj_K0) (mj_wp 42 rfl rfl) (mj_w6 111 rfl rfl) mj_cd224)
   mj_an))
theorem mj_ok231 : mj_okRow mj_Tw mj_Mm mj_r231 := ⟨by decide +kernel, by decide +kernel, (mj_w1 1 rfl rfl), by decide, Or.inl ⟨mj_cd231, rfl, rfl⟩, mj_wlE (by decide +kernel) mj_wl231⟩
theorem mj_wl232 : ∀ x ∈ ([(3, .invokevirtual 131, 233, 1, 1)] : List (Nat × mj_E)), mj_okW mj_Tw mj_Mm mj_m232 x.1 x.2 :=
  (mj_ac (mj_e_vi mj_M233 mj_nm233 mj_np233 (mj_w6 161 rfl rfl) (rfl : mj_cls[0]? = some mj_K0) (mj_w6 162 rfl rfl) (mj_w6 160 rfl rfl) mj_cd233)
   mj_an)
theorem mj_ok232 : mj_okRow mj_Tw mj_Mm mj_r232 := ⟨by decide +kernel, by decide +kernel, (mj_w1 0 rfl rfl), by decide, Or.inr ⟨mj_cd232, ⟨⟨rfl, rfl, rfl, by decide, mj_K12, rfl, (mj_w4 115 rfl rfl), (mj_w4 122 rfl rfl)⟩, trivial⟩⟩, mj_wlE (by decide +kernel) mj_wl232⟩
theorem mj_wl233 : ∀ x ∈ ([(1, .getfield 19, 1, 0, 0), (4, .invokevirtual 357, 66, 1, 7), (13, .new 109, 12, 0, 1), (35, .getfield 19, 1, 0, 0), (39, .invokevirtual 149, 20, 2, 7), (42, .invokevirtual 168, 21, 1, 4)] : List (Nat × mj_E)), mj_okW mj_Tw mj_Mm mj_m233 x.1 x.2 :=
  (mj_ac (mj_e_gf "Uncomputery" (rfl : mj_cls[0]? = some mj_K0) (by decide) mj_u0 (Or.inl (mj_w2 60 rfl rfl)) (Or.inl rfl))
   (mj_ac (mj_e_vi mj_M66 mj_nm66 mj_np66 (mj_w3 94 rfl rfl) (rfl : mj_cls[6]? = some mj_K6) (mj_w3 95 rfl rfl) (mj_w3 93 rfl rfl) mj_cd66)
   (mj_ac (mj_e_th 366 113 mj_tc12 rfl (mj_w4 120 rfl rfl) (text := "there are no procedures") (by decide +kernel) (mj_w4 130 rfl rfl) (by decide +kernel) (Or.inr ⟨by decide +kernel, by decide +kernel, by decide +kernel⟩))
   (mj_ac (mj_e_gf "Uncomputery" (rfl : mj_cls[0]? = some mj_K0) (by decide) mj_u0 (Or.inl (mj_w2 60 rfl rfl)) (Or.inl rfl))
   (mj_ac (mj_e_vi mj_M20 mj_nm20 mj_np20 (mj_w2 148 rfl rfl) (rfl : mj_cls[6]? = some mj_K6) (mj_w2 149 rfl rfl) (mj_w3 116 rfl rfl) mj_cd20)
   (mj_ac (mj_e_vi mj_M21 mj_nm21 mj_np21 (mj_w2 152 rfl rfl) (rfl : mj_cls[3]? = some mj_K3) (mj_w2 153 rfl rfl) (mj_w4 2 rfl rfl) mj_cd21)
   mj_an))))))
theorem mj_ok233 : mj_okRow mj_Tw mj_Mm mj_r233 := ⟨by decide +kernel, by decide +kernel, (mj_w1 1 rfl rfl), by decide, Or.inl ⟨mj_cd233, rfl, rfl⟩, mj_wlE (by decide +kernel) mj_wl233⟩
theorem mj_wl234 : ∀ x ∈ ([(1, .invokespecial 1, 9003, 1, 0), (5, .new 7, 18, 0, 0), (9, .invokespecial 9, 235, 1, 19), (12, .putfield 10, 1, 17, 0), (16, .new 16, 19, 0, 0), (21, .invokespecial 18, 238, 2, 20), (24, .putfield 21, 2, 17, 0), (28, .ldc 25, 1, 300, 0), (30, .putfield 27, 3, 17, 0), (34, .new 7, 18, 0, 0), (38, .invokespecial 9, 235, 1, 19), (41, .putfield 31, 6, 17, 0), (47, .newarray .int, 0, 0, 0), (49, .putfield 34, 10, 17, 0)] : List (Nat × mj_E)), mj_okW mj_Tw mj_Mm mj_m234 x.1 x.2 :=
  (mj_ac (mj_e_ob (mj_w6 170 rfl rfl) (mj_w1 54 rfl rfl) (mj_w1 55 rfl rfl))
   (mj_ac (mj_e_new mj_nw18 (mj_w6 171 rfl rfl))
   (mj_ac (mj_e_in mj_M235 mj_nm235 mj_np235 (mj_w6 174 rfl rfl) mj_cd235 rfl rfl (mj_w6 173 rfl rfl))
   (mj_ac (mj_e_pf "UncomputeryModel" (rfl : mj_cls[17]? = some mj_K17) (by decide) mj_u17 (Or.inl (mj_w7 12 rfl rfl)) (Or.inl rfl) mj_pd17 mj_ds17 (Or.inr ⟨rfl, rfl, rfl, (mj_w7 12 rfl rfl)⟩))
   (mj_ac (mj_e_new mj_nw19 (mj_w6 200 rfl rfl))
   (mj_ac (mj_e_inN "UncomputeryModel" mj_M238 mj_nm238 mj_np238 (mj_w6 203 rfl rfl) mj_cd238 rfl rfl (mj_w6 202 rfl rfl))
   (mj_ac (mj_e_pf "UncomputeryModel" (rfl : mj_cls[17]? = some mj_K17) (by decide) mj_u17 (Or.inl (mj_w7 14 rfl rfl)) (Or.inl rfl) mj_pd17 mj_ds17 (Or.inr ⟨rfl, rfl, rfl, (mj_w7 14 rfl rfl)⟩))
   (mj_ac (mj_e_l1 ("UncomputeryModel", 25, 0, "") (by decide +kernel) rfl rfl rfl)
   (mj_ac (mj_e_pf "UncomputeryModel" (rfl : mj_cls[17]? = some mj_K17) (by decide) mj_u17 (Or.inl (mj_w7 15 rfl rfl)) (Or.inl rfl) mj_pd17 mj_ds17 (Or.inl rfl))
   (mj_ac (mj_e_new mj_nw18 (mj_w6 171 rfl rfl))
   (mj_ac (mj_e_in mj_M235 mj_nm235 mj_np235 (mj_w6 174 rfl rfl) mj_cd235 rfl rfl (mj_w6 173 rfl rfl))
   (mj_ac (mj_e_pf "UncomputeryModel" (rfl : mj_cls[17]? = some mj_K17) (by decide) mj_u17 (Or.inl (mj_w7 18 rfl rfl)) (Or.inl rfl) mj_pd17 mj_ds17 (Or.inr ⟨rfl, rfl, rfl, (mj_w7 18 rfl rfl)⟩))
   (mj_ac (mj_e_na rfl (by decide) (mj_w1 224 rfl rfl))
   (mj_ac (mj_e_pf "UncomputeryModel" (rfl : mj_cls[17]? = some mj_K17) (by decide) mj_u17 (Or.inl (mj_w7 22 rfl rfl)) (Or.inl rfl) mj_pd17 mj_ds17 (Or.inr ⟨rfl, rfl, rfl, (mj_w7 22 rfl rfl)⟩))
   mj_an))))))))))))))
theorem mj_ok234 : mj_okRow mj_Tw mj_Mm mj_r234 := ⟨by decide +kernel, by decide +kernel, (mj_w1 11 rfl rfl), by decide, Or.inl ⟨mj_cd234, rfl, rfl⟩, mj_wlE (by decide +kernel) mj_wl234⟩
theorem mj_wl235 : ∀ x ∈ ([(1, .invokespecial 1, 236, 1, 19), (5, .getstatic 39, 0, 0, 0), (8, .putfield 9, 0, 18, 0)] : List (Nat × mj_E)), mj_okW mj_Tw mj_Mm mj_m235 x.1 x.2 :=
  (mj_ac (mj_e_in mj_M236 mj_nm236 mj_np236 (mj_w6 177 rfl rfl) mj_cd236 rfl rfl (mj_w6 176 rfl rfl))
   (mj_ac (mj_e_gs rfl (mj_w6 183 rfl rfl))
   (mj_ac (mj_e_pf "java/util/ArrayList" (rfl : mj_cls[18]? = some mj_K18) (by decide) mj_u18 (Or.inl (mj_w6 185 rfl rfl)) (Or.inl rfl) mj_pd18 mj_ds18 (Or.inl rfl))
   mj_an)))
theorem mj_ok235 : mj_okRow mj_Tw mj_Mm mj_r235 := ⟨by decide +kernel, by decide +kernel, (mj_w1 14 rfl rfl), by decide, Or.inl ⟨mj_cd235, rfl, rfl⟩, mj_wlE (by decide +kernel) mj_wl235⟩
theorem mj_wl236 : ∀ x ∈ ([(1, .invokespecial 1, 237, 1, 19), (6, .putfield 7, 2, 18, 0)] : List (Nat × mj_E)), mj_okW mj_Tw mj_Mm mj_m236 x.1 x.2 :=
  (mj_ac (mj_e_in mj_M237 mj_nm237 mj_np237 (mj_w6 180 rfl rfl) mj_cd237 rfl rfl (mj_w6 179 rfl rfl))
   (mj_ac (mj_e_pf "java/util/AbstractList" (rfl : mj_cls[18]? = some mj_K18) (by decide) mj_u18 (Or.inl (mj_w6 189 rfl rfl)) (Or.inl rfl) mj_pd18 mj_ds18 (Or.inl rfl))
   mj_an))
theorem mj_ok236 : mj_okRow mj_Tw mj_Mm mj_r236 := ⟨by decide +kernel, by decide +kernel, (mj_w1 13 rfl rfl), by decide, Or.inl ⟨mj_cd236, rfl, rfl⟩, mj_wlE (by decide +kernel) mj_wl236⟩
theorem mj_wl237 : ∀ x ∈ ([(1, .invokespecial 1, 9003, 1, 0)] : List (Nat × mj_E)), mj_okW mj_Tw mj_Mm mj_m237 x.1 x.2 :=
  (mj_ac (mj_e_ob (mj_w6 182 rfl rfl) (mj_w1 54 rfl rfl) (mj_w1 55 rfl rfl))
   mj_an)
theorem mj_ok237 : mj_okRow mj_Tw mj_Mm mj_r237 := ⟨by decide +kernel, by decide +kernel, (mj_w1 12 rfl rfl), by decide, Or.inl ⟨mj_cd237, rfl, rfl⟩, mj_wlE (by decide +kernel) mj_wl237⟩
theorem mj_wl238 : ∀ x ∈ ([(2, .putfield 3, 10, 19, 0), (6, .invokespecial 9, 9003, 1, 0), (12, .newarray .int, 0, 0, 0), (14, .putfield 15, 0, 19, 0), (20, .newarray .int, 0, 0, 0), (22, .putfield 19, 1, 19, 0), (28, .newarray .int, 0, 0, 0), (30, .putfield 22, 2, 19, 0), (36, .newarray .int, 0, 0, 0), (38, .putfield 25, 3, 19, 0), (44, .newarray .boolean, 2, 0, 0), (46, .putfield 28, 4, 19, 0), (51, .newarray .char, 3, 0, 0), (53, .putfield 32, 5, 19, 0), (58, .newarray .int, 0, 0, 0), (60, .putfield 36, 6, 19, 0), (65, .putfield 39, 8, 19, 0)] : List (Nat × mj_E)), mj_okW mj_Tw mj_Mm mj_m238 x.1 x.2 :=
  (mj_ac (mj_e_pf "UncomputeryModel$World" (rfl : mj_cls[19]? = some mj_K19) (by decide) mj_u19 (Or.inl (mj_w6 226 rfl rfl)) (Or.inl rfl) mj_pd19 mj_ds19 (Or.inr ⟨rfl, rfl, rfl, (mj_w6 226 rfl rfl)⟩))
   (mj_ac (mj_e_ob (mj_w6 205 rfl rfl) (mj_w1 54 rfl rfl) (mj_w1 55 rfl rfl))
   (mj_ac (mj_e_na rfl (by decide) (mj_w1 224 rfl rfl))
   (mj_ac (mj_e_pf "UncomputeryModel$World" (rfl : mj_cls[19]? = some mj_K19) (by decide) mj_u19 (Or.inl (mj_w6 206 rfl rfl)) (Or.inl rfl) mj_pd19 mj_ds19 (Or.inr ⟨rfl, rfl, rfl, (mj_w6 206 rfl rfl)⟩))
   (mj_ac (mj_e_na rfl (by decide) (mj_w1 224 rfl rfl))
   (mj_ac (mj_e_pf "UncomputeryModel$World" (rfl : mj_cls[19]? = some mj_K19) (by decide) mj_u19 (Or.inl (mj_w6 208 rfl rfl)) (Or.inl rfl) mj_pd19 mj_ds19 (Or.inr ⟨rfl, rfl, rfl, (mj_w6 208 rfl rfl)⟩))
   (mj_ac (mj_e_na rfl (by decide) (mj_w1 224 rfl rfl))
   (mj_ac (mj_e_pf "UncomputeryModel$World" (rfl : mj_cls[19]? = some mj_K19) (by decide) mj_u19 (Or.inl (mj_w6 210 rfl rfl)) (Or.inl rfl) mj_pd19 mj_ds19 (Or.inr ⟨rfl, rfl, rfl, (mj_w6 210 rfl rfl)⟩))
   (mj_ac (mj_e_na rfl (by decide) (mj_w1 224 rfl rfl))
   (mj_ac (mj_e_pf "UncomputeryModel$World" (rfl : mj_cls[19]? = some mj_K19) (by decide) mj_u19 (Or.inl (mj_w6 212 rfl rfl)) (Or.inl rfl) mj_pd19 mj_ds19 (Or.inr ⟨rfl, rfl, rfl, (mj_w6 212 rfl rfl)⟩))
   (mj_ac (mj_e_na rfl (by decide) (mj_w2 36 rfl rfl))
   (mj_ac (mj_e_pf "UncomputeryModel$World" (rfl : mj_cls[19]? = some mj_K19) (by decide) mj_u19 (Or.inl (mj_w6 214 rfl rfl)) (Or.inl rfl) mj_pd19 mj_ds19 (Or.inr ⟨rfl, rfl, rfl, (mj_w6 214 rfl rfl)⟩))
   (mj_ac (mj_e_na rfl (by decide) (mj_w1 77 rfl rfl))
   (mj_ac (mj_e_pf "UncomputeryModel$World" (rfl : mj_cls[19]? = some mj_K19) (by decide) mj_u19 (Or.inl (mj_w6 216 rfl rfl)) (Or.inl rfl) mj_pd19 mj_ds19 (Or.inr ⟨rfl, rfl, rfl, (mj_w6 216 rfl rfl)⟩))
   (mj_ac (mj_e_na rfl (by decide) (mj_w1 224 rfl rfl))
   (mj_ac (mj_e_pf "UncomputeryModel$World" (rfl : mj_cls[19]? = some mj_K19) (by decide) mj_u19 (Or.inl (mj_w6 218 rfl rfl)) (Or.inl rfl) mj_pd19 mj_ds19 (Or.inr ⟨rfl, rfl, rfl, (mj_w6 218 rfl rfl)⟩))
   (mj_ac (mj_e_pf "UncomputeryModel$World" (rfl : mj_cls[19]? = some mj_K19) (by decide) mj_u19 (Or.inl (mj_w6 222 rfl rfl)) (Or.inl rfl) mj_pd19 mj_ds19 (Or.inl rfl))
   mj_an)))))))))))))))))
theorem mj_ok238 : mj_okRow mj_Tw mj_Mm mj_r238 := ⟨by decide +kernel, by decide +kernel, (mj_w1 15 rfl rfl), by decide, Or.inl ⟨mj_cd238, rfl, rfl⟩, mj_wlE (by decide +kernel) mj_wl238⟩
theorem mj_wl239 : ∀ x ∈ ([(1, .getfield 38, 0, 17, 0)] : List (Nat × mj_E)), mj_okW mj_Tw mj_Mm mj_m239 x.1 x.2 :=
  (mj_ac (mj_e_gf "UncomputeryModel" (rfl : mj_cls[17]? = some mj_K17) (by decide) mj_u17 (Or.inl (mj_w7 11 rfl rfl)) (Or.inl rfl))
   mj_an)
theorem mj_ok239 : mj_okRow mj_Tw mj_Mm mj_r239 := ⟨by decide +kernel, by decide +kernel, (mj_w1 11 rfl rfl), by decide, Or.inl ⟨mj_cd239, rfl, rfl⟩, mj_wlE (by decide +kernel) mj_wl239⟩
