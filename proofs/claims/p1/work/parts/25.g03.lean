theorem mj_wl144 : ∀ x ∈ ([(1, .getfield 19, 1, 0, 0), (5, .invokevirtual 140, 134, 2, 7), (11, .new 144, 14, 0, 1), (22, .getfield 19, 1, 0, 0), (26, .invokevirtual 149, 20, 2, 7), (36, .invokevirtual 168, 21, 1, 4), (42, .new 144, 14, 0, 1), (54, .invokevirtual 171, 74, 2, 4), (57, .getfield 175, 0, 4, 0)] : List (Nat × mj_E)), mj_okW mj_Tw mj_Mm mj_m144 x.1 x.2 :=
  (mj_ac (mj_e_gf "Uncomputery" (rfl : mj_cls[0]? = some mj_K0) (by decide) mj_u0 (Or.inl (mj_w2 60 rfl rfl)) (Or.inl rfl))
   (mj_ac (mj_e_vi mj_M134 mj_nm134 mj_np134 (mj_w4 202 rfl rfl) (rfl : mj_cls[6]? = some mj_K6) (mj_w4 203 rfl rfl) (mj_w4 201 rfl rfl) mj_cd134)
   (mj_ac (mj_e_th 146 148 mj_tc14 rfl (mj_w4 205 rfl rfl) (text := "no such procedure") (by decide +kernel) (mj_w4 215 rfl rfl) (by decide +kernel) (Or.inl ⟨by decide +kernel, by decide +kernel, by decide +kernel⟩))
   (mj_ac (mj_e_gf "Uncomputery" (rfl : mj_cls[0]? = some mj_K0) (by decide) mj_u0 (Or.inl (mj_w2 60 rfl rfl)) (Or.inl rfl))
   (mj_ac (mj_e_vi mj_M20 mj_nm20 mj_np20 (mj_w2 148 rfl rfl) (rfl : mj_cls[6]? = some mj_K6) (mj_w2 149 rfl rfl) (mj_w3 116 rfl rfl) mj_cd20)
   (mj_ac (mj_e_vi mj_M21 mj_nm21 mj_np21 (mj_w2 152 rfl rfl) (rfl : mj_cls[3]? = some mj_K3) (mj_w2 153 rfl rfl) (mj_w4 2 rfl rfl) mj_cd21)
   (mj_ac (mj_e_th 169 148 mj_tc14 rfl (mj_w4 205 rfl rfl) (text := "no such instruction") (by decide +kernel) (mj_w4 215 rfl rfl) (by decide +kernel) (Or.inl ⟨by decide +kernel, by decide +kernel, by decide +kernel⟩))
   (mj_ac (mj_e_vi mj_M74 mj_nm74 mj_np74 (mj_w3 130 rfl rfl) (rfl : mj_cls[3]? = some mj_K3) (mj_w3 131 rfl rfl) (mj_w5 17 rfl rfl) mj_cd74)
   (mj_ac (mj_e_gf "Uncomputery$Instruction" (rfl : mj_cls[4]? = some mj_K4) (by decide) mj_u4 (Or.inl (mj_w1 93 rfl rfl)) (Or.inl rfl))
   mj_an)))))))))
theorem mj_ok144 : mj_okRow mj_Tw mj_Mm mj_r144 := ⟨by decide +kernel, by decide +kernel, (mj_w1 1 rfl rfl), by decide, Or.inl ⟨mj_cd144, rfl, rfl⟩, mj_wlE (by decide +kernel) mj_wl144⟩
theorem mj_wl145 : ∀ x ∈ ([(5, .invokevirtual 49, 146, 3, 1)] : List (Nat × mj_E)), mj_okW mj_Tw mj_Mm mj_m145 x.1 x.2 :=
  (mj_ac (mj_e_vi mj_M146 mj_nm146 mj_np146 (mj_w5 22 rfl rfl) (rfl : mj_cls[0]? = some mj_K0) (mj_w5 23 rfl rfl) (mj_w5 21 rfl rfl) mj_cd146)
   mj_an)
theorem mj_ok145 : mj_okRow mj_Tw mj_Mm mj_r145 := ⟨by decide +kernel, by decide +kernel, (mj_w1 0 rfl rfl), by decide, Or.inr ⟨mj_cd145, ⟨⟨rfl, rfl, rfl, by decide, mj_K13, rfl, (mj_w4 154 rfl rfl), (mj_w4 161 rfl rfl)⟩, trivial⟩⟩, mj_wlE (by decide +kernel) mj_wl145⟩
theorem mj_wl146 : ∀ x ∈ ([(1, .invokestatic 180, 86, 1, 0), (7, .new 121, 13, 0, 1), (18, .getfield 39, 5, 0, 0), (25, .invokevirtual 185, 147, 2, 8), (30, .getfield 39, 5, 0, 0), (38, .invokevirtual 188, 148, 3, 8)] : List (Nat × mj_E)), mj_okW mj_Tw mj_Mm mj_m146 x.1 x.2 :=
  (mj_ac (mj_e_st mj_M86 mj_nm86 mj_np86 (mj_w3 175 rfl rfl) (mj_w1 1 rfl rfl) mj_cd86 (mj_w5 25 rfl rfl))
   (mj_ac (mj_e_th 183 125 mj_tc13 rfl (mj_w4 159 rfl rfl) (text := "no such variable") (by decide +kernel) (mj_w4 169 rfl rfl) (by decide +kernel) (Or.inl ⟨by decide +kernel, by decide +kernel, by decide +kernel⟩))
   (mj_ac (mj_e_gf "Uncomputery" (rfl : mj_cls[0]? = some mj_K0) (by decide) mj_u0 (Or.inl (mj_w2 64 rfl rfl)) (Or.inl rfl))
   (mj_ac (mj_e_vi mj_M147 mj_nm147 mj_np147 (mj_w5 28 rfl rfl) (rfl : mj_cls[7]? = some mj_K7) (mj_w5 29 rfl rfl) (mj_w5 27 rfl rfl) mj_cd147)
   (mj_ac (mj_e_gf "Uncomputery" (rfl : mj_cls[0]? = some mj_K0) (by decide) mj_u0 (Or.inl (mj_w2 64 rfl rfl)) (Or.inl rfl))
   (mj_ac (mj_e_vi mj_M148 mj_nm148 mj_np148 (mj_w5 32 rfl rfl) (rfl : mj_cls[7]? = some mj_K7) (mj_w5 33 rfl rfl) (mj_w5 31 rfl rfl) mj_cd148)
   mj_an))))))
theorem mj_ok146 : mj_okRow mj_Tw mj_Mm mj_r146 := ⟨by decide +kernel, by decide +kernel, (mj_w1 1 rfl rfl), by decide, Or.inl ⟨mj_cd146, rfl, rfl⟩, mj_wlE (by decide +kernel) mj_wl146⟩
theorem mj_wl147 : ∀ x ∈ ([(6, .getfield 9, 0, 7, 0), (14, .getfield 9, 0, 7, 0)] : List (Nat × mj_E)), mj_okW mj_Tw mj_Mm mj_m147 x.1 x.2 :=
  (mj_ac (mj_e_gf "Uncomputery$Store" (rfl : mj_cls[7]? = some mj_K7) (by decide) mj_u7 (Or.inl (mj_w1 214 rfl rfl)) (Or.inl rfl))
   (mj_ac (mj_e_gf "Uncomputery$Store" (rfl : mj_cls[7]? = some mj_K7) (by decide) mj_u7 (Or.inl (mj_w1 214 rfl rfl)) (Or.inl rfl))
   mj_an))
theorem mj_ok147 : mj_okRow mj_Tw mj_Mm mj_r147 := ⟨by decide +kernel, by decide +kernel, (mj_w1 8 rfl rfl), by decide, Or.inl ⟨mj_cd147, rfl, rfl⟩, mj_wlE (by decide +kernel) mj_wl147⟩
theorem mj_wl148 : ∀ x ∈ ([(6, .getfield 9, 0, 7, 0), (14, .getfield 9, 0, 7, 0)] : List (Nat × mj_E)), mj_okW mj_Tw mj_Mm mj_m148 x.1 x.2 :=
  (mj_ac (mj_e_gf "Uncomputery$Store" (rfl : mj_cls[7]? = some mj_K7) (by decide) mj_u7 (Or.inl (mj_w1 214 rfl rfl)) (Or.inl rfl))
   (mj_ac (mj_e_gf "Uncomputery$Store" (rfl : mj_cls[7]? = some mj_K7) (by decide) mj_u7 (Or.inl (mj_w1 214 rfl rfl)) (Or.inl rfl))
   mj_an))
theorem mj_ok148 : mj_okRow mj_Tw mj_Mm mj_r148 := ⟨by decide +kernel, by decide +kernel, (mj_w1 8 rfl rfl), by decide, Or.inl ⟨mj_cd148, rfl, rfl⟩, mj_wlE (by decide +kernel) mj_wl148⟩
theorem mj_wl149 : ∀ x ∈ ([(4, .invokevirtual 53, 150, 2, 1)] : List (Nat × mj_E)), mj_okW mj_Tw mj_Mm mj_m149 x.1 x.2 :=
  (mj_ac (mj_e_vi mj_M150 mj_nm150 mj_np150 (mj_w5 39 rfl rfl) (rfl : mj_cls[0]? = some mj_K0) (mj_w5 40 rfl rfl) (mj_w5 38 rfl rfl) mj_cd150)
   mj_an)
theorem mj_ok149 : mj_okRow mj_Tw mj_Mm mj_r149 := ⟨by decide +kernel, by decide +kernel, (mj_w1 0 rfl rfl), by decide, Or.inr ⟨mj_cd149, ⟨⟨rfl, rfl, rfl, by decide, mj_K13, rfl, (mj_w4 154 rfl rfl), (mj_w4 161 rfl rfl)⟩, trivial⟩⟩, mj_wlE (by decide +kernel) mj_wl149⟩
theorem mj_wl150 : ∀ x ∈ ([(1, .invokestatic 180, 86, 1, 0), (7, .new 121, 13, 0, 1), (18, .getfield 39, 5, 0, 0), (25, .invokevirtual 185, 147, 2, 8)] : List (Nat × mj_E)), mj_okW mj_Tw mj_Mm mj_m150 x.1 x.2 :=
  (mj_ac (mj_e_st mj_M86 mj_nm86 mj_np86 (mj_w3 175 rfl rfl) (mj_w1 1 rfl rfl) mj_cd86 (mj_w5 25 rfl rfl))
   (mj_ac (mj_e_th 183 125 mj_tc13 rfl (mj_w4 159 rfl rfl) (text := "no such variable") (by decide +kernel) (mj_w4 169 rfl rfl) (by decide +kernel) (Or.inl ⟨by decide +kernel, by decide +kernel, by decide +kernel⟩))
   (mj_ac (mj_e_gf "Uncomputery" (rfl : mj_cls[0]? = some mj_K0) (by decide) mj_u0 (Or.inl (mj_w2 64 rfl rfl)) (Or.inl rfl))
   (mj_ac (mj_e_vi mj_M147 mj_nm147 mj_np147 (mj_w5 28 rfl rfl) (rfl : mj_cls[7]? = some mj_K7) (mj_w5 29 rfl rfl) (mj_w5 27 rfl rfl) mj_cd147)
   mj_an))))
theorem mj_ok150 : mj_okRow mj_Tw mj_Mm mj_r150 := ⟨by decide +kernel, by decide +kernel, (mj_w1 1 rfl rfl), by decide, Or.inl ⟨mj_cd150, rfl, rfl⟩, mj_wlE (by decide +kernel) mj_wl150⟩
theorem mj_wl151 : ∀ x ∈ ([(4, .invokevirtual 56, 152, 2, 1)] : List (Nat × mj_E)), mj_okW mj_Tw mj_Mm mj_m151 x.1 x.2 :=
  (mj_ac (mj_e_vi mj_M152 mj_nm152 mj_np152 (mj_w5 46 rfl rfl) (rfl : mj_cls[0]? = some mj_K0) (mj_w5 47 rfl rfl) (mj_w5 45 rfl rfl) mj_cd152)
   mj_an)
theorem mj_ok151 : mj_okRow mj_Tw mj_Mm mj_r151 := ⟨by decide +kernel, by decide +kernel, (mj_w1 0 rfl rfl), by decide, Or.inr ⟨mj_cd151, ⟨⟨rfl, rfl, rfl, by decide, mj_K14, rfl, (mj_w4 196 rfl rfl), (mj_w4 207 rfl rfl)⟩, trivial⟩⟩, mj_wlE (by decide +kernel) mj_wl151⟩
theorem mj_wl152 : ∀ x ∈ ([(6, .getfield 39, 5, 0, 0), (9, .invokevirtual 191, 15, 1, 8), (15, .new 144, 14, 0, 1), (26, .getfield 39, 5, 0, 0), (30, .getfield 39, 5, 0, 0), (33, .invokevirtual 191, 15, 1, 8), (40, .invokevirtual 196, 69, 2, 8)] : List (Nat × mj_E)), mj_okW mj_Tw mj_Mm mj_m152 x.1 x.2 :=
  (mj_ac (mj_e_gf "Uncomputery" (rfl : mj_cls[0]? = some mj_K0) (by decide) mj_u0 (Or.inl (mj_w2 64 rfl rfl)) (Or.inl rfl))
   (mj_ac (mj_e_vi mj_M15 mj_nm15 mj_np15 (mj_w2 128 rfl rfl) (rfl : mj_cls[7]? = some mj_K7) (mj_w2 129 rfl rfl) (mj_w2 127 rfl rfl) mj_cd15)
   (mj_ac (mj_e_th 194 148 mj_tc14 rfl (mj_w4 205 rfl rfl) (text := "no such value on the stack") (by decide +kernel) (mj_w4 215 rfl rfl) (by decide +kernel) (Or.inl ⟨by decide +kernel, by decide +kernel, by decide +kernel⟩))
   (mj_ac (mj_e_gf "Uncomputery" (rfl : mj_cls[0]? = some mj_K0) (by decide) mj_u0 (Or.inl (mj_w2 64 rfl rfl)) (Or.inl rfl))
   (mj_ac (mj_e_gf "Uncomputery" (rfl : mj_cls[0]? = some mj_K0) (by decide) mj_u0 (Or.inl (mj_w2 64 rfl rfl)) (Or.inl rfl))
   (mj_ac (mj_e_vi mj_M15 mj_nm15 mj_np15 (mj_w2 128 rfl rfl) (rfl : mj_cls[7]? = some mj_K7) (mj_w2 129 rfl rfl) (mj_w2 127 rfl rfl) mj_cd15)
   (mj_ac (mj_e_vi mj_M69 mj_nm69 mj_np69 (mj_w3 109 rfl rfl) (rfl : mj_cls[7]? = some mj_K7) (mj_w3 110 rfl rfl) (mj_w5 50 rfl rfl) mj_cd69)
   mj_an)))))))
theorem mj_ok152 : mj_okRow mj_Tw mj_Mm mj_r152 := ⟨by decide +kernel, by decide +kernel, (mj_w1 1 rfl rfl), by decide, Or.inl ⟨mj_cd152, rfl, rfl⟩, mj_wlE (by decide +kernel) mj_wl152⟩
theorem mj_wl153 : ∀ x ∈ ([(5, .invokevirtual 59, 154, 3, 1)] : List (Nat × mj_E)), mj_okW mj_Tw mj_Mm mj_m153 x.1 x.2 :=
  (mj_ac (mj_e_vi mj_M154 mj_nm154 mj_np154 (mj_w5 55 rfl rfl) (rfl : mj_cls[0]? = some mj_K0) (mj_w5 56 rfl rfl) (mj_w5 54 rfl rfl) mj_cd154)
   mj_an)
theorem mj_ok153 : mj_okRow mj_Tw mj_Mm mj_r153 := ⟨by decide +kernel, by decide +kernel, (mj_w1 0 rfl rfl), by decide, Or.inr ⟨mj_cd153, ⟨⟨rfl, rfl, rfl, by decide, mj_K14, rfl, (mj_w4 196 rfl rfl), (mj_w4 207 rfl rfl)⟩, trivial⟩⟩, mj_wlE (by decide +kernel) mj_wl153⟩
theorem mj_wl154 : ∀ x ∈ ([(1, .getfield 19, 1, 0, 0), (5, .invokevirtual 140, 134, 2, 7), (11, .new 144, 14, 0, 1), (22, .getfield 51, 7, 0, 0), (27, .invokevirtual 199, 155, 3, 9), (31, .getfield 51, 7, 0, 0), (34, .getfield 203, 10, 8, 0)] : List (Nat × mj_E)), mj_okW mj_Tw mj_Mm mj_m154 x.1 x.2 :=
  (mj_ac (mj_e_gf "Uncomputery" (rfl : mj_cls[0]? = some mj_K0) (by decide) mj_u0 (Or.inl (mj_w2 60 rfl rfl)) (Or.inl rfl))
   (mj_ac (mj_e_vi mj_M134 mj_nm134 mj_np134 (mj_w4 202 rfl rfl) (rfl : mj_cls[6]? = some mj_K6) (mj_w4 203 rfl rfl) (mj_w4 201 rfl rfl) mj_cd134)
   (mj_ac (mj_e_th 146 148 mj_tc14 rfl (mj_w4 205 rfl rfl) (text := "no such procedure") (by decide +kernel) (mj_w4 215 rfl rfl) (by decide +kernel) (Or.inl ⟨by decide +kernel, by decide +kernel, by decide +kernel⟩))
   (mj_ac (mj_e_gf "Uncomputery" (rfl : mj_cls[0]? = some mj_K0) (by decide) mj_u0 (Or.inl (mj_w2 66 rfl rfl)) (Or.inl rfl))
   (mj_ac (mj_e_vi mj_M155 mj_nm155 mj_np155 (mj_w5 59 rfl rfl) (rfl : mj_cls[8]? = some mj_K8) (mj_w5 60 rfl rfl) (mj_w5 58 rfl rfl) mj_cd155)
   (mj_ac (mj_e_gf "Uncomputery" (rfl : mj_cls[0]? = some mj_K0) (by decide) mj_u0 (Or.inl (mj_w2 66 rfl rfl)) (Or.inl rfl))
   (mj_ac (mj_e_gf "Uncomputery$Run" (rfl : mj_cls[8]? = some mj_K8) (by decide) mj_u8 (Or.inl (mj_w2 4 rfl rfl)) (Or.inl rfl))
   mj_an)))))))
theorem mj_ok154 : mj_okRow mj_Tw mj_Mm mj_r154 := ⟨by decide +kernel, by decide +kernel, (mj_w1 1 rfl rfl), by decide, Or.inl ⟨mj_cd154, rfl, rfl⟩, mj_wlE (by decide +kernel) mj_wl154⟩
theorem mj_wl155 : ∀ x ∈ ([(2, .putfield 37, 8, 8, 0), (7, .putfield 41, 7, 8, 0), (12, .putfield 45, 11, 8, 0), (18, .invokevirtual 48, 156, 3, 9)] : List (Nat × mj_E)), mj_okW mj_Tw mj_Mm mj_m155 x.1 x.2 :=
  (mj_ac (mj_e_pf "Uncomputery$Run" (rfl : mj_cls[8]? = some mj_K8) (by decide) mj_u8 (Or.inl (mj_w1 239 rfl rfl)) (Or.inl rfl) mj_pd8 mj_ds8 (Or.inl rfl))
   (mj_ac (mj_e_pf "Uncomputery$Run" (rfl : mj_cls[8]? = some mj_K8) (by decide) mj_u8 (Or.inl (mj_w1 238 rfl rfl)) (Or.inl rfl) mj_pd8 mj_ds8 (Or.inl rfl))
   (mj_ac (mj_e_pf "Uncomputery$Run" (rfl : mj_cls[8]? = some mj_K8) (by decide) mj_u8 (Or.inl (mj_w2 5 rfl rfl)) (Or.inl rfl) mj_pd8 mj_ds8 (Or.inl rfl))
   (mj_ac (mj_e_vi mj_M156 mj_nm156 mj_np156 (mj_w5 64 rfl rfl) (rfl : mj_cls[8]? = some mj_K8) (mj_wp 28 rfl rfl) (mj_w5 62 rfl rfl) mj_cd156)
   mj_an))))
theorem mj_ok155 : mj_okRow mj_Tw mj_Mm mj_r155 := ⟨by decide +kernel, by decide +kernel, (mj_w1 9 rfl rfl), by decide, Or.inl ⟨mj_cd155, rfl, rfl⟩, mj_wlE (by decide +kernel) mj_wl155⟩
theorem mj_wl156 : ∀ x ∈ ([(2, .putfield 52, 9, 8, 0), (7, .putfield 55, 12, 8, 0), (20, .getfield 29, 0, 8, 0), (24, .invokevirtual 58, 20, 2, 7), (27, .invokevirtual 64, 21, 1, 4), (30, .putfield 70, 10, 8, 0)] : List (Nat × mj_E)), mj_okW mj_Tw mj_Mm mj_m156 x.1 x.2 :=
  (mj_ac (mj_e_pf "Uncomputery$Run" (rfl : mj_cls[8]? = some mj_K8) (by decide) mj_u8 (Or.inl (mj_w2 1 rfl rfl)) (Or.inl rfl) mj_pd8 mj_ds8 (Or.inl rfl))
   (mj_ac (mj_e_pf "Uncomputery$Run" (rfl : mj_cls[8]? = some mj_K8) (by decide) mj_u8 (Or.inl (mj_w2 7 rfl rfl)) (Or.inl rfl) mj_pd8 mj_ds8 (Or.inl rfl))
   (mj_ac (mj_e_gf "Uncomputery$Run" (rfl : mj_cls[8]? = some mj_K8) (by decide) mj_u8 (Or.inl (mj_w1 231 rfl rfl)) (Or.inl rfl))
   (mj_ac (mj_e_vi mj_M20 mj_nm20 mj_np20 (mj_w2 148 rfl rfl) (rfl : mj_cls[6]? = some mj_K6) (mj_w2 149 rfl rfl) (mj_w2 147 rfl rfl) mj_cd20)
   (mj_ac (mj_e_vi mj_M21 mj_nm21 mj_np21 (mj_w2 152 rfl rfl) (rfl : mj_cls[3]? = some mj_K3) (mj_w2 153 rfl rfl) (mj_w2 151 rfl rfl) mj_cd21)
   (mj_ac (mj_e_pf "Uncomputery$Run" (rfl : mj_cls[8]? = some mj_K8) (by decide) mj_u8 (Or.inl (mj_w2 3 rfl rfl)) (Or.inl rfl) mj_pd8 mj_ds8 (Or.inl rfl))
   mj_an))))))
theorem mj_ok156 : mj_okRow mj_Tw mj_Mm mj_r156 := ⟨by decide +kernel, by decide +kernel, (mj_w1 9 rfl rfl), by decide, Or.inl ⟨mj_cd156, rfl, rfl⟩, mj_wlE (by decide +kernel) mj_wl156⟩
theorem mj_wl157 : ∀ x ∈ ([(5, .invokevirtual 63, 158, 3, 1)] : List (Nat × mj_E)), mj_okW mj_Tw mj_Mm mj_m157 x.1 x.2 :=
  (mj_ac (mj_e_vi mj_M158 mj_nm158 mj_np158 (mj_w5 70 rfl rfl) (rfl : mj_cls[0]? = some mj_K0) (mj_w5 71 rfl rfl) (mj_w5 69 rfl rfl) mj_cd158)
   mj_an)
theorem mj_ok157 : mj_okRow mj_Tw mj_Mm mj_r157 := ⟨by decide +kernel, by decide +kernel, (mj_w1 0 rfl rfl), by decide, Or.inr ⟨mj_cd157, ⟨⟨rfl, rfl, rfl, by decide, mj_K13, rfl, (mj_w4 154 rfl rfl), (mj_w4 161 rfl rfl)⟩, ⟨⟨rfl, rfl, rfl, by decide, mj_K11, rfl, (mj_w4 31 rfl rfl), (mj_w4 42 rfl rfl)⟩, trivial⟩⟩⟩, mj_wlE (by decide +kernel) mj_wl157⟩
theorem mj_wl158 : ∀ x ∈ ([(12, .new 121, 13, 0, 1), (23, .getfield 51, 7, 0, 0), (26, .getfield 209, 8, 8, 0), (32, .new 82, 11, 0, 1), (47, .getfield 51, 7, 0, 0), (50, .invokevirtual 215, 159, 1, 9), (54, .getfield 51, 7, 0, 0), (58, .invokevirtual 218, 160, 2, 9), (64, .getfield 221, 15, 0, 0), (70, .putfield 221, 15, 0, 0)] : List (Nat × mj_E)), mj_okW mj_Tw mj_Mm mj_m158 x.1 x.2 :=
  (mj_ac (mj_e_th 207 125 mj_tc13 rfl (mj_w4 159 rfl rfl) (text := "1 to 500 steps") (by decide +kernel) (mj_w4 169 rfl rfl) (by decide +kernel) (Or.inl ⟨by decide +kernel, by decide +kernel, by decide +kernel⟩))
   (mj_ac (mj_e_gf "Uncomputery" (rfl : mj_cls[0]? = some mj_K0) (by decide) mj_u0 (Or.inl (mj_w2 66 rfl rfl)) (Or.inl rfl))
   (mj_ac (mj_e_gf "Uncomputery$Run" (rfl : mj_cls[8]? = some mj_K8) (by decide) mj_u8 (Or.inl (mj_w2 0 rfl rfl)) (Or.inl rfl))
   (mj_ac (mj_e_th 213 86 mj_tc11 rfl (mj_w4 40 rfl rfl) (text := "no run was begun") (by decide +kernel) (mj_w4 85 rfl rfl) (by decide +kernel) (Or.inl ⟨by decide +kernel, by decide +kernel, by decide +kernel⟩))
   (mj_ac (mj_e_gf "Uncomputery" (rfl : mj_cls[0]? = some mj_K0) (by decide) mj_u0 (Or.inl (mj_w2 66 rfl rfl)) (Or.inl rfl))
   (mj_ac (mj_e_vi mj_M159 mj_nm159 mj_np159 (mj_w5 76 rfl rfl) (rfl : mj_cls[8]? = some mj_K8) (mj_w5 77 rfl rfl) (mj_w5 75 rfl rfl) mj_cd159)
   (mj_ac (mj_e_gf "Uncomputery" (rfl : mj_cls[0]? = some mj_K0) (by decide) mj_u0 (Or.inl (mj_w2 66 rfl rfl)) (Or.inl rfl))
   (mj_ac (mj_e_vi mj_M160 mj_nm160 mj_np160 (mj_w5 80 rfl rfl) (rfl : mj_cls[8]? = some mj_K8) (mj_w5 81 rfl rfl) (mj_w5 79 rfl rfl) mj_cd160)
   (mj_ac (mj_e_gf "Uncomputery" (rfl : mj_cls[0]? = some mj_K0) (by decide) mj_u0 (Or.inl (mj_w2 74 rfl rfl)) (Or.inl rfl))
   (mj_ac (mj_e_pf "Uncomputery" (rfl : mj_cls[0]? = some mj_K0) (by decide) mj_u0 (Or.inl (mj_w2 74 rfl rfl)) (Or.inl rfl) mj_pd0 mj_ds0 (Or.inl rfl))
   mj_an))))))))))
theorem mj_ok158 : mj_okRow mj_Tw mj_Mm mj_r158 := ⟨by decide +kernel, by decide +kernel, (mj_w1 1 rfl rfl), by decide, Or.inl ⟨mj_cd158, rfl, rfl⟩, mj_wlE (by decide +kernel) mj_wl158⟩
theorem mj_wl159 : ∀ x ∈ ([(2, .getfield 55, 12, 8, 0), (13, .putfield 55, 12, 8, 0), (20, .getfield 45, 11, 8, 0), (28, .getfield 18, 4, 8, 0), (36, .getfield 18, 4, 8, 0), (41, .getfield 18, 4, 8, 0)] : List (Nat × mj_E)), mj_okW mj_Tw mj_Mm mj_m159 x.1 x.2 :=
  (mj_ac (mj_e_gf "Uncomputery$Run" (rfl : mj_cls[8]? = some mj_K8) (by decide) mj_u8 (Or.inl (mj_w2 7 rfl rfl)) (Or.inl rfl))
   (mj_ac (mj_e_pf "Uncomputery$Run" (rfl : mj_cls[8]? = some mj_K8) (by decide) mj_u8 (Or.inl (mj_w2 7 rfl rfl)) (Or.inl rfl) mj_pd8 mj_ds8 (Or.inl rfl))
   (mj_ac (mj_e_gf "Uncomputery$Run" (rfl : mj_cls[8]? = some mj_K8) (by decide) mj_u8 (Or.inl (mj_w2 5 rfl rfl)) (Or.inl rfl))
   (mj_ac (mj_e_gf "Uncomputery$Run" (rfl : mj_cls[8]? = some mj_K8) (by decide) mj_u8 (Or.inl (mj_w1 235 rfl rfl)) (Or.inl rfl))
   (mj_ac (mj_e_gf "Uncomputery$Run" (rfl : mj_cls[8]? = some mj_K8) (by decide) mj_u8 (Or.inl (mj_w1 235 rfl rfl)) (Or.inl rfl))
   (mj_ac (mj_e_gf "Uncomputery$Run" (rfl : mj_cls[8]? = some mj_K8) (by decide) mj_u8 (Or.inl (mj_w1 235 rfl rfl)) (Or.inl rfl))
   mj_an))))))
theorem mj_ok159 : mj_okRow mj_Tw mj_Mm mj_r159 := ⟨by decide +kernel, by decide +kernel, (mj_w1 9 rfl rfl), by decide, Or.inl ⟨mj_cd159, rfl, rfl⟩, mj_wlE (by decide +kernel) mj_wl159⟩
theorem mj_wl160 : ∀ x ∈ ([(2, .putfield 41, 7, 8, 0), (6, .invokevirtual 77, 161, 1, 9), (17, .invokevirtual 80, 18, 1, 9), (24, .invokevirtual 83, 162, 1, 9), (31, .invokevirtual 77, 161, 1, 9)] : List (Nat × mj_E)), mj_okW mj_Tw mj_Mm mj_m160 x.1 x.2 :=
  (mj_ac (mj_e_pf "Uncomputery$Run" (rfl : mj_cls[8]? = some mj_K8) (by decide) mj_u8 (Or.inl (mj_w1 238 rfl rfl)) (Or.inl rfl) mj_pd8 mj_ds8 (Or.inl rfl))
   (mj_ac (mj_e_vi mj_M161 mj_nm161 mj_np161 (mj_w5 85 rfl rfl) (rfl : mj_cls[8]? = some mj_K8) (mj_wp 29 rfl rfl) (mj_w5 83 rfl rfl) mj_cd161)
   (mj_ac (mj_e_vi mj_M18 mj_nm18 mj_np18 (mj_w2 140 rfl rfl) (rfl : mj_cls[8]? = some mj_K8) (mj_w2 141 rfl rfl) (mj_w5 87 rfl rfl) mj_cd18)
   (mj_ac (mj_e_vi mj_M162 mj_nm162 mj_np162 (mj_w5 90 rfl rfl) (rfl : mj_cls[8]? = some mj_K8) (mj_wp 30 rfl rfl) (mj_w5 88 rfl rfl) mj_cd162)
   (mj_ac (mj_e_vi mj_M161 mj_nm161 mj_np161 (mj_w5 85 rfl rfl) (rfl : mj_cls[8]? = some mj_K8) (mj_wp 29 rfl rfl) (mj_w5 83 rfl rfl) mj_cd161)
   mj_an)))))
theorem mj_ok160 : mj_okRow mj_Tw mj_Mm mj_r160 := ⟨by decide +kernel, by decide +kernel, (mj_w1 9 rfl rfl), by decide, Or.inl ⟨mj_cd160, rfl, rfl⟩, mj_wlE (by decide +kernel) mj_wl160⟩
theorem mj_wl161 : ∀ x ∈ ([(9, .getfield 45, 11, 8, 0), (16, .invokevirtual 73, 19, 1, 9), (23, .getfield 45, 11, 8, 0), (31, .getfield 9, 2, 8, 0), (40, .getfield 9, 2, 8, 0), (45, .putfield 52, 9, 8, 0), (50, .getfield 18, 4, 8, 0), (55, .putfield 55, 12, 8, 0), (60, .getfield 55, 12, 8, 0), (67, .getfield 15, 3, 8, 0), (78, .getfield 15, 3, 8, 0), (83, .putfield 70, 10, 8, 0), (88, .putfield 45, 11, 8, 0)] : List (Nat × mj_E)), mj_okW mj_Tw mj_Mm mj_m161 x.1 x.2 :=
  (mj_ac (mj_e_gf "Uncomputery$Run" (rfl : mj_cls[8]? = some mj_K8) (by decide) mj_u8 (Or.inl (mj_w2 5 rfl rfl)) (Or.inl rfl))
   (mj_ac (mj_e_vi mj_M19 mj_nm19 mj_np19 (mj_w2 145 rfl rfl) (rfl : mj_cls[8]? = some mj_K8) (mj_wp 0 rfl rfl) (mj_w2 143 rfl rfl) mj_cd19)
   (mj_ac (mj_e_gf "Uncomputery$Run" (rfl : mj_cls[8]? = some mj_K8) (by decide) mj_u8 (Or.inl (mj_w2 5 rfl rfl)) (Or.inl rfl))
   (mj_ac (mj_e_gf "Uncomputery$Run" (rfl : mj_cls[8]? = some mj_K8) (by decide) mj_u8 (Or.inl (mj_w1 233 rfl rfl)) (Or.inl rfl))
   (mj_ac (mj_e_gf "Uncomputery$Run" (rfl : mj_cls[8]? = some mj_K8) (by decide) mj_u8 (Or.inl (mj_w1 233 rfl rfl)) (Or.inl rfl))
   (mj_ac (mj_e_pf "Uncomputery$Run" (rfl : mj_cls[8]? = some mj_K8) (by decide) mj_u8 (Or.inl (mj_w2 1 rfl rfl)) (Or.inl rfl) mj_pd8 mj_ds8 (Or.inl rfl))
   (mj_ac (mj_e_gf "Uncomputery$Run" (rfl : mj_cls[8]? = some mj_K8) (by decide) mj_u8 (Or.inl (mj_w1 235 rfl rfl)) (Or.inl rfl))
   (mj_ac (mj_e_pf "Uncomputery$Run" (rfl : mj_cls[8]? = some mj_K8) (by decide) mj_u8 (Or.inl (mj_w2 7 rfl rfl)) (Or.inl rfl) mj_pd8 mj_ds8 (Or.inl rfl))
   (mj_ac (mj_e_gf "Uncomputery$Run" (rfl : mj_cls[8]? = some mj_K8) (by decide) mj_u8 (Or.inl (mj_w2 7 rfl rfl)) (Or.inl rfl))
   (mj_ac (mj_e_gf "Uncomputery$Run" (rfl : mj_cls[8]? = some mj_K8) (by decide) mj_u8 (Or.inl (mj_w1 234 rfl rfl)) (Or.inl rfl))
   (mj_ac (mj_e_gf "Uncomputery$Run" (rfl : mj_cls[8]? = some mj_K8) (by decide) mj_u8 (Or.inl (mj_w1 234 rfl rfl)) (Or.inl rfl))
   (mj_ac (mj_e_pf "Uncomputery$Run" (rfl : mj_cls[8]? = some mj_K8) (by decide) mj_u8 (Or.inl (mj_w2 3 rfl rfl)) (Or.inl rfl) mj_pd8 mj_ds8 (Or.inl rfl))
   (mj_ac (mj_e_pf "Uncomputery$Run" (rfl : mj_cls[8]? = some mj_K8) (by decide) mj_u8 (Or.inl (mj_w2 5 rfl rfl)) (Or.inl rfl) mj_pd8 mj_ds8 (Or.inl rfl))
   mj_an)))))))))))))
theorem mj_ok161 : mj_okRow mj_Tw mj_Mm mj_r161 := ⟨by decide +kernel, by decide +kernel, (mj_w1 9 rfl rfl), by decide, Or.inl ⟨mj_cd161, rfl, rfl⟩, mj_wlE (by decide +kernel) mj_wl161⟩
theorem mj_wl162 : ∀ x ∈ ([(1, .getfield 29, 0, 8, 0), (5, .getfield 52, 9, 8, 0), (8, .invokevirtual 58, 20, 2, 7), (13, .getfield 55, 12, 8, 0), (20, .getfield 70, 10, 8, 0), (27, .getfield 70, 10, 8, 0), (35, .invokevirtual 90, 74, 2, 4), (40, .getfield 94, 0, 4, 0), (118, .invokevirtual 100, 163, 2, 9), (126, .getfield 104, 1, 4, 0), (130, .getfield 107, 2, 4, 0), (133, .invokestatic 110, 78, 1, 0), (136, .invokevirtual 114, 166, 3, 9), (144, .invokevirtual 118, 167, 2, 9), (155, .invokevirtual 122, 171, 3, 9), (160, .getfield 55, 12, 8, 0), (170, .invokevirtual 126, 172, 4, 9), (180, .invokevirtual 130, 176, 4, 9), (186, .getfield 55, 12, 8, 0), (199, .invokevirtual 133, 174, 2, 9)] : List (Nat × mj_E)), mj_okW mj_Tw mj_Mm mj_m162 x.1 x.2 :=
  (mj_ac (mj_e_gf "Uncomputery$Run" (rfl : mj_cls[8]? = some mj_K8) (by decide) mj_u8 (Or.inl (mj_w1 231 rfl rfl)) (Or.inl rfl))
   (mj_ac (mj_e_gf "Uncomputery$Run" (rfl : mj_cls[8]? = some mj_K8) (by decide) mj_u8 (Or.inl (mj_w2 1 rfl rfl)) (Or.inl rfl))
   (mj_ac (mj_e_vi mj_M20 mj_nm20 mj_np20 (mj_w2 148 rfl rfl) (rfl : mj_cls[6]? = some mj_K6) (mj_w2 149 rfl rfl) (mj_w2 147 rfl rfl) mj_cd20)
   (mj_ac (mj_e_gf "Uncomputery$Run" (rfl : mj_cls[8]? = some mj_K8) (by decide) mj_u8 (Or.inl (mj_w2 7 rfl rfl)) (Or.inl rfl))
   (mj_ac (mj_e_gf "Uncomputery$Run" (rfl : mj_cls[8]? = some mj_K8) (by decide) mj_u8 (Or.inl (mj_w2 3 rfl rfl)) (Or.inl rfl))
   (mj_ac (mj_e_gf "Uncomputery$Run" (rfl : mj_cls[8]? = some mj_K8) (by decide) mj_u8 (Or.inl (mj_w2 3 rfl rfl)) (Or.inl rfl))
   (mj_ac (mj_e_vi mj_M74 mj_nm74 mj_np74 (mj_w3 130 rfl rfl) (rfl : mj_cls[3]? = some mj_K3) (mj_w3 131 rfl rfl) (mj_w5 92 rfl rfl) mj_cd74)
   (mj_ac (mj_e_gf "Uncomputery$Instruction" (rfl : mj_cls[4]? = some mj_K4) (by decide) mj_u4 (Or.inl (mj_w1 94 rfl rfl)) (Or.inl rfl))
   (mj_ac (mj_e_vi mj_M163 mj_nm163 mj_np163 (mj_w5 95 rfl rfl) (rfl : mj_cls[8]? = some mj_K8) (mj_wp 31 rfl rfl) (mj_w5 93 rfl rfl) mj_cd163)
   (mj_ac (mj_e_gf "Uncomputery$Instruction" (rfl : mj_cls[4]? = some mj_K4) (by decide) mj_u4 (Or.inl (mj_w1 98 rfl rfl)) (Or.inl rfl))
   (mj_ac (mj_e_gf "Uncomputery$Instruction" (rfl : mj_cls[4]? = some mj_K4) (by decide) mj_u4 (Or.inl (mj_w1 103 rfl rfl)) (Or.inl rfl))
   (mj_ac (mj_e_stN "Uncomputery" mj_M78 mj_nm78 mj_np78 (mj_w3 144 rfl rfl) (mj_w1 1 rfl rfl) mj_cd78 (mj_w5 107 rfl rfl))
   (mj_ac (mj_e_vi mj_M166 mj_nm166 mj_np166 (mj_w5 110 rfl rfl) (rfl : mj_cls[8]? = some mj_K8) (mj_wp 32 rfl rfl) (mj_w5 108 rfl rfl) mj_cd166)
   (mj_ac (mj_e_vi mj_M167 mj_nm167 mj_np167 (mj_w5 114 rfl rfl) (rfl : mj_cls[8]? = some mj_K8) (mj_wp 33 rfl rfl) (mj_w5 112 rfl rfl) mj_cd167)
   (mj_ac (mj_e_vi mj_M171 mj_nm171 mj_np171 (mj_w5 131 rfl rfl) (rfl : mj_cls[8]? = some mj_K8) (mj_wp 35 rfl rfl) (mj_w5 129 rfl rfl) mj_cd171)
   (mj_ac (mj_e_gf "Uncomputery$Run" (rfl : mj_cls[8]? = some mj_K8) (by decide) mj_u8 (Or.inl (mj_w2 7 rfl rfl)) (Or.inl rfl))
   (mj_ac (mj_e_vi mj_M172 mj_nm172 mj_np172 (mj_w5 136 rfl rfl) (rfl : mj_cls[8]? = some mj_K8) (mj_wp 36 rfl rfl) (mj_w5 134 rfl rfl) mj_cd172)
   (mj_ac (mj_e_vi mj_M176 mj_nm176 mj_np176 (mj_w5 152 rfl rfl) (rfl : mj_cls[8]? = some mj_K8) (mj_wp 39 rfl rfl) (mj_w5 150 rfl rfl) mj_cd176)
   (mj_ac (mj_e_gf "Uncomputery$Run" (rfl : mj_cls[8]? = some mj_K8) (by decide) mj_u8 (Or.inl (mj_w2 7 rfl rfl)) (Or.inl rfl))
   (mj_ac (mj_e_vi mj_M174 mj_nm174 mj_np174 (mj_w5 144 rfl rfl) (rfl : mj_cls[8]? = some mj_K8) (mj_wp 37 rfl rfl) (mj_w5 142 rfl rfl) mj_cd174)
   mj_an))))))))))))))))))))
theorem mj_ok162 : mj_okRow mj_Tw mj_Mm mj_r162 := ⟨by decide +kernel, by decide +kernel, (mj_w1 9 rfl rfl), by decide, Or.inl ⟨mj_cd162, rfl, rfl⟩, mj_wlE (by decide +kernel) mj_wl162⟩
theorem mj_wl163 : ∀ x ∈ ([(1, .getfield 33, 1, 8, 0), (5, .getfield 104, 1, 4, 0), (8, .invokevirtual 137, 147, 2, 8), (13, .getfield 33, 1, 8, 0), (17, .invokevirtual 142, 164, 2, 8), (27, .getfield 94, 0, 4, 0), (36, .getfield 94, 0, 4, 0), (50, .getfield 55, 12, 8, 0), (68, .getfield 33, 1, 8, 0), (72, .getfield 104, 1, 4, 0), (77, .invokevirtual 146, 148, 3, 8)] : List (Nat × mj_E)), mj_okW mj_Tw mj_Mm mj_m163 x.1 x.2 :=
  (mj_ac (mj_e_gf "Uncomputery$Run" (rfl : mj_cls[8]? = some mj_K8) (by decide) mj_u8 (Or.inl (mj_w1 232 rfl rfl)) (Or.inl rfl))
   (mj_ac (mj_e_gf "Uncomputery$Instruction" (rfl : mj_cls[4]? = some mj_K4) (by decide) mj_u4 (Or.inl (mj_w1 98 rfl rfl)) (Or.inl rfl))
   (mj_ac (mj_e_vi mj_M147 mj_nm147 mj_np147 (mj_w5 28 rfl rfl) (rfl : mj_cls[7]? = some mj_K7) (mj_w5 29 rfl rfl) (mj_w5 97 rfl rfl) mj_cd147)
   (mj_ac (mj_e_gf "Uncomputery$Run" (rfl : mj_cls[8]? = some mj_K8) (by decide) mj_u8 (Or.inl (mj_w1 232 rfl rfl)) (Or.inl rfl))
   (mj_ac (mj_e_vi mj_M164 mj_nm164 mj_np164 (mj_w5 99 rfl rfl) (rfl : mj_cls[7]? = some mj_K7) (mj_w5 100 rfl rfl) (mj_w5 98 rfl rfl) mj_cd164)
   (mj_ac (mj_e_gf "Uncomputery$Instruction" (rfl : mj_cls[4]? = some mj_K4) (by decide) mj_u4 (Or.inl (mj_w1 94 rfl rfl)) (Or.inl rfl))
   (mj_ac (mj_e_gf "Uncomputery$Instruction" (rfl : mj_cls[4]? = some mj_K4) (by decide) mj_u4 (Or.inl (mj_w1 94 rfl rfl)) (Or.inl rfl))
   (mj_ac (mj_e_gf "Uncomputery$Run" (rfl : mj_cls[8]? = some mj_K8) (by decide) mj_u8 (Or.inl (mj_w2 7 rfl rfl)) (Or.inl rfl))
   (mj_ac (mj_e_gf "Uncomputery$Run" (rfl : mj_cls[8]? = some mj_K8) (by decide) mj_u8 (Or.inl (mj_w1 232 rfl rfl)) (Or.inl rfl))
   (mj_ac (mj_e_gf "Uncomputery$Instruction" (rfl : mj_cls[4]? = some mj_K4) (by decide) mj_u4 (Or.inl (mj_w1 98 rfl rfl)) (Or.inl rfl))
   (mj_ac (mj_e_vi mj_M148 mj_nm148 mj_np148 (mj_w5 32 rfl rfl) (rfl : mj_cls[7]? = some mj_K7) (mj_w5 33 rfl rfl) (mj_w5 106 rfl rfl) mj_cd148)
   mj_an)))))))))))
theorem mj_ok163 : mj_okRow mj_Tw mj_Mm mj_r163 := ⟨by decide +kernel, by decide +kernel, (mj_w1 9 rfl rfl), by decide, Or.inl ⟨mj_cd163, rfl, rfl⟩, mj_wlE (by decide +kernel) mj_wl163⟩
theorem mj_wl164 : ∀ x ∈ ([(2, .getfield 32, 2, 4, 0), (5, .invokevirtual 37, 165, 2, 8), (11, .getfield 40, 4, 4, 0), (14, .invokevirtual 37, 165, 2, 8), (19, .getfield 43, 3, 4, 0)] : List (Nat × mj_E)), mj_okW mj_Tw mj_Mm mj_m164 x.1 x.2 :=
  (mj_ac (mj_e_gf "Uncomputery$Instruction" (rfl : mj_cls[4]? = some mj_K4) (by decide) mj_u4 (Or.inl (mj_w1 100 rfl rfl)) (Or.inl rfl))
   (mj_ac (mj_e_vi mj_M165 mj_nm165 mj_np165 (mj_w5 103 rfl rfl) (rfl : mj_cls[7]? = some mj_K7) (mj_w5 104 rfl rfl) (mj_w5 102 rfl rfl) mj_cd165)
   (mj_ac (mj_e_gf "Uncomputery$Instruction" (rfl : mj_cls[4]? = some mj_K4) (by decide) mj_u4 (Or.inl (mj_w1 109 rfl rfl)) (Or.inl rfl))
   (mj_ac (mj_e_vi mj_M165 mj_nm165 mj_np165 (mj_w5 103 rfl rfl) (rfl : mj_cls[7]? = some mj_K7) (mj_w5 104 rfl rfl) (mj_w5 102 rfl rfl) mj_cd165)
   (mj_ac (mj_e_gf "Uncomputery$Instruction" (rfl : mj_cls[4]? = some mj_K4) (by decide) mj_u4 (Or.inl (mj_w1 105 rfl rfl)) (Or.inl rfl))
   mj_an)))))
theorem mj_ok164 : mj_okRow mj_Tw mj_Mm mj_r164 := ⟨by decide +kernel, by decide +kernel, (mj_w1 8 rfl rfl), by decide, Or.inl ⟨mj_cd164, rfl, rfl⟩, mj_wlE (by decide +kernel) mj_wl164⟩
theorem mj_wl165 : ∀ x ∈ ([(10, .getfield 9, 0, 7, 0), (18, .getfield 9, 0, 7, 0)] : List (Nat × mj_E)), mj_okW mj_Tw mj_Mm mj_m165 x.1 x.2 :=
  (mj_ac (mj_e_gf "Uncomputery$Store" (rfl : mj_cls[7]? = some mj_K7) (by decide) mj_u7 (Or.inl (mj_w1 214 rfl rfl)) (Or.inl rfl))
   (mj_ac (mj_e_gf "Uncomputery$Store" (rfl : mj_cls[7]? = some mj_K7) (by decide) mj_u7 (Or.inl (mj_w1 214 rfl rfl)) (Or.inl rfl))
   mj_an))
theorem mj_ok165 : mj_okRow mj_Tw mj_Mm mj_r165 := ⟨by decide +kernel, by decide +kernel, (mj_w1 8 rfl rfl), by decide, Or.inl ⟨mj_cd165, rfl, rfl⟩, mj_wlE (by decide +kernel) mj_wl165⟩
theorem mj_wl166 : ∀ x ∈ ([(1, .getfield 33, 1, 8, 0), (5, .invokevirtual 137, 147, 2, 8), (10, .getfield 33, 1, 8, 0), (15, .getfield 33, 1, 8, 0), (19, .invokevirtual 137, 147, 2, 8), (22, .invokevirtual 146, 148, 3, 8), (26, .getfield 33, 1, 8, 0), (31, .invokevirtual 146, 148, 3, 8)] : List (Nat × mj_E)), mj_okW mj_Tw mj_Mm mj_m166 x.1 x.2 :=
  (mj_ac (mj_e_gf "Uncomputery$Run" (rfl : mj_cls[8]? = some mj_K8) (by decide) mj_u8 (Or.inl (mj_w1 232 rfl rfl)) (Or.inl rfl))
   (mj_ac (mj_e_vi mj_M147 mj_nm147 mj_np147 (mj_w5 28 rfl rfl) (rfl : mj_cls[7]? = some mj_K7) (mj_w5 29 rfl rfl) (mj_w5 97 rfl rfl) mj_cd147)
   (mj_ac (mj_e_gf "Uncomputery$Run" (rfl : mj_cls[8]? = some mj_K8) (by decide) mj_u8 (Or.inl (mj_w1 232 rfl rfl)) (Or.inl rfl))
   (mj_ac (mj_e_gf "Uncomputery$Run" (rfl : mj_cls[8]? = some mj_K8) (by decide) mj_u8 (Or.inl (mj_w1 232 rfl rfl)) (Or.inl rfl))
   (mj_ac (mj_e_vi mj_M147 mj_nm147 mj_np147 (mj_w5 28 rfl rfl) (rfl : mj_cls[7]? = some mj_K7) (mj_w5 29 rfl rfl) (mj_w5 97 rfl rfl) mj_cd147)
   (mj_ac (mj_e_vi mj_M148 mj_nm148 mj_np148 (mj_w5 32 rfl rfl) (rfl : mj_cls[7]? = some mj_K7) (mj_w5 33 rfl rfl) (mj_w5 106 rfl rfl) mj_cd148)
   (mj_ac (mj_e_gf "Uncomputery$Run" (rfl : mj_cls[8]? = some mj_K8) (by decide) mj_u8 (Or.inl (mj_w1 232 rfl rfl)) (Or.inl rfl))
   (mj_ac (mj_e_vi mj_M148 mj_nm148 mj_np148 (mj_w5 32 rfl rfl) (rfl : mj_cls[7]? = some mj_K7) (mj_w5 33 rfl rfl) (mj_w5 106 rfl rfl) mj_cd148)
   mj_an))))))))
theorem mj_ok166 : mj_okRow mj_Tw mj_Mm mj_r166 := ⟨by decide +kernel, by decide +kernel, (mj_w1 9 rfl rfl), by decide, Or.inl ⟨mj_cd166, rfl, rfl⟩, mj_wlE (by decide +kernel) mj_wl166⟩
theorem mj_wl167 : ∀ x ∈ ([(1, .getfield 94, 0, 4, 0), (15, .getfield 55, 12, 8, 0), (32, .getfield 33, 1, 8, 0), (35, .invokevirtual 149, 15, 1, 8), (48, .invokevirtual 86, 168, 3, 9), (53, .getfield 33, 1, 8, 0), (57, .getfield 33, 1, 8, 0), (61, .getfield 104, 1, 4, 0), (64, .invokevirtual 137, 147, 2, 8), (67, .invokevirtual 152, 169, 2, 8), (71, .getfield 33, 1, 8, 0), (75, .getfield 104, 1, 4, 0), (79, .invokevirtual 146, 148, 3, 8), (85, .getfield 33, 1, 8, 0), (89, .getfield 104, 1, 4, 0), (92, .invokevirtual 137, 147, 2, 8), (102, .getfield 104, 1, 4, 0), (105, .invokevirtual 86, 168, 3, 9), (110, .getfield 33, 1, 8, 0), (113, .invokevirtual 149, 15, 1, 8), (124, .getfield 104, 1, 4, 0), (127, .invokevirtual 86, 168, 3, 9), (132, .getfield 33, 1, 8, 0), (136, .getfield 104, 1, 4, 0), (140, .getfield 33, 1, 8, 0), (143, .invokevirtual 156, 170, 1, 8), (146, .invokevirtual 146, 148, 3, 8)] : List (Nat × mj_E)), mj_okW mj_Tw mj_Mm mj_m167 x.1 x.2 :=
  (mj_ac (mj_e_gf "Uncomputery$Instruction" (rfl : mj_cls[4]? = some mj_K4) (by decide) mj_u4 (Or.inl (mj_w1 94 rfl rfl)) (Or.inl rfl))
   (mj_ac (mj_e_gf "Uncomputery$Run" (rfl : mj_cls[8]? = some mj_K8) (by decide) mj_u8 (Or.inl (mj_w2 7 rfl rfl)) (Or.inl rfl))
   (mj_ac (mj_e_gf "Uncomputery$Run" (rfl : mj_cls[8]? = some mj_K8) (by decide) mj_u8 (Or.inl (mj_w1 232 rfl rfl)) (Or.inl rfl))
   (mj_ac (mj_e_vi mj_M15 mj_nm15 mj_np15 (mj_w2 128 rfl rfl) (rfl : mj_cls[7]? = some mj_K7) (mj_w2 129 rfl rfl) (mj_w5 116 rfl rfl) mj_cd15)
   (mj_ac (mj_e_vi mj_M168 mj_nm168 mj_np168 (mj_w5 119 rfl rfl) (rfl : mj_cls[8]? = some mj_K8) (mj_wp 34 rfl rfl) (mj_w5 117 rfl rfl) mj_cd168)
   (mj_ac (mj_e_gf "Uncomputery$Run" (rfl : mj_cls[8]? = some mj_K8) (by decide) mj_u8 (Or.inl (mj_w1 232 rfl rfl)) (Or.inl rfl))
   (mj_ac (mj_e_gf "Uncomputery$Run" (rfl : mj_cls[8]? = some mj_K8) (by decide) mj_u8 (Or.inl (mj_w1 232 rfl rfl)) (Or.inl rfl))
   (mj_ac (mj_e_gf "Uncomputery$Instruction" (rfl : mj_cls[4]? = some mj_K4) (by decide) mj_u4 (Or.inl (mj_w1 98 rfl rfl)) (Or.inl rfl))
   (mj_ac (mj_e_vi mj_M147 mj_nm147 mj_np147 (mj_w5 28 rfl rfl) (rfl : mj_cls[7]? = some mj_K7) (mj_w5 29 rfl rfl) (mj_w5 97 rfl rfl) mj_cd147)
   (mj_ac (mj_e_vi mj_M169 mj_nm169 mj_np169 (mj_w5 122 rfl rfl) (rfl : mj_cls[7]? = some mj_K7) (mj_w5 123 rfl rfl) (mj_w5 121 rfl rfl) mj_cd169)
   (mj_ac (mj_e_gf "Uncomputery$Run" (rfl : mj_cls[8]? = some mj_K8) (by decide) mj_u8 (Or.inl (mj_w1 232 rfl rfl)) (Or.inl rfl))
   (mj_ac (mj_e_gf "Uncomputery$Instruction" (rfl : mj_cls[4]? = some mj_K4) (by decide) mj_u4 (Or.inl (mj_w1 98 rfl rfl)) (Or.inl rfl))
   (mj_ac (mj_e_vi mj_M148 mj_nm148 mj_np148 (mj_w5 32 rfl rfl) (rfl : mj_cls[7]? = some mj_K7) (mj_w5 33 rfl rfl) (mj_w5 106 rfl rfl) mj_cd148)
   (mj_ac (mj_e_gf "Uncomputery$Run" (rfl : mj_cls[8]? = some mj_K8) (by decide) mj_u8 (Or.inl (mj_w1 232 rfl rfl)) (Or.inl rfl))
   (mj_ac (mj_e_gf "Uncomputery$Instruction" (rfl : mj_cls[4]? = some mj_K4) (by decide) mj_u4 (Or.inl (mj_w1 98 rfl rfl)) (Or.inl rfl))
   (mj_ac (mj_e_vi mj_M147 mj_nm147 mj_np147 (mj_w5 28 rfl rfl) (rfl : mj_cls[7]? = some mj_K7) (mj_w5 29 rfl rfl) (mj_w5 97 rfl rfl) mj_cd147)
   (mj_ac (mj_e_gf "Uncomputery$Instruction" (rfl : mj_cls[4]? = some mj_K4) (by decide) mj_u4 (Or.inl (mj_w1 98 rfl rfl)) (Or.inl rfl))
   (mj_ac (mj_e_vi mj_M168 mj_nm168 mj_np168 (mj_w5 119 rfl rfl) (rfl : mj_cls[8]? = some mj_K8) (mj_wp 34 rfl rfl) (mj_w5 117 rfl rfl) mj_cd168)
   (mj_ac (mj_e_gf "Uncomputery$Run" (rfl : mj_cls[8]? = some mj_K8) (by decide) mj_u8 (Or.inl (mj_w1 232 rfl rfl)) (Or.inl rfl))
   (mj_ac (mj_e_vi mj_M15 mj_nm15 mj_np15 (mj_w2 128 rfl rfl) (rfl : mj_cls[7]? = some mj_K7) (mj_w2 129 rfl rfl) (mj_w5 116 rfl rfl) mj_cd15)
   (mj_ac (mj_e_gf "Uncomputery$Instruction" (rfl : mj_cls[4]? = some mj_K4) (by decide) mj_u4 (Or.inl (mj_w1 98 rfl rfl)) (Or.inl rfl))
   (mj_ac (mj_e_vi mj_M168 mj_nm168 mj_np168 (mj_w5 119 rfl rfl) (rfl : mj_cls[8]? = some mj_K8) (mj_wp 34 rfl rfl) (mj_w5 117 rfl rfl) mj_cd168)
   (mj_ac (mj_e_gf "Uncomputery$Run" (rfl : mj_cls[8]? = some mj_K8) (by decide) mj_u8 (Or.inl (mj_w1 232 rfl rfl)) (Or.inl rfl))
   (mj_ac (mj_e_gf "Uncomputery$Instruction" (rfl : mj_cls[4]? = some mj_K4) (by decide) mj_u4 (Or.inl (mj_w1 98 rfl rfl)) (Or.inl rfl))
   (mj_ac (mj_e_gf "Uncomputery$Run" (rfl : mj_cls[8]? = some mj_K8) (by decide) mj_u8 (Or.inl (mj_w1 232 rfl rfl)) (Or.inl rfl))
   (mj_ac (mj_e_vi mj_M170 mj_nm170 mj_np170 (mj_w5 126 rfl rfl) (rfl : mj_cls[7]? = some mj_K7) (mj_w5 127 rfl rfl) (mj_w5 125 rfl rfl) mj_cd170)
   (mj_ac (mj_e_vi mj_M148 mj_nm148 mj_np148 (mj_w5 32 rfl rfl) (rfl : mj_cls[7]? = some mj_K7) (mj_w5 33 rfl rfl) (mj_w5 106 rfl rfl) mj_cd148)
   mj_an)))))))))))))))))))))))))))
theorem mj_ok167 : mj_okRow mj_Tw mj_Mm mj_r167 := ⟨by decide +kernel, by decide +kernel, (mj_w1 9 rfl rfl), by decide, Or.inl ⟨mj_cd167, rfl, rfl⟩, mj_wlE (by decide +kernel) mj_wl167⟩
theorem mj_wl168 : ∀ x ∈ ([(2, .putfield 41, 7, 8, 0), (6, .getfield 22, 5, 8, 0), (13, .getfield 26, 6, 8, 0)] : List (Nat × mj_E)), mj_okW mj_Tw mj_Mm mj_m168 x.1 x.2 :=
  (mj_ac (mj_e_pf "Uncomputery$Run" (rfl : mj_cls[8]? = some mj_K8) (by decide) mj_u8 (Or.inl (mj_w1 238 rfl rfl)) (Or.inl rfl) mj_pd8 mj_ds8 (Or.inl rfl))
   (mj_ac (mj_e_gf "Uncomputery$Run" (rfl : mj_cls[8]? = some mj_K8) (by decide) mj_u8 (Or.inl (mj_w1 236 rfl rfl)) (Or.inl rfl))
   (mj_ac (mj_e_gf "Uncomputery$Run" (rfl : mj_cls[8]? = some mj_K8) (by decide) mj_u8 (Or.inl (mj_w1 237 rfl rfl)) (Or.inl rfl))
   mj_an)))
theorem mj_ok168 : mj_okRow mj_Tw mj_Mm mj_r168 := ⟨by decide +kernel, by decide +kernel, (mj_w1 9 rfl rfl), by decide, Or.inl ⟨mj_cd168, rfl, rfl⟩, mj_wlE (by decide +kernel) mj_wl168⟩
theorem mj_wl169 : ∀ x ∈ ([(1, .getfield 24, 2, 7, 0), (8, .getfield 24, 2, 7, 0), (12, .getfield 15, 1, 7, 0), (20, .getfield 15, 1, 7, 0), (24, .getfield 24, 2, 7, 0), (31, .getfield 24, 2, 7, 0), (36, .putfield 24, 2, 7, 0)] : List (Nat × mj_E)), mj_okW mj_Tw mj_Mm mj_m169 x.1 x.2 :=
  (mj_ac (mj_e_gf "Uncomputery$Store" (rfl : mj_cls[7]? = some mj_K7) (by decide) mj_u7 (Or.inl (mj_w1 216 rfl rfl)) (Or.inl rfl))
   (mj_ac (mj_e_gf "Uncomputery$Store" (rfl : mj_cls[7]? = some mj_K7) (by decide) mj_u7 (Or.inl (mj_w1 216 rfl rfl)) (Or.inl rfl))
   (mj_ac (mj_e_gf "Uncomputery$Store" (rfl : mj_cls[7]? = some mj_K7) (by decide) mj_u7 (Or.inl (mj_w1 215 rfl rfl)) (Or.inl rfl))
   (mj_ac (mj_e_gf "Uncomputery$Store" (rfl : mj_cls[7]? = some mj_K7) (by decide) mj_u7 (Or.inl (mj_w1 215 rfl rfl)) (Or.inl rfl))
   (mj_ac (mj_e_gf "Uncomputery$Store" (rfl : mj_cls[7]? = some mj_K7) (by decide) mj_u7 (Or.inl (mj_w1 216 rfl rfl)) (Or.inl rfl))
   (mj_ac (mj_e_gf "Uncomputery$Store" (rfl : mj_cls[7]? = some mj_K7) (by decide) mj_u7 (Or.inl (mj_w1 216 rfl rfl)) (Or.inl rfl))
   (mj_ac (mj_e_pf "Uncomputery$Store" (rfl : mj_cls[7]? = some mj_K7) (by decide) mj_u7 (Or.inl (mj_w1 216 rfl rfl)) (Or.inl rfl) mj_pd7 mj_ds7 (Or.inl rfl))
   mj_an)))))))
theorem mj_ok169 : mj_okRow mj_Tw mj_Mm mj_r169 := ⟨by decide +kernel, by decide +kernel, (mj_w1 8 rfl rfl), by decide, Or.inl ⟨mj_cd169, rfl, rfl⟩, mj_wlE (by decide +kernel) mj_wl169⟩
theorem mj_wl170 : ∀ x ∈ ([(2, .getfield 24, 2, 7, 0), (7, .invokevirtual 28, 69, 2, 8), (12, .getfield 24, 2, 7, 0), (20, .getfield 24, 2, 7, 0), (25, .putfield 24, 2, 7, 0)] : List (Nat × mj_E)), mj_okW mj_Tw mj_Mm mj_m170 x.1 x.2 :=
  (mj_ac (mj_e_gf "Uncomputery$Store" (rfl : mj_cls[7]? = some mj_K7) (by decide) mj_u7 (Or.inl (mj_w1 216 rfl rfl)) (Or.inl rfl))
   (mj_ac (mj_e_vi mj_M69 mj_nm69 mj_np69 (mj_w3 109 rfl rfl) (rfl : mj_cls[7]? = some mj_K7) (mj_w3 110 rfl rfl) (mj_w3 108 rfl rfl) mj_cd69)
   (mj_ac (mj_e_gf "Uncomputery$Store" (rfl : mj_cls[7]? = some mj_K7) (by decide) mj_u7 (Or.inl (mj_w1 216 rfl rfl)) (Or.inl rfl))
   (mj_ac (mj_e_gf "Uncomputery$Store" (rfl : mj_cls[7]? = some mj_K7) (by decide) mj_u7 (Or.inl (mj_w1 216 rfl rfl)) (Or.inl rfl))
   (mj_ac (mj_e_pf "Uncomputery$Store" (rfl : mj_cls[7]? = some mj_K7) (by decide) mj_u7 (Or.inl (mj_w1 216 rfl rfl)) (Or.inl rfl) mj_pd7 mj_ds7 (Or.inl rfl))
   mj_an)))))
theorem mj_ok170 : mj_okRow mj_Tw mj_Mm mj_r170 := ⟨by decide +kernel, by decide +kernel, (mj_w1 8 rfl rfl), by decide, Or.inl ⟨mj_cd170, rfl, rfl⟩, mj_wlE (by decide +kernel) mj_wl170⟩
theorem mj_wl171 : ∀ x ∈ ([(1, .getfield 29, 0, 8, 0), (5, .getfield 104, 1, 4, 0), (8, .invokevirtual 159, 134, 2, 7), (18, .getfield 104, 1, 4, 0), (21, .invokevirtual 86, 168, 3, 9), (26, .getfield 45, 11, 8, 0), (33, .getfield 45, 11, 8, 0), (46, .invokevirtual 86, 168, 3, 9), (51, .getfield 9, 2, 8, 0), (55, .getfield 45, 11, 8, 0), (59, .getfield 52, 9, 8, 0), (64, .getfield 15, 3, 8, 0), (68, .getfield 45, 11, 8, 0), (74, .getfield 18, 4, 8, 0), (78, .getfield 45, 11, 8, 0), (82, .getfield 55, 12, 8, 0), (88, .getfield 45, 11, 8, 0), (93, .putfield 45, 11, 8, 0), (98, .getfield 104, 1, 4, 0), (102, .getfield 94, 0, 4, 0), (116, .getfield 55, 12, 8, 0), (127, .invokevirtual 48, 156, 3, 9)] : List (Nat × mj_E)), mj_okW mj_Tw mj_Mm mj_m171 x.1 x.2 :=
  (mj_ac (mj_e_gf "Uncomputery$Run" (rfl : mj_cls[8]? = some mj_K8) (by decide) mj_u8 (Or.inl (mj_w1 231 rfl rfl)) (Or.inl rfl))
   (mj_ac (mj_e_gf "Uncomputery$Instruction" (rfl : mj_cls[4]? = some mj_K4) (by decide) mj_u4 (Or.inl (mj_w1 98 rfl rfl)) (Or.inl rfl))
   (mj_ac (mj_e_vi mj_M134 mj_nm134 mj_np134 (mj_w4 202 rfl rfl) (rfl : mj_cls[6]? = some mj_K6) (mj_w4 203 rfl rfl) (mj_w5 133 rfl rfl) mj_cd134)
   (mj_ac (mj_e_gf "Uncomputery$Instruction" (rfl : mj_cls[4]? = some mj_K4) (by decide) mj_u4 (Or.inl (mj_w1 98 rfl rfl)) (Or.inl rfl))
   (mj_ac (mj_e_vi mj_M168 mj_nm168 mj_np168 (mj_w5 119 rfl rfl) (rfl : mj_cls[8]? = some mj_K8) (mj_wp 34 rfl rfl) (mj_w5 117 rfl rfl) mj_cd168)
   (mj_ac (mj_e_gf "Uncomputery$Run" (rfl : mj_cls[8]? = some mj_K8) (by decide) mj_u8 (Or.inl (mj_w2 5 rfl rfl)) (Or.inl rfl))
   (mj_ac (mj_e_gf "Uncomputery$Run" (rfl : mj_cls[8]? = some mj_K8) (by decide) mj_u8 (Or.inl (mj_w2 5 rfl rfl)) (Or.inl rfl))
   (mj_ac (mj_e_vi mj_M168 mj_nm168 mj_np168 (mj_w5 119 rfl rfl) (rfl : mj_cls[8]? = some mj_K8) (mj_wp 34 rfl rfl) (mj_w5 117 rfl rfl) mj_cd168)
   (mj_ac (mj_e_gf "Uncomputery$Run" (rfl : mj_cls[8]? = some mj_K8) (by decide) mj_u8 (Or.inl (mj_w1 233 rfl rfl)) (Or.inl rfl))
   (mj_ac (mj_e_gf "Uncomputery$Run" (rfl : mj_cls[8]? = some mj_K8) (by decide) mj_u8 (Or.inl (mj_w2 5 rfl rfl)) (Or.inl rfl))
   (mj_ac (mj_e_gf "Uncomputery$Run" (rfl : mj_cls[8]? = some mj_K8) (by decide) mj_u8 (Or.inl (mj_w2 1 rfl rfl)) (Or.inl rfl))
   (mj_ac (mj_e_gf "Uncomputery$Run" (rfl : mj_cls[8]? = some mj_K8) (by decide) mj_u8 (Or.inl (mj_w1 234 rfl rfl)) (Or.inl rfl))
   (mj_ac (mj_e_gf "Uncomputery$Run" (rfl : mj_cls[8]? = some mj_K8) (by decide) mj_u8 (Or.inl (mj_w2 5 rfl rfl)) (Or.inl rfl))
   (mj_ac (mj_e_gf "Uncomputery$Run" (rfl : mj_cls[8]? = some mj_K8) (by decide) mj_u8 (Or.inl (mj_w1 235 rfl rfl)) (Or.inl rfl))
   (mj_ac (mj_e_gf "Uncomputery$Run" (rfl : mj_cls[8]? = some mj_K8) (by decide) mj_u8 (Or.inl (mj_w2 5 rfl rfl)) (Or.inl rfl))
   (mj_ac (mj_e_gf "Uncomputery$Run" (rfl : mj_cls[8]? = some mj_K8) (by decide) mj_u8 (Or.inl (mj_w2 7 rfl rfl)) (Or.inl rfl))
   (mj_ac (mj_e_gf "Uncomputery$Run" (rfl : mj_cls[8]? = some mj_K8) (by decide) mj_u8 (Or.inl (mj_w2 5 rfl rfl)) (Or.inl rfl))
   (mj_ac (mj_e_pf "Uncomputery$Run" (rfl : mj_cls[8]? = some mj_K8) (by decide) mj_u8 (Or.inl (mj_w2 5 rfl rfl)) (Or.inl rfl) mj_pd8 mj_ds8 (Or.inl rfl))
   (mj_ac (mj_e_gf "Uncomputery$Instruction" (rfl : mj_cls[4]? = some mj_K4) (by decide) mj_u4 (Or.inl (mj_w1 98 rfl rfl)) (Or.inl rfl))
   (mj_ac (mj_e_gf "Uncomputery$Instruction" (rfl : mj_cls[4]? = some mj_K4) (by decide) mj_u4 (Or.inl (mj_w1 94 rfl rfl)) (Or.inl rfl))
   (mj_ac (mj_e_gf "Uncomputery$Run" (rfl : mj_cls[8]? = some mj_K8) (by decide) mj_u8 (Or.inl (mj_w2 7 rfl rfl)) (Or.inl rfl))
   (mj_ac (mj_e_vi mj_M156 mj_nm156 mj_np156 (mj_w5 64 rfl rfl) (rfl : mj_cls[8]? = some mj_K8) (mj_wp 28 rfl rfl) (mj_w5 62 rfl rfl) mj_cd156)
   mj_an))))))))))))))))))))))
theorem mj_ok171 : mj_okRow mj_Tw mj_Mm mj_r171 := ⟨by decide +kernel, by decide +kernel, (mj_w1 9 rfl rfl), by decide, Or.inl ⟨mj_cd171, rfl, rfl⟩, mj_wlE (by decide +kernel) mj_wl171⟩
theorem mj_wl172 : ∀ x ∈ ([(1, .getfield 33, 1, 8, 0), (6, .getfield 162, 5, 4, 0), (9, .invokevirtual 90, 74, 2, 4), (12, .invokevirtual 165, 173, 2, 8), (18, .getfield 33, 1, 8, 0), (23, .getfield 168, 7, 4, 0), (26, .invokevirtual 90, 74, 2, 4), (29, .invokevirtual 165, 173, 2, 8), (35, .getfield 94, 0, 4, 0), (101, .getfield 171, 6, 4, 0), (106, .invokevirtual 133, 174, 2, 9), (117, .getfield 168, 7, 4, 0), (122, .invokevirtual 133, 174, 2, 9), (133, .invokevirtual 174, 175, 4, 9), (147, .invokevirtual 174, 175, 4, 9), (157, .invokevirtual 133, 174, 2, 9), (170, .invokevirtual 133, 174, 2, 9), (181, .invokevirtual 174, 175, 4, 9), (192, .getfield 168, 7, 4, 0), (203, .invokevirtual 133, 174, 2, 9), (217, .invokevirtual 174, 175, 4, 9), (225, .getfield 162, 5, 4, 0), (230, .invokevirtual 133, 174, 2, 9)] : List (Nat × mj_E)), mj_okW mj_Tw mj_Mm mj_m172 x.1 x.2 :=
  (mj_ac (mj_e_gf "Uncomputery$Run" (rfl : mj_cls[8]? = some mj_K8) (by decide) mj_u8 (Or.inl (mj_w1 232 rfl rfl)) (Or.inl rfl))
   (mj_ac (mj_e_gf "Uncomputery$Instruction" (rfl : mj_cls[4]? = some mj_K4) (by decide) mj_u4 (Or.inl (mj_w1 114 rfl rfl)) (Or.inl rfl))
   (mj_ac (mj_e_vi mj_M74 mj_nm74 mj_np74 (mj_w3 130 rfl rfl) (rfl : mj_cls[3]? = some mj_K3) (mj_w3 131 rfl rfl) (mj_w5 92 rfl rfl) mj_cd74)
   (mj_ac (mj_e_vi mj_M173 mj_nm173 mj_np173 (mj_w5 139 rfl rfl) (rfl : mj_cls[7]? = some mj_K7) (mj_w5 140 rfl rfl) (mj_w5 138 rfl rfl) mj_cd173)
   (mj_ac (mj_e_gf "Uncomputery$Run" (rfl : mj_cls[8]? = some mj_K8) (by decide) mj_u8 (Or.inl (mj_w1 232 rfl rfl)) (Or.inl rfl))
   (mj_ac (mj_e_gf "Uncomputery$Instruction" (rfl : mj_cls[4]? = some mj_K4) (by decide) mj_u4 (Or.inl (mj_w1 120 rfl rfl)) (Or.inl rfl))
   (mj_ac (mj_e_vi mj_M74 mj_nm74 mj_np74 (mj_w3 130 rfl rfl) (rfl : mj_cls[3]? = some mj_K3) (mj_w3 131 rfl rfl) (mj_w5 92 rfl rfl) mj_cd74)
   (mj_ac (mj_e_vi mj_M173 mj_nm173 mj_np173 (mj_w5 139 rfl rfl) (rfl : mj_cls[7]? = some mj_K7) (mj_w5 140 rfl rfl) (mj_w5 138 rfl rfl) mj_cd173)
   (mj_ac (mj_e_gf "Uncomputery$Instruction" (rfl : mj_cls[4]? = some mj_K4) (by decide) mj_u4 (Or.inl (mj_w1 94 rfl rfl)) (Or.inl rfl))
   (mj_ac (mj_e_gf "Uncomputery$Instruction" (rfl : mj_cls[4]? = some mj_K4) (by decide) mj_u4 (Or.inl (mj_w1 117 rfl rfl)) (Or.inl rfl))
   (mj_ac (mj_e_vi mj_M174 mj_nm174 mj_np174 (mj_w5 144 rfl rfl) (rfl : mj_cls[8]? = some mj_K8) (mj_wp 37 rfl rfl) (mj_w5 142 rfl rfl) mj_cd174)
   (mj_ac (mj_e_gf "Uncomputery$Instruction" (rfl : mj_cls[4]? = some mj_K4) (by decide) mj_u4 (Or.inl (mj_w1 120 rfl rfl)) (Or.inl rfl))
   (mj_ac (mj_e_vi mj_M174 mj_nm174 mj_np174 (mj_w5 144 rfl rfl) (rfl : mj_cls[8]? = some mj_K8) (mj_wp 37 rfl rfl) (mj_w5 142 rfl rfl) mj_cd174)
   (mj_ac (mj_e_vi mj_M175 mj_nm175 mj_np175 (mj_w5 148 rfl rfl) (rfl : mj_cls[8]? = some mj_K8) (mj_wp 38 rfl rfl) (mj_w5 146 rfl rfl) mj_cd175)
   (mj_ac (mj_e_vi mj_M175 mj_nm175 mj_np175 (mj_w5 148 rfl rfl) (rfl : mj_cls[8]? = some mj_K8) (mj_wp 38 rfl rfl) (mj_w5 146 rfl rfl) mj_cd175)
   (mj_ac (mj_e_vi mj_M174 mj_nm174 mj_np174 (mj_w5 144 rfl rfl) (rfl : mj_cls[8]? = some mj_K8) (mj_wp 37 rfl rfl) (mj_w5 142 rfl rfl) mj_cd174)
   (mj_ac (mj_e_vi mj_M174 mj_nm174 mj_np174 (mj_w5 144 rfl rfl) (rfl : mj_cls[8]? = some mj_K8) (mj_wp 37 rfl rfl) (mj_w5 142 rfl rfl) mj_cd174)
   (mj_ac (mj_e_vi mj_M175 mj_nm175 mj_np175 (mj_w5 148 rfl rfl) (rfl : mj_cls[8]? = some mj_K8) (mj_wp 38 rfl rfl) (mj_w5 146 rfl rfl) mj_cd175)
   (mj_ac (mj_e_gf "Uncomputery$Instruction" (rfl : mj_cls[4]? = some mj_K4) (by decide) mj_u4 (Or.inl (mj_w1 120 rfl rfl)) (Or.inl rfl))
   (mj_ac (mj_e_vi mj_M174 mj_nm174 mj_np174 (mj_w5 144 rfl rfl) (rfl : mj_cls[8]? = some mj_K8) (mj_wp 37 rfl rfl) (mj_w5 142 rfl rfl) mj_cd174)
   (mj_ac (mj_e_vi mj_M175 mj_nm175 mj_np175 (mj_w5 148 rfl rfl) (rfl : mj_cls[8]? = some mj_K8) (mj_wp 38 rfl rfl) (mj_w5 146 rfl rfl) mj_cd175)
   (mj_ac (mj_e_gf "Uncomputery$Instruction" (rfl : mj_cls[4]? = some mj_K4) (by decide) mj_u4 (Or.inl (mj_w1 114 rfl rfl)) (Or.inl rfl))
   (mj_ac (mj_e_vi mj_M174 mj_nm174 mj_np174 (mj_w5 144 rfl rfl) (rfl : mj_cls[8]? = some mj_K8) (mj_wp 37 rfl rfl) (mj_w5 142 rfl rfl) mj_cd174)
   mj_an)))))))))))))))))))))))
theorem mj_ok172 : mj_okRow mj_Tw mj_Mm mj_r172 := ⟨by decide +kernel, by decide +kernel, (mj_w1 9 rfl rfl), by decide, Or.inl ⟨mj_cd172, rfl, rfl⟩, mj_wlE (by decide +kernel) mj_wl172⟩
theorem mj_wl173 : ∀ x ∈ ([(2, .getfield 32, 2, 4, 0), (5, .invokevirtual 37, 165, 2, 8), (11, .getfield 40, 4, 4, 0), (14, .invokevirtual 37, 165, 2, 8), (19, .getfield 43, 3, 4, 0)] : List (Nat × mj_E)), mj_okW mj_Tw mj_Mm mj_m173 x.1 x.2 :=
  (mj_ac (mj_e_gf "Uncomputery$Instruction" (rfl : mj_cls[4]? = some mj_K4) (by decide) mj_u4 (Or.inl (mj_w1 100 rfl rfl)) (Or.inl rfl))
   (mj_ac (mj_e_vi mj_M165 mj_nm165 mj_np165 (mj_w5 103 rfl rfl) (rfl : mj_cls[7]? = some mj_K7) (mj_w5 104 rfl rfl) (mj_w5 102 rfl rfl) mj_cd165)
   (mj_ac (mj_e_gf "Uncomputery$Instruction" (rfl : mj_cls[4]? = some mj_K4) (by decide) mj_u4 (Or.inl (mj_w1 109 rfl rfl)) (Or.inl rfl))
   (mj_ac (mj_e_vi mj_M165 mj_nm165 mj_np165 (mj_w5 103 rfl rfl) (rfl : mj_cls[7]? = some mj_K7) (mj_w5 104 rfl rfl) (mj_w5 102 rfl rfl) mj_cd165)
   (mj_ac (mj_e_gf "Uncomputery$Instruction" (rfl : mj_cls[4]? = some mj_K4) (by decide) mj_u4 (Or.inl (mj_w1 105 rfl rfl)) (Or.inl rfl))
   mj_an)))))
theorem mj_ok173 : mj_okRow mj_Tw mj_Mm mj_r173 := ⟨by decide +kernel, by decide +kernel, (mj_w1 8 rfl rfl), by decide, Or.inl ⟨mj_cd173, rfl, rfl⟩, mj_wlE (by decide +kernel) mj_wl173⟩
theorem mj_wl174 : ∀ x ∈ ([(2, .putfield 70, 10, 8, 0)] : List (Nat × mj_E)), mj_okW mj_Tw mj_Mm mj_m174 x.1 x.2 :=
  (mj_ac (mj_e_pf "Uncomputery$Run" (rfl : mj_cls[8]? = some mj_K8) (by decide) mj_u8 (Or.inl (mj_w2 3 rfl rfl)) (Or.inl rfl) mj_pd8 mj_ds8 (Or.inl rfl))
   mj_an)
theorem mj_ok174 : mj_okRow mj_Tw mj_Mm mj_r174 := ⟨by decide +kernel, by decide +kernel, (mj_w1 9 rfl rfl), by decide, Or.inl ⟨mj_cd174, rfl, rfl⟩, mj_wlE (by decide +kernel) mj_wl174⟩
theorem mj_wl175 : ∀ x ∈ ([(4, .invokevirtual 86, 168, 3, 9), (10, .putfield 41, 7, 8, 0), (14, .getfield 22, 5, 8, 0), (21, .getfield 26, 6, 8, 0)] : List (Nat × mj_E)), mj_okW mj_Tw mj_Mm mj_m175 x.1 x.2 :=
  (mj_ac (mj_e_vi mj_M168 mj_nm168 mj_np168 (mj_w5 119 rfl rfl) (rfl : mj_cls[8]? = some mj_K8) (mj_wp 34 rfl rfl) (mj_w5 117 rfl rfl) mj_cd168)
   (mj_ac (mj_e_pf "Uncomputery$Run" (rfl : mj_cls[8]? = some mj_K8) (by decide) mj_u8 (Or.inl (mj_w1 238 rfl rfl)) (Or.inl rfl) mj_pd8 mj_ds8 (Or.inl rfl))
   (mj_ac (mj_e_gf "Uncomputery$Run" (rfl : mj_cls[8]? = some mj_K8) (by decide) mj_u8 (Or.inl (mj_w1 236 rfl rfl)) (Or.inl rfl))
   (mj_ac (mj_e_gf "Uncomputery$Run" (rfl : mj_cls[8]? = some mj_K8) (by decide) mj_u8 (Or.inl (mj_w1 237 rfl rfl)) (Or.inl rfl))
   mj_an))))
theorem mj_ok175 : mj_okRow mj_Tw mj_Mm mj_r175 := ⟨by decide +kernel, by decide +kernel, (mj_w1 9 rfl rfl), by decide, Or.inl ⟨mj_cd175, rfl, rfl⟩, mj_wlE (by decide +kernel) mj_wl175⟩
theorem mj_wl176 : ∀ x ∈ ([(1, .getfield 33, 1, 8, 0), (6, .getfield 162, 5, 4, 0), (9, .invokevirtual 90, 74, 2, 4), (12, .invokevirtual 165, 173, 2, 8), (18, .getfield 33, 1, 8, 0), (23, .getfield 168, 7, 4, 0), (26, .invokevirtual 90, 74, 2, 4), (29, .invokevirtual 165, 173, 2, 8), (35, .getfield 94, 0, 4, 0), (95, .getfield 171, 6, 4, 0), (102, .invokevirtual 133, 174, 2, 9), (116, .invokevirtual 174, 175, 4, 9), (124, .getfield 162, 5, 4, 0), (127, .invokevirtual 133, 174, 2, 9), (138, .invokevirtual 133, 174, 2, 9), (149, .invokevirtual 174, 175, 4, 9), (160, .getfield 171, 6, 4, 0), (163, .invokevirtual 133, 174, 2, 9), (174, .invokevirtual 174, 175, 4, 9), (188, .invokevirtual 174, 175, 4, 9), (196, .invokevirtual 133, 174, 2, 9), (211, .getfield 168, 7, 4, 0), (214, .invokevirtual 133, 174, 2, 9)] : List (Nat × mj_E)), mj_okW mj_Tw mj_Mm mj_m176 x.1 x.2 :=
  (mj_ac (mj_e_gf "Uncomputery$Run" (rfl : mj_cls[8]? = some mj_K8) (by decide) mj_u8 (Or.inl (mj_w1 232 rfl rfl)) (Or.inl rfl))
   (mj_ac (mj_e_gf "Uncomputery$Instruction" (rfl : mj_cls[4]? = some mj_K4) (by decide) mj_u4 (Or.inl (mj_w1 114 rfl rfl)) (Or.inl rfl))
   (mj_ac (mj_e_vi mj_M74 mj_nm74 mj_np74 (mj_w3 130 rfl rfl) (rfl : mj_cls[3]? = some mj_K3) (mj_w3 131 rfl rfl) (mj_w5 92 rfl rfl) mj_cd74)
   (mj_ac (mj_e_vi mj_M173 mj_nm173 mj_np173 (mj_w5 139 rfl rfl) (rfl : mj_cls[7]? = some mj_K7) (mj_w5 140 rfl rfl) (mj_w5 138 rfl rfl) mj_cd173)
   (mj_ac (mj_e_gf "Uncomputery$Run" (rfl : mj_cls[8]? = some mj_K8) (by decide) mj_u8 (Or.inl (mj_w1 232 rfl rfl)) (Or.inl rfl))
   (mj_ac (mj_e_gf "Uncomputery$Instruction" (rfl : mj_cls[4]? = some mj_K4) (by decide) mj_u4 (Or.inl (mj_w1 120 rfl rfl)) (Or.inl rfl))
   (mj_ac (mj_e_vi mj_M74 mj_nm74 mj_np74 (mj_w3 130 rfl rfl) (rfl : mj_cls[3]? = some mj_K3) (mj_w3 131 rfl rfl) (mj_w5 92 rfl rfl) mj_cd74)
   (mj_ac (mj_e_vi mj_M173 mj_nm173 mj_np173 (mj_w5 139 rfl rfl) (rfl : mj_cls[7]? = some mj_K7) (mj_w5 140 rfl rfl) (mj_w5 138 rfl rfl) mj_cd173)
   (mj_ac (mj_e_gf "Uncomputery$Instruction" (rfl : mj_cls[4]? = some mj_K4) (by decide) mj_u4 (Or.inl (mj_w1 94 rfl rfl)) (Or.inl rfl))
   (mj_ac (mj_e_gf "Uncomputery$Instruction" (rfl : mj_cls[4]? = some mj_K4) (by decide) mj_u4 (Or.inl (mj_w1 117 rfl rfl)) (Or.inl rfl))
   (mj_ac (mj_e_vi mj_M174 mj_nm174 mj_np174 (mj_w5 144 rfl rfl) (rfl : mj_cls[8]? = some mj_K8) (mj_wp 37 rfl rfl) (mj_w5 142 rfl rfl) mj_cd174)
   (mj_ac (mj_e_vi mj_M175 mj_nm175 mj_np175 (mj_w5 148 rfl rfl) (rfl : mj_cls[8]? = some mj_K8) (mj_wp 38 rfl rfl) (mj_w5 146 rfl rfl) mj_cd175)
   (mj_ac (mj_e_gf "Uncomputery$Instruction" (rfl : mj_cls[4]? = some mj_K4) (by decide) mj_u4 (Or.inl (mj_w1 114 rfl rfl)) (Or.inl rfl))
   (mj_ac (mj_e_vi mj_M174 mj_nm174 mj_np174 (mj_w5 144 rfl rfl) (rfl : mj_cls[8]? = some mj_K8) (mj_wp 37 rfl rfl) (mj_w5 142 rfl rfl) mj_cd174)
   (mj_ac (mj_e_vi mj_M174 mj_nm174 mj_np174 (mj_w5 144 rfl rfl) (rfl : mj_cls[8]? = some mj_K8) (mj_wp 37 rfl rfl) (mj_w5 142 rfl rfl) mj_cd174)
   (mj_ac (mj_e_vi mj_M175 mj_nm175 mj_np175 (mj_w5 148 rfl rfl) (rfl : mj_cls[8]? = some mj_K8) (mj_wp 38 rfl rfl) (mj_w5 146 rfl rfl) mj_cd175)
   (mj_ac (mj_e_gf "Uncomputery$Instruction" (rfl : mj_cls[4]? = some mj_K4) (by decide) mj_u4 (Or.inl (mj_w1 117 rfl rfl)) (Or.inl rfl))
   (mj_ac (mj_e_vi mj_M174 mj_nm174 mj_np174 (mj_w5 144 rfl rfl) (rfl : mj_cls[8]? = some mj_K8) (mj_wp 37 rfl rfl) (mj_w5 142 rfl rfl) mj_cd174)
   (mj_ac (mj_e_vi mj_M175 mj_nm175 mj_np175 (mj_w5 148 rfl rfl) (rfl : mj_cls[8]? = some mj_K8) (mj_wp 38 rfl rfl) (mj_w5 146 rfl rfl) mj_cd175)
   (mj_ac (mj_e_vi mj_M175 mj_nm175 mj_np175 (mj_w5 148 rfl rfl) (rfl : mj_cls[8]? = some mj_K8) (mj_wp 38 rfl rfl) (mj_w5 146 rfl rfl) mj_cd175)
   (mj_ac (mj_e_vi mj_M174 mj_nm174 mj_np174 (mj_w5 144 rfl rfl) (rfl : mj_cls[8]? = some mj_K8) (mj_wp 37 rfl rfl) (mj_w5 142 rfl rfl) mj_cd174)
   (mj_ac (mj_e_gf "Uncomputery$Instruction" (rfl : mj_cls[4]? = some mj_K4) (by decide) mj_u4 (Or.inl (mj_w1 120 rfl rfl)) (Or.inl rfl))
   (mj_ac (mj_e_vi mj_M174 mj_nm174 mj_np174 (mj_w5 144 rfl rfl) (rfl : mj_cls[8]? = some mj_K8) (mj_wp 37 rfl rfl) (mj_w5 142 rfl rfl) mj_cd174)
   mj_an)))))))))))))))))))))))
theorem mj_ok176 : mj_okRow mj_Tw mj_Mm mj_r176 := ⟨by decide +kernel, by decide +kernel, (mj_w1 9 rfl rfl), by decide, Or.inl ⟨mj_cd176, rfl, rfl⟩, mj_wlE (by decide +kernel) mj_wl176⟩
theorem mj_wl177 : ∀ x ∈ ([(3, .invokevirtual 66, 178, 1, 1)] : List (Nat × mj_E)), mj_okW mj_Tw mj_Mm mj_m177 x.1 x.2 :=
  (mj_ac (mj_e_vi mj_M178 mj_nm178 mj_np178 (mj_w5 158 rfl rfl) (rfl : mj_cls[0]? = some mj_K0) (mj_w5 159 rfl rfl) (mj_w5 157 rfl rfl) mj_cd178)
   mj_an)
theorem mj_ok177 : mj_okRow mj_Tw mj_Mm mj_r177 := ⟨by decide +kernel, by decide +kernel, (mj_w1 0 rfl rfl), by decide, Or.inr ⟨mj_cd177, ⟨⟨rfl, rfl, rfl, by decide, mj_K11, rfl, (mj_w4 31 rfl rfl), (mj_w4 42 rfl rfl)⟩, trivial⟩⟩, mj_wlE (by decide +kernel) mj_wl177⟩
theorem mj_wl178 : ∀ x ∈ ([(1, .getfield 51, 7, 0, 0), (4, .getfield 209, 8, 8, 0), (10, .new 82, 11, 0, 1), (21, .getfield 51, 7, 0, 0), (24, .getfield 203, 10, 8, 0)] : List (Nat × mj_E)), mj_okW mj_Tw mj_Mm mj_m178 x.1 x.2 :=
  (mj_ac (mj_e_gf "Uncomputery" (rfl : mj_cls[0]? = some mj_K0) (by decide) mj_u0 (Or.inl (mj_w2 66 rfl rfl)) (Or.inl rfl))
   (mj_ac (mj_e_gf "Uncomputery$Run" (rfl : mj_cls[8]? = some mj_K8) (by decide) mj_u8 (Or.inl (mj_w2 0 rfl rfl)) (Or.inl rfl))
   (mj_ac (mj_e_th 213 86 mj_tc11 rfl (mj_w4 40 rfl rfl) (text := "no run was begun") (by decide +kernel) (mj_w4 85 rfl rfl) (by decide +kernel) (Or.inl ⟨by decide +kernel, by decide +kernel, by decide +kernel⟩))
   (mj_ac (mj_e_gf "Uncomputery" (rfl : mj_cls[0]? = some mj_K0) (by decide) mj_u0 (Or.inl (mj_w2 66 rfl rfl)) (Or.inl rfl))
   (mj_ac (mj_e_gf "Uncomputery$Run" (rfl : mj_cls[8]? = some mj_K8) (by decide) mj_u8 (Or.inl (mj_w2 4 rfl rfl)) (Or.inl rfl))
   mj_an)))))
theorem mj_ok178 : mj_okRow mj_Tw mj_Mm mj_r178 := ⟨by decide +kernel, by decide +kernel, (mj_w1 1 rfl rfl), by decide, Or.inl ⟨mj_cd178, rfl, rfl⟩, mj_wlE (by decide +kernel) mj_wl178⟩
theorem mj_wl179 : ∀ x ∈ ([(3, .invokevirtual 69, 180, 1, 1)] : List (Nat × mj_E)), mj_okW mj_Tw mj_Mm mj_m179 x.1 x.2 :=
  (mj_ac (mj_e_vi mj_M180 mj_nm180 mj_np180 (mj_w5 165 rfl rfl) (rfl : mj_cls[0]? = some mj_K0) (mj_w5 166 rfl rfl) (mj_w5 164 rfl rfl) mj_cd180)
   mj_an)
theorem mj_ok179 : mj_okRow mj_Tw mj_Mm mj_r179 := ⟨by decide +kernel, by decide +kernel, (mj_w1 0 rfl rfl), by decide, Or.inr ⟨mj_cd179, ⟨⟨rfl, rfl, rfl, by decide, mj_K11, rfl, (mj_w4 31 rfl rfl), (mj_w4 42 rfl rfl)⟩, trivial⟩⟩, mj_wlE (by decide +kernel) mj_wl179⟩
theorem mj_wl180 : ∀ x ∈ ([(1, .getfield 51, 7, 0, 0), (4, .getfield 209, 8, 8, 0), (10, .new 82, 11, 0, 1), (21, .getfield 51, 7, 0, 0), (24, .getfield 231, 9, 8, 0)] : List (Nat × mj_E)), mj_okW mj_Tw mj_Mm mj_m180 x.1 x.2 :=
  (mj_ac (mj_e_gf "Uncomputery" (rfl : mj_cls[0]? = some mj_K0) (by decide) mj_u0 (Or.inl (mj_w2 66 rfl rfl)) (Or.inl rfl))
   (mj_ac (mj_e_gf "Uncomputery$Run" (rfl : mj_cls[8]? = some mj_K8) (by decide) mj_u8 (Or.inl (mj_w2 0 rfl rfl)) (Or.inl rfl))
   (mj_ac (mj_e_th 213 86 mj_tc11 rfl (mj_w4 40 rfl rfl) (text := "no run was begun") (by decide +kernel) (mj_w4 85 rfl rfl) (by decide +kernel) (Or.inl ⟨by decide +kernel, by decide +kernel, by decide +kernel⟩))
   (mj_ac (mj_e_gf "Uncomputery" (rfl : mj_cls[0]? = some mj_K0) (by decide) mj_u0 (Or.inl (mj_w2 66 rfl rfl)) (Or.inl rfl))
   (mj_ac (mj_e_gf "Uncomputery$Run" (rfl : mj_cls[8]? = some mj_K8) (by decide) mj_u8 (Or.inl (mj_w2 2 rfl rfl)) (Or.inl rfl))
   mj_an)))))
theorem mj_ok180 : mj_okRow mj_Tw mj_Mm mj_r180 := ⟨by decide +kernel, by decide +kernel, (mj_w1 1 rfl rfl), by decide, Or.inl ⟨mj_cd180, rfl, rfl⟩, mj_wlE (by decide +kernel) mj_wl180⟩
theorem mj_wl181 : ∀ x ∈ ([(3, .invokevirtual 72, 182, 1, 1)] : List (Nat × mj_E)), mj_okW mj_Tw mj_Mm mj_m181 x.1 x.2 :=
  (mj_ac (mj_e_vi mj_M182 mj_nm182 mj_np182 (mj_w5 172 rfl rfl) (rfl : mj_cls[0]? = some mj_K0) (mj_w5 173 rfl rfl) (mj_w5 171 rfl rfl) mj_cd182)
   mj_an)
theorem mj_ok181 : mj_okRow mj_Tw mj_Mm mj_r181 := ⟨by decide +kernel, by decide +kernel, (mj_w1 0 rfl rfl), by decide, Or.inr ⟨mj_cd181, ⟨⟨rfl, rfl, rfl, by decide, mj_K11, rfl, (mj_w4 31 rfl rfl), (mj_w4 42 rfl rfl)⟩, trivial⟩⟩, mj_wlE (by decide +kernel) mj_wl181⟩
theorem mj_wl182 : ∀ x ∈ ([(1, .getfield 51, 7, 0, 0), (4, .getfield 209, 8, 8, 0), (10, .new 82, 11, 0, 1), (21, .getfield 51, 7, 0, 0), (24, .getfield 233, 11, 8, 0)] : List (Nat × mj_E)), mj_okW mj_Tw mj_Mm mj_m182 x.1 x.2 :=
  (mj_ac (mj_e_gf "Uncomputery" (rfl : mj_cls[0]? = some mj_K0) (by decide) mj_u0 (Or.inl (mj_w2 66 rfl rfl)) (Or.inl rfl))
   (mj_ac (mj_e_gf "Uncomputery$Run" (rfl : mj_cls[8]? = some mj_K8) (by decide) mj_u8 (Or.inl (mj_w2 0 rfl rfl)) (Or.inl rfl))
   (mj_ac (mj_e_th 213 86 mj_tc11 rfl (mj_w4 40 rfl rfl) (text := "no run was begun") (by decide +kernel) (mj_w4 85 rfl rfl) (by decide +kernel) (Or.inl ⟨by decide +kernel, by decide +kernel, by decide +kernel⟩))
   (mj_ac (mj_e_gf "Uncomputery" (rfl : mj_cls[0]? = some mj_K0) (by decide) mj_u0 (Or.inl (mj_w2 66 rfl rfl)) (Or.inl rfl))
   (mj_ac (mj_e_gf "Uncomputery$Run" (rfl : mj_cls[8]? = some mj_K8) (by decide) mj_u8 (Or.inl (mj_w2 6 rfl rfl)) (Or.inl rfl))
   mj_an)))))
theorem mj_ok182 : mj_okRow mj_Tw mj_Mm mj_r182 := ⟨by decide +kernel, by decide +kernel, (mj_w1 1 rfl rfl), by decide, Or.inl ⟨mj_cd182, rfl, rfl⟩, mj_wlE (by decide +kernel) mj_wl182⟩
theorem mj_wl183 : ∀ x ∈ ([(3, .invokevirtual 75, 184, 1, 1)] : List (Nat × mj_E)), mj_okW mj_Tw mj_Mm mj_m183 x.1 x.2 :=
  (mj_ac (mj_e_vi mj_M184 mj_nm184 mj_np184 (mj_w5 179 rfl rfl) (rfl : mj_cls[0]? = some mj_K0) (mj_w5 180 rfl rfl) (mj_w5 178 rfl rfl) mj_cd184)
   mj_an)
theorem mj_ok183 : mj_okRow mj_Tw mj_Mm mj_r183 := ⟨by decide +kernel, by decide +kernel, (mj_w1 0 rfl rfl), by decide, Or.inr ⟨mj_cd183, ⟨⟨rfl, rfl, rfl, by decide, mj_K11, rfl, (mj_w4 31 rfl rfl), (mj_w4 42 rfl rfl)⟩, trivial⟩⟩, mj_wlE (by decide +kernel) mj_wl183⟩
theorem mj_wl184 : ∀ x ∈ ([(1, .getfield 51, 7, 0, 0), (4, .getfield 209, 8, 8, 0), (10, .new 82, 11, 0, 1), (21, .getfield 51, 7, 0, 0), (24, .getfield 236, 12, 8, 0)] : List (Nat × mj_E)), mj_okW mj_Tw mj_Mm mj_m184 x.1 x.2 :=
  (mj_ac (mj_e_gf "Uncomputery" (rfl : mj_cls[0]? = some mj_K0) (by decide) mj_u0 (Or.inl (mj_w2 66 rfl rfl)) (Or.inl rfl))
   (mj_ac (mj_e_gf "Uncomputery$Run" (rfl : mj_cls[8]? = some mj_K8) (by decide) mj_u8 (Or.inl (mj_w2 0 rfl rfl)) (Or.inl rfl))
   (mj_ac (mj_e_th 213 86 mj_tc11 rfl (mj_w4 40 rfl rfl) (text := "no run was begun") (by decide +kernel) (mj_w4 85 rfl rfl) (by decide +kernel) (Or.inl ⟨by decide +kernel, by decide +kernel, by decide +kernel⟩))
   (mj_ac (mj_e_gf "Uncomputery" (rfl : mj_cls[0]? = some mj_K0) (by decide) mj_u0 (Or.inl (mj_w2 66 rfl rfl)) (Or.inl rfl))
   (mj_ac (mj_e_gf "Uncomputery$Run" (rfl : mj_cls[8]? = some mj_K8) (by decide) mj_u8 (Or.inl (mj_w2 8 rfl rfl)) (Or.inl rfl))
   mj_an)))))
theorem mj_ok184 : mj_okRow mj_Tw mj_Mm mj_r184 := ⟨by decide +kernel, by decide +kernel, (mj_w1 1 rfl rfl), by decide, Or.inl ⟨mj_cd184, rfl, rfl⟩, mj_wlE (by decide +kernel) mj_wl184⟩
theorem mj_wl185 : ∀ x ∈ ([(4, .invokevirtual 79, 186, 2, 1)] : List (Nat × mj_E)), mj_okW mj_Tw mj_Mm mj_m185 x.1 x.2 :=
  (mj_ac (mj_e_vi mj_M186 mj_nm186 mj_np186 (mj_w5 186 rfl rfl) (rfl : mj_cls[0]? = some mj_K0) (mj_w5 187 rfl rfl) (mj_w5 185 rfl rfl) mj_cd186)
   mj_an)
theorem mj_ok185 : mj_okRow mj_Tw mj_Mm mj_r185 := ⟨by decide +kernel, by decide +kernel, (mj_w1 0 rfl rfl), by decide, Or.inr ⟨mj_cd185, ⟨⟨rfl, rfl, rfl, by decide, mj_K12, rfl, (mj_w4 115 rfl rfl), (mj_w4 122 rfl rfl)⟩, trivial⟩⟩, mj_wlE (by decide +kernel) mj_wl185⟩
theorem mj_wl186 : ∀ x ∈ ([(1, .getfield 51, 7, 0, 0), (5, .invokevirtual 239, 187, 2, 9), (11, .new 109, 12, 0, 1), (22, .getfield 51, 7, 0, 0), (26, .invokevirtual 244, 188, 2, 9)] : List (Nat × mj_E)), mj_okW mj_Tw mj_Mm mj_m186 x.1 x.2 :=
  (mj_ac (mj_e_gf "Uncomputery" (rfl : mj_cls[0]? = some mj_K0) (by decide) mj_u0 (Or.inl (mj_w2 66 rfl rfl)) (Or.inl rfl))
   (mj_ac (mj_e_vi mj_M187 mj_nm187 mj_np187 (mj_w5 190 rfl rfl) (rfl : mj_cls[8]? = some mj_K8) (mj_w5 191 rfl rfl) (mj_w5 189 rfl rfl) mj_cd187)
   (mj_ac (mj_e_th 242 113 mj_tc12 rfl (mj_w4 120 rfl rfl) (text := "no such cause") (by decide +kernel) (mj_w4 130 rfl rfl) (by decide +kernel) (Or.inl ⟨by decide +kernel, by decide +kernel, by decide +kernel⟩))
   (mj_ac (mj_e_gf "Uncomputery" (rfl : mj_cls[0]? = some mj_K0) (by decide) mj_u0 (Or.inl (mj_w2 66 rfl rfl)) (Or.inl rfl))
   (mj_ac (mj_e_vi mj_M188 mj_nm188 mj_np188 (mj_w5 195 rfl rfl) (rfl : mj_cls[8]? = some mj_K8) (mj_w5 196 rfl rfl) (mj_w5 194 rfl rfl) mj_cd188)
   mj_an)))))
theorem mj_ok186 : mj_okRow mj_Tw mj_Mm mj_r186 := ⟨by decide +kernel, by decide +kernel, (mj_w1 1 rfl rfl), by decide, Or.inl ⟨mj_cd186, rfl, rfl⟩, mj_wlE (by decide +kernel) mj_wl186⟩
theorem mj_wl187 : ∀ x ∈ ([(6, .getfield 41, 7, 8, 0)] : List (Nat × mj_E)), mj_okW mj_Tw mj_Mm mj_m187 x.1 x.2 :=
  (mj_ac (mj_e_gf "Uncomputery$Run" (rfl : mj_cls[8]? = some mj_K8) (by decide) mj_u8 (Or.inl (mj_w1 238 rfl rfl)) (Or.inl rfl))
   mj_an)
theorem mj_ok187 : mj_okRow mj_Tw mj_Mm mj_r187 := ⟨by decide +kernel, by decide +kernel, (mj_w1 9 rfl rfl), by decide, Or.inl ⟨mj_cd187, rfl, rfl⟩, mj_wlE (by decide +kernel) mj_wl187⟩
theorem mj_wl188 : ∀ x ∈ ([(6, .getfield 22, 5, 8, 0), (14, .getfield 22, 5, 8, 0)] : List (Nat × mj_E)), mj_okW mj_Tw mj_Mm mj_m188 x.1 x.2 :=
  (mj_ac (mj_e_gf "Uncomputery$Run" (rfl : mj_cls[8]? = some mj_K8) (by decide) mj_u8 (Or.inl (mj_w1 236 rfl rfl)) (Or.inl rfl))
   (mj_ac (mj_e_gf "Uncomputery$Run" (rfl : mj_cls[8]? = some mj_K8) (by decide) mj_u8 (Or.inl (mj_w1 236 rfl rfl)) (Or.inl rfl))
   mj_an))
theorem mj_ok188 : mj_okRow mj_Tw mj_Mm mj_r188 := ⟨by decide +kernel, by decide +kernel, (mj_w1 9 rfl rfl), by decide, Or.inl ⟨mj_cd188, rfl, rfl⟩, mj_wlE (by decide +kernel) mj_wl188⟩
theorem mj_wl189 : ∀ x ∈ ([(4, .invokevirtual 83, 190, 2, 1)] : List (Nat × mj_E)), mj_okW mj_Tw mj_Mm mj_m189 x.1 x.2 :=
  (mj_ac (mj_e_vi mj_M190 mj_nm190 mj_np190 (mj_w5 202 rfl rfl) (rfl : mj_cls[0]? = some mj_K0) (mj_w5 203 rfl rfl) (mj_w5 201 rfl rfl) mj_cd190)
   mj_an)
theorem mj_ok189 : mj_okRow mj_Tw mj_Mm mj_r189 := ⟨by decide +kernel, by decide +kernel, (mj_w1 0 rfl rfl), by decide, Or.inr ⟨mj_cd189, ⟨⟨rfl, rfl, rfl, by decide, mj_K12, rfl, (mj_w4 115 rfl rfl), (mj_w4 122 rfl rfl)⟩, trivial⟩⟩, mj_wlE (by decide +kernel) mj_wl189⟩
theorem mj_wl190 : ∀ x ∈ ([(1, .getfield 51, 7, 0, 0), (5, .invokevirtual 239, 187, 2, 9), (11, .new 109, 12, 0, 1), (22, .getfield 51, 7, 0, 0), (26, .invokevirtual 248, 191, 2, 9)] : List (Nat × mj_E)), mj_okW mj_Tw mj_Mm mj_m190 x.1 x.2 :=
  (mj_ac (mj_e_gf "Uncomputery" (rfl : mj_cls[0]? = some mj_K0) (by decide) mj_u0 (Or.inl (mj_w2 66 rfl rfl)) (Or.inl rfl))
   (mj_ac (mj_e_vi mj_M187 mj_nm187 mj_np187 (mj_w5 190 rfl rfl) (rfl : mj_cls[8]? = some mj_K8) (mj_w5 191 rfl rfl) (mj_w5 189 rfl rfl) mj_cd187)
   (mj_ac (mj_e_th 242 113 mj_tc12 rfl (mj_w4 120 rfl rfl) (text := "no such cause") (by decide +kernel) (mj_w4 130 rfl rfl) (by decide +kernel) (Or.inl ⟨by decide +kernel, by decide +kernel, by decide +kernel⟩))
   (mj_ac (mj_e_gf "Uncomputery" (rfl : mj_cls[0]? = some mj_K0) (by decide) mj_u0 (Or.inl (mj_w2 66 rfl rfl)) (Or.inl rfl))
   (mj_ac (mj_e_vi mj_M191 mj_nm191 mj_np191 (mj_w5 206 rfl rfl) (rfl : mj_cls[8]? = some mj_K8) (mj_w5 207 rfl rfl) (mj_w5 205 rfl rfl) mj_cd191)
   mj_an)))))
theorem mj_ok190 : mj_okRow mj_Tw mj_Mm mj_r190 := ⟨by decide +kernel, by decide +kernel, (mj_w1 1 rfl rfl), by decide, Or.inl ⟨mj_cd190, rfl, rfl⟩, mj_wlE (by decide +kernel) mj_wl190⟩
theorem mj_wl191 : ∀ x ∈ ([(6, .getfield 26, 6, 8, 0), (14, .getfield 26, 6, 8, 0)] : List (Nat × mj_E)), mj_okW mj_Tw mj_Mm mj_m191 x.1 x.2 :=
  (mj_ac (mj_e_gf "Uncomputery$Run" (rfl : mj_cls[8]? = some mj_K8) (by decide) mj_u8 (Or.inl (mj_w1 237 rfl rfl)) (Or.inl rfl))
   (mj_ac (mj_e_gf "Uncomputery$Run" (rfl : mj_cls[8]? = some mj_K8) (by decide) mj_u8 (Or.inl (mj_w1 237 rfl rfl)) (Or.inl rfl))
   mj_an))
theorem mj_ok191 : mj_okRow mj_Tw mj_Mm mj_r191 := ⟨by decide +kernel, by decide +kernel, (mj_w1 9 rfl rfl), by decide, Or.inl ⟨mj_cd191, rfl, rfl⟩, mj_wlE (by decide +kernel) mj_wl191⟩
