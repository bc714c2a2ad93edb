theorem mj_wl48 : ∀ x ∈ ([(1, .ldc 15, 0, 16434824, 0), (4, .invokevirtual 27, 49, 3, 11), (18, .getfield 11, 0, 10, 0), (26, .getfield 11, 0, 10, 0), (35, .getfield 11, 0, 10, 0), (51, .getfield 11, 0, 10, 0), (56, .ldc 31, 0, 16777215, 0), (60, .invokevirtual 32, 50, 3, 11)] : List (Nat × mj_E)), mj_okW mj_Tw mj_Mm mj_m48 x.1 x.2 :=
  (mj_ac (mj_e_l0 (mj_w3 9 rfl rfl))
   (mj_ac (mj_e_vi mj_M49 mj_nm49 mj_np49 (mj_w3 30 rfl rfl) (rfl : mj_cls[10]? = some mj_K10) (mj_wp 10 rfl rfl) (mj_w3 28 rfl rfl) mj_cd49)
   (mj_ac (mj_e_gf "Uncomputery$GateSearch" (rfl : mj_cls[10]? = some mj_K10) (by decide) mj_u10 (Or.inl (mj_w2 237 rfl rfl)) (Or.inl rfl))
   (mj_ac (mj_e_gf "Uncomputery$GateSearch" (rfl : mj_cls[10]? = some mj_K10) (by decide) mj_u10 (Or.inl (mj_w2 237 rfl rfl)) (Or.inl rfl))
   (mj_ac (mj_e_gf "Uncomputery$GateSearch" (rfl : mj_cls[10]? = some mj_K10) (by decide) mj_u10 (Or.inl (mj_w2 237 rfl rfl)) (Or.inl rfl))
   (mj_ac (mj_e_gf "Uncomputery$GateSearch" (rfl : mj_cls[10]? = some mj_K10) (by decide) mj_u10 (Or.inl (mj_w2 237 rfl rfl)) (Or.inl rfl))
   (mj_ac (mj_e_l0 (mj_w3 23 rfl rfl))
   (mj_ac (mj_e_vi mj_M50 mj_nm50 mj_np50 (mj_w3 34 rfl rfl) (rfl : mj_cls[10]? = some mj_K10) (mj_wp 11 rfl rfl) (mj_w3 32 rfl rfl) mj_cd50)
   mj_an))))))))
theorem mj_ok48 : mj_okRow mj_Tw mj_Mm mj_r48 := ⟨by decide +kernel, by decide +kernel, (mj_w1 46 rfl rfl), by decide, Or.inl ⟨mj_cd48, rfl, rfl⟩, mj_wlE (by decide +kernel) mj_wl48⟩
theorem mj_wl49 : ∀ x ∈ ([(2, .invokevirtual 44, 46, 2, 11), (12, .getfield 11, 0, 10, 0), (20, .getfield 11, 0, 10, 0), (29, .getfield 11, 0, 10, 0)] : List (Nat × mj_E)), mj_okW mj_Tw mj_Mm mj_m49 x.1 x.2 :=
  (mj_ac (mj_e_vi mj_M46 mj_nm46 mj_np46 (mj_w3 16 rfl rfl) (rfl : mj_cls[10]? = some mj_K10) (mj_wp 7 rfl rfl) (mj_w3 14 rfl rfl) mj_cd46)
   (mj_ac (mj_e_gf "Uncomputery$GateSearch" (rfl : mj_cls[10]? = some mj_K10) (by decide) mj_u10 (Or.inl (mj_w2 237 rfl rfl)) (Or.inl rfl))
   (mj_ac (mj_e_gf "Uncomputery$GateSearch" (rfl : mj_cls[10]? = some mj_K10) (by decide) mj_u10 (Or.inl (mj_w2 237 rfl rfl)) (Or.inl rfl))
   (mj_ac (mj_e_gf "Uncomputery$GateSearch" (rfl : mj_cls[10]? = some mj_K10) (by decide) mj_u10 (Or.inl (mj_w2 237 rfl rfl)) (Or.inl rfl))
   mj_an))))
theorem mj_ok49 : mj_okRow mj_Tw mj_Mm mj_r49 := ⟨by decide +kernel, by decide +kernel, (mj_w1 46 rfl rfl), by decide, Or.inl ⟨mj_cd49, rfl, rfl⟩, mj_wlE (by decide +kernel) mj_wl49⟩
theorem mj_wl50 : ∀ x ∈ ([(35, .invokestatic 35, 51, 2, 0), (39, .invokevirtual 27, 49, 3, 11)] : List (Nat × mj_E)), mj_okW mj_Tw mj_Mm mj_m50 x.1 x.2 :=
  (mj_ac (mj_e_st mj_M51 mj_nm51 mj_np51 (mj_w3 37 rfl rfl) (mj_w1 46 rfl rfl) mj_cd51 (mj_w3 36 rfl rfl))
   (mj_ac (mj_e_vi mj_M49 mj_nm49 mj_np49 (mj_w3 30 rfl rfl) (rfl : mj_cls[10]? = some mj_K10) (mj_wp 10 rfl rfl) (mj_w3 28 rfl rfl) mj_cd49)
   mj_an))
theorem mj_ok50 : mj_okRow mj_Tw mj_Mm mj_r50 := ⟨by decide +kernel, by decide +kernel, (mj_w1 46 rfl rfl), by decide, Or.inl ⟨mj_cd50, rfl, rfl⟩, mj_wlE (by decide +kernel) mj_wl50⟩
theorem mj_wl51 : ∀ x ∈ ([(20, .invokestatic 39, 39, 2, 0)] : List (Nat × mj_E)), mj_okW mj_Tw mj_Mm mj_m51 x.1 x.2 :=
  (mj_ac (mj_e_st mj_M39 mj_nm39 mj_np39 (mj_w2 221 rfl rfl) (mj_w1 10 rfl rfl) mj_cd39 (mj_w3 39 rfl rfl))
   mj_an)
theorem mj_ok51 : mj_okRow mj_Tw mj_Mm mj_r51 := ⟨by decide +kernel, by decide +kernel, (mj_w1 46 rfl rfl), by decide, Or.inl ⟨mj_cd51, rfl, rfl⟩, mj_wlE (by decide +kernel) mj_wl51⟩
theorem mj_wl52 : ∀ x ∈ ([(4, .getfield 11, 0, 10, 0), (12, .getfield 11, 0, 10, 0), (21, .getfield 11, 0, 10, 0), (36, .getfield 11, 0, 10, 0), (41, .invokestatic 51, 53, 2, 0), (44, .invokevirtual 16, 45, 2, 11)] : List (Nat × mj_E)), mj_okW mj_Tw mj_Mm mj_m52 x.1 x.2 :=
  (mj_ac (mj_e_gf "Uncomputery$GateSearch" (rfl : mj_cls[10]? = some mj_K10) (by decide) mj_u10 (Or.inl (mj_w2 237 rfl rfl)) (Or.inl rfl))
   (mj_ac (mj_e_gf "Uncomputery$GateSearch" (rfl : mj_cls[10]? = some mj_K10) (by decide) mj_u10 (Or.inl (mj_w2 237 rfl rfl)) (Or.inl rfl))
   (mj_ac (mj_e_gf "Uncomputery$GateSearch" (rfl : mj_cls[10]? = some mj_K10) (by decide) mj_u10 (Or.inl (mj_w2 237 rfl rfl)) (Or.inl rfl))
   (mj_ac (mj_e_gf "Uncomputery$GateSearch" (rfl : mj_cls[10]? = some mj_K10) (by decide) mj_u10 (Or.inl (mj_w2 237 rfl rfl)) (Or.inl rfl))
   (mj_ac (mj_e_st mj_M53 mj_nm53 mj_np53 (mj_w3 45 rfl rfl) (mj_w1 46 rfl rfl) mj_cd53 (mj_w3 44 rfl rfl))
   (mj_ac (mj_e_vi mj_M45 mj_nm45 mj_np45 (mj_w3 12 rfl rfl) (rfl : mj_cls[10]? = some mj_K10) (mj_wp 6 rfl rfl) (mj_w3 10 rfl rfl) mj_cd45)
   mj_an))))))
theorem mj_ok52 : mj_okRow mj_Tw mj_Mm mj_r52 := ⟨by decide +kernel, by decide +kernel, (mj_w1 46 rfl rfl), by decide, Or.inl ⟨mj_cd52, rfl, rfl⟩, mj_wlE (by decide +kernel) mj_wl52⟩
theorem mj_wl53 : ∀ x ∈ ([] : List (Nat × mj_E)), mj_okW mj_Tw mj_Mm mj_m53 x.1 x.2 :=
  mj_an
theorem mj_ok53 : mj_okRow mj_Tw mj_Mm mj_r53 := ⟨by decide +kernel, by decide +kernel, (mj_w1 46 rfl rfl), by decide, Or.inl ⟨mj_cd53, rfl, rfl⟩, mj_wlE (by decide +kernel) mj_wl53⟩
theorem mj_wl54 : ∀ x ∈ ([(11, .getfield 61, 9, 0, 0), (15, .invokevirtual 335, 55, 2, 10)] : List (Nat × mj_E)), mj_okW mj_Tw mj_Mm mj_m54 x.1 x.2 :=
  (mj_ac (mj_e_gf "Uncomputery" (rfl : mj_cls[0]? = some mj_K0) (by decide) mj_u0 (Or.inl (mj_w2 68 rfl rfl)) (Or.inl rfl))
   (mj_ac (mj_e_vi mj_M55 mj_nm55 mj_np55 (mj_w3 52 rfl rfl) (rfl : mj_cls[9]? = some mj_K9) (mj_w3 53 rfl rfl) (mj_w3 51 rfl rfl) mj_cd55)
   mj_an))
theorem mj_ok54 : mj_okRow mj_Tw mj_Mm mj_r54 := ⟨by decide +kernel, by decide +kernel, (mj_w1 1 rfl rfl), by decide, Or.inl ⟨mj_cd54, rfl, rfl⟩, mj_wlE (by decide +kernel) mj_wl54⟩
theorem mj_wl55 : ∀ x ∈ ([(12, .invokevirtual 53, 38, 2, 10)] : List (Nat × mj_E)), mj_okW mj_Tw mj_Mm mj_m55 x.1 x.2 :=
  (mj_ac (mj_e_vi mj_M38 mj_nm38 mj_np38 (mj_w2 217 rfl rfl) (rfl : mj_cls[9]? = some mj_K9) (mj_w2 218 rfl rfl) (mj_w2 216 rfl rfl) mj_cd38)
   mj_an)
theorem mj_ok55 : mj_okRow mj_Tw mj_Mm mj_r55 := ⟨by decide +kernel, by decide +kernel, (mj_w1 10 rfl rfl), by decide, Or.inl ⟨mj_cd55, rfl, rfl⟩, mj_wlE (by decide +kernel) mj_wl55⟩
theorem mj_wl56 : ∀ x ∈ ([(12, .getfield 61, 9, 0, 0), (16, .invokevirtual 338, 57, 2, 10), (19, .invokestatic 341, 58, 2, 0)] : List (Nat × mj_E)), mj_okW mj_Tw mj_Mm mj_m56 x.1 x.2 :=
  (mj_ac (mj_e_gf "Uncomputery" (rfl : mj_cls[0]? = some mj_K0) (by decide) mj_u0 (Or.inl (mj_w2 68 rfl rfl)) (Or.inl rfl))
   (mj_ac (mj_e_vi mj_M57 mj_nm57 mj_np57 (mj_w3 60 rfl rfl) (rfl : mj_cls[9]? = some mj_K9) (mj_w3 61 rfl rfl) (mj_w3 59 rfl rfl) mj_cd57)
   (mj_ac (mj_e_st mj_M58 mj_nm58 mj_np58 (mj_w3 64 rfl rfl) (mj_w1 1 rfl rfl) mj_cd58 (mj_w3 63 rfl rfl))
   mj_an)))
theorem mj_ok56 : mj_okRow mj_Tw mj_Mm mj_r56 := ⟨by decide +kernel, by decide +kernel, (mj_w1 1 rfl rfl), by decide, Or.inl ⟨mj_cd56, rfl, rfl⟩, mj_wlE (by decide +kernel) mj_wl56⟩
theorem mj_wl57 : ∀ x ∈ ([(4, .invokevirtual 53, 38, 2, 10), (21, .invokevirtual 53, 38, 2, 10)] : List (Nat × mj_E)), mj_okW mj_Tw mj_Mm mj_m57 x.1 x.2 :=
  (mj_ac (mj_e_vi mj_M38 mj_nm38 mj_np38 (mj_w2 217 rfl rfl) (rfl : mj_cls[9]? = some mj_K9) (mj_w2 218 rfl rfl) (mj_w2 216 rfl rfl) mj_cd38)
   (mj_ac (mj_e_vi mj_M38 mj_nm38 mj_np38 (mj_w2 217 rfl rfl) (rfl : mj_cls[9]? = some mj_K9) (mj_w2 218 rfl rfl) (mj_w2 216 rfl rfl) mj_cd38)
   mj_an))
theorem mj_ok57 : mj_okRow mj_Tw mj_Mm mj_r57 := ⟨by decide +kernel, by decide +kernel, (mj_w1 10 rfl rfl), by decide, Or.inl ⟨mj_cd57, rfl, rfl⟩, mj_wlE (by decide +kernel) mj_wl57⟩
theorem mj_wl58 : ∀ x ∈ ([(2, .invokestatic 378, 59, 2, 0)] : List (Nat × mj_E)), mj_okW mj_Tw mj_Mm mj_m58 x.1 x.2 :=
  (mj_ac (mj_e_st mj_M59 mj_nm59 mj_np59 (mj_w3 67 rfl rfl) (mj_w1 1 rfl rfl) mj_cd59 (mj_w3 66 rfl rfl))
   mj_an)
theorem mj_ok58 : mj_okRow mj_Tw mj_Mm mj_r58 := ⟨by decide +kernel, by decide +kernel, (mj_w1 1 rfl rfl), by decide, Or.inl ⟨mj_cd58, rfl, rfl⟩, mj_wlE (by decide +kernel) mj_wl58⟩
theorem mj_wl59 : ∀ x ∈ ([] : List (Nat × mj_E)), mj_okW mj_Tw mj_Mm mj_m59 x.1 x.2 :=
  mj_an
theorem mj_ok59 : mj_okRow mj_Tw mj_Mm mj_r59 := ⟨by decide +kernel, by decide +kernel, (mj_w1 1 rfl rfl), by decide, Or.inl ⟨mj_cd59, rfl, rfl⟩, mj_wlE (by decide +kernel) mj_wl59⟩
theorem mj_wl60 : ∀ x ∈ ([(1, .invokevirtual 344, 61, 1, 1), (10, .getfield 72, 14, 0, 0), (19, .getfield 72, 14, 0, 0), (24, .invokestatic 275, 9004, 2, 0)] : List (Nat × mj_E)), mj_okW mj_Tw mj_Mm mj_m60 x.1 x.2 :=
  (mj_ac (mj_e_vi mj_M61 mj_nm61 mj_np61 (mj_w3 75 rfl rfl) (rfl : mj_cls[0]? = some mj_K0) (mj_wp 13 rfl rfl) (mj_w3 73 rfl rfl) mj_cd61)
   (mj_ac (mj_e_gf "Uncomputery" (rfl : mj_cls[0]? = some mj_K0) (by decide) mj_u0 (Or.inl (mj_w2 73 rfl rfl)) (Or.inl rfl))
   (mj_ac (mj_e_gf "Uncomputery" (rfl : mj_cls[0]? = some mj_K0) (by decide) mj_u0 (Or.inl (mj_w2 73 rfl rfl)) (Or.inl rfl))
   (mj_ac (mj_e_mx (mj_w3 83 rfl rfl) (mj_w2 202 rfl rfl) (mj_w1 25 rfl rfl) (mj_w2 203 rfl rfl))
   mj_an))))
theorem mj_ok60 : mj_okRow mj_Tw mj_Mm mj_r60 := ⟨by decide +kernel, by decide +kernel, (mj_w1 1 rfl rfl), by decide, Or.inl ⟨mj_cd60, rfl, rfl⟩, mj_wlE (by decide +kernel) mj_wl60⟩
theorem mj_wl61 : ∀ x ∈ ([(1, .getfield 72, 14, 0, 0), (5, .invokestatic 392, 62, 2, 0), (12, .getfield 65, 12, 0, 0), (20, .getfield 65, 12, 0, 0), (27, .invokestatic 297, 63, 1, 0), (34, .getfield 72, 14, 0, 0)] : List (Nat × mj_E)), mj_okW mj_Tw mj_Mm mj_m61 x.1 x.2 :=
  (mj_ac (mj_e_gf "Uncomputery" (rfl : mj_cls[0]? = some mj_K0) (by decide) mj_u0 (Or.inl (mj_w2 73 rfl rfl)) (Or.inl rfl))
   (mj_ac (mj_e_st mj_M62 mj_nm62 mj_np62 (mj_w3 78 rfl rfl) (mj_w1 26 rfl rfl) mj_cd62 (mj_w3 77 rfl rfl))
   (mj_ac (mj_e_gf "Uncomputery" (rfl : mj_cls[0]? = some mj_K0) (by decide) mj_u0 (Or.inl (mj_w2 71 rfl rfl)) (Or.inl rfl))
   (mj_ac (mj_e_gf "Uncomputery" (rfl : mj_cls[0]? = some mj_K0) (by decide) mj_u0 (Or.inl (mj_w2 71 rfl rfl)) (Or.inl rfl))
   (mj_ac (mj_e_st mj_M63 mj_nm63 mj_np63 (mj_w3 81 rfl rfl) (mj_w1 1 rfl rfl) mj_cd63 (mj_w3 80 rfl rfl))
   (mj_ac (mj_e_gf "Uncomputery" (rfl : mj_cls[0]? = some mj_K0) (by decide) mj_u0 (Or.inl (mj_w2 73 rfl rfl)) (Or.inl rfl))
   mj_an))))))
theorem mj_ok61 : mj_okRow mj_Tw mj_Mm mj_r61 := ⟨by decide +kernel, by decide +kernel, (mj_w1 1 rfl rfl), by decide, Or.inl ⟨mj_cd61, rfl, rfl⟩, mj_wlE (by decide +kernel) mj_wl61⟩
theorem mj_wl62 : ∀ x ∈ ([] : List (Nat × mj_E)), mj_okW mj_Tw mj_Mm mj_m62 x.1 x.2 :=
  mj_an
theorem mj_ok62 : mj_okRow mj_Tw mj_Mm mj_r62 := ⟨by decide +kernel, by decide +kernel, (mj_w1 26 rfl rfl), by decide, Or.inl ⟨mj_cd62, rfl, rfl⟩, mj_wlE (by decide +kernel) mj_wl62⟩
theorem mj_wl63 : ∀ x ∈ ([] : List (Nat × mj_E)), mj_okW mj_Tw mj_Mm mj_m63 x.1 x.2 :=
  mj_an
theorem mj_ok63 : mj_okRow mj_Tw mj_Mm mj_r63 := ⟨by decide +kernel, by decide +kernel, (mj_w1 1 rfl rfl), by decide, Or.inl ⟨mj_cd63, rfl, rfl⟩, mj_wlE (by decide +kernel) mj_wl63⟩
theorem mj_wl64 : ∀ x ∈ ([(1, .invokevirtual 344, 61, 1, 1), (10, .getfield 72, 14, 0, 0), (18, .getfield 72, 14, 0, 0), (37, .ldc_w 347, 3, 1090519040, 0)] : List (Nat × mj_E)), mj_okW mj_Tw mj_Mm mj_m64 x.1 x.2 :=
  (mj_ac (mj_e_vi mj_M61 mj_nm61 mj_np61 (mj_w3 75 rfl rfl) (rfl : mj_cls[0]? = some mj_K0) (mj_wp 13 rfl rfl) (mj_w3 73 rfl rfl) mj_cd61)
   (mj_ac (mj_e_gf "Uncomputery" (rfl : mj_cls[0]? = some mj_K0) (by decide) mj_u0 (Or.inl (mj_w2 73 rfl rfl)) (Or.inl rfl))
   (mj_ac (mj_e_gf "Uncomputery" (rfl : mj_cls[0]? = some mj_K0) (by decide) mj_u0 (Or.inl (mj_w2 73 rfl rfl)) (Or.inl rfl))
   (mj_ac (mj_e_lf (mj_w3 88 rfl rfl))
   mj_an))))
theorem mj_ok64 : mj_okRow mj_Tw mj_Mm mj_r64 := ⟨by decide +kernel, by decide +kernel, (mj_w1 1 rfl rfl), by decide, Or.inl ⟨mj_cd64, rfl, rfl⟩, mj_wlE (by decide +kernel) mj_wl64⟩
theorem mj_wl65 : ∀ x ∈ ([(1, .getfield 19, 1, 0, 0), (4, .invokevirtual 357, 66, 1, 7)] : List (Nat × mj_E)), mj_okW mj_Tw mj_Mm mj_m65 x.1 x.2 :=
  (mj_ac (mj_e_gf "Uncomputery" (rfl : mj_cls[0]? = some mj_K0) (by decide) mj_u0 (Or.inl (mj_w2 60 rfl rfl)) (Or.inl rfl))
   (mj_ac (mj_e_vi mj_M66 mj_nm66 mj_np66 (mj_w3 94 rfl rfl) (rfl : mj_cls[6]? = some mj_K6) (mj_w3 95 rfl rfl) (mj_w3 93 rfl rfl) mj_cd66)
   mj_an))
theorem mj_ok65 : mj_okRow mj_Tw mj_Mm mj_r65 := ⟨by decide +kernel, by decide +kernel, (mj_w1 1 rfl rfl), by decide, Or.inl ⟨mj_cd65, rfl, rfl⟩, mj_wlE (by decide +kernel) mj_wl65⟩
theorem mj_wl66 : ∀ x ∈ ([(1, .getfield 22, 2, 6, 0)] : List (Nat × mj_E)), mj_okW mj_Tw mj_Mm mj_m66 x.1 x.2 :=
  (mj_ac (mj_e_gf "Uncomputery$Library" (rfl : mj_cls[6]? = some mj_K6) (by decide) mj_u6 (Or.inl (mj_w1 198 rfl rfl)) (Or.inl rfl))
   mj_an)
theorem mj_ok66 : mj_okRow mj_Tw mj_Mm mj_r66 := ⟨by decide +kernel, by decide +kernel, (mj_w1 7 rfl rfl), by decide, Or.inl ⟨mj_cd66, rfl, rfl⟩, mj_wlE (by decide +kernel) mj_wl66⟩
theorem mj_wl67 : ∀ x ∈ ([(0, .ldc2_w 358, 31, 0, 0), (4, .getfield 39, 5, 0, 0), (7, .ldc2_w 360, 7, 0, 0), (10, .invokevirtual 362, 68, 2, 8), (15, .getfield 259, 16, 0, 0)] : List (Nat × mj_E)), mj_okW mj_Tw mj_Mm mj_m67 x.1 x.2 :=
  (mj_ac (mj_e_l4 (mj_w3 101 rfl rfl))
   (mj_ac (mj_e_gf "Uncomputery" (rfl : mj_cls[0]? = some mj_K0) (by decide) mj_u0 (Or.inl (mj_w2 64 rfl rfl)) (Or.inl rfl))
   (mj_ac (mj_e_l4 (mj_w3 102 rfl rfl))
   (mj_ac (mj_e_vi mj_M68 mj_nm68 mj_np68 (mj_w3 104 rfl rfl) (rfl : mj_cls[7]? = some mj_K7) (mj_w3 105 rfl rfl) (mj_w3 103 rfl rfl) mj_cd68)
   (mj_ac (mj_e_gf "Uncomputery" (rfl : mj_cls[0]? = some mj_K0) (by decide) mj_u0 (Or.inl (mj_w2 75 rfl rfl)) (Or.inl rfl))
   mj_an)))))
theorem mj_ok67 : mj_okRow mj_Tw mj_Mm mj_r67 := ⟨by decide +kernel, by decide +kernel, (mj_w1 1 rfl rfl), by decide, Or.inl ⟨mj_cd67, rfl, rfl⟩, mj_wlE (by decide +kernel) mj_wl67⟩
theorem mj_wl68 : ∀ x ∈ ([(8, .getfield 9, 0, 7, 0), (15, .ldc2_w 47, 31, 0, 0), (21, .getfield 9, 0, 7, 0), (42, .getfield 24, 2, 7, 0), (48, .ldc2_w 47, 31, 0, 0), (56, .invokevirtual 28, 69, 2, 8)] : List (Nat × mj_E)), mj_okW mj_Tw mj_Mm mj_m68 x.1 x.2 :=
  (mj_ac (mj_e_gf "Uncomputery$Store" (rfl : mj_cls[7]? = some mj_K7) (by decide) mj_u7 (Or.inl (mj_w1 214 rfl rfl)) (Or.inl rfl))
   (mj_ac (mj_e_l4 (mj_w3 107 rfl rfl))
   (mj_ac (mj_e_gf "Uncomputery$Store" (rfl : mj_cls[7]? = some mj_K7) (by decide) mj_u7 (Or.inl (mj_w1 214 rfl rfl)) (Or.inl rfl))
   (mj_ac (mj_e_gf "Uncomputery$Store" (rfl : mj_cls[7]? = some mj_K7) (by decide) mj_u7 (Or.inl (mj_w1 216 rfl rfl)) (Or.inl rfl))
   (mj_ac (mj_e_l4 (mj_w3 107 rfl rfl))
   (mj_ac (mj_e_vi mj_M69 mj_nm69 mj_np69 (mj_w3 109 rfl rfl) (rfl : mj_cls[7]? = some mj_K7) (mj_w3 110 rfl rfl) (mj_w3 108 rfl rfl) mj_cd69)
   mj_an))))))
theorem mj_ok68 : mj_okRow mj_Tw mj_Mm mj_r68 := ⟨by decide +kernel, by decide +kernel, (mj_w1 8 rfl rfl), by decide, Or.inl ⟨mj_cd68, rfl, rfl⟩, mj_wlE (by decide +kernel) mj_wl68⟩
theorem mj_wl69 : ∀ x ∈ ([(6, .getfield 24, 2, 7, 0), (14, .getfield 15, 1, 7, 0), (22, .getfield 15, 1, 7, 0)] : List (Nat × mj_E)), mj_okW mj_Tw mj_Mm mj_m69 x.1 x.2 :=
  (mj_ac (mj_e_gf "Uncomputery$Store" (rfl : mj_cls[7]? = some mj_K7) (by decide) mj_u7 (Or.inl (mj_w1 216 rfl rfl)) (Or.inl rfl))
   (mj_ac (mj_e_gf "Uncomputery$Store" (rfl : mj_cls[7]? = some mj_K7) (by decide) mj_u7 (Or.inl (mj_w1 215 rfl rfl)) (Or.inl rfl))
   (mj_ac (mj_e_gf "Uncomputery$Store" (rfl : mj_cls[7]? = some mj_K7) (by decide) mj_u7 (Or.inl (mj_w1 215 rfl rfl)) (Or.inl rfl))
   mj_an)))
theorem mj_ok69 : mj_okRow mj_Tw mj_Mm mj_r69 := ⟨by decide +kernel, by decide +kernel, (mj_w1 8 rfl rfl), by decide, Or.inl ⟨mj_cd69, rfl, rfl⟩, mj_wlE (by decide +kernel) mj_wl69⟩
theorem mj_wl70 : ∀ x ∈ ([(4, .getfield 19, 1, 0, 0), (7, .invokevirtual 357, 66, 1, 7), (14, .getfield 19, 1, 0, 0), (18, .invokevirtual 149, 20, 2, 7), (24, .getfield 23, 2, 0, 0), (27, .getfield 75, 0, 1, 0), (30, .invokevirtual 153, 71, 2, 4), (34, .getfield 23, 2, 0, 0), (37, .getfield 100, 2, 1, 0), (40, .invokevirtual 104, 81, 1, 6), (47, .getfield 23, 2, 0, 0), (50, .getfield 368, 1, 1, 0), (53, .invokevirtual 168, 21, 1, 4), (57, .invokevirtual 168, 21, 1, 4), (66, .getfield 23, 2, 0, 0), (69, .getfield 368, 1, 1, 0), (73, .getfield 26, 3, 0, 0), (76, .getfield 75, 0, 1, 0), (79, .invokevirtual 153, 71, 2, 4), (83, .getfield 26, 3, 0, 0), (86, .getfield 100, 2, 1, 0), (89, .invokevirtual 104, 81, 1, 6), (98, .getfield 26, 3, 0, 0), (101, .getfield 368, 1, 1, 0), (105, .getfield 32, 4, 0, 0), (108, .invokevirtual 153, 71, 2, 4), (112, .getfield 32, 4, 0, 0), (116, .getfield 23, 2, 0, 0), (119, .getfield 75, 0, 1, 0), (122, .invokevirtual 371, 104, 2, 3), (137, .invokevirtual 375, 106, 1, 1)] : List (Nat × mj_E)), mj_okW mj_Tw mj_Mm mj_m70 x.1 x.2 :=
  (mj_ac (mj_e_gf "Uncomputery" (rfl : mj_cls[0]? = some mj_K0) (by decide) mj_u0 (Or.inl (mj_w2 60 rfl rfl)) (Or.inl rfl))
   (mj_ac (mj_e_vi mj_M66 mj_nm66 mj_np66 (mj_w3 94 rfl rfl) (rfl : mj_cls[6]? = some mj_K6) (mj_w3 95 rfl rfl) (mj_w3 93 rfl rfl) mj_cd66)
   (mj_ac (mj_e_gf "Uncomputery" (rfl : mj_cls[0]? = some mj_K0) (by decide) mj_u0 (Or.inl (mj_w2 60 rfl rfl)) (Or.inl rfl))
   (mj_ac (mj_e_vi mj_M20 mj_nm20 mj_np20 (mj_w2 148 rfl rfl) (rfl : mj_cls[6]? = some mj_K6) (mj_w2 149 rfl rfl) (mj_w3 116 rfl rfl) mj_cd20)
   (mj_ac (mj_e_gf "Uncomputery" (rfl : mj_cls[0]? = some mj_K0) (by decide) mj_u0 (Or.inl (mj_w2 61 rfl rfl)) (Or.inl rfl))
   (mj_ac (mj_e_gf "Uncomputery$Procedure" (rfl : mj_cls[1]? = some mj_K1) (by decide) mj_u1 (Or.inl (mj_w1 174 rfl rfl)) (Or.inl rfl))
   (mj_ac (mj_e_vi mj_M71 mj_nm71 mj_np71 (mj_w3 118 rfl rfl) (rfl : mj_cls[3]? = some mj_K3) (mj_w3 119 rfl rfl) (mj_w3 117 rfl rfl) mj_cd71)
   (mj_ac (mj_e_gf "Uncomputery" (rfl : mj_cls[0]? = some mj_K0) (by decide) mj_u0 (Or.inl (mj_w2 61 rfl rfl)) (Or.inl rfl))
   (mj_ac (mj_e_gf "Uncomputery$Procedure" (rfl : mj_cls[1]? = some mj_K1) (by decide) mj_u1 (Or.inl (mj_w1 179 rfl rfl)) (Or.inl rfl))
   (mj_ac (mj_e_vi mj_M81 mj_nm81 mj_np81 (mj_w3 155 rfl rfl) (rfl : mj_cls[5]? = some mj_K5) (mj_w3 156 rfl rfl) (mj_w3 154 rfl rfl) mj_cd81)
   (mj_ac (mj_e_gf "Uncomputery" (rfl : mj_cls[0]? = some mj_K0) (by decide) mj_u0 (Or.inl (mj_w2 61 rfl rfl)) (Or.inl rfl))
   (mj_ac (mj_e_gf "Uncomputery$Procedure" (rfl : mj_cls[1]? = some mj_K1) (by decide) mj_u1 (Or.inl (mj_w1 177 rfl rfl)) (Or.inl rfl))
   (mj_ac (mj_e_vi mj_M21 mj_nm21 mj_np21 (mj_w2 152 rfl rfl) (rfl : mj_cls[3]? = some mj_K3) (mj_w2 153 rfl rfl) (mj_w4 2 rfl rfl) mj_cd21)
   (mj_ac (mj_e_vi mj_M21 mj_nm21 mj_np21 (mj_w2 152 rfl rfl) (rfl : mj_cls[3]? = some mj_K3) (mj_w2 153 rfl rfl) (mj_w4 2 rfl rfl) mj_cd21)
   (mj_ac (mj_e_gf "Uncomputery" (rfl : mj_cls[0]? = some mj_K0) (by decide) mj_u0 (Or.inl (mj_w2 61 rfl rfl)) (Or.inl rfl))
   (mj_ac (mj_e_gf "Uncomputery$Procedure" (rfl : mj_cls[1]? = some mj_K1) (by decide) mj_u1 (Or.inl (mj_w1 177 rfl rfl)) (Or.inl rfl))
   (mj_ac (mj_e_gf "Uncomputery" (rfl : mj_cls[0]? = some mj_K0) (by decide) mj_u0 (Or.inl (mj_w2 62 rfl rfl)) (Or.inl rfl))
   (mj_ac (mj_e_gf "Uncomputery$Procedure" (rfl : mj_cls[1]? = some mj_K1) (by decide) mj_u1 (Or.inl (mj_w1 174 rfl rfl)) (Or.inl rfl))
   (mj_ac (mj_e_vi mj_M71 mj_nm71 mj_np71 (mj_w3 118 rfl rfl) (rfl : mj_cls[3]? = some mj_K3) (mj_w3 119 rfl rfl) (mj_w3 117 rfl rfl) mj_cd71)
   (mj_ac (mj_e_gf "Uncomputery" (rfl : mj_cls[0]? = some mj_K0) (by decide) mj_u0 (Or.inl (mj_w2 62 rfl rfl)) (Or.inl rfl))
   (mj_ac (mj_e_gf "Uncomputery$Procedure" (rfl : mj_cls[1]? = some mj_K1) (by decide) mj_u1 (Or.inl (mj_w1 179 rfl rfl)) (Or.inl rfl))
   (mj_ac (mj_e_vi mj_M81 mj_nm81 mj_np81 (mj_w3 155 rfl rfl) (rfl : mj_cls[5]? = some mj_K5) (mj_w3 156 rfl rfl) (mj_w3 154 rfl rfl) mj_cd81)
   (mj_ac (mj_e_gf "Uncomputery" (rfl : mj_cls[0]? = some mj_K0) (by decide) mj_u0 (Or.inl (mj_w2 62 rfl rfl)) (Or.inl rfl))
   (mj_ac (mj_e_gf "Uncomputery$Procedure" (rfl : mj_cls[1]? = some mj_K1) (by decide) mj_u1 (Or.inl (mj_w1 177 rfl rfl)) (Or.inl rfl))
   (mj_ac (mj_e_gf "Uncomputery" (rfl : mj_cls[0]? = some mj_K0) (by decide) mj_u0 (Or.inl (mj_w2 63 rfl rfl)) (Or.inl rfl))
   (mj_ac (mj_e_vi mj_M71 mj_nm71 mj_np71 (mj_w3 118 rfl rfl) (rfl : mj_cls[3]? = some mj_K3) (mj_w3 119 rfl rfl) (mj_w3 117 rfl rfl) mj_cd71)
   (mj_ac (mj_e_gf "Uncomputery" (rfl : mj_cls[0]? = some mj_K0) (by decide) mj_u0 (Or.inl (mj_w2 63 rfl rfl)) (Or.inl rfl))
   (mj_ac (mj_e_gf "Uncomputery" (rfl : mj_cls[0]? = some mj_K0) (by decide) mj_u0 (Or.inl (mj_w2 61 rfl rfl)) (Or.inl rfl))
   (mj_ac (mj_e_gf "Uncomputery$Procedure" (rfl : mj_cls[1]? = some mj_K1) (by decide) mj_u1 (Or.inl (mj_w1 174 rfl rfl)) (Or.inl rfl))
   (mj_ac (mj_e_vi mj_M104 mj_nm104 mj_np104 (mj_w4 4 rfl rfl) (rfl : mj_cls[2]? = some mj_K2) (mj_w4 5 rfl rfl) (mj_w4 3 rfl rfl) mj_cd104)
   (mj_ac (mj_e_vi mj_M106 mj_nm106 mj_np106 (mj_w4 13 rfl rfl) (rfl : mj_cls[0]? = some mj_K0) (mj_wp 26 rfl rfl) (mj_w4 11 rfl rfl) mj_cd106)
   mj_an)))))))))))))))))))))))))))))))
theorem mj_ok70 : mj_okRow mj_Tw mj_Mm mj_r70 := ⟨by decide +kernel, by decide +kernel, (mj_w1 1 rfl rfl), by decide, Or.inl ⟨mj_cd70, rfl, rfl⟩, mj_wlE (by decide +kernel) mj_wl70⟩
theorem mj_wl71 : ∀ x ∈ ([(1, .invokevirtual 47, 13, 1, 3), (7, .getfield 22, 2, 3, 0), (12, .invokestatic 52, 72, 5, 0)] : List (Nat × mj_E)), mj_okW mj_Tw mj_Mm mj_m71 x.1 x.2 :=
  (mj_ac (mj_e_vi mj_M13 mj_nm13 mj_np13 (mj_w2 120 rfl rfl) (rfl : mj_cls[2]? = some mj_K2) (mj_w2 121 rfl rfl) (mj_w3 121 rfl rfl) mj_cd13)
   (mj_ac (mj_e_gf "Uncomputery$Code" (rfl : mj_cls[3]? = some mj_K3) (by decide) mj_u3 (Or.inl (mj_w1 140 rfl rfl)) (Or.inl rfl))
   (mj_ac (mj_e_st mj_M72 mj_nm72 mj_np72 (mj_w3 123 rfl rfl) (mj_w1 4 rfl rfl) mj_cd72 (mj_w3 122 rfl rfl))
   mj_an)))
theorem mj_ok71 : mj_okRow mj_Tw mj_Mm mj_r71 := ⟨by decide +kernel, by decide +kernel, (mj_w1 4 rfl rfl), by decide, Or.inl ⟨mj_cd71, rfl, rfl⟩, mj_wlE (by decide +kernel) mj_wl71⟩
theorem mj_wl72 : ∀ x ∈ ([(29, .invokevirtual 56, 73, 2, 3), (35, .invokevirtual 30, 74, 2, 4), (42, .getfield 59, 0, 4, 0), (52, .getfield 59, 0, 4, 0), (66, .invokestatic 63, 75, 4, 0), (71, .getfield 38, 5, 4, 0), (84, .invokestatic 67, 79, 2, 0)] : List (Nat × mj_E)), mj_okW mj_Tw mj_Mm mj_m72 x.1 x.2 :=
  (mj_ac (mj_e_vi mj_M73 mj_nm73 mj_np73 (mj_w3 126 rfl rfl) (rfl : mj_cls[2]? = some mj_K2) (mj_w3 127 rfl rfl) (mj_w3 125 rfl rfl) mj_cd73)
   (mj_ac (mj_e_vi mj_M74 mj_nm74 mj_np74 (mj_w3 130 rfl rfl) (rfl : mj_cls[3]? = some mj_K3) (mj_w3 131 rfl rfl) (mj_w3 129 rfl rfl) mj_cd74)
   (mj_ac (mj_e_gf "Uncomputery$Instruction" (rfl : mj_cls[4]? = some mj_K4) (by decide) mj_u4 (Or.inl (mj_w1 92 rfl rfl)) (Or.inl rfl))
   (mj_ac (mj_e_gf "Uncomputery$Instruction" (rfl : mj_cls[4]? = some mj_K4) (by decide) mj_u4 (Or.inl (mj_w1 92 rfl rfl)) (Or.inl rfl))
   (mj_ac (mj_e_st mj_M75 mj_nm75 mj_np75 (mj_w3 134 rfl rfl) (mj_w1 4 rfl rfl) mj_cd75 (mj_w3 133 rfl rfl))
   (mj_ac (mj_e_gf "Uncomputery$Instruction" (rfl : mj_cls[4]? = some mj_K4) (by decide) mj_u4 (Or.inl (mj_w1 113 rfl rfl)) (Or.inl rfl))
   (mj_ac (mj_e_st mj_M79 mj_nm79 mj_np79 (mj_w3 148 rfl rfl) (mj_w1 4 rfl rfl) mj_cd79 (mj_w3 147 rfl rfl))
   mj_an)))))))
theorem mj_ok72 : mj_okRow mj_Tw mj_Mm mj_r72 := ⟨by decide +kernel, by decide +kernel, (mj_w1 4 rfl rfl), by decide, Or.inl ⟨mj_cd72, rfl, rfl⟩, mj_wlE (by decide +kernel) mj_wl72⟩
theorem mj_wl73 : ∀ x ∈ ([(1, .getfield 15, 1, 2, 0), (8, .getfield 15, 1, 2, 0), (12, .getfield 9, 0, 2, 0), (20, .getfield 9, 0, 2, 0), (24, .getfield 15, 1, 2, 0), (31, .getfield 15, 1, 2, 0), (36, .putfield 15, 1, 2, 0)] : List (Nat × mj_E)), mj_okW mj_Tw mj_Mm mj_m73 x.1 x.2 :=
  (mj_ac (mj_e_gf "Uncomputery$Text" (rfl : mj_cls[2]? = some mj_K2) (by decide) mj_u2 (Or.inl (mj_w1 70 rfl rfl)) (Or.inl rfl))
   (mj_ac (mj_e_gf "Uncomputery$Text" (rfl : mj_cls[2]? = some mj_K2) (by decide) mj_u2 (Or.inl (mj_w1 70 rfl rfl)) (Or.inl rfl))
   (mj_ac (mj_e_gf "Uncomputery$Text" (rfl : mj_cls[2]? = some mj_K2) (by decide) mj_u2 (Or.inl (mj_w1 68 rfl rfl)) (Or.inl rfl))
   (mj_ac (mj_e_gf "Uncomputery$Text" (rfl : mj_cls[2]? = some mj_K2) (by decide) mj_u2 (Or.inl (mj_w1 68 rfl rfl)) (Or.inl rfl))
   (mj_ac (mj_e_gf "Uncomputery$Text" (rfl : mj_cls[2]? = some mj_K2) (by decide) mj_u2 (Or.inl (mj_w1 70 rfl rfl)) (Or.inl rfl))
   (mj_ac (mj_e_gf "Uncomputery$Text" (rfl : mj_cls[2]? = some mj_K2) (by decide) mj_u2 (Or.inl (mj_w1 70 rfl rfl)) (Or.inl rfl))
   (mj_ac (mj_e_pf "Uncomputery$Text" (rfl : mj_cls[2]? = some mj_K2) (by decide) mj_u2 (Or.inl (mj_w1 70 rfl rfl)) (Or.inl rfl) mj_pd2 mj_ds2 (Or.inl rfl))
   mj_an)))))))
theorem mj_ok73 : mj_okRow mj_Tw mj_Mm mj_r73 := ⟨by decide +kernel, by decide +kernel, (mj_w1 3 rfl rfl), by decide, Or.inl ⟨mj_cd73, rfl, rfl⟩, mj_wlE (by decide +kernel) mj_wl73⟩
theorem mj_wl74 : ∀ x ∈ ([(6, .getfield 22, 2, 3, 0), (14, .getfield 11, 0, 3, 0), (22, .getfield 11, 0, 3, 0), (31, .getfield 18, 1, 3, 0)] : List (Nat × mj_E)), mj_okW mj_Tw mj_Mm mj_m74 x.1 x.2 :=
  (mj_ac (mj_e_gf "Uncomputery$Code" (rfl : mj_cls[3]? = some mj_K3) (by decide) mj_u3 (Or.inl (mj_w1 140 rfl rfl)) (Or.inl rfl))
   (mj_ac (mj_e_gf "Uncomputery$Code" (rfl : mj_cls[3]? = some mj_K3) (by decide) mj_u3 (Or.inl (mj_w1 138 rfl rfl)) (Or.inl rfl))
   (mj_ac (mj_e_gf "Uncomputery$Code" (rfl : mj_cls[3]? = some mj_K3) (by decide) mj_u3 (Or.inl (mj_w1 138 rfl rfl)) (Or.inl rfl))
   (mj_ac (mj_e_gf "Uncomputery$Code" (rfl : mj_cls[3]? = some mj_K3) (by decide) mj_u3 (Or.inl (mj_w1 139 rfl rfl)) (Or.inl rfl))
   mj_an))))
theorem mj_ok74 : mj_okRow mj_Tw mj_Mm mj_r74 := ⟨by decide +kernel, by decide +kernel, (mj_w1 4 rfl rfl), by decide, Or.inl ⟨mj_cd74, rfl, rfl⟩, mj_wlE (by decide +kernel) mj_wl74⟩
theorem mj_wl75 : ∀ x ∈ ([(9, .getfield 38, 5, 4, 0), (12, .invokevirtual 30, 74, 2, 4), (20, .getfield 59, 0, 4, 0), (23, .invokevirtual 56, 73, 2, 3), (28, .invokestatic 71, 76, 2, 0), (34, .invokevirtual 56, 73, 2, 3), (39, .getfield 38, 5, 4, 0), (45, .getfield 41, 6, 4, 0), (52, .invokestatic 52, 72, 5, 0), (58, .invokevirtual 56, 73, 2, 3), (63, .getfield 41, 6, 4, 0), (69, .getfield 44, 7, 4, 0), (76, .invokestatic 52, 72, 5, 0), (82, .invokevirtual 56, 73, 2, 3), (88, .invokestatic 71, 76, 2, 0), (93, .getfield 59, 0, 4, 0), (96, .invokevirtual 56, 73, 2, 3)] : List (Nat × mj_E)), mj_okW mj_Tw mj_Mm mj_m75 x.1 x.2 :=
  (mj_ac (mj_e_gf "Uncomputery$Instruction" (rfl : mj_cls[4]? = some mj_K4) (by decide) mj_u4 (Or.inl (mj_w1 113 rfl rfl)) (Or.inl rfl))
   (mj_ac (mj_e_vi mj_M74 mj_nm74 mj_np74 (mj_w3 130 rfl rfl) (rfl : mj_cls[3]? = some mj_K3) (mj_w3 131 rfl rfl) (mj_w3 129 rfl rfl) mj_cd74)
   (mj_ac (mj_e_gf "Uncomputery$Instruction" (rfl : mj_cls[4]? = some mj_K4) (by decide) mj_u4 (Or.inl (mj_w1 92 rfl rfl)) (Or.inl rfl))
   (mj_ac (mj_e_vi mj_M73 mj_nm73 mj_np73 (mj_w3 126 rfl rfl) (rfl : mj_cls[2]? = some mj_K2) (mj_w3 127 rfl rfl) (mj_w3 125 rfl rfl) mj_cd73)
   (mj_ac (mj_e_st mj_M76 mj_nm76 mj_np76 (mj_w3 137 rfl rfl) (mj_w1 4 rfl rfl) mj_cd76 (mj_w3 136 rfl rfl))
   (mj_ac (mj_e_vi mj_M73 mj_nm73 mj_np73 (mj_w3 126 rfl rfl) (rfl : mj_cls[2]? = some mj_K2) (mj_w3 127 rfl rfl) (mj_w3 125 rfl rfl) mj_cd73)
   (mj_ac (mj_e_gf "Uncomputery$Instruction" (rfl : mj_cls[4]? = some mj_K4) (by decide) mj_u4 (Or.inl (mj_w1 113 rfl rfl)) (Or.inl rfl))
   (mj_ac (mj_e_gf "Uncomputery$Instruction" (rfl : mj_cls[4]? = some mj_K4) (by decide) mj_u4 (Or.inl (mj_w1 116 rfl rfl)) (Or.inl rfl))
   (mj_ac (mj_e_st mj_M72 mj_nm72 mj_np72 (mj_w3 123 rfl rfl) (mj_w1 4 rfl rfl) mj_cd72 (mj_w3 122 rfl rfl))
   (mj_ac (mj_e_vi mj_M73 mj_nm73 mj_np73 (mj_w3 126 rfl rfl) (rfl : mj_cls[2]? = some mj_K2) (mj_w3 127 rfl rfl) (mj_w3 125 rfl rfl) mj_cd73)
   (mj_ac (mj_e_gf "Uncomputery$Instruction" (rfl : mj_cls[4]? = some mj_K4) (by decide) mj_u4 (Or.inl (mj_w1 116 rfl rfl)) (Or.inl rfl))
   (mj_ac (mj_e_gf "Uncomputery$Instruction" (rfl : mj_cls[4]? = some mj_K4) (by decide) mj_u4 (Or.inl (mj_w1 119 rfl rfl)) (Or.inl rfl))
   (mj_ac (mj_e_st mj_M72 mj_nm72 mj_np72 (mj_w3 123 rfl rfl) (mj_w1 4 rfl rfl) mj_cd72 (mj_w3 122 rfl rfl))
   (mj_ac (mj_e_vi mj_M73 mj_nm73 mj_np73 (mj_w3 126 rfl rfl) (rfl : mj_cls[2]? = some mj_K2) (mj_w3 127 rfl rfl) (mj_w3 125 rfl rfl) mj_cd73)
   (mj_ac (mj_e_st mj_M76 mj_nm76 mj_np76 (mj_w3 137 rfl rfl) (mj_w1 4 rfl rfl) mj_cd76 (mj_w3 136 rfl rfl))
   (mj_ac (mj_e_gf "Uncomputery$Instruction" (rfl : mj_cls[4]? = some mj_K4) (by decide) mj_u4 (Or.inl (mj_w1 92 rfl rfl)) (Or.inl rfl))
   (mj_ac (mj_e_vi mj_M73 mj_nm73 mj_np73 (mj_w3 126 rfl rfl) (rfl : mj_cls[2]? = some mj_K2) (mj_w3 127 rfl rfl) (mj_w3 125 rfl rfl) mj_cd73)
   mj_an)))))))))))))))))
theorem mj_ok75 : mj_okRow mj_Tw mj_Mm mj_r75 := ⟨by decide +kernel, by decide +kernel, (mj_w1 4 rfl rfl), by decide, Or.inl ⟨mj_cd75, rfl, rfl⟩, mj_wlE (by decide +kernel) mj_wl75⟩
theorem mj_wl76 : ∀ x ∈ ([(2, .getfield 89, 2, 4, 0), (5, .invokevirtual 85, 77, 2, 3), (9, .getfield 92, 3, 4, 0), (19, .getfield 92, 3, 4, 0), (22, .invokevirtual 56, 73, 2, 3), (27, .getfield 95, 4, 4, 0), (30, .invokevirtual 85, 77, 2, 3)] : List (Nat × mj_E)), mj_okW mj_Tw mj_Mm mj_m76 x.1 x.2 :=
  (mj_ac (mj_e_gf "Uncomputery$Instruction" (rfl : mj_cls[4]? = some mj_K4) (by decide) mj_u4 (Or.inl (mj_w1 102 rfl rfl)) (Or.inl rfl))
   (mj_ac (mj_e_vi mj_M77 mj_nm77 mj_np77 (mj_w3 140 rfl rfl) (rfl : mj_cls[2]? = some mj_K2) (mj_w3 141 rfl rfl) (mj_w3 139 rfl rfl) mj_cd77)
   (mj_ac (mj_e_gf "Uncomputery$Instruction" (rfl : mj_cls[4]? = some mj_K4) (by decide) mj_u4 (Or.inl (mj_w1 107 rfl rfl)) (Or.inl rfl))
   (mj_ac (mj_e_gf "Uncomputery$Instruction" (rfl : mj_cls[4]? = some mj_K4) (by decide) mj_u4 (Or.inl (mj_w1 107 rfl rfl)) (Or.inl rfl))
   (mj_ac (mj_e_vi mj_M73 mj_nm73 mj_np73 (mj_w3 126 rfl rfl) (rfl : mj_cls[2]? = some mj_K2) (mj_w3 127 rfl rfl) (mj_w3 125 rfl rfl) mj_cd73)
   (mj_ac (mj_e_gf "Uncomputery$Instruction" (rfl : mj_cls[4]? = some mj_K4) (by decide) mj_u4 (Or.inl (mj_w1 111 rfl rfl)) (Or.inl rfl))
   (mj_ac (mj_e_vi mj_M77 mj_nm77 mj_np77 (mj_w3 140 rfl rfl) (rfl : mj_cls[2]? = some mj_K2) (mj_w3 141 rfl rfl) (mj_w3 139 rfl rfl) mj_cd77)
   mj_an)))))))
theorem mj_ok76 : mj_okRow mj_Tw mj_Mm mj_r76 := ⟨by decide +kernel, by decide +kernel, (mj_w1 4 rfl rfl), by decide, Or.inl ⟨mj_cd76, rfl, rfl⟩, mj_wlE (by decide +kernel) mj_wl76⟩
theorem mj_wl77 : ∀ x ∈ ([(8, .invokestatic 19, 78, 1, 0), (13, .invokevirtual 23, 73, 2, 3), (35, .invokevirtual 23, 73, 2, 3), (56, .invokevirtual 23, 73, 2, 3), (68, .invokevirtual 23, 73, 2, 3)] : List (Nat × mj_E)), mj_okW mj_Tw mj_Mm mj_m77 x.1 x.2 :=
  (mj_ac (mj_e_stN "Uncomputery" mj_M78 mj_nm78 mj_np78 (mj_w3 144 rfl rfl) (mj_w1 1 rfl rfl) mj_cd78 (mj_w3 143 rfl rfl))
   (mj_ac (mj_e_vi mj_M73 mj_nm73 mj_np73 (mj_w3 126 rfl rfl) (rfl : mj_cls[2]? = some mj_K2) (mj_w3 127 rfl rfl) (mj_w3 146 rfl rfl) mj_cd73)
   (mj_ac (mj_e_vi mj_M73 mj_nm73 mj_np73 (mj_w3 126 rfl rfl) (rfl : mj_cls[2]? = some mj_K2) (mj_w3 127 rfl rfl) (mj_w3 146 rfl rfl) mj_cd73)
   (mj_ac (mj_e_vi mj_M73 mj_nm73 mj_np73 (mj_w3 126 rfl rfl) (rfl : mj_cls[2]? = some mj_K2) (mj_w3 127 rfl rfl) (mj_w3 146 rfl rfl) mj_cd73)
   (mj_ac (mj_e_vi mj_M73 mj_nm73 mj_np73 (mj_w3 126 rfl rfl) (rfl : mj_cls[2]? = some mj_K2) (mj_w3 127 rfl rfl) (mj_w3 146 rfl rfl) mj_cd73)
   mj_an)))))
theorem mj_ok77 : mj_okRow mj_Tw mj_Mm mj_r77 := ⟨by decide +kernel, by decide +kernel, (mj_w1 3 rfl rfl), by decide, Or.inl ⟨mj_cd77, rfl, rfl⟩, mj_wlE (by decide +kernel) mj_wl77⟩
theorem mj_wl78 : ∀ x ∈ ([] : List (Nat × mj_E)), mj_okW mj_Tw mj_Mm mj_m78 x.1 x.2 :=
  mj_an
theorem mj_ok78 : mj_okRow mj_Tw mj_Mm mj_r78 := ⟨by decide +kernel, by decide +kernel, (mj_w1 1 rfl rfl), by decide, Or.inl ⟨mj_cd78, rfl, rfl⟩, mj_wlE (by decide +kernel) mj_wl78⟩
theorem mj_wl79 : ∀ x ∈ ([(1, .getfield 59, 0, 4, 0), (50, .getfield 59, 0, 4, 0), (53, .invokestatic 74, 80, 1, 0), (56, .invokevirtual 56, 73, 2, 3), (61, .getfield 78, 1, 4, 0), (64, .invokestatic 81, 78, 1, 0), (67, .invokevirtual 85, 77, 2, 3), (75, .getfield 59, 0, 4, 0), (78, .invokestatic 74, 80, 1, 0), (81, .invokevirtual 56, 73, 2, 3), (86, .getfield 78, 1, 4, 0), (89, .invokevirtual 85, 77, 2, 3), (97, .getfield 78, 1, 4, 0), (100, .invokestatic 81, 78, 1, 0), (103, .invokevirtual 85, 77, 2, 3), (108, .getfield 59, 0, 4, 0), (111, .invokestatic 74, 80, 1, 0), (114, .invokevirtual 56, 73, 2, 3), (119, .invokestatic 71, 76, 2, 0)] : List (Nat × mj_E)), mj_okW mj_Tw mj_Mm mj_m79 x.1 x.2 :=
  (mj_ac (mj_e_gf "Uncomputery$Instruction" (rfl : mj_cls[4]? = some mj_K4) (by decide) mj_u4 (Or.inl (mj_w1 92 rfl rfl)) (Or.inl rfl))
   (mj_ac (mj_e_gf "Uncomputery$Instruction" (rfl : mj_cls[4]? = some mj_K4) (by decide) mj_u4 (Or.inl (mj_w1 92 rfl rfl)) (Or.inl rfl))
   (mj_ac (mj_e_st mj_M80 mj_nm80 mj_np80 (mj_w3 151 rfl rfl) (mj_w1 4 rfl rfl) mj_cd80 (mj_w3 150 rfl rfl))
   (mj_ac (mj_e_vi mj_M73 mj_nm73 mj_np73 (mj_w3 126 rfl rfl) (rfl : mj_cls[2]? = some mj_K2) (mj_w3 127 rfl rfl) (mj_w3 125 rfl rfl) mj_cd73)
   (mj_ac (mj_e_gf "Uncomputery$Instruction" (rfl : mj_cls[4]? = some mj_K4) (by decide) mj_u4 (Or.inl (mj_w1 97 rfl rfl)) (Or.inl rfl))
   (mj_ac (mj_e_stN "Uncomputery" mj_M78 mj_nm78 mj_np78 (mj_w3 144 rfl rfl) (mj_w1 1 rfl rfl) mj_cd78 (mj_w3 153 rfl rfl))
   (mj_ac (mj_e_vi mj_M77 mj_nm77 mj_np77 (mj_w3 140 rfl rfl) (rfl : mj_cls[2]? = some mj_K2) (mj_w3 141 rfl rfl) (mj_w3 139 rfl rfl) mj_cd77)
   (mj_ac (mj_e_gf "Uncomputery$Instruction" (rfl : mj_cls[4]? = some mj_K4) (by decide) mj_u4 (Or.inl (mj_w1 92 rfl rfl)) (Or.inl rfl))
   (mj_ac (mj_e_st mj_M80 mj_nm80 mj_np80 (mj_w3 151 rfl rfl) (mj_w1 4 rfl rfl) mj_cd80 (mj_w3 150 rfl rfl))
   (mj_ac (mj_e_vi mj_M73 mj_nm73 mj_np73 (mj_w3 126 rfl rfl) (rfl : mj_cls[2]? = some mj_K2) (mj_w3 127 rfl rfl) (mj_w3 125 rfl rfl) mj_cd73)
   (mj_ac (mj_e_gf "Uncomputery$Instruction" (rfl : mj_cls[4]? = some mj_K4) (by decide) mj_u4 (Or.inl (mj_w1 97 rfl rfl)) (Or.inl rfl))
   (mj_ac (mj_e_vi mj_M77 mj_nm77 mj_np77 (mj_w3 140 rfl rfl) (rfl : mj_cls[2]? = some mj_K2) (mj_w3 141 rfl rfl) (mj_w3 139 rfl rfl) mj_cd77)
   (mj_ac (mj_e_gf "Uncomputery$Instruction" (rfl : mj_cls[4]? = some mj_K4) (by decide) mj_u4 (Or.inl (mj_w1 97 rfl rfl)) (Or.inl rfl))
   (mj_ac (mj_e_stN "Uncomputery" mj_M78 mj_nm78 mj_np78 (mj_w3 144 rfl rfl) (mj_w1 1 rfl rfl) mj_cd78 (mj_w3 153 rfl rfl))
   (mj_ac (mj_e_vi mj_M77 mj_nm77 mj_np77 (mj_w3 140 rfl rfl) (rfl : mj_cls[2]? = some mj_K2) (mj_w3 141 rfl rfl) (mj_w3 139 rfl rfl) mj_cd77)
   (mj_ac (mj_e_gf "Uncomputery$Instruction" (rfl : mj_cls[4]? = some mj_K4) (by decide) mj_u4 (Or.inl (mj_w1 92 rfl rfl)) (Or.inl rfl))
   (mj_ac (mj_e_st mj_M80 mj_nm80 mj_np80 (mj_w3 151 rfl rfl) (mj_w1 4 rfl rfl) mj_cd80 (mj_w3 150 rfl rfl))
   (mj_ac (mj_e_vi mj_M73 mj_nm73 mj_np73 (mj_w3 126 rfl rfl) (rfl : mj_cls[2]? = some mj_K2) (mj_w3 127 rfl rfl) (mj_w3 125 rfl rfl) mj_cd73)
   (mj_ac (mj_e_st mj_M76 mj_nm76 mj_np76 (mj_w3 137 rfl rfl) (mj_w1 4 rfl rfl) mj_cd76 (mj_w3 136 rfl rfl))
   mj_an)))))))))))))))))))
theorem mj_ok79 : mj_okRow mj_Tw mj_Mm mj_r79 := ⟨by decide +kernel, by decide +kernel, (mj_w1 4 rfl rfl), by decide, Or.inl ⟨mj_cd79, rfl, rfl⟩, mj_wlE (by decide +kernel) mj_wl79⟩
theorem mj_wl80 : ∀ x ∈ ([] : List (Nat × mj_E)), mj_okW mj_Tw mj_Mm mj_m80 x.1 x.2 :=
  mj_an
theorem mj_ok80 : mj_okRow mj_Tw mj_Mm mj_r80 := ⟨by decide +kernel, by decide +kernel, (mj_w1 4 rfl rfl), by decide, Or.inl ⟨mj_cd80, rfl, rfl⟩, mj_wlE (by decide +kernel) mj_wl80⟩
theorem mj_wl81 : ∀ x ∈ ([(2, .putfield 27, 2, 5, 0), (6, .getfield 19, 1, 5, 0), (9, .invokevirtual 30, 82, 1, 4), (15, .invokevirtual 35, 83, 3, 6)] : List (Nat × mj_E)), mj_okW mj_Tw mj_Mm mj_m81 x.1 x.2 :=
  (mj_ac (mj_e_pf "Uncomputery$Reader" (rfl : mj_cls[5]? = some mj_K5) (by decide) mj_u5 (Or.inl (mj_w1 156 rfl rfl)) (Or.inl rfl) mj_pd5 mj_ds5 (Or.inl rfl))
   (mj_ac (mj_e_gf "Uncomputery$Reader" (rfl : mj_cls[5]? = some mj_K5) (by decide) mj_u5 (Or.inl (mj_w1 155 rfl rfl)) (Or.inl rfl))
   (mj_ac (mj_e_vi mj_M82 mj_nm82 mj_np82 (mj_w3 159 rfl rfl) (rfl : mj_cls[3]? = some mj_K3) (mj_w3 160 rfl rfl) (mj_w3 158 rfl rfl) mj_cd82)
   (mj_ac (mj_e_vi mj_M83 mj_nm83 mj_np83 (mj_w3 164 rfl rfl) (rfl : mj_cls[5]? = some mj_K5) (mj_wp 14 rfl rfl) (mj_w3 162 rfl rfl) mj_cd83)
   mj_an))))
theorem mj_ok81 : mj_okRow mj_Tw mj_Mm mj_r81 := ⟨by decide +kernel, by decide +kernel, (mj_w1 6 rfl rfl), by decide, Or.inl ⟨mj_cd81, rfl, rfl⟩, mj_wlE (by decide +kernel) mj_wl81⟩
theorem mj_wl82 : ∀ x ∈ ([(2, .putfield 22, 2, 3, 0)] : List (Nat × mj_E)), mj_okW mj_Tw mj_Mm mj_m82 x.1 x.2 :=
  (mj_ac (mj_e_pf "Uncomputery$Code" (rfl : mj_cls[3]? = some mj_K3) (by decide) mj_u3 (Or.inl (mj_w1 140 rfl rfl)) (Or.inl rfl) mj_pd3 mj_ds3 (Or.inl rfl))
   mj_an)
theorem mj_ok82 : mj_okRow mj_Tw mj_Mm mj_r82 := ⟨by decide +kernel, by decide +kernel, (mj_w1 4 rfl rfl), by decide, Or.inl ⟨mj_cd82, rfl, rfl⟩, mj_wlE (by decide +kernel) mj_wl82⟩
theorem mj_wl83 : ∀ x ∈ ([(1, .invokevirtual 48, 84, 1, 6), (20, .invokevirtual 56, 85, 2, 6), (29, .invokevirtual 48, 84, 1, 6), (43, .invokevirtual 60, 101, 3, 6), (61, .getfield 27, 2, 5, 0), (64, .invokevirtual 52, 88, 3, 6)] : List (Nat × mj_E)), mj_okW mj_Tw mj_Mm mj_m83 x.1 x.2 :=
  (mj_ac (mj_e_vi mj_M84 mj_nm84 mj_np84 (mj_w3 168 rfl rfl) (rfl : mj_cls[5]? = some mj_K5) (mj_wp 15 rfl rfl) (mj_w3 166 rfl rfl) mj_cd84)
   (mj_ac (mj_e_vi mj_M85 mj_nm85 mj_np85 (mj_w3 172 rfl rfl) (rfl : mj_cls[5]? = some mj_K5) (mj_wp 16 rfl rfl) (mj_w3 170 rfl rfl) mj_cd85)
   (mj_ac (mj_e_vi mj_M84 mj_nm84 mj_np84 (mj_w3 168 rfl rfl) (rfl : mj_cls[5]? = some mj_K5) (mj_wp 15 rfl rfl) (mj_w3 166 rfl rfl) mj_cd84)
   (mj_ac (mj_e_vi mj_M101 mj_nm101 mj_np101 (mj_w3 233 rfl rfl) (rfl : mj_cls[5]? = some mj_K5) (mj_wp 25 rfl rfl) (mj_w3 231 rfl rfl) mj_cd101)
   (mj_ac (mj_e_gf "Uncomputery$Reader" (rfl : mj_cls[5]? = some mj_K5) (by decide) mj_u5 (Or.inl (mj_w1 156 rfl rfl)) (Or.inl rfl))
   (mj_ac (mj_e_vi mj_M88 mj_nm88 mj_np88 (mj_w3 183 rfl rfl) (rfl : mj_cls[5]? = some mj_K5) (mj_wp 18 rfl rfl) (mj_w3 181 rfl rfl) mj_cd88)
   mj_an))))))
theorem mj_ok83 : mj_okRow mj_Tw mj_Mm mj_r83 := ⟨by decide +kernel, by decide +kernel, (mj_w1 6 rfl rfl), by decide, Or.inl ⟨mj_cd83, rfl, rfl⟩, mj_wlE (by decide +kernel) mj_wl83⟩
theorem mj_wl84 : ∀ x ∈ ([(1, .getfield 27, 2, 5, 0), (8, .getfield 27, 2, 5, 0), (12, .getfield 15, 0, 5, 0), (15, .getfield 39, 1, 2, 0), (22, .getfield 27, 2, 5, 0), (26, .getfield 15, 0, 5, 0), (29, .getfield 44, 0, 2, 0), (37, .getfield 15, 0, 5, 0), (40, .getfield 44, 0, 2, 0), (44, .getfield 27, 2, 5, 0)] : List (Nat × mj_E)), mj_okW mj_Tw mj_Mm mj_m84 x.1 x.2 :=
  (mj_ac (mj_e_gf "Uncomputery$Reader" (rfl : mj_cls[5]? = some mj_K5) (by decide) mj_u5 (Or.inl (mj_w1 156 rfl rfl)) (Or.inl rfl))
   (mj_ac (mj_e_gf "Uncomputery$Reader" (rfl : mj_cls[5]? = some mj_K5) (by decide) mj_u5 (Or.inl (mj_w1 156 rfl rfl)) (Or.inl rfl))
   (mj_ac (mj_e_gf "Uncomputery$Reader" (rfl : mj_cls[5]? = some mj_K5) (by decide) mj_u5 (Or.inl (mj_w1 154 rfl rfl)) (Or.inl rfl))
   (mj_ac (mj_e_gf "Uncomputery$Text" (rfl : mj_cls[2]? = some mj_K2) (by decide) mj_u2 (Or.inr ⟨"Uncomputery", (mj_w1 71 rfl rfl)⟩) (Or.inl rfl))
   (mj_ac (mj_e_gf "Uncomputery$Reader" (rfl : mj_cls[5]? = some mj_K5) (by decide) mj_u5 (Or.inl (mj_w1 156 rfl rfl)) (Or.inl rfl))
   (mj_ac (mj_e_gf "Uncomputery$Reader" (rfl : mj_cls[5]? = some mj_K5) (by decide) mj_u5 (Or.inl (mj_w1 154 rfl rfl)) (Or.inl rfl))
   (mj_ac (mj_e_gf "Uncomputery$Text" (rfl : mj_cls[2]? = some mj_K2) (by decide) mj_u2 (Or.inr ⟨"Uncomputery", (mj_w1 69 rfl rfl)⟩) (Or.inl rfl))
   (mj_ac (mj_e_gf "Uncomputery$Reader" (rfl : mj_cls[5]? = some mj_K5) (by decide) mj_u5 (Or.inl (mj_w1 154 rfl rfl)) (Or.inl rfl))
   (mj_ac (mj_e_gf "Uncomputery$Text" (rfl : mj_cls[2]? = some mj_K2) (by decide) mj_u2 (Or.inr ⟨"Uncomputery", (mj_w1 69 rfl rfl)⟩) (Or.inl rfl))
   (mj_ac (mj_e_gf "Uncomputery$Reader" (rfl : mj_cls[5]? = some mj_K5) (by decide) mj_u5 (Or.inl (mj_w1 156 rfl rfl)) (Or.inl rfl))
   mj_an))))))))))
theorem mj_ok84 : mj_okRow mj_Tw mj_Mm mj_r84 := ⟨by decide +kernel, by decide +kernel, (mj_w1 6 rfl rfl), by decide, Or.inl ⟨mj_cd84, rfl, rfl⟩, mj_wlE (by decide +kernel) mj_wl84⟩
theorem mj_wl85 : ∀ x ∈ ([(1, .invokevirtual 48, 84, 1, 6), (6, .invokestatic 64, 86, 1, 0), (13, .invokevirtual 67, 87, 1, 6), (79, .invokevirtual 71, 96, 2, 6), (86, .invokevirtual 75, 97, 2, 6), (98, .invokevirtual 78, 98, 5, 6), (110, .invokevirtual 78, 98, 5, 6), (118, .getfield 27, 2, 5, 0), (121, .invokevirtual 52, 88, 3, 6)] : List (Nat × mj_E)), mj_okW mj_Tw mj_Mm mj_m85 x.1 x.2 :=
  (mj_ac (mj_e_vi mj_M84 mj_nm84 mj_np84 (mj_w3 168 rfl rfl) (rfl : mj_cls[5]? = some mj_K5) (mj_wp 15 rfl rfl) (mj_w3 166 rfl rfl) mj_cd84)
   (mj_ac (mj_e_stN "Uncomputery" mj_M86 mj_nm86 mj_np86 (mj_w3 175 rfl rfl) (mj_w1 1 rfl rfl) mj_cd86 (mj_w3 174 rfl rfl))
   (mj_ac (mj_e_vi mj_M87 mj_nm87 mj_np87 (mj_w3 179 rfl rfl) (rfl : mj_cls[5]? = some mj_K5) (mj_wp 17 rfl rfl) (mj_w3 177 rfl rfl) mj_cd87)
   (mj_ac (mj_e_vi mj_M96 mj_nm96 mj_np96 (mj_w3 213 rfl rfl) (rfl : mj_cls[5]? = some mj_K5) (mj_wp 21 rfl rfl) (mj_w3 211 rfl rfl) mj_cd96)
   (mj_ac (mj_e_vi mj_M97 mj_nm97 mj_np97 (mj_w3 217 rfl rfl) (rfl : mj_cls[5]? = some mj_K5) (mj_wp 22 rfl rfl) (mj_w3 215 rfl rfl) mj_cd97)
   (mj_ac (mj_e_vi mj_M98 mj_nm98 mj_np98 (mj_w3 221 rfl rfl) (rfl : mj_cls[5]? = some mj_K5) (mj_wp 23 rfl rfl) (mj_w3 219 rfl rfl) mj_cd98)
   (mj_ac (mj_e_vi mj_M98 mj_nm98 mj_np98 (mj_w3 221 rfl rfl) (rfl : mj_cls[5]? = some mj_K5) (mj_wp 23 rfl rfl) (mj_w3 219 rfl rfl) mj_cd98)
   (mj_ac (mj_e_gf "Uncomputery$Reader" (rfl : mj_cls[5]? = some mj_K5) (by decide) mj_u5 (Or.inl (mj_w1 156 rfl rfl)) (Or.inl rfl))
   (mj_ac (mj_e_vi mj_M88 mj_nm88 mj_np88 (mj_w3 183 rfl rfl) (rfl : mj_cls[5]? = some mj_K5) (mj_wp 18 rfl rfl) (mj_w3 181 rfl rfl) mj_cd88)
   mj_an)))))))))
theorem mj_ok85 : mj_okRow mj_Tw mj_Mm mj_r85 := ⟨by decide +kernel, by decide +kernel, (mj_w1 6 rfl rfl), by decide, Or.inl ⟨mj_cd85, rfl, rfl⟩, mj_wlE (by decide +kernel) mj_wl85⟩
theorem mj_wl86 : ∀ x ∈ ([] : List (Nat × mj_E)), mj_okW mj_Tw mj_Mm mj_m86 x.1 x.2 :=
  mj_an
theorem mj_ok86 : mj_okRow mj_Tw mj_Mm mj_r86 := ⟨by decide +kernel, by decide +kernel, (mj_w1 1 rfl rfl), by decide, Or.inl ⟨mj_cd86, rfl, rfl⟩, mj_wlE (by decide +kernel) mj_wl86⟩
theorem mj_wl87 : ∀ x ∈ ([(1, .getfield 27, 2, 5, 0), (6, .invokevirtual 48, 84, 1, 6), (15, .getfield 27, 2, 5, 0), (20, .putfield 27, 2, 5, 0), (24, .invokevirtual 48, 84, 1, 6), (56, .getfield 27, 2, 5, 0), (59, .invokevirtual 52, 88, 3, 6), (65, .getfield 27, 2, 5, 0), (70, .putfield 27, 2, 5, 0), (74, .getfield 19, 1, 5, 0), (79, .invokevirtual 82, 89, 2, 4), (87, .putfield 86, 1, 4, 0), (99, .invokevirtual 91, 91, 2, 6), (104, .invokevirtual 95, 92, 1, 6), (115, .getfield 98, 5, 5, 0), (118, .putfield 101, 2, 4, 0), (122, .invokevirtual 48, 84, 1, 6), (125, .invokestatic 104, 94, 1, 0), (134, .invokevirtual 48, 84, 1, 6), (138, .putfield 107, 3, 4, 0), (143, .getfield 27, 2, 5, 0), (148, .putfield 27, 2, 5, 0), (152, .invokevirtual 95, 92, 1, 6), (163, .getfield 98, 5, 5, 0), (166, .putfield 110, 4, 4, 0), (171, .invokestatic 113, 95, 1, 0), (181, .invokevirtual 52, 88, 3, 6)] : List (Nat × mj_E)), mj_okW mj_Tw mj_Mm mj_m87 x.1 x.2 :=
  (mj_ac (mj_e_gf "Uncomputery$Reader" (rfl : mj_cls[5]? = some mj_K5) (by decide) mj_u5 (Or.inl (mj_w1 156 rfl rfl)) (Or.inl rfl))
   (mj_ac (mj_e_vi mj_M84 mj_nm84 mj_np84 (mj_w3 168 rfl rfl) (rfl : mj_cls[5]? = some mj_K5) (mj_wp 15 rfl rfl) (mj_w3 166 rfl rfl) mj_cd84)
   (mj_ac (mj_e_gf "Uncomputery$Reader" (rfl : mj_cls[5]? = some mj_K5) (by decide) mj_u5 (Or.inl (mj_w1 156 rfl rfl)) (Or.inl rfl))
   (mj_ac (mj_e_pf "Uncomputery$Reader" (rfl : mj_cls[5]? = some mj_K5) (by decide) mj_u5 (Or.inl (mj_w1 156 rfl rfl)) (Or.inl rfl) mj_pd5 mj_ds5 (Or.inl rfl))
   (mj_ac (mj_e_vi mj_M84 mj_nm84 mj_np84 (mj_w3 168 rfl rfl) (rfl : mj_cls[5]? = some mj_K5) (mj_wp 15 rfl rfl) (mj_w3 166 rfl rfl) mj_cd84)
   (mj_ac (mj_e_gf "Uncomputery$Reader" (rfl : mj_cls[5]? = some mj_K5) (by decide) mj_u5 (Or.inl (mj_w1 156 rfl rfl)) (Or.inl rfl))
   (mj_ac (mj_e_vi mj_M88 mj_nm88 mj_np88 (mj_w3 183 rfl rfl) (rfl : mj_cls[5]? = some mj_K5) (mj_wp 18 rfl rfl) (mj_w3 181 rfl rfl) mj_cd88)
   (mj_ac (mj_e_gf "Uncomputery$Reader" (rfl : mj_cls[5]? = some mj_K5) (by decide) mj_u5 (Or.inl (mj_w1 156 rfl rfl)) (Or.inl rfl))
   (mj_ac (mj_e_pf "Uncomputery$Reader" (rfl : mj_cls[5]? = some mj_K5) (by decide) mj_u5 (Or.inl (mj_w1 156 rfl rfl)) (Or.inl rfl) mj_pd5 mj_ds5 (Or.inl rfl))
   (mj_ac (mj_e_gf "Uncomputery$Reader" (rfl : mj_cls[5]? = some mj_K5) (by decide) mj_u5 (Or.inl (mj_w1 155 rfl rfl)) (Or.inl rfl))
   (mj_ac (mj_e_vi mj_M89 mj_nm89 mj_np89 (mj_w3 186 rfl rfl) (rfl : mj_cls[3]? = some mj_K3) (mj_w3 187 rfl rfl) (mj_w3 185 rfl rfl) mj_cd89)
   (mj_ac (mj_e_pf "Uncomputery$Instruction" (rfl : mj_cls[4]? = some mj_K4) (by decide) mj_u4 (Or.inl (mj_w1 96 rfl rfl)) (Or.inl rfl) mj_pd4 mj_ds4 (Or.inl rfl))
   (mj_ac (mj_e_vi mj_M91 mj_nm91 mj_np91 (mj_w3 195 rfl rfl) (rfl : mj_cls[5]? = some mj_K5) (mj_wp 19 rfl rfl) (mj_w3 193 rfl rfl) mj_cd91)
   (mj_ac (mj_e_vi mj_M92 mj_nm92 mj_np92 (mj_w3 200 rfl rfl) (rfl : mj_cls[5]? = some mj_K5) (mj_wp 20 rfl rfl) (mj_w3 198 rfl rfl) mj_cd92)
   (mj_ac (mj_e_gf "Uncomputery$Reader" (rfl : mj_cls[5]? = some mj_K5) (by decide) mj_u5 (Or.inl (mj_w1 159 rfl rfl)) (Or.inl rfl))
   (mj_ac (mj_e_pf "Uncomputery$Instruction" (rfl : mj_cls[4]? = some mj_K4) (by decide) mj_u4 (Or.inl (mj_w1 101 rfl rfl)) (Or.inl rfl) mj_pd4 mj_ds4 (Or.inl rfl))
   (mj_ac (mj_e_vi mj_M84 mj_nm84 mj_np84 (mj_w3 168 rfl rfl) (rfl : mj_cls[5]? = some mj_K5) (mj_wp 15 rfl rfl) (mj_w3 166 rfl rfl) mj_cd84)
   (mj_ac (mj_e_st mj_M94 mj_nm94 mj_np94 (mj_w3 206 rfl rfl) (mj_w1 6 rfl rfl) mj_cd94 (mj_w3 205 rfl rfl))
   (mj_ac (mj_e_vi mj_M84 mj_nm84 mj_np84 (mj_w3 168 rfl rfl) (rfl : mj_cls[5]? = some mj_K5) (mj_wp 15 rfl rfl) (mj_w3 166 rfl rfl) mj_cd84)
   (mj_ac (mj_e_pf "Uncomputery$Instruction" (rfl : mj_cls[4]? = some mj_K4) (by decide) mj_u4 (Or.inl (mj_w1 106 rfl rfl)) (Or.inl rfl) mj_pd4 mj_ds4 (Or.inl rfl))
   (mj_ac (mj_e_gf "Uncomputery$Reader" (rfl : mj_cls[5]? = some mj_K5) (by decide) mj_u5 (Or.inl (mj_w1 156 rfl rfl)) (Or.inl rfl))
   (mj_ac (mj_e_pf "Uncomputery$Reader" (rfl : mj_cls[5]? = some mj_K5) (by decide) mj_u5 (Or.inl (mj_w1 156 rfl rfl)) (Or.inl rfl) mj_pd5 mj_ds5 (Or.inl rfl))
   (mj_ac (mj_e_vi mj_M92 mj_nm92 mj_np92 (mj_w3 200 rfl rfl) (rfl : mj_cls[5]? = some mj_K5) (mj_wp 20 rfl rfl) (mj_w3 198 rfl rfl) mj_cd92)
   (mj_ac (mj_e_gf "Uncomputery$Reader" (rfl : mj_cls[5]? = some mj_K5) (by decide) mj_u5 (Or.inl (mj_w1 159 rfl rfl)) (Or.inl rfl))
   (mj_ac (mj_e_pf "Uncomputery$Instruction" (rfl : mj_cls[4]? = some mj_K4) (by decide) mj_u4 (Or.inl (mj_w1 110 rfl rfl)) (Or.inl rfl) mj_pd4 mj_ds4 (Or.inl rfl))
   (mj_ac (mj_e_st mj_M95 mj_nm95 mj_np95 (mj_w3 209 rfl rfl) (mj_w1 6 rfl rfl) mj_cd95 (mj_w3 208 rfl rfl))
   (mj_ac (mj_e_vi mj_M88 mj_nm88 mj_np88 (mj_w3 183 rfl rfl) (rfl : mj_cls[5]? = some mj_K5) (mj_wp 18 rfl rfl) (mj_w3 181 rfl rfl) mj_cd88)
   mj_an)))))))))))))))))))))))))))
theorem mj_ok87 : mj_okRow mj_Tw mj_Mm mj_r87 := ⟨by decide +kernel, by decide +kernel, (mj_w1 6 rfl rfl), by decide, Or.inl ⟨mj_cd87, rfl, rfl⟩, mj_wlE (by decide +kernel) mj_wl87⟩
theorem mj_wl88 : ∀ x ∈ ([(2, .putfield 9, 4, 5, 0), (7, .putfield 23, 3, 5, 0)] : List (Nat × mj_E)), mj_okW mj_Tw mj_Mm mj_m88 x.1 x.2 :=
  (mj_ac (mj_e_pf "Uncomputery$Reader" (rfl : mj_cls[5]? = some mj_K5) (by decide) mj_u5 (Or.inl (mj_w1 158 rfl rfl)) (Or.inl rfl) mj_pd5 mj_ds5 (Or.inl rfl))
   (mj_ac (mj_e_pf "Uncomputery$Reader" (rfl : mj_cls[5]? = some mj_K5) (by decide) mj_u5 (Or.inl (mj_w1 157 rfl rfl)) (Or.inl rfl) mj_pd5 mj_ds5 (Or.inl rfl))
   mj_an))
theorem mj_ok88 : mj_okRow mj_Tw mj_Mm mj_r88 := ⟨by decide +kernel, by decide +kernel, (mj_w1 6 rfl rfl), by decide, Or.inl ⟨mj_cd88, rfl, rfl⟩, mj_wlE (by decide +kernel) mj_wl88⟩
theorem mj_wl89 : ∀ x ∈ ([(1, .getfield 22, 2, 3, 0), (8, .getfield 22, 2, 3, 0), (12, .getfield 11, 0, 3, 0), (20, .getfield 18, 1, 3, 0), (25, .getfield 11, 0, 3, 0), (29, .getfield 22, 2, 3, 0), (36, .invokevirtual 26, 90, 2, 5), (41, .getfield 22, 2, 3, 0), (46, .putfield 22, 2, 3, 0)] : List (Nat × mj_E)), mj_okW mj_Tw mj_Mm mj_m89 x.1 x.2 :=
  (mj_ac (mj_e_gf "Uncomputery$Code" (rfl : mj_cls[3]? = some mj_K3) (by decide) mj_u3 (Or.inl (mj_w1 140 rfl rfl)) (Or.inl rfl))
   (mj_ac (mj_e_gf "Uncomputery$Code" (rfl : mj_cls[3]? = some mj_K3) (by decide) mj_u3 (Or.inl (mj_w1 140 rfl rfl)) (Or.inl rfl))
   (mj_ac (mj_e_gf "Uncomputery$Code" (rfl : mj_cls[3]? = some mj_K3) (by decide) mj_u3 (Or.inl (mj_w1 138 rfl rfl)) (Or.inl rfl))
   (mj_ac (mj_e_gf "Uncomputery$Code" (rfl : mj_cls[3]? = some mj_K3) (by decide) mj_u3 (Or.inl (mj_w1 139 rfl rfl)) (Or.inl rfl))
   (mj_ac (mj_e_gf "Uncomputery$Code" (rfl : mj_cls[3]? = some mj_K3) (by decide) mj_u3 (Or.inl (mj_w1 138 rfl rfl)) (Or.inl rfl))
   (mj_ac (mj_e_gf "Uncomputery$Code" (rfl : mj_cls[3]? = some mj_K3) (by decide) mj_u3 (Or.inl (mj_w1 140 rfl rfl)) (Or.inl rfl))
   (mj_ac (mj_e_vi mj_M90 mj_nm90 mj_np90 (mj_w3 190 rfl rfl) (rfl : mj_cls[4]? = some mj_K4) (mj_w3 191 rfl rfl) (mj_w3 189 rfl rfl) mj_cd90)
   (mj_ac (mj_e_gf "Uncomputery$Code" (rfl : mj_cls[3]? = some mj_K3) (by decide) mj_u3 (Or.inl (mj_w1 140 rfl rfl)) (Or.inl rfl))
   (mj_ac (mj_e_pf "Uncomputery$Code" (rfl : mj_cls[3]? = some mj_K3) (by decide) mj_u3 (Or.inl (mj_w1 140 rfl rfl)) (Or.inl rfl) mj_pd3 mj_ds3 (Or.inl rfl))
   mj_an)))))))))
theorem mj_ok89 : mj_okRow mj_Tw mj_Mm mj_r89 := ⟨by decide +kernel, by decide +kernel, (mj_w1 4 rfl rfl), by decide, Or.inl ⟨mj_cd89, rfl, rfl⟩, mj_wlE (by decide +kernel) mj_wl89⟩
theorem mj_wl90 : ∀ x ∈ ([(2, .putfield 9, 0, 4, 0), (7, .putfield 18, 1, 4, 0), (12, .putfield 22, 2, 4, 0), (18, .putfield 15, 3, 4, 0), (23, .putfield 25, 4, 4, 0), (28, .putfield 28, 5, 4, 0), (33, .putfield 31, 6, 4, 0), (38, .putfield 34, 7, 4, 0)] : List (Nat × mj_E)), mj_okW mj_Tw mj_Mm mj_m90 x.1 x.2 :=
  (mj_ac (mj_e_pf "Uncomputery$Instruction" (rfl : mj_cls[4]? = some mj_K4) (by decide) mj_u4 (Or.inl (mj_w1 91 rfl rfl)) (Or.inl rfl) mj_pd4 mj_ds4 (Or.inl rfl))
   (mj_ac (mj_e_pf "Uncomputery$Instruction" (rfl : mj_cls[4]? = some mj_K4) (by decide) mj_u4 (Or.inl (mj_w1 95 rfl rfl)) (Or.inl rfl) mj_pd4 mj_ds4 (Or.inl rfl))
   (mj_ac (mj_e_pf "Uncomputery$Instruction" (rfl : mj_cls[4]? = some mj_K4) (by decide) mj_u4 (Or.inl (mj_w1 99 rfl rfl)) (Or.inl rfl) mj_pd4 mj_ds4 (Or.inl rfl))
   (mj_ac (mj_e_pf "Uncomputery$Instruction" (rfl : mj_cls[4]? = some mj_K4) (by decide) mj_u4 (Or.inl (mj_w1 104 rfl rfl)) (Or.inl rfl) mj_pd4 mj_ds4 (Or.inl rfl))
   (mj_ac (mj_e_pf "Uncomputery$Instruction" (rfl : mj_cls[4]? = some mj_K4) (by decide) mj_u4 (Or.inl (mj_w1 108 rfl rfl)) (Or.inl rfl) mj_pd4 mj_ds4 (Or.inl rfl))
   (mj_ac (mj_e_pf "Uncomputery$Instruction" (rfl : mj_cls[4]? = some mj_K4) (by decide) mj_u4 (Or.inl (mj_w1 112 rfl rfl)) (Or.inl rfl) mj_pd4 mj_ds4 (Or.inl rfl))
   (mj_ac (mj_e_pf "Uncomputery$Instruction" (rfl : mj_cls[4]? = some mj_K4) (by decide) mj_u4 (Or.inl (mj_w1 115 rfl rfl)) (Or.inl rfl) mj_pd4 mj_ds4 (Or.inl rfl))
   (mj_ac (mj_e_pf "Uncomputery$Instruction" (rfl : mj_cls[4]? = some mj_K4) (by decide) mj_u4 (Or.inl (mj_w1 118 rfl rfl)) (Or.inl rfl) mj_pd4 mj_ds4 (Or.inl rfl))
   mj_an))))))))
theorem mj_ok90 : mj_okRow mj_Tw mj_Mm mj_r90 := ⟨by decide +kernel, by decide +kernel, (mj_w1 5 rfl rfl), by decide, Or.inl ⟨mj_cd90, rfl, rfl⟩, mj_wlE (by decide +kernel) mj_wl90⟩
theorem mj_wl91 : ∀ x ∈ ([(1, .invokevirtual 48, 84, 1, 6), (4, .invokestatic 64, 86, 1, 0), (14, .getfield 27, 2, 5, 0), (17, .invokevirtual 52, 88, 3, 6), (23, .invokevirtual 48, 84, 1, 6), (29, .invokestatic 116, 78, 1, 0), (32, .putfield 101, 2, 4, 0), (36, .getfield 101, 2, 4, 0), (40, .getfield 86, 1, 4, 0), (43, .invokestatic 116, 78, 1, 0), (53, .getfield 27, 2, 5, 0), (56, .invokevirtual 52, 88, 3, 6), (62, .getfield 27, 2, 5, 0), (67, .putfield 27, 2, 5, 0)] : List (Nat × mj_E)), mj_okW mj_Tw mj_Mm mj_m91 x.1 x.2 :=
  (mj_ac (mj_e_vi mj_M84 mj_nm84 mj_np84 (mj_w3 168 rfl rfl) (rfl : mj_cls[5]? = some mj_K5) (mj_wp 15 rfl rfl) (mj_w3 166 rfl rfl) mj_cd84)
   (mj_ac (mj_e_stN "Uncomputery" mj_M86 mj_nm86 mj_np86 (mj_w3 175 rfl rfl) (mj_w1 1 rfl rfl) mj_cd86 (mj_w3 174 rfl rfl))
   (mj_ac (mj_e_gf "Uncomputery$Reader" (rfl : mj_cls[5]? = some mj_K5) (by decide) mj_u5 (Or.inl (mj_w1 156 rfl rfl)) (Or.inl rfl))
   (mj_ac (mj_e_vi mj_M88 mj_nm88 mj_np88 (mj_w3 183 rfl rfl) (rfl : mj_cls[5]? = some mj_K5) (mj_wp 18 rfl rfl) (mj_w3 181 rfl rfl) mj_cd88)
   (mj_ac (mj_e_vi mj_M84 mj_nm84 mj_np84 (mj_w3 168 rfl rfl) (rfl : mj_cls[5]? = some mj_K5) (mj_wp 15 rfl rfl) (mj_w3 166 rfl rfl) mj_cd84)
   (mj_ac (mj_e_stN "Uncomputery" mj_M78 mj_nm78 mj_np78 (mj_w3 144 rfl rfl) (mj_w1 1 rfl rfl) mj_cd78 (mj_w3 197 rfl rfl))
   (mj_ac (mj_e_pf "Uncomputery$Instruction" (rfl : mj_cls[4]? = some mj_K4) (by decide) mj_u4 (Or.inl (mj_w1 101 rfl rfl)) (Or.inl rfl) mj_pd4 mj_ds4 (Or.inl rfl))
   (mj_ac (mj_e_gf "Uncomputery$Instruction" (rfl : mj_cls[4]? = some mj_K4) (by decide) mj_u4 (Or.inl (mj_w1 101 rfl rfl)) (Or.inl rfl))
   (mj_ac (mj_e_gf "Uncomputery$Instruction" (rfl : mj_cls[4]? = some mj_K4) (by decide) mj_u4 (Or.inl (mj_w1 96 rfl rfl)) (Or.inl rfl))
   (mj_ac (mj_e_stN "Uncomputery" mj_M78 mj_nm78 mj_np78 (mj_w3 144 rfl rfl) (mj_w1 1 rfl rfl) mj_cd78 (mj_w3 197 rfl rfl))
   (mj_ac (mj_e_gf "Uncomputery$Reader" (rfl : mj_cls[5]? = some mj_K5) (by decide) mj_u5 (Or.inl (mj_w1 156 rfl rfl)) (Or.inl rfl))
   (mj_ac (mj_e_vi mj_M88 mj_nm88 mj_np88 (mj_w3 183 rfl rfl) (rfl : mj_cls[5]? = some mj_K5) (mj_wp 18 rfl rfl) (mj_w3 181 rfl rfl) mj_cd88)
   (mj_ac (mj_e_gf "Uncomputery$Reader" (rfl : mj_cls[5]? = some mj_K5) (by decide) mj_u5 (Or.inl (mj_w1 156 rfl rfl)) (Or.inl rfl))
   (mj_ac (mj_e_pf "Uncomputery$Reader" (rfl : mj_cls[5]? = some mj_K5) (by decide) mj_u5 (Or.inl (mj_w1 156 rfl rfl)) (Or.inl rfl) mj_pd5 mj_ds5 (Or.inl rfl))
   mj_an))))))))))))))
theorem mj_ok91 : mj_okRow mj_Tw mj_Mm mj_r91 := ⟨by decide +kernel, by decide +kernel, (mj_w1 6 rfl rfl), by decide, Or.inl ⟨mj_cd91, rfl, rfl⟩, mj_wlE (by decide +kernel) mj_wl91⟩
theorem mj_wl92 : ∀ x ∈ ([(1, .invokevirtual 48, 84, 1, 6), (4, .invokestatic 64, 86, 1, 0), (12, .invokevirtual 48, 84, 1, 6), (18, .invokestatic 116, 78, 1, 0), (21, .putfield 98, 5, 5, 0), (26, .getfield 27, 2, 5, 0), (31, .putfield 27, 2, 5, 0), (37, .invokevirtual 48, 84, 1, 6), (40, .invokestatic 120, 93, 1, 0), (50, .getfield 27, 2, 5, 0), (53, .invokevirtual 52, 88, 3, 6), (59, .putfield 98, 5, 5, 0), (70, .invokevirtual 48, 84, 1, 6), (73, .invokestatic 120, 93, 1, 0), (83, .getfield 98, 5, 5, 0), (88, .invokevirtual 48, 84, 1, 6), (95, .putfield 98, 5, 5, 0), (100, .getfield 27, 2, 5, 0), (105, .putfield 27, 2, 5, 0)] : List (Nat × mj_E)), mj_okW mj_Tw mj_Mm mj_m92 x.1 x.2 :=
  (mj_ac (mj_e_vi mj_M84 mj_nm84 mj_np84 (mj_w3 168 rfl rfl) (rfl : mj_cls[5]? = some mj_K5) (mj_wp 15 rfl rfl) (mj_w3 166 rfl rfl) mj_cd84)
   (mj_ac (mj_e_stN "Uncomputery" mj_M86 mj_nm86 mj_np86 (mj_w3 175 rfl rfl) (mj_w1 1 rfl rfl) mj_cd86 (mj_w3 174 rfl rfl))
   (mj_ac (mj_e_vi mj_M84 mj_nm84 mj_np84 (mj_w3 168 rfl rfl) (rfl : mj_cls[5]? = some mj_K5) (mj_wp 15 rfl rfl) (mj_w3 166 rfl rfl) mj_cd84)
   (mj_ac (mj_e_stN "Uncomputery" mj_M78 mj_nm78 mj_np78 (mj_w3 144 rfl rfl) (mj_w1 1 rfl rfl) mj_cd78 (mj_w3 197 rfl rfl))
   (mj_ac (mj_e_pf "Uncomputery$Reader" (rfl : mj_cls[5]? = some mj_K5) (by decide) mj_u5 (Or.inl (mj_w1 159 rfl rfl)) (Or.inl rfl) mj_pd5 mj_ds5 (Or.inl rfl))
   (mj_ac (mj_e_gf "Uncomputery$Reader" (rfl : mj_cls[5]? = some mj_K5) (by decide) mj_u5 (Or.inl (mj_w1 156 rfl rfl)) (Or.inl rfl))
   (mj_ac (mj_e_pf "Uncomputery$Reader" (rfl : mj_cls[5]? = some mj_K5) (by decide) mj_u5 (Or.inl (mj_w1 156 rfl rfl)) (Or.inl rfl) mj_pd5 mj_ds5 (Or.inl rfl))
   (mj_ac (mj_e_vi mj_M84 mj_nm84 mj_np84 (mj_w3 168 rfl rfl) (rfl : mj_cls[5]? = some mj_K5) (mj_wp 15 rfl rfl) (mj_w3 166 rfl rfl) mj_cd84)
   (mj_ac (mj_e_stN "Uncomputery" mj_M93 mj_nm93 mj_np93 (mj_w3 203 rfl rfl) (mj_w1 1 rfl rfl) mj_cd93 (mj_w3 202 rfl rfl))
   (mj_ac (mj_e_gf "Uncomputery$Reader" (rfl : mj_cls[5]? = some mj_K5) (by decide) mj_u5 (Or.inl (mj_w1 156 rfl rfl)) (Or.inl rfl))
   (mj_ac (mj_e_vi mj_M88 mj_nm88 mj_np88 (mj_w3 183 rfl rfl) (rfl : mj_cls[5]? = some mj_K5) (mj_wp 18 rfl rfl) (mj_w3 181 rfl rfl) mj_cd88)
   (mj_ac (mj_e_pf "Uncomputery$Reader" (rfl : mj_cls[5]? = some mj_K5) (by decide) mj_u5 (Or.inl (mj_w1 159 rfl rfl)) (Or.inl rfl) mj_pd5 mj_ds5 (Or.inl rfl))
   (mj_ac (mj_e_vi mj_M84 mj_nm84 mj_np84 (mj_w3 168 rfl rfl) (rfl : mj_cls[5]? = some mj_K5) (mj_wp 15 rfl rfl) (mj_w3 166 rfl rfl) mj_cd84)
   (mj_ac (mj_e_stN "Uncomputery" mj_M93 mj_nm93 mj_np93 (mj_w3 203 rfl rfl) (mj_w1 1 rfl rfl) mj_cd93 (mj_w3 202 rfl rfl))
   (mj_ac (mj_e_gf "Uncomputery$Reader" (rfl : mj_cls[5]? = some mj_K5) (by decide) mj_u5 (Or.inl (mj_w1 159 rfl rfl)) (Or.inl rfl))
   (mj_ac (mj_e_vi mj_M84 mj_nm84 mj_np84 (mj_w3 168 rfl rfl) (rfl : mj_cls[5]? = some mj_K5) (mj_wp 15 rfl rfl) (mj_w3 166 rfl rfl) mj_cd84)
   (mj_ac (mj_e_pf "Uncomputery$Reader" (rfl : mj_cls[5]? = some mj_K5) (by decide) mj_u5 (Or.inl (mj_w1 159 rfl rfl)) (Or.inl rfl) mj_pd5 mj_ds5 (Or.inl rfl))
   (mj_ac (mj_e_gf "Uncomputery$Reader" (rfl : mj_cls[5]? = some mj_K5) (by decide) mj_u5 (Or.inl (mj_w1 156 rfl rfl)) (Or.inl rfl))
   (mj_ac (mj_e_pf "Uncomputery$Reader" (rfl : mj_cls[5]? = some mj_K5) (by decide) mj_u5 (Or.inl (mj_w1 156 rfl rfl)) (Or.inl rfl) mj_pd5 mj_ds5 (Or.inl rfl))
   mj_an)))))))))))))))))))
theorem mj_ok92 : mj_okRow mj_Tw mj_Mm mj_r92 := ⟨by decide +kernel, by decide +kernel, (mj_w1 6 rfl rfl), by decide, Or.inl ⟨mj_cd92, rfl, rfl⟩, mj_wlE (by decide +kernel) mj_wl92⟩
theorem mj_wl93 : ∀ x ∈ ([] : List (Nat × mj_E)), mj_okW mj_Tw mj_Mm mj_m93 x.1 x.2 :=
  mj_an
theorem mj_ok93 : mj_okRow mj_Tw mj_Mm mj_r93 := ⟨by decide +kernel, by decide +kernel, (mj_w1 1 rfl rfl), by decide, Or.inl ⟨mj_cd93, rfl, rfl⟩, mj_wlE (by decide +kernel) mj_wl93⟩
theorem mj_wl94 : ∀ x ∈ ([] : List (Nat × mj_E)), mj_okW mj_Tw mj_Mm mj_m94 x.1 x.2 :=
  mj_an
theorem mj_ok94 : mj_okRow mj_Tw mj_Mm mj_r94 := ⟨by decide +kernel, by decide +kernel, (mj_w1 6 rfl rfl), by decide, Or.inl ⟨mj_cd94, rfl, rfl⟩, mj_wlE (by decide +kernel) mj_wl94⟩
theorem mj_wl95 : ∀ x ∈ ([(1, .getfield 86, 1, 4, 0), (4, .invokestatic 116, 78, 1, 0), (9, .getfield 101, 2, 4, 0), (17, .getfield 107, 3, 4, 0), (26, .getfield 110, 4, 4, 0)] : List (Nat × mj_E)), mj_okW mj_Tw mj_Mm mj_m95 x.1 x.2 :=
  (mj_ac (mj_e_gf "Uncomputery$Instruction" (rfl : mj_cls[4]? = some mj_K4) (by decide) mj_u4 (Or.inl (mj_w1 96 rfl rfl)) (Or.inl rfl))
   (mj_ac (mj_e_stN "Uncomputery" mj_M78 mj_nm78 mj_np78 (mj_w3 144 rfl rfl) (mj_w1 1 rfl rfl) mj_cd78 (mj_w3 197 rfl rfl))
   (mj_ac (mj_e_gf "Uncomputery$Instruction" (rfl : mj_cls[4]? = some mj_K4) (by decide) mj_u4 (Or.inl (mj_w1 101 rfl rfl)) (Or.inl rfl))
   (mj_ac (mj_e_gf "Uncomputery$Instruction" (rfl : mj_cls[4]? = some mj_K4) (by decide) mj_u4 (Or.inl (mj_w1 106 rfl rfl)) (Or.inl rfl))
   (mj_ac (mj_e_gf "Uncomputery$Instruction" (rfl : mj_cls[4]? = some mj_K4) (by decide) mj_u4 (Or.inl (mj_w1 110 rfl rfl)) (Or.inl rfl))
   mj_an)))))
theorem mj_ok95 : mj_okRow mj_Tw mj_Mm mj_r95 := ⟨by decide +kernel, by decide +kernel, (mj_w1 6 rfl rfl), by decide, Or.inl ⟨mj_cd95, rfl, rfl⟩, mj_wlE (by decide +kernel) mj_wl95⟩
