theorem mj_wl288 : ∀ x ∈ ([(2, .invokespecial 53, 289, 2, 21)] : List (Nat × mj_E)), mj_okW mj_Tw mj_Mm mj_m288 x.1 x.2 :=
  (mj_ac (mj_e_su mj_M289 mj_nm289 mj_np289 (mj_w8 30 rfl rfl) mj_cd289 (by decide) (mj_w8 29 rfl rfl) (mj_w12 136 rfl rfl) (mj_w7 97 rfl rfl))
   mj_an)
theorem mj_ok288 : mj_okRow mj_Tw mj_Mm mj_r288 := ⟨by decide +kernel, by decide +kernel, (mj_w1 22 rfl rfl), by decide, Or.inl ⟨mj_cd288, rfl, rfl⟩, mj_wlE (by decide +kernel) mj_wl288⟩
theorem mj_wl289 : ∀ x ∈ ([(1, .getfield 79, 3, 20, 0), (7, .invokestatic 245, 290, 1, 0), (14, .invokevirtual 100, 251, 2, 21), (18, .invokevirtual 83, 256, 1, 21), (27, .getfield 15, 0, 20, 0), (30, .invokestatic 248, 291, 3, 0), (41, .getfield 15, 0, 20, 0), (44, .invokestatic 251, 292, 4, 0), (50, .putfield 79, 3, 20, 0)] : List (Nat × mj_E)), mj_okW mj_Tw mj_Mm mj_m289 x.1 x.2 :=
  (mj_ac (mj_e_gf "java/lang/AbstractStringBuilder" (rfl : mj_cls[20]? = some mj_K20) (by decide) mj_u20 (Or.inl (mj_w7 88 rfl rfl)) (Or.inl rfl))
   (mj_ac (mj_e_st mj_M290 mj_nm290 mj_np290 (mj_w8 33 rfl rfl) (mj_w1 32 rfl rfl) mj_cd290 (mj_w8 32 rfl rfl))
   (mj_ac (mj_e_vi mj_M251 mj_nm251 mj_np251 (mj_w7 111 rfl rfl) (rfl : mj_cls[20]? = some mj_K20) (mj_wb 1 rfl rfl) (mj_w7 109 rfl rfl) mj_cd251)
   (mj_ac (mj_e_vi mj_M256 mj_nm256 mj_np256 (mj_w7 139 rfl rfl) (rfl : mj_cls[20]? = some mj_K20) (mj_w7 141 rfl rfl) (mj_w7 138 rfl rfl) mj_cd256)
   (mj_ac (mj_e_gf "java/lang/AbstractStringBuilder" (rfl : mj_cls[20]? = some mj_K20) (by decide) mj_u20 (Or.inl (mj_w7 85 rfl rfl)) (Or.inl rfl))
   (mj_ac (mj_e_st mj_M291 mj_nm291 mj_np291 (mj_w8 36 rfl rfl) (mj_w1 32 rfl rfl) mj_cd291 (mj_w8 35 rfl rfl))
   (mj_ac (mj_e_gf "java/lang/AbstractStringBuilder" (rfl : mj_cls[20]? = some mj_K20) (by decide) mj_u20 (Or.inl (mj_w7 85 rfl rfl)) (Or.inl rfl))
   (mj_ac (mj_e_st mj_M292 mj_nm292 mj_np292 (mj_w8 43 rfl rfl) (mj_w1 23 rfl rfl) mj_cd292 (mj_w8 42 rfl rfl))
   (mj_ac (mj_e_pf "java/lang/AbstractStringBuilder" (rfl : mj_cls[20]? = some mj_K20) (by decide) mj_u20 (Or.inl (mj_w7 88 rfl rfl)) (Or.inl rfl) mj_pd20 mj_ds20 (Or.inl rfl))
   mj_an)))))))))
theorem mj_ok289 : mj_okRow mj_Tw mj_Mm mj_r289 := ⟨by decide +kernel, by decide +kernel, (mj_w1 21 rfl rfl), by decide, Or.inl ⟨mj_cd289, rfl, rfl⟩, mj_wlE (by decide +kernel) mj_wl289⟩
theorem mj_wl290 : ∀ x ∈ ([] : List (Nat × mj_E)), mj_okW mj_Tw mj_Mm mj_m290 x.1 x.2 :=
  mj_an
theorem mj_ok290 : mj_okRow mj_Tw mj_Mm mj_r290 := ⟨by decide +kernel, by decide +kernel, (mj_w1 32 rfl rfl), by decide, Or.inl ⟨mj_cd290, rfl, rfl⟩, mj_wlE (by decide +kernel) mj_wl290⟩
theorem mj_wl291 : ∀ x ∈ ([(49, .getstatic 83, 5, 0, 0), (62, .getstatic 87, 6, 0, 0), (78, .getstatic 83, 5, 0, 0), (97, .getstatic 87, 6, 0, 0)] : List (Nat × mj_E)), mj_okW mj_Tw mj_Mm mj_m291 x.1 x.2 :=
  (mj_ac (mj_e_gs rfl (mj_w8 38 rfl rfl))
   (mj_ac (mj_e_gs rfl (mj_w8 40 rfl rfl))
   (mj_ac (mj_e_gs rfl (mj_w8 38 rfl rfl))
   (mj_ac (mj_e_gs rfl (mj_w8 40 rfl rfl))
   mj_an))))
theorem mj_ok291 : mj_okRow mj_Tw mj_Mm mj_r291 := ⟨by decide +kernel, by decide +kernel, (mj_w1 32 rfl rfl), by decide, Or.inl ⟨mj_cd291, rfl, rfl⟩, mj_wlE (by decide +kernel) mj_wl291⟩
theorem mj_wl292 : ∀ x ∈ ([(3, .invokestatic 96, 258, 3, 0), (9, .invokestatic 393, 293, 3, 0), (14, .getstatic 44, 2, 0, 0)] : List (Nat × mj_E)), mj_okW mj_Tw mj_Mm mj_m292 x.1 x.2 :=
  (mj_ac (mj_e_st mj_M258 mj_nm258 mj_np258 (mj_w7 147 rfl rfl) (mj_w1 23 rfl rfl) mj_cd258 (mj_w7 146 rfl rfl))
   (mj_ac (mj_e_st mj_M293 mj_nm293 mj_np293 (mj_w8 46 rfl rfl) (mj_w1 23 rfl rfl) mj_cd293 (mj_w8 45 rfl rfl))
   (mj_ac (mj_e_gs rfl (mj_w7 163 rfl rfl))
   mj_an)))
theorem mj_ok292 : mj_okRow mj_Tw mj_Mm mj_r292 := ⟨by decide +kernel, by decide +kernel, (mj_w1 23 rfl rfl), by decide, Or.inl ⟨mj_cd292, rfl, rfl⟩, mj_wlE (by decide +kernel) mj_wl292⟩
theorem mj_wl293 : ∀ x ∈ ([(49, .getstatic 403, 5, 0, 0), (55, .invokestatic 111, 262, 3, 0), (64, .getstatic 407, 6, 0, 0), (70, .invokestatic 111, 262, 3, 0), (82, .getstatic 403, 5, 0, 0), (88, .invokestatic 111, 262, 3, 0), (103, .getstatic 407, 6, 0, 0), (109, .invokestatic 111, 262, 3, 0), (125, .invokestatic 111, 262, 3, 0)] : List (Nat × mj_E)), mj_okW mj_Tw mj_Mm mj_m293 x.1 x.2 :=
  (mj_ac (mj_e_gs rfl (mj_w8 48 rfl rfl))
   (mj_ac (mj_e_st mj_M262 mj_nm262 mj_np262 (mj_w7 161 rfl rfl) (mj_w1 23 rfl rfl) mj_cd262 (mj_w7 160 rfl rfl))
   (mj_ac (mj_e_gs rfl (mj_w8 49 rfl rfl))
   (mj_ac (mj_e_st mj_M262 mj_nm262 mj_np262 (mj_w7 161 rfl rfl) (mj_w1 23 rfl rfl) mj_cd262 (mj_w7 160 rfl rfl))
   (mj_ac (mj_e_gs rfl (mj_w8 48 rfl rfl))
   (mj_ac (mj_e_st mj_M262 mj_nm262 mj_np262 (mj_w7 161 rfl rfl) (mj_w1 23 rfl rfl) mj_cd262 (mj_w7 160 rfl rfl))
   (mj_ac (mj_e_gs rfl (mj_w8 49 rfl rfl))
   (mj_ac (mj_e_st mj_M262 mj_nm262 mj_np262 (mj_w7 161 rfl rfl) (mj_w1 23 rfl rfl) mj_cd262 (mj_w7 160 rfl rfl))
   (mj_ac (mj_e_st mj_M262 mj_nm262 mj_np262 (mj_w7 161 rfl rfl) (mj_w1 23 rfl rfl) mj_cd262 (mj_w7 160 rfl rfl))
   mj_an)))))))))
theorem mj_ok293 : mj_okRow mj_Tw mj_Mm mj_r293 := ⟨by decide +kernel, by decide +kernel, (mj_w1 23 rfl rfl), by decide, Or.inl ⟨mj_cd293, rfl, rfl⟩, mj_wlE (by decide +kernel) mj_wl293⟩
theorem mj_wl294 : ∀ x ∈ ([(1, .newarray .byte, 1, 0, 0), (9, .invokestatic 123, 295, 5, 0), (27, .invokestatic 11, 247, 1, 0), (30, .invokestatic 126, 285, 3, 0), (39, .invokestatic 71, 296, 2, 0), (54, .invokestatic 123, 295, 5, 0)] : List (Nat × mj_E)), mj_okW mj_Tw mj_Mm mj_m294 x.1 x.2 :=
  (mj_ac (mj_e_na rfl (by decide) (mj_w4 110 rfl rfl))
   (mj_ac (mj_e_st mj_M295 mj_nm295 mj_np295 (mj_w8 58 rfl rfl) (mj_w1 23 rfl rfl) mj_cd295 (mj_w8 57 rfl rfl))
   (mj_ac (mj_e_st mj_M247 mj_nm247 mj_np247 (mj_w7 82 rfl rfl) (mj_w1 23 rfl rfl) mj_cd247 (mj_w7 81 rfl rfl))
   (mj_ac (mj_e_st mj_M285 mj_nm285 mj_np285 (mj_w8 14 rfl rfl) (mj_w1 26 rfl rfl) mj_cd285 (mj_w8 63 rfl rfl))
   (mj_ac (mj_e_st mj_M296 mj_nm296 mj_np296 (mj_w8 61 rfl rfl) (mj_w1 23 rfl rfl) mj_cd296 (mj_w8 60 rfl rfl))
   (mj_ac (mj_e_st mj_M295 mj_nm295 mj_np295 (mj_w8 58 rfl rfl) (mj_w1 23 rfl rfl) mj_cd295 (mj_w8 57 rfl rfl))
   mj_an))))))
theorem mj_ok294 : mj_okRow mj_Tw mj_Mm mj_r294 := ⟨by decide +kernel, by decide +kernel, (mj_w1 23 rfl rfl), by decide, Or.inl ⟨mj_cd294, rfl, rfl⟩, mj_wlE (by decide +kernel) mj_wl294⟩
theorem mj_wl295 : ∀ x ∈ ([(4, .invokestatic 173, 268, 3, 0), (19, .invokestatic 71, 296, 2, 0)] : List (Nat × mj_E)), mj_okW mj_Tw mj_Mm mj_m295 x.1 x.2 :=
  (mj_ac (mj_e_st mj_M268 mj_nm268 mj_np268 (mj_w7 190 rfl rfl) (mj_w1 23 rfl rfl) mj_cd268 (mj_w7 189 rfl rfl))
   (mj_ac (mj_e_st mj_M296 mj_nm296 mj_np296 (mj_w8 61 rfl rfl) (mj_w1 23 rfl rfl) mj_cd296 (mj_w8 60 rfl rfl))
   mj_an))
theorem mj_ok295 : mj_okRow mj_Tw mj_Mm mj_r295 := ⟨by decide +kernel, by decide +kernel, (mj_w1 23 rfl rfl), by decide, Or.inl ⟨mj_cd295, rfl, rfl⟩, mj_wlE (by decide +kernel) mj_wl295⟩
theorem mj_wl296 : ∀ x ∈ ([(0, .getstatic 44, 2, 0, 0), (12, .invokestatic 48, 259, 1, 0), (42, .getstatic 59, 3, 0, 0), (53, .getstatic 63, 4, 0, 0)] : List (Nat × mj_E)), mj_okW mj_Tw mj_Mm mj_m296 x.1 x.2 :=
  (mj_ac (mj_e_gs rfl (mj_w7 163 rfl rfl))
   (mj_ac (mj_e_st mj_M259 mj_nm259 mj_np259 (mj_w7 150 rfl rfl) (mj_w1 23 rfl rfl) mj_cd259 (mj_w7 149 rfl rfl))
   (mj_ac (mj_e_gs rfl (mj_w7 165 rfl rfl))
   (mj_ac (mj_e_gs rfl (mj_w7 167 rfl rfl))
   mj_an))))
theorem mj_ok296 : mj_okRow mj_Tw mj_Mm mj_r296 := ⟨by decide +kernel, by decide +kernel, (mj_w1 23 rfl rfl), by decide, Or.inl ⟨mj_cd296, rfl, rfl⟩, mj_wlE (by decide +kernel) mj_wl296⟩
theorem mj_wl297 : ∀ x ∈ ([] : List (Nat × mj_E)), mj_okW mj_Tw mj_Mm mj_m297 x.1 x.2 :=
  mj_an
theorem mj_ok297 : mj_okRow mj_Tw mj_Mm mj_r297 := ⟨by decide +kernel, by decide +kernel, (mj_w1 23 rfl rfl), by decide, Or.inl ⟨mj_cd297, rfl, rfl⟩, mj_wlE (by decide +kernel) mj_wl297⟩
theorem mj_wl298 : ∀ x ∈ ([(2, .putfield 38, 0, 17, 0), (6, .getfield 27, 3, 17, 0), (9, .invokevirtual 89, 241, 1, 22), (14, .ldc 25, 1, 300, 0), (16, .putfield 27, 3, 17, 0)] : List (Nat × mj_E)), mj_okW mj_Tw mj_Mm mj_m298 x.1 x.2 :=
  (mj_ac (mj_e_pf "UncomputeryModel" (rfl : mj_cls[17]? = some mj_K17) (by decide) mj_u17 (Or.inl (mj_w7 11 rfl rfl)) (Or.inl rfl) mj_pd17 mj_ds17 (Or.inl rfl))
   (mj_ac (mj_e_gf "UncomputeryModel" (rfl : mj_cls[17]? = some mj_K17) (by decide) mj_u17 (Or.inl (mj_w7 15 rfl rfl)) (Or.inl rfl))
   (mj_ac (mj_e_vi mj_M241 mj_nm241 mj_np241 (mj_w7 55 rfl rfl) (rfl : mj_cls[21]? = some mj_K21) (mj_w7 56 rfl rfl) (mj_w7 54 rfl rfl) mj_cd241)
   (mj_ac (mj_e_l1 ("UncomputeryModel", 25, 0, "") (by decide +kernel) rfl rfl rfl)
   (mj_ac (mj_e_pf "UncomputeryModel" (rfl : mj_cls[17]? = some mj_K17) (by decide) mj_u17 (Or.inl (mj_w7 15 rfl rfl)) (Or.inl rfl) mj_pd17 mj_ds17 (Or.inl rfl))
   mj_an)))))
theorem mj_ok298 : mj_okRow mj_Tw mj_Mm mj_r298 := ⟨by decide +kernel, by decide +kernel, (mj_w1 11 rfl rfl), by decide, Or.inl ⟨mj_cd298, rfl, rfl⟩, mj_wlE (by decide +kernel) mj_wl298⟩
theorem mj_wl299 : ∀ x ∈ ([(2, .getfield 27, 3, 17, 0), (5, .invokevirtual 110, 300, 2, 18), (19, .invokevirtual 92, 243, 2, 18), (30, .getfield 114, 0, 23, 0)] : List (Nat × mj_E)), mj_okW mj_Tw mj_Mm mj_m299 x.1 x.2 :=
  (mj_ac (mj_e_gf "UncomputeryModel" (rfl : mj_cls[17]? = some mj_K17) (by decide) mj_u17 (Or.inl (mj_w7 15 rfl rfl)) (Or.inl rfl))
   (mj_ac (mj_e_viW mj_M300 mj_nm300 mj_np300 (mj_w8 88 rfl rfl) (rfl : mj_cls[17]? = some mj_K17) (mj_wp 46 rfl rfl) (mj_w8 86 rfl rfl) mj_cd300)
   (mj_ac (mj_e_vi mj_M243 mj_nm243 mj_np243 (mj_w7 66 rfl rfl) (rfl : mj_cls[17]? = some mj_K17) (mj_wp 45 rfl rfl) (mj_w7 64 rfl rfl) mj_cd243)
   (mj_ac (mj_e_gf "UncomputeryModel$Fault" (rfl : mj_cls[23]? = some mj_K23) (by decide) mj_u23 (Or.inr ⟨"UncomputeryModel", (mj_w8 177 rfl rfl)⟩) (Or.inl rfl))
   mj_an))))
theorem mj_ok299 : mj_okRow mj_Tw mj_Mm mj_r299 := ⟨by decide +kernel, by decide +kernel, (mj_w1 11 rfl rfl), by decide, Or.inl ⟨mj_cd299, rfl, rfl⟩, mj_wlE (by decide +kernel) mj_wl299⟩
theorem mj_wl300 : ∀ x ∈ ([(0, .new 99, 22, 0, 0), (5, .invokespecial 101, 301, 2, 23), (8, .invokevirtual 104, 302, 1, 23)] : List (Nat × mj_E)), mj_okW mj_Tw mj_Mm mj_m300 x.1 x.2 :=
  (mj_ac (mj_e_new mj_nw22 (mj_w8 91 rfl rfl))
   (mj_ac (mj_e_in mj_M301 mj_nm301 mj_np301 (mj_w8 94 rfl rfl) mj_cd301 rfl rfl (mj_w8 93 rfl rfl))
   (mj_ac (mj_e_vi mj_M302 mj_nm302 mj_np302 (mj_w8 108 rfl rfl) (rfl : mj_cls[22]? = some mj_K22) (mj_w8 109 rfl rfl) (mj_w8 107 rfl rfl) mj_cd302)
   mj_an)))
theorem mj_ok300 : mj_okRow mj_Tw mj_Mm mj_r300 := ⟨by decide +kernel, by decide +kernel, (mj_w1 11 rfl rfl), by decide, Or.inr ⟨mj_cd300, ⟨⟨rfl, rfl, rfl, by decide, mj_K23, rfl, (mj_w8 90 rfl rfl), (mj_w8 162 rfl rfl)⟩, trivial⟩⟩, mj_wlE (by decide +kernel) mj_wl300⟩
theorem mj_wl301 : ∀ x ∈ ([(1, .invokespecial 1, 9003, 1, 0), (6, .putfield 7, 0, 22, 0)] : List (Nat × mj_E)), mj_okW mj_Tw mj_Mm mj_m301 x.1 x.2 :=
  (mj_ac (mj_e_ob (mj_w8 96 rfl rfl) (mj_w1 54 rfl rfl) (mj_w1 55 rfl rfl))
   (mj_ac (mj_e_pf "UncomputeryModel$Reader" (rfl : mj_cls[22]? = some mj_K22) (by decide) mj_u22 (Or.inl (mj_w8 97 rfl rfl)) (Or.inl rfl) mj_pd22 mj_ds22 (Or.inr ⟨rfl, rfl, rfl, (mj_w8 97 rfl rfl)⟩))
   mj_an))
theorem mj_ok301 : mj_okRow mj_Tw mj_Mm mj_r301 := ⟨by decide +kernel, by decide +kernel, (mj_w1 34 rfl rfl), by decide, Or.inl ⟨mj_cd301, rfl, rfl⟩, mj_wlE (by decide +kernel) mj_wl301⟩
theorem mj_wl302 : ∀ x ∈ ([(2, .invokevirtual 40, 303, 2, 23)] : List (Nat × mj_E)), mj_okW mj_Tw mj_Mm mj_m302 x.1 x.2 :=
  (mj_ac (mj_e_vi mj_M303 mj_nm303 mj_np303 (mj_w8 112 rfl rfl) (rfl : mj_cls[22]? = some mj_K22) (mj_w8 113 rfl rfl) (mj_w8 111 rfl rfl) mj_cd303)
   mj_an)
theorem mj_ok302 : mj_okRow mj_Tw mj_Mm mj_r302 := ⟨by decide +kernel, by decide +kernel, (mj_w1 34 rfl rfl), by decide, Or.inl ⟨mj_cd302, rfl, rfl⟩, mj_wlE (by decide +kernel) mj_wl302⟩
theorem mj_wl303 : ∀ x ∈ ([(0, .new 44, 18, 0, 0), (4, .invokespecial 46, 235, 1, 19), (10, .invokevirtual 47, 304, 2, 23), (20, .invokevirtual 51, 310, 1, 23), (23, .invokeinterface 55 2, 337, 2, 19), (30, .invokevirtual 32, 305, 1, 23), (40, .getfield 13, 1, 22, 0), (45, .putfield 13, 1, 22, 0), (50, .invokevirtual 51, 310, 1, 23), (53, .invokeinterface 55 2, 337, 2, 19), (65, .invokevirtual 47, 304, 2, 23), (70, .invokevirtual 36, 314, 3, 23)] : List (Nat × mj_E)), mj_okW mj_Tw mj_Mm mj_m303 x.1 x.2 :=
  (mj_ac (mj_e_new mj_nw18 (mj_w8 115 rfl rfl))
   (mj_ac (mj_e_in mj_M235 mj_nm235 mj_np235 (mj_w6 174 rfl rfl) mj_cd235 rfl rfl (mj_w8 116 rfl rfl))
   (mj_ac (mj_e_vi mj_M304 mj_nm304 mj_np304 (mj_w8 119 rfl rfl) (rfl : mj_cls[22]? = some mj_K22) (mj_wp 47 rfl rfl) (mj_w8 117 rfl rfl) mj_cd304)
   (mj_ac (mj_e_vi mj_M310 mj_nm310 mj_np310 (mj_w8 143 rfl rfl) (rfl : mj_cls[22]? = some mj_K22) (mj_wp 49 rfl rfl) (mj_w8 141 rfl rfl) mj_cd310)
   (mj_ac (mj_e_if mj_M337 mj_nm337 mj_cd337 (rfl : mj_cls[18]? = some mj_K18) (x0 := ⟨"java/util/List", "add", "(Ljava/lang/Object;)Z"⟩) (by unfold mj_np; decide +kernel) (by unfold mj_noMH; decide +kernel) (mj_w9 97 rfl rfl) (mj_w9 98 rfl rfl) (mj_w9 91 rfl rfl) (mj_w9 93 rfl rfl) (mj_w9 92 rfl rfl) (mj_w9 95 rfl rfl) (mj_w9 96 rfl rfl) (mj_w9 94 rfl rfl))
   (mj_ac (mj_e_vi mj_M305 mj_nm305 mj_np305 (mj_w8 124 rfl rfl) (rfl : mj_cls[22]? = some mj_K22) (mj_wp 48 rfl rfl) (mj_w8 122 rfl rfl) mj_cd305)
   (mj_ac (mj_e_gf "UncomputeryModel$Reader" (rfl : mj_cls[22]? = some mj_K22) (by decide) mj_u22 (Or.inl (mj_w8 98 rfl rfl)) (Or.inl rfl))
   (mj_ac (mj_e_pf "UncomputeryModel$Reader" (rfl : mj_cls[22]? = some mj_K22) (by decide) mj_u22 (Or.inl (mj_w8 98 rfl rfl)) (Or.inl rfl) mj_pd22 mj_ds22 (Or.inl rfl))
   (mj_ac (mj_e_vi mj_M310 mj_nm310 mj_np310 (mj_w8 143 rfl rfl) (rfl : mj_cls[22]? = some mj_K22) (mj_wp 49 rfl rfl) (mj_w8 141 rfl rfl) mj_cd310)
   (mj_ac (mj_e_if mj_M337 mj_nm337 mj_cd337 (rfl : mj_cls[18]? = some mj_K18) (x0 := ⟨"java/util/List", "add", "(Ljava/lang/Object;)Z"⟩) (by unfold mj_np; decide +kernel) (by unfold mj_noMH; decide +kernel) (mj_w9 97 rfl rfl) (mj_w9 98 rfl rfl) (mj_w9 91 rfl rfl) (mj_w9 93 rfl rfl) (mj_w9 92 rfl rfl) (mj_w9 95 rfl rfl) (mj_w9 96 rfl rfl) (mj_w9 94 rfl rfl))
   (mj_ac (mj_e_vi mj_M304 mj_nm304 mj_np304 (mj_w8 119 rfl rfl) (rfl : mj_cls[22]? = some mj_K22) (mj_wp 47 rfl rfl) (mj_w8 117 rfl rfl) mj_cd304)
   (mj_ac (mj_e_vi mj_M314 mj_nm314 mj_np314 (mj_w8 158 rfl rfl) (rfl : mj_cls[22]? = some mj_K22) (mj_wp 52 rfl rfl) (mj_w8 156 rfl rfl) mj_cd314)
   mj_an))))))))))))
theorem mj_ok303 : mj_okRow mj_Tw mj_Mm mj_r303 := ⟨by decide +kernel, by decide +kernel, (mj_w1 34 rfl rfl), by decide, Or.inl ⟨mj_cd303, rfl, rfl⟩, mj_wlE (by decide +kernel) mj_wl303⟩
theorem mj_wl304 : ∀ x ∈ ([(5, .getfield 13, 1, 22, 0), (9, .getfield 7, 0, 22, 0), (12, .invokevirtual 17, 241, 1, 22), (27, .invokevirtual 32, 305, 1, 23)] : List (Nat × mj_E)), mj_okW mj_Tw mj_Mm mj_m304 x.1 x.2 :=
  (mj_ac (mj_e_gf "UncomputeryModel$Reader" (rfl : mj_cls[22]? = some mj_K22) (by decide) mj_u22 (Or.inl (mj_w8 98 rfl rfl)) (Or.inl rfl))
   (mj_ac (mj_e_gf "UncomputeryModel$Reader" (rfl : mj_cls[22]? = some mj_K22) (by decide) mj_u22 (Or.inl (mj_w8 97 rfl rfl)) (Or.inl rfl))
   (mj_ac (mj_e_vi mj_M241 mj_nm241 mj_np241 (mj_w7 55 rfl rfl) (rfl : mj_cls[21]? = some mj_K21) (mj_w7 56 rfl rfl) (mj_w8 121 rfl rfl) mj_cd241)
   (mj_ac (mj_e_vi mj_M305 mj_nm305 mj_np305 (mj_w8 124 rfl rfl) (rfl : mj_cls[22]? = some mj_K22) (mj_wp 48 rfl rfl) (mj_w8 122 rfl rfl) mj_cd305)
   mj_an))))
theorem mj_ok304 : mj_okRow mj_Tw mj_Mm mj_r304 := ⟨by decide +kernel, by decide +kernel, (mj_w1 34 rfl rfl), by decide, Or.inl ⟨mj_cd304, rfl, rfl⟩, mj_wlE (by decide +kernel) mj_wl304⟩
theorem mj_wl305 : ∀ x ∈ ([(1, .getfield 13, 1, 22, 0), (5, .getfield 7, 0, 22, 0), (8, .invokevirtual 17, 241, 1, 22), (15, .getfield 7, 0, 22, 0), (19, .getfield 13, 1, 22, 0), (22, .invokevirtual 23, 306, 2, 22)] : List (Nat × mj_E)), mj_okW mj_Tw mj_Mm mj_m305 x.1 x.2 :=
  (mj_ac (mj_e_gf "UncomputeryModel$Reader" (rfl : mj_cls[22]? = some mj_K22) (by decide) mj_u22 (Or.inl (mj_w8 98 rfl rfl)) (Or.inl rfl))
   (mj_ac (mj_e_gf "UncomputeryModel$Reader" (rfl : mj_cls[22]? = some mj_K22) (by decide) mj_u22 (Or.inl (mj_w8 97 rfl rfl)) (Or.inl rfl))
   (mj_ac (mj_e_vi mj_M241 mj_nm241 mj_np241 (mj_w7 55 rfl rfl) (rfl : mj_cls[21]? = some mj_K21) (mj_w7 56 rfl rfl) (mj_w8 121 rfl rfl) mj_cd241)
   (mj_ac (mj_e_gf "UncomputeryModel$Reader" (rfl : mj_cls[22]? = some mj_K22) (by decide) mj_u22 (Or.inl (mj_w8 97 rfl rfl)) (Or.inl rfl))
   (mj_ac (mj_e_gf "UncomputeryModel$Reader" (rfl : mj_cls[22]? = some mj_K22) (by decide) mj_u22 (Or.inl (mj_w8 98 rfl rfl)) (Or.inl rfl))
   (mj_ac (mj_e_vi mj_M306 mj_nm306 mj_np306 (mj_w8 127 rfl rfl) (rfl : mj_cls[21]? = some mj_K21) (mj_w8 128 rfl rfl) (mj_w8 126 rfl rfl) mj_cd306)
   mj_an))))))
theorem mj_ok305 : mj_okRow mj_Tw mj_Mm mj_r305 := ⟨by decide +kernel, by decide +kernel, (mj_w1 34 rfl rfl), by decide, Or.inl ⟨mj_cd305, rfl, rfl⟩, mj_wlE (by decide +kernel) mj_wl305⟩
theorem mj_wl306 : ∀ x ∈ ([(1, .invokevirtual 492, 307, 1, 22), (8, .getfield 9, 0, 21, 0), (12, .invokestatic 495, 308, 2, 0), (17, .getfield 9, 0, 21, 0), (21, .invokestatic 498, 309, 2, 0)] : List (Nat × mj_E)), mj_okW mj_Tw mj_Mm mj_m306 x.1 x.2 :=
  (mj_ac (mj_e_vi mj_M307 mj_nm307 mj_np307 (mj_w8 131 rfl rfl) (rfl : mj_cls[21]? = some mj_K21) (mj_w8 132 rfl rfl) (mj_w8 130 rfl rfl) mj_cd307)
   (mj_ac (mj_e_gf "java/lang/String" (rfl : mj_cls[21]? = some mj_K21) (by decide) mj_u21 (Or.inl (mj_w8 67 rfl rfl)) (Or.inl rfl))
   (mj_ac (mj_e_st mj_M308 mj_nm308 mj_np308 (mj_w8 135 rfl rfl) (mj_w1 29 rfl rfl) mj_cd308 (mj_w8 134 rfl rfl))
   (mj_ac (mj_e_gf "java/lang/String" (rfl : mj_cls[21]? = some mj_K21) (by decide) mj_u21 (Or.inl (mj_w8 67 rfl rfl)) (Or.inl rfl))
   (mj_ac (mj_e_st mj_M309 mj_nm309 mj_np309 (mj_w8 139 rfl rfl) (mj_w1 23 rfl rfl) mj_cd309 (mj_w8 138 rfl rfl))
   mj_an)))))
theorem mj_ok306 : mj_okRow mj_Tw mj_Mm mj_r306 := ⟨by decide +kernel, by decide +kernel, (mj_w1 20 rfl rfl), by decide, Or.inl ⟨mj_cd306, rfl, rfl⟩, mj_wlE (by decide +kernel) mj_wl306⟩
theorem mj_wl307 : ∀ x ∈ ([(0, .getstatic 38, 1, 0, 0), (7, .getfield 15, 1, 21, 0)] : List (Nat × mj_E)), mj_okW mj_Tw mj_Mm mj_m307 x.1 x.2 :=
  (mj_ac (mj_e_gs rfl (mj_w7 62 rfl rfl))
   (mj_ac (mj_e_gf "java/lang/String" (rfl : mj_cls[21]? = some mj_K21) (by decide) mj_u21 (Or.inl (mj_w8 68 rfl rfl)) (Or.inl rfl))
   mj_an))
theorem mj_ok307 : mj_okRow mj_Tw mj_Mm mj_r307 := ⟨by decide +kernel, by decide +kernel, (mj_w1 20 rfl rfl), by decide, Or.inl ⟨mj_cd307, rfl, rfl⟩, mj_wlE (by decide +kernel) mj_wl307⟩
theorem mj_wl308 : ∀ x ∈ ([(3, .invokestatic 9, 277, 2, 0)] : List (Nat × mj_E)), mj_okW mj_Tw mj_Mm mj_m308 x.1 x.2 :=
  (mj_ac (mj_e_st mj_M277 mj_nm277 mj_np277 (mj_w7 221 rfl rfl) (mj_w1 20 rfl rfl) mj_cd277 (mj_w8 137 rfl rfl))
   mj_an)
theorem mj_ok308 : mj_okRow mj_Tw mj_Mm mj_r308 := ⟨by decide +kernel, by decide +kernel, (mj_w1 29 rfl rfl), by decide, Or.inl ⟨mj_cd308, rfl, rfl⟩, mj_wlE (by decide +kernel) mj_wl308⟩
theorem mj_wl309 : ∀ x ∈ ([(2, .invokestatic 67, 276, 2, 0), (7, .invokestatic 71, 296, 2, 0)] : List (Nat × mj_E)), mj_okW mj_Tw mj_Mm mj_m309 x.1 x.2 :=
  (mj_ac (mj_e_st mj_M276 mj_nm276 mj_np276 (mj_w7 218 rfl rfl) (mj_w1 23 rfl rfl) mj_cd276 (mj_w7 217 rfl rfl))
   (mj_ac (mj_e_st mj_M296 mj_nm296 mj_np296 (mj_w8 61 rfl rfl) (mj_w1 23 rfl rfl) mj_cd296 (mj_w8 60 rfl rfl))
   mj_an))
theorem mj_ok309 : mj_okRow mj_Tw mj_Mm mj_r309 := ⟨by decide +kernel, by decide +kernel, (mj_w1 23 rfl rfl), by decide, Or.inl ⟨mj_cd309, rfl, rfl⟩, mj_wlE (by decide +kernel) mj_wl309⟩
theorem mj_wl310 : ∀ x ∈ ([(1, .invokevirtual 32, 305, 1, 23), (10, .invokestatic 61, 311, 3, 0), (17, .invokevirtual 92, 312, 1, 23), (26, .ldc 95, 1, 306, 0), (29, .invokevirtual 97, 317, 2, 22), (42, .invokevirtual 36, 314, 3, 23), (45, .new 101, 24, 0, 0), (50, .invokespecial 103, 329, 2, 25), (55, .invokevirtual 106, 333, 1, 25), (63, .invokevirtual 110, 334, 2, 23), (69, .getfield 13, 1, 22, 0), (74, .putfield 13, 1, 22, 0), (93, .invokevirtual 76, 313, 2, 23), (96, .putfield 114, 1, 24, 0), (104, .invokevirtual 32, 305, 1, 23), (111, .invokestatic 61, 311, 3, 0), (116, .invokevirtual 36, 314, 3, 23), (121, .invokevirtual 32, 305, 1, 23), (127, .putfield 114, 1, 24, 0), (132, .getfield 13, 1, 22, 0), (137, .putfield 13, 1, 22, 0)] : List (Nat × mj_E)), mj_okW mj_Tw mj_Mm mj_m310 x.1 x.2 :=
  (mj_ac (mj_e_vi mj_M305 mj_nm305 mj_np305 (mj_w8 124 rfl rfl) (rfl : mj_cls[22]? = some mj_K22) (mj_wp 48 rfl rfl) (mj_w8 122 rfl rfl) mj_cd305)
   (mj_ac (mj_e_stN "UncomputeryModel" mj_M311 mj_nm311 mj_np311 (mj_w8 146 rfl rfl) (mj_w1 11 rfl rfl) mj_cd311 (mj_w8 145 rfl rfl))
   (mj_ac (mj_e_vi mj_M312 mj_nm312 mj_np312 (mj_w8 150 rfl rfl) (rfl : mj_cls[22]? = some mj_K22) (mj_wp 50 rfl rfl) (mj_w8 148 rfl rfl) mj_cd312)
   (mj_ac (mj_e_l1 ("UncomputeryModel$Reader", 95, 3, "!?@$[{") (by decide +kernel) rfl rfl rfl)
   (mj_ac (mj_e_vi mj_M317 mj_nm317 mj_np317 (mj_w8 188 rfl rfl) (rfl : mj_cls[21]? = some mj_K21) (mj_w8 189 rfl rfl) (mj_w8 187 rfl rfl) mj_cd317)
   (mj_ac (mj_e_vi mj_M314 mj_nm314 mj_np314 (mj_w8 158 rfl rfl) (rfl : mj_cls[22]? = some mj_K22) (mj_wp 52 rfl rfl) (mj_w8 156 rfl rfl) mj_cd314)
   (mj_ac (mj_e_new mj_nw24 (mj_w8 233 rfl rfl))
   (mj_ac (mj_e_in mj_M329 mj_nm329 mj_np329 (mj_w8 236 rfl rfl) mj_cd329 rfl rfl (mj_w8 235 rfl rfl))
   (mj_ac (mj_e_vi mj_M333 mj_nm333 mj_np333 (mj_w9 75 rfl rfl) (rfl : mj_cls[24]? = some mj_K24) (mj_w9 76 rfl rfl) (mj_w9 74 rfl rfl) mj_cd333)
   (mj_ac (mj_e_vi mj_M334 mj_nm334 mj_np334 (mj_w9 80 rfl rfl) (rfl : mj_cls[22]? = some mj_K22) (mj_wp 54 rfl rfl) (mj_w9 78 rfl rfl) mj_cd334)
   (mj_ac (mj_e_gf "UncomputeryModel$Reader" (rfl : mj_cls[22]? = some mj_K22) (by decide) mj_u22 (Or.inl (mj_w8 98 rfl rfl)) (Or.inl rfl))
   (mj_ac (mj_e_pf "UncomputeryModel$Reader" (rfl : mj_cls[22]? = some mj_K22) (by decide) mj_u22 (Or.inl (mj_w8 98 rfl rfl)) (Or.inl rfl) mj_pd22 mj_ds22 (Or.inl rfl))
   (mj_ac (mj_e_vi mj_M313 mj_nm313 mj_np313 (mj_w8 154 rfl rfl) (rfl : mj_cls[22]? = some mj_K22) (mj_wp 51 rfl rfl) (mj_w8 152 rfl rfl) mj_cd313)
   (mj_ac (mj_e_pf "UncomputeryModel$Part" (rfl : mj_cls[24]? = some mj_K24) (by decide) mj_u24 (Or.inr ⟨"UncomputeryModel", (mj_w9 4 rfl rfl)⟩) (Or.inl rfl) mj_pd24 mj_ds24 (Or.inl rfl))
   (mj_ac (mj_e_vi mj_M305 mj_nm305 mj_np305 (mj_w8 124 rfl rfl) (rfl : mj_cls[22]? = some mj_K22) (mj_wp 48 rfl rfl) (mj_w8 122 rfl rfl) mj_cd305)
   (mj_ac (mj_e_stN "UncomputeryModel" mj_M311 mj_nm311 mj_np311 (mj_w8 146 rfl rfl) (mj_w1 11 rfl rfl) mj_cd311 (mj_w8 145 rfl rfl))
   (mj_ac (mj_e_vi mj_M314 mj_nm314 mj_np314 (mj_w8 158 rfl rfl) (rfl : mj_cls[22]? = some mj_K22) (mj_wp 52 rfl rfl) (mj_w8 156 rfl rfl) mj_cd314)
   (mj_ac (mj_e_vi mj_M305 mj_nm305 mj_np305 (mj_w8 124 rfl rfl) (rfl : mj_cls[22]? = some mj_K22) (mj_wp 48 rfl rfl) (mj_w8 122 rfl rfl) mj_cd305)
   (mj_ac (mj_e_pf "UncomputeryModel$Part" (rfl : mj_cls[24]? = some mj_K24) (by decide) mj_u24 (Or.inr ⟨"UncomputeryModel", (mj_w9 4 rfl rfl)⟩) (Or.inl rfl) mj_pd24 mj_ds24 (Or.inl rfl))
   (mj_ac (mj_e_gf "UncomputeryModel$Reader" (rfl : mj_cls[22]? = some mj_K22) (by decide) mj_u22 (Or.inl (mj_w8 98 rfl rfl)) (Or.inl rfl))
   (mj_ac (mj_e_pf "UncomputeryModel$Reader" (rfl : mj_cls[22]? = some mj_K22) (by decide) mj_u22 (Or.inl (mj_w8 98 rfl rfl)) (Or.inl rfl) mj_pd22 mj_ds22 (Or.inl rfl))
   mj_an)))))))))))))))))))))
theorem mj_ok310 : mj_okRow mj_Tw mj_Mm mj_r310 := ⟨by decide +kernel, by decide +kernel, (mj_w1 34 rfl rfl), by decide, Or.inl ⟨mj_cd310, rfl, rfl⟩, mj_wlE (by decide +kernel) mj_wl310⟩
theorem mj_wl311 : ∀ x ∈ ([] : List (Nat × mj_E)), mj_okW mj_Tw mj_Mm mj_m311 x.1 x.2 :=
  mj_an
theorem mj_ok311 : mj_okRow mj_Tw mj_Mm mj_r311 := ⟨by decide +kernel, by decide +kernel, (mj_w1 11 rfl rfl), by decide, Or.inl ⟨mj_cd311, rfl, rfl⟩, mj_wlE (by decide +kernel) mj_wl311⟩
theorem mj_wl312 : ∀ x ∈ ([(1, .getfield 13, 1, 22, 0), (8, .invokevirtual 76, 313, 2, 23), (14, .invokevirtual 32, 305, 1, 23), (20, .ldc 117, 1, 302, 0), (23, .invokevirtual 32, 305, 1, 23), (26, .invokevirtual 97, 317, 2, 22), (39, .invokevirtual 36, 314, 3, 23), (42, .new 101, 24, 0, 0), (47, .invokevirtual 32, 305, 1, 23), (50, .invokespecial 103, 329, 2, 25), (56, .getfield 13, 1, 22, 0), (61, .putfield 13, 1, 22, 0), (66, .putfield 114, 1, 24, 0), (70, .getfield 119, 0, 24, 0), (82, .invokevirtual 76, 313, 2, 23), (85, .putfield 120, 2, 24, 0), (89, .getfield 120, 2, 24, 0), (96, .new 27, 23, 1, 315), (115, .new 68, 25, 0, 0), (119, .invokespecial 83, 330, 1, 26), (122, .putfield 123, 3, 24, 0), (127, .getfield 123, 3, 24, 0), (130, .invokevirtual 84, 331, 2, 23), (134, .invokevirtual 32, 305, 1, 23), (140, .ldc 127, 1, 304, 0), (143, .invokevirtual 32, 305, 1, 23), (146, .invokevirtual 97, 317, 2, 22), (153, .getfield 123, 3, 24, 0), (157, .invokevirtual 32, 305, 1, 23), (160, .putfield 88, 2, 25, 0), (165, .getfield 13, 1, 22, 0), (170, .putfield 13, 1, 22, 0), (175, .getfield 123, 3, 24, 0), (178, .invokevirtual 84, 331, 2, 23), (182, .getfield 123, 3, 24, 0), (186, .invokevirtual 129, 332, 2, 26), (192, .new 27, 23, 2, 315)] : List (Nat × mj_E)), mj_okW mj_Tw mj_Mm mj_m312 x.1 x.2 :=
  (mj_ac (mj_e_gf "UncomputeryModel$Reader" (rfl : mj_cls[22]? = some mj_K22) (by decide) mj_u22 (Or.inl (mj_w8 98 rfl rfl)) (Or.inl rfl))
   (mj_ac (mj_e_vi mj_M313 mj_nm313 mj_np313 (mj_w8 154 rfl rfl) (rfl : mj_cls[22]? = some mj_K22) (mj_wp 51 rfl rfl) (mj_w8 152 rfl rfl) mj_cd313)
   (mj_ac (mj_e_vi mj_M305 mj_nm305 mj_np305 (mj_w8 124 rfl rfl) (rfl : mj_cls[22]? = some mj_K22) (mj_wp 48 rfl rfl) (mj_w8 122 rfl rfl) mj_cd305)
   (mj_ac (mj_e_l1 ("UncomputeryModel$Reader", 117, 1, "+-^~") (by decide +kernel) rfl rfl rfl)
   (mj_ac (mj_e_vi mj_M305 mj_nm305 mj_np305 (mj_w8 124 rfl rfl) (rfl : mj_cls[22]? = some mj_K22) (mj_wp 48 rfl rfl) (mj_w8 122 rfl rfl) mj_cd305)
   (mj_ac (mj_e_vi mj_M317 mj_nm317 mj_np317 (mj_w8 188 rfl rfl) (rfl : mj_cls[21]? = some mj_K21) (mj_w8 189 rfl rfl) (mj_w8 187 rfl rfl) mj_cd317)
   (mj_ac (mj_e_vi mj_M314 mj_nm314 mj_np314 (mj_w8 158 rfl rfl) (rfl : mj_cls[22]? = some mj_K22) (mj_wp 52 rfl rfl) (mj_w8 156 rfl rfl) mj_cd314)
   (mj_ac (mj_e_new mj_nw24 (mj_w8 233 rfl rfl))
   (mj_ac (mj_e_vi mj_M305 mj_nm305 mj_np305 (mj_w8 124 rfl rfl) (rfl : mj_cls[22]? = some mj_K22) (mj_wp 48 rfl rfl) (mj_w8 122 rfl rfl) mj_cd305)
   (mj_ac (mj_e_in mj_M329 mj_nm329 mj_np329 (mj_w8 236 rfl rfl) mj_cd329 rfl rfl (mj_w8 235 rfl rfl))
   (mj_ac (mj_e_gf "UncomputeryModel$Reader" (rfl : mj_cls[22]? = some mj_K22) (by decide) mj_u22 (Or.inl (mj_w8 98 rfl rfl)) (Or.inl rfl))
   (mj_ac (mj_e_pf "UncomputeryModel$Reader" (rfl : mj_cls[22]? = some mj_K22) (by decide) mj_u22 (Or.inl (mj_w8 98 rfl rfl)) (Or.inl rfl) mj_pd22 mj_ds22 (Or.inl rfl))
   (mj_ac (mj_e_pf "UncomputeryModel$Part" (rfl : mj_cls[24]? = some mj_K24) (by decide) mj_u24 (Or.inr ⟨"UncomputeryModel", (mj_w9 4 rfl rfl)⟩) (Or.inl rfl) mj_pd24 mj_ds24 (Or.inl rfl))
   (mj_ac (mj_e_gf "UncomputeryModel$Part" (rfl : mj_cls[24]? = some mj_K24) (by decide) mj_u24 (Or.inr ⟨"UncomputeryModel", (mj_w9 1 rfl rfl)⟩) (Or.inl rfl))
   (mj_ac (mj_e_vi mj_M313 mj_nm313 mj_np313 (mj_w8 154 rfl rfl) (rfl : mj_cls[22]? = some mj_K22) (mj_wp 51 rfl rfl) (mj_w8 152 rfl rfl) mj_cd313)
   (mj_ac (mj_e_pf "UncomputeryModel$Part" (rfl : mj_cls[24]? = some mj_K24) (by decide) mj_u24 (Or.inr ⟨"UncomputeryModel", (mj_w9 7 rfl rfl)⟩) (Or.inl rfl) mj_pd24 mj_ds24 (Or.inl rfl))
   (mj_ac (mj_e_gf "UncomputeryModel$Part" (rfl : mj_cls[24]? = some mj_K24) (by decide) mj_u24 (Or.inr ⟨"UncomputeryModel", (mj_w9 7 rfl rfl)⟩) (Or.inl rfl))
   (mj_ac (mj_e_fl (ic := 29) (z9 := 313) mj_tf23 rfl (mj_w8 160 rfl rfl) (mj_w8 169 rfl rfl) (by decide +kernel) (mj_okU_c (by decide +kernel) (by decide +kernel) trivial (mj_okU_c (by decide +kernel) (by decide +kernel) ((mj_e_gf "UncomputeryModel$Reader" (rfl : mj_cls[22]? = some mj_K22) (by decide) mj_u22 (Or.inl (mj_w8 98 rfl rfl)) (Or.inl rfl) : mj_okW mj_Tw mj_Mm mj_m312 101 (.getfield 13, 1, 22, 0)).1 rfl) (mj_okU_c (by decide +kernel) (by decide +kernel) trivial (mj_okU_c (by decide +kernel) (by decide +kernel) trivial (mj_okU_c (by decide +kernel) (by decide +kernel) trivial mj_okU_n))))) (by decide +kernel) (by decide +kernel))
   (mj_ac (mj_e_new mj_nw25 (mj_w9 41 rfl rfl))
   (mj_ac (mj_e_inN "UncomputeryModel" mj_M330 mj_nm330 mj_np330 (mj_w9 44 rfl rfl) mj_cd330 rfl rfl (mj_w9 43 rfl rfl))
   (mj_ac (mj_e_pf "UncomputeryModel$Part" (rfl : mj_cls[24]? = some mj_K24) (by decide) mj_u24 (Or.inr ⟨"UncomputeryModel", (mj_w9 10 rfl rfl)⟩) (Or.inl rfl) mj_pd24 mj_ds24 (Or.inl rfl))
   (mj_ac (mj_e_gf "UncomputeryModel$Part" (rfl : mj_cls[24]? = some mj_K24) (by decide) mj_u24 (Or.inr ⟨"UncomputeryModel", (mj_w9 10 rfl rfl)⟩) (Or.inl rfl))
   (mj_ac (mj_e_vi mj_M331 mj_nm331 mj_np331 (mj_w9 66 rfl rfl) (rfl : mj_cls[22]? = some mj_K22) (mj_wp 53 rfl rfl) (mj_w9 64 rfl rfl) mj_cd331)
   (mj_ac (mj_e_vi mj_M305 mj_nm305 mj_np305 (mj_w8 124 rfl rfl) (rfl : mj_cls[22]? = some mj_K22) (mj_wp 48 rfl rfl) (mj_w8 122 rfl rfl) mj_cd305)
   (mj_ac (mj_e_l1 ("UncomputeryModel$Reader", 127, 2, "+-*&") (by decide +kernel) rfl rfl rfl)
   (mj_ac (mj_e_vi mj_M305 mj_nm305 mj_np305 (mj_w8 124 rfl rfl) (rfl : mj_cls[22]? = some mj_K22) (mj_wp 48 rfl rfl) (mj_w8 122 rfl rfl) mj_cd305)
   (mj_ac (mj_e_vi mj_M317 mj_nm317 mj_np317 (mj_w8 188 rfl rfl) (rfl : mj_cls[21]? = some mj_K21) (mj_w8 189 rfl rfl) (mj_w8 187 rfl rfl) mj_cd317)
   (mj_ac (mj_e_gf "UncomputeryModel$Part" (rfl : mj_cls[24]? = some mj_K24) (by decide) mj_u24 (Or.inr ⟨"UncomputeryModel", (mj_w9 10 rfl rfl)⟩) (Or.inl rfl))
   (mj_ac (mj_e_vi mj_M305 mj_nm305 mj_np305 (mj_w8 124 rfl rfl) (rfl : mj_cls[22]? = some mj_K22) (mj_wp 48 rfl rfl) (mj_w8 122 rfl rfl) mj_cd305)
   (mj_ac (mj_e_pf "UncomputeryModel$Sum" (rfl : mj_cls[25]? = some mj_K25) (by decide) mj_u25 (Or.inr ⟨"UncomputeryModel", (mj_w9 52 rfl rfl)⟩) (Or.inl rfl) mj_pd25 mj_ds25 (Or.inl rfl))
   (mj_ac (mj_e_gf "UncomputeryModel$Reader" (rfl : mj_cls[22]? = some mj_K22) (by decide) mj_u22 (Or.inl (mj_w8 98 rfl rfl)) (Or.inl rfl))
   (mj_ac (mj_e_pf "UncomputeryModel$Reader" (rfl : mj_cls[22]? = some mj_K22) (by decide) mj_u22 (Or.inl (mj_w8 98 rfl rfl)) (Or.inl rfl) mj_pd22 mj_ds22 (Or.inl rfl))
   (mj_ac (mj_e_gf "UncomputeryModel$Part" (rfl : mj_cls[24]? = some mj_K24) (by decide) mj_u24 (Or.inr ⟨"UncomputeryModel", (mj_w9 10 rfl rfl)⟩) (Or.inl rfl))
   (mj_ac (mj_e_vi mj_M331 mj_nm331 mj_np331 (mj_w9 66 rfl rfl) (rfl : mj_cls[22]? = some mj_K22) (mj_wp 53 rfl rfl) (mj_w9 64 rfl rfl) mj_cd331)
   (mj_ac (mj_e_gf "UncomputeryModel$Part" (rfl : mj_cls[24]? = some mj_K24) (by decide) mj_u24 (Or.inr ⟨"UncomputeryModel", (mj_w9 10 rfl rfl)⟩) (Or.inl rfl))
   (mj_ac (mj_e_vi mj_M332 mj_nm332 mj_np332 (mj_w9 70 rfl rfl) (rfl : mj_cls[25]? = some mj_K25) (mj_w9 71 rfl rfl) (mj_w9 69 rfl rfl) mj_cd332)
   (mj_ac (mj_e_fl (ic := 29) (z9 := 313) mj_tf23 rfl (mj_w8 160 rfl rfl) (mj_w8 169 rfl rfl) (by decide +kernel) (mj_okU_c (by decide +kernel) (by decide +kernel) trivial (mj_okU_c (by decide +kernel) (by decide +kernel) trivial mj_okU_n)) (by decide +kernel) (by decide +kernel))
   mj_an)))))))))))))))))))))))))))))))))))))
theorem mj_ok312 : mj_okRow mj_Tw mj_Mm mj_r312 := ⟨by decide +kernel, by decide +kernel, (mj_w1 34 rfl rfl), by decide, Or.inl ⟨mj_cd312, rfl, rfl⟩, mj_wlE (by decide +kernel) mj_wl312⟩
theorem mj_wl313 : ∀ x ∈ ([(2, .invokevirtual 32, 305, 1, 23), (9, .invokestatic 61, 311, 3, 0), (13, .invokevirtual 36, 314, 3, 23), (18, .getfield 13, 1, 22, 0), (23, .putfield 13, 1, 22, 0), (27, .getfield 7, 0, 22, 0), (31, .getfield 13, 1, 22, 0), (36, .invokevirtual 23, 306, 2, 22)] : List (Nat × mj_E)), mj_okW mj_Tw mj_Mm mj_m313 x.1 x.2 :=
  (mj_ac (mj_e_vi mj_M305 mj_nm305 mj_np305 (mj_w8 124 rfl rfl) (rfl : mj_cls[22]? = some mj_K22) (mj_wp 48 rfl rfl) (mj_w8 122 rfl rfl) mj_cd305)
   (mj_ac (mj_e_stN "UncomputeryModel" mj_M311 mj_nm311 mj_np311 (mj_w8 146 rfl rfl) (mj_w1 11 rfl rfl) mj_cd311 (mj_w8 145 rfl rfl))
   (mj_ac (mj_e_vi mj_M314 mj_nm314 mj_np314 (mj_w8 158 rfl rfl) (rfl : mj_cls[22]? = some mj_K22) (mj_wp 52 rfl rfl) (mj_w8 156 rfl rfl) mj_cd314)
   (mj_ac (mj_e_gf "UncomputeryModel$Reader" (rfl : mj_cls[22]? = some mj_K22) (by decide) mj_u22 (Or.inl (mj_w8 98 rfl rfl)) (Or.inl rfl))
   (mj_ac (mj_e_pf "UncomputeryModel$Reader" (rfl : mj_cls[22]? = some mj_K22) (by decide) mj_u22 (Or.inl (mj_w8 98 rfl rfl)) (Or.inl rfl) mj_pd22 mj_ds22 (Or.inl rfl))
   (mj_ac (mj_e_gf "UncomputeryModel$Reader" (rfl : mj_cls[22]? = some mj_K22) (by decide) mj_u22 (Or.inl (mj_w8 97 rfl rfl)) (Or.inl rfl))
   (mj_ac (mj_e_gf "UncomputeryModel$Reader" (rfl : mj_cls[22]? = some mj_K22) (by decide) mj_u22 (Or.inl (mj_w8 98 rfl rfl)) (Or.inl rfl))
   (mj_ac (mj_e_vi mj_M306 mj_nm306 mj_np306 (mj_w8 127 rfl rfl) (rfl : mj_cls[21]? = some mj_K21) (mj_w8 128 rfl rfl) (mj_w8 126 rfl rfl) mj_cd306)
   mj_an))))))))
theorem mj_ok313 : mj_okRow mj_Tw mj_Mm mj_r313 := ⟨by decide +kernel, by decide +kernel, (mj_w1 34 rfl rfl), by decide, Or.inl ⟨mj_cd313, rfl, rfl⟩, mj_wlE (by decide +kernel) mj_wl313⟩
theorem mj_wl314 : ∀ x ∈ ([(4, .new 27, 23, 0, 315)] : List (Nat × mj_E)), mj_okW mj_Tw mj_Mm mj_m314 x.1 x.2 :=
  (mj_ac (mj_e_fl (ic := 29) (z9 := 313) mj_tf23 rfl (mj_w8 160 rfl rfl) (mj_w8 169 rfl rfl) (by decide +kernel) (mj_okU_c (by decide +kernel) (by decide +kernel) trivial (mj_okU_c (by decide +kernel) (by decide +kernel) ((mj_e_gf "UncomputeryModel$Reader" (rfl : mj_cls[22]? = some mj_K22) (by decide) mj_u22 (Or.inl (mj_w8 98 rfl rfl)) (Or.inl rfl) : mj_okW mj_Tw mj_Mm mj_m314 9 (.getfield 13, 1, 22, 0)).1 rfl) (mj_okU_c (by decide +kernel) (by decide +kernel) trivial mj_okU_n))) (by decide +kernel) (by decide +kernel))
   mj_an)
theorem mj_ok314 : mj_okRow mj_Tw mj_Mm mj_r314 := ⟨by decide +kernel, by decide +kernel, (mj_w1 34 rfl rfl), by decide, Or.inl ⟨mj_cd314, rfl, rfl⟩, mj_wlE (by decide +kernel) mj_wl314⟩
theorem mj_wl315 : ∀ x ∈ ([(1, .invokespecial 1, 316, 1, 24), (6, .putfield 7, 0, 23, 0), (11, .putfield 13, 1, 23, 0)] : List (Nat × mj_E)), mj_okW mj_Tw mj_Mm mj_m315 x.1 x.2 :=
  (mj_ac (mj_e_in mj_M316 mj_nm316 mj_np316 (mj_w8 173 rfl rfl) mj_cd316 rfl rfl (mj_w8 172 rfl rfl))
   (mj_ac (mj_e_pf "UncomputeryModel$Fault" (rfl : mj_cls[23]? = some mj_K23) (by decide) mj_u23 (Or.inl (mj_w8 176 rfl rfl)) (Or.inl rfl) mj_pd23 mj_ds23 (Or.inr ⟨rfl, rfl, rfl, (mj_w8 176 rfl rfl)⟩))
   (mj_ac (mj_e_pf "UncomputeryModel$Fault" (rfl : mj_cls[23]? = some mj_K23) (by decide) mj_u23 (Or.inl (mj_w8 178 rfl rfl)) (Or.inl rfl) mj_pd23 mj_ds23 (Or.inr ⟨rfl, rfl, rfl, (mj_w8 178 rfl rfl)⟩))
   mj_an)))
theorem mj_ok315 : mj_okRow mj_Tw mj_Mm mj_r315 := ⟨by decide +kernel, by decide +kernel, (mj_w1 35 rfl rfl), by decide, Or.inl ⟨mj_cd315, rfl, rfl⟩, mj_wlE (by decide +kernel) mj_wl315⟩
theorem mj_wl316 : ∀ x ∈ ([] : List (Nat × mj_E)), mj_okW mj_Tw mj_Mm mj_m316 x.1 x.2 :=
  mj_an
theorem mj_ok316 : mj_okRow mj_Tw mj_Mm mj_r316 := ⟨by decide +kernel, by decide +kernel, (mj_w1 17 rfl rfl), by decide, Or.inl ⟨mj_cd316, rfl, rfl⟩, mj_wlE (by decide +kernel) mj_wl316⟩
theorem mj_wl317 : ∀ x ∈ ([(3, .invokevirtual 633, 318, 3, 22)] : List (Nat × mj_E)), mj_okW mj_Tw mj_Mm mj_m317 x.1 x.2 :=
  (mj_ac (mj_e_vi mj_M318 mj_nm318 mj_np318 (mj_w8 192 rfl rfl) (rfl : mj_cls[21]? = some mj_K21) (mj_w8 193 rfl rfl) (mj_w8 191 rfl rfl) mj_cd318)
   mj_an)
theorem mj_ok317 : mj_okRow mj_Tw mj_Mm mj_r317 := ⟨by decide +kernel, by decide +kernel, (mj_w1 20 rfl rfl), by decide, Or.inl ⟨mj_cd317, rfl, rfl⟩, mj_wlE (by decide +kernel) mj_wl317⟩
theorem mj_wl318 : ∀ x ∈ ([(1, .invokevirtual 492, 307, 1, 22), (8, .getfield 9, 0, 21, 0), (14, .invokevirtual 505, 241, 1, 22), (17, .invokestatic 637, 319, 4, 0), (24, .getfield 9, 0, 21, 0), (30, .invokevirtual 505, 241, 1, 22), (33, .invokestatic 640, 322, 4, 0)] : List (Nat × mj_E)), mj_okW mj_Tw mj_Mm mj_m318 x.1 x.2 :=
  (mj_ac (mj_e_vi mj_M307 mj_nm307 mj_np307 (mj_w8 131 rfl rfl) (rfl : mj_cls[21]? = some mj_K21) (mj_w8 132 rfl rfl) (mj_w8 130 rfl rfl) mj_cd307)
   (mj_ac (mj_e_gf "java/lang/String" (rfl : mj_cls[21]? = some mj_K21) (by decide) mj_u21 (Or.inl (mj_w8 67 rfl rfl)) (Or.inl rfl))
   (mj_ac (mj_e_vi mj_M241 mj_nm241 mj_np241 (mj_w7 55 rfl rfl) (rfl : mj_cls[21]? = some mj_K21) (mj_w7 56 rfl rfl) (mj_w8 195 rfl rfl) mj_cd241)
   (mj_ac (mj_e_st mj_M319 mj_nm319 mj_np319 (mj_w8 197 rfl rfl) (mj_w1 29 rfl rfl) mj_cd319 (mj_w8 196 rfl rfl))
   (mj_ac (mj_e_gf "java/lang/String" (rfl : mj_cls[21]? = some mj_K21) (by decide) mj_u21 (Or.inl (mj_w8 67 rfl rfl)) (Or.inl rfl))
   (mj_ac (mj_e_vi mj_M241 mj_nm241 mj_np241 (mj_w7 55 rfl rfl) (rfl : mj_cls[21]? = some mj_K21) (mj_w7 56 rfl rfl) (mj_w8 195 rfl rfl) mj_cd241)
   (mj_ac (mj_e_st mj_M322 mj_nm322 mj_np322 (mj_w8 208 rfl rfl) (mj_w1 23 rfl rfl) mj_cd322 (mj_w8 207 rfl rfl))
   mj_an)))))))
theorem mj_ok318 : mj_okRow mj_Tw mj_Mm mj_r318 := ⟨by decide +kernel, by decide +kernel, (mj_w1 20 rfl rfl), by decide, Or.inl ⟨mj_cd318, rfl, rfl⟩, mj_wlE (by decide +kernel) mj_wl318⟩
theorem mj_wl319 : ∀ x ∈ ([(1, .invokestatic 88, 320, 1, 0), (11, .invokestatic 92, 9004, 2, 0), (18, .invokestatic 38, 9005, 2, 0), (33, .invokestatic 95, 321, 4, 0)] : List (Nat × mj_E)), mj_okW mj_Tw mj_Mm mj_m319 x.1 x.2 :=
  (mj_ac (mj_e_st mj_M320 mj_nm320 mj_np320 (mj_w8 200 rfl rfl) (mj_w1 29 rfl rfl) mj_cd320 (mj_w8 199 rfl rfl))
   (mj_ac (mj_e_mx (mj_w8 202 rfl rfl) (mj_w2 202 rfl rfl) (mj_w1 25 rfl rfl) (mj_w2 203 rfl rfl))
   (mj_ac (mj_e_mi (mj_w8 203 rfl rfl) (mj_w2 176 rfl rfl) (mj_w1 25 rfl rfl) (mj_w2 177 rfl rfl))
   (mj_ac (mj_e_st mj_M321 mj_nm321 mj_np321 (mj_w8 205 rfl rfl) (mj_w1 29 rfl rfl) mj_cd321 (mj_w8 204 rfl rfl))
   mj_an))))
theorem mj_ok319 : mj_okRow mj_Tw mj_Mm mj_r319 := ⟨by decide +kernel, by decide +kernel, (mj_w1 29 rfl rfl), by decide, Or.inl ⟨mj_cd319, rfl, rfl⟩, mj_wlE (by decide +kernel) mj_wl319⟩
theorem mj_wl320 : ∀ x ∈ ([] : List (Nat × mj_E)), mj_okW mj_Tw mj_Mm mj_m320 x.1 x.2 :=
  mj_an
theorem mj_ok320 : mj_okRow mj_Tw mj_Mm mj_r320 := ⟨by decide +kernel, by decide +kernel, (mj_w1 29 rfl rfl), by decide, Or.inl ⟨mj_cd320, rfl, rfl⟩, mj_wlE (by decide +kernel) mj_wl320⟩
theorem mj_wl321 : ∀ x ∈ ([] : List (Nat × mj_E)), mj_okW mj_Tw mj_Mm mj_m321 x.1 x.2 :=
  mj_an
theorem mj_ok321 : mj_okRow mj_Tw mj_Mm mj_r321 := ⟨by decide +kernel, by decide +kernel, (mj_w1 29 rfl rfl), by decide, Or.inl ⟨mj_cd321, rfl, rfl⟩, mj_wlE (by decide +kernel) mj_wl321⟩
theorem mj_wl322 : ∀ x ∈ ([(2, .invokestatic 224, 9004, 2, 0), (11, .invokestatic 183, 9005, 2, 0), (23, .ldc 227, 0, 65536, 0), (32, .invokestatic 228, 323, 4, 0), (40, .invokestatic 232, 325, 4, 0)] : List (Nat × mj_E)), mj_okW mj_Tw mj_Mm mj_m322 x.1 x.2 :=
  (mj_ac (mj_e_mx (mj_w8 210 rfl rfl) (mj_w2 202 rfl rfl) (mj_w1 25 rfl rfl) (mj_w2 203 rfl rfl))
   (mj_ac (mj_e_mi (mj_w8 211 rfl rfl) (mj_w2 176 rfl rfl) (mj_w1 25 rfl rfl) (mj_w2 177 rfl rfl))
   (mj_ac (mj_e_l0 (mj_w8 212 rfl rfl))
   (mj_ac (mj_e_st mj_M323 mj_nm323 mj_np323 (mj_w8 214 rfl rfl) (mj_w1 23 rfl rfl) mj_cd323 (mj_w8 213 rfl rfl))
   (mj_ac (mj_e_st mj_M325 mj_nm325 mj_np325 (mj_w8 220 rfl rfl) (mj_w1 23 rfl rfl) mj_cd325 (mj_w8 219 rfl rfl))
   mj_an)))))
theorem mj_ok322 : mj_okRow mj_Tw mj_Mm mj_r322 := ⟨by decide +kernel, by decide +kernel, (mj_w1 23 rfl rfl), by decide, Or.inl ⟨mj_cd322, rfl, rfl⟩, mj_wlE (by decide +kernel) mj_wl322⟩
theorem mj_wl323 : ∀ x ∈ ([(3, .invokestatic 96, 258, 3, 0), (10, .invokestatic 244, 324, 4, 0)] : List (Nat × mj_E)), mj_okW mj_Tw mj_Mm mj_m323 x.1 x.2 :=
  (mj_ac (mj_e_st mj_M258 mj_nm258 mj_np258 (mj_w7 147 rfl rfl) (mj_w1 23 rfl rfl) mj_cd258 (mj_w7 146 rfl rfl))
   (mj_ac (mj_e_st mj_M324 mj_nm324 mj_np324 (mj_w8 217 rfl rfl) (mj_w1 23 rfl rfl) mj_cd324 (mj_w8 216 rfl rfl))
   mj_an))
theorem mj_ok323 : mj_okRow mj_Tw mj_Mm mj_r323 := ⟨by decide +kernel, by decide +kernel, (mj_w1 23 rfl rfl), by decide, Or.inl ⟨mj_cd323, rfl, rfl⟩, mj_wlE (by decide +kernel) mj_wl323⟩
theorem mj_wl324 : ∀ x ∈ ([(12, .invokestatic 71, 296, 2, 0)] : List (Nat × mj_E)), mj_okW mj_Tw mj_Mm mj_m324 x.1 x.2 :=
  (mj_ac (mj_e_st mj_M296 mj_nm296 mj_np296 (mj_w8 61 rfl rfl) (mj_w1 23 rfl rfl) mj_cd296 (mj_w8 60 rfl rfl))
   mj_an)
theorem mj_ok324 : mj_okRow mj_Tw mj_Mm mj_r324 := ⟨by decide +kernel, by decide +kernel, (mj_w1 23 rfl rfl), by decide, Or.inl ⟨mj_cd324, rfl, rfl⟩, mj_wlE (by decide +kernel) mj_wl324⟩
theorem mj_wl325 : ∀ x ∈ ([(1, .invokestatic 164, 326, 1, 0), (8, .invokestatic 157, 327, 1, 0), (14, .invokestatic 161, 328, 1, 0), (22, .invokestatic 96, 258, 3, 0), (39, .invokestatic 71, 296, 2, 0), (52, .invokestatic 71, 296, 2, 0)] : List (Nat × mj_E)), mj_okW mj_Tw mj_Mm mj_m325 x.1 x.2 :=
  (mj_ac (mj_e_st mj_M326 mj_nm326 mj_np326 (mj_w8 223 rfl rfl) (mj_w1 36 rfl rfl) mj_cd326 (mj_w8 222 rfl rfl))
   (mj_ac (mj_e_st mj_M327 mj_nm327 mj_np327 (mj_w8 226 rfl rfl) (mj_w1 36 rfl rfl) mj_cd327 (mj_w8 225 rfl rfl))
   (mj_ac (mj_e_st mj_M328 mj_nm328 mj_np328 (mj_w8 230 rfl rfl) (mj_w1 36 rfl rfl) mj_cd328 (mj_w8 229 rfl rfl))
   (mj_ac (mj_e_st mj_M258 mj_nm258 mj_np258 (mj_w7 147 rfl rfl) (mj_w1 23 rfl rfl) mj_cd258 (mj_w7 146 rfl rfl))
   (mj_ac (mj_e_st mj_M296 mj_nm296 mj_np296 (mj_w8 61 rfl rfl) (mj_w1 23 rfl rfl) mj_cd296 (mj_w8 60 rfl rfl))
   (mj_ac (mj_e_st mj_M296 mj_nm296 mj_np296 (mj_w8 61 rfl rfl) (mj_w1 23 rfl rfl) mj_cd296 (mj_w8 60 rfl rfl))
   mj_an))))))
theorem mj_ok325 : mj_okRow mj_Tw mj_Mm mj_r325 := ⟨by decide +kernel, by decide +kernel, (mj_w1 23 rfl rfl), by decide, Or.inl ⟨mj_cd325, rfl, rfl⟩, mj_wlE (by decide +kernel) mj_wl325⟩
theorem mj_wl326 : ∀ x ∈ ([] : List (Nat × mj_E)), mj_okW mj_Tw mj_Mm mj_m326 x.1 x.2 :=
  mj_an
theorem mj_ok326 : mj_okRow mj_Tw mj_Mm mj_r326 := ⟨by decide +kernel, by decide +kernel, (mj_w1 36 rfl rfl), by decide, Or.inl ⟨mj_cd326, rfl, rfl⟩, mj_wlE (by decide +kernel) mj_wl326⟩
theorem mj_wl327 : ∀ x ∈ ([(4, .ldc 110, 0, 55232, 0)] : List (Nat × mj_E)), mj_okW mj_Tw mj_Mm mj_m327 x.1 x.2 :=
  (mj_ac (mj_e_l0 (mj_w8 228 rfl rfl))
   mj_an)
theorem mj_ok327 : mj_okRow mj_Tw mj_Mm mj_r327 := ⟨by decide +kernel, by decide +kernel, (mj_w1 36 rfl rfl), by decide, Or.inl ⟨mj_cd327, rfl, rfl⟩, mj_wlE (by decide +kernel) mj_wl327⟩
theorem mj_wl328 : ∀ x ∈ ([(5, .ldc 76, 0, 56320, 0)] : List (Nat × mj_E)), mj_okW mj_Tw mj_Mm mj_m328 x.1 x.2 :=
  (mj_ac (mj_e_l0 (mj_w8 232 rfl rfl))
   mj_an)
theorem mj_ok328 : mj_okRow mj_Tw mj_Mm mj_r328 := ⟨by decide +kernel, by decide +kernel, (mj_w1 36 rfl rfl), by decide, Or.inl ⟨mj_cd328, rfl, rfl⟩, mj_wlE (by decide +kernel) mj_wl328⟩
theorem mj_wl329 : ∀ x ∈ ([(1, .invokespecial 1, 9003, 1, 0), (6, .putfield 7, 0, 24, 0)] : List (Nat × mj_E)), mj_okW mj_Tw mj_Mm mj_m329 x.1 x.2 :=
  (mj_ac (mj_e_ob (mj_w8 238 rfl rfl) (mj_w1 54 rfl rfl) (mj_w1 55 rfl rfl))
   (mj_ac (mj_e_pf "UncomputeryModel$Part" (rfl : mj_cls[24]? = some mj_K24) (by decide) mj_u24 (Or.inl (mj_w8 239 rfl rfl)) (Or.inl rfl) mj_pd24 mj_ds24 (Or.inr ⟨rfl, rfl, rfl, (mj_w8 239 rfl rfl)⟩))
   mj_an))
theorem mj_ok329 : mj_okRow mj_Tw mj_Mm mj_r329 := ⟨by decide +kernel, by decide +kernel, (mj_w1 37 rfl rfl), by decide, Or.inl ⟨mj_cd329, rfl, rfl⟩, mj_wlE (by decide +kernel) mj_wl329⟩
theorem mj_wl330 : ∀ x ∈ ([(1, .invokespecial 3, 9003, 1, 0), (6, .newarray .int, 0, 0, 0), (16, .putfield 9, 0, 25, 0), (21, .newarray .int, 0, 0, 0), (23, .putfield 15, 1, 25, 0), (29, .putfield 18, 2, 25, 0)] : List (Nat × mj_E)), mj_okW mj_Tw mj_Mm mj_m330 x.1 x.2 :=
  (mj_ac (mj_e_ob (mj_w9 46 rfl rfl) (mj_w1 54 rfl rfl) (mj_w1 55 rfl rfl))
   (mj_ac (mj_e_na rfl (by decide) (mj_w1 224 rfl rfl))
   (mj_ac (mj_e_pf "UncomputeryModel$Sum" (rfl : mj_cls[25]? = some mj_K25) (by decide) mj_u25 (Or.inl (mj_w9 47 rfl rfl)) (Or.inl rfl) mj_pd25 mj_ds25 (Or.inr ⟨rfl, rfl, rfl, (mj_w9 47 rfl rfl)⟩))
   (mj_ac (mj_e_na rfl (by decide) (mj_w1 224 rfl rfl))
   (mj_ac (mj_e_pf "UncomputeryModel$Sum" (rfl : mj_cls[25]? = some mj_K25) (by decide) mj_u25 (Or.inl (mj_w9 49 rfl rfl)) (Or.inl rfl) mj_pd25 mj_ds25 (Or.inr ⟨rfl, rfl, rfl, (mj_w9 49 rfl rfl)⟩))
   (mj_ac (mj_e_pf "UncomputeryModel$Sum" (rfl : mj_cls[25]? = some mj_K25) (by decide) mj_u25 (Or.inl (mj_w9 51 rfl rfl)) (Or.inl rfl) mj_pd25 mj_ds25 (Or.inl rfl))
   mj_an))))))
theorem mj_ok330 : mj_okRow mj_Tw mj_Mm mj_r330 := ⟨by decide +kernel, by decide +kernel, (mj_w1 38 rfl rfl), by decide, Or.inl ⟨mj_cd330, rfl, rfl⟩, mj_wlE (by decide +kernel) mj_wl330⟩
theorem mj_wl331 : ∀ x ∈ ([(1, .invokevirtual 32, 305, 1, 23), (8, .invokestatic 61, 311, 3, 0), (15, .getfield 67, 0, 25, 0), (19, .getfield 73, 3, 25, 0), (25, .invokevirtual 76, 313, 2, 23), (34, .invokevirtual 32, 305, 1, 23), (41, .invokestatic 61, 311, 3, 0), (46, .invokevirtual 36, 314, 3, 23), (59, .invokevirtual 32, 305, 1, 23), (66, .invokestatic 61, 311, 3, 0), (77, .invokevirtual 32, 305, 1, 23), (87, .getfield 13, 1, 22, 0), (92, .putfield 13, 1, 22, 0), (102, .getfield 80, 1, 25, 0), (106, .getfield 73, 3, 25, 0), (113, .getfield 73, 3, 25, 0), (118, .putfield 73, 3, 25, 0)] : List (Nat × mj_E)), mj_okW mj_Tw mj_Mm mj_m331 x.1 x.2 :=
  (mj_ac (mj_e_vi mj_M305 mj_nm305 mj_np305 (mj_w8 124 rfl rfl) (rfl : mj_cls[22]? = some mj_K22) (mj_wp 48 rfl rfl) (mj_w8 122 rfl rfl) mj_cd305)
   (mj_ac (mj_e_stN "UncomputeryModel" mj_M311 mj_nm311 mj_np311 (mj_w8 146 rfl rfl) (mj_w1 11 rfl rfl) mj_cd311 (mj_w8 145 rfl rfl))
   (mj_ac (mj_e_gf "UncomputeryModel$Sum" (rfl : mj_cls[25]? = some mj_K25) (by decide) mj_u25 (Or.inr ⟨"UncomputeryModel", (mj_w9 48 rfl rfl)⟩) (Or.inl rfl))
   (mj_ac (mj_e_gf "UncomputeryModel$Sum" (rfl : mj_cls[25]? = some mj_K25) (by decide) mj_u25 (Or.inr ⟨"UncomputeryModel", (mj_w9 54 rfl rfl)⟩) (Or.inl rfl))
   (mj_ac (mj_e_vi mj_M313 mj_nm313 mj_np313 (mj_w8 154 rfl rfl) (rfl : mj_cls[22]? = some mj_K22) (mj_wp 51 rfl rfl) (mj_w8 152 rfl rfl) mj_cd313)
   (mj_ac (mj_e_vi mj_M305 mj_nm305 mj_np305 (mj_w8 124 rfl rfl) (rfl : mj_cls[22]? = some mj_K22) (mj_wp 48 rfl rfl) (mj_w8 122 rfl rfl) mj_cd305)
   (mj_ac (mj_e_stN "UncomputeryModel" mj_M311 mj_nm311 mj_np311 (mj_w8 146 rfl rfl) (mj_w1 11 rfl rfl) mj_cd311 (mj_w8 145 rfl rfl))
   (mj_ac (mj_e_vi mj_M314 mj_nm314 mj_np314 (mj_w8 158 rfl rfl) (rfl : mj_cls[22]? = some mj_K22) (mj_wp 52 rfl rfl) (mj_w8 156 rfl rfl) mj_cd314)
   (mj_ac (mj_e_vi mj_M305 mj_nm305 mj_np305 (mj_w8 124 rfl rfl) (rfl : mj_cls[22]? = some mj_K22) (mj_wp 48 rfl rfl) (mj_w8 122 rfl rfl) mj_cd305)
   (mj_ac (mj_e_stN "UncomputeryModel" mj_M311 mj_nm311 mj_np311 (mj_w8 146 rfl rfl) (mj_w1 11 rfl rfl) mj_cd311 (mj_w8 145 rfl rfl))
   (mj_ac (mj_e_vi mj_M305 mj_nm305 mj_np305 (mj_w8 124 rfl rfl) (rfl : mj_cls[22]? = some mj_K22) (mj_wp 48 rfl rfl) (mj_w8 122 rfl rfl) mj_cd305)
   (mj_ac (mj_e_gf "UncomputeryModel$Reader" (rfl : mj_cls[22]? = some mj_K22) (by decide) mj_u22 (Or.inl (mj_w8 98 rfl rfl)) (Or.inl rfl))
   (mj_ac (mj_e_pf "UncomputeryModel$Reader" (rfl : mj_cls[22]? = some mj_K22) (by decide) mj_u22 (Or.inl (mj_w8 98 rfl rfl)) (Or.inl rfl) mj_pd22 mj_ds22 (Or.inl rfl))
   (mj_ac (mj_e_gf "UncomputeryModel$Sum" (rfl : mj_cls[25]? = some mj_K25) (by decide) mj_u25 (Or.inr ⟨"UncomputeryModel", (mj_w9 50 rfl rfl)⟩) (Or.inl rfl))
   (mj_ac (mj_e_gf "UncomputeryModel$Sum" (rfl : mj_cls[25]? = some mj_K25) (by decide) mj_u25 (Or.inr ⟨"UncomputeryModel", (mj_w9 54 rfl rfl)⟩) (Or.inl rfl))
   (mj_ac (mj_e_gf "UncomputeryModel$Sum" (rfl : mj_cls[25]? = some mj_K25) (by decide) mj_u25 (Or.inr ⟨"UncomputeryModel", (mj_w9 54 rfl rfl)⟩) (Or.inl rfl))
   (mj_ac (mj_e_pf "UncomputeryModel$Sum" (rfl : mj_cls[25]? = some mj_K25) (by decide) mj_u25 (Or.inr ⟨"UncomputeryModel", (mj_w9 54 rfl rfl)⟩) (Or.inl rfl) mj_pd25 mj_ds25 (Or.inl rfl))
   mj_an)))))))))))))))))
theorem mj_ok331 : mj_okRow mj_Tw mj_Mm mj_r331 := ⟨by decide +kernel, by decide +kernel, (mj_w1 34 rfl rfl), by decide, Or.inl ⟨mj_cd331, rfl, rfl⟩, mj_wlE (by decide +kernel) mj_wl331⟩
theorem mj_wl332 : ∀ x ∈ ([(1, .getfield 9, 0, 25, 0), (11, .getfield 22, 3, 25, 0), (19, .getfield 9, 0, 25, 0)] : List (Nat × mj_E)), mj_okW mj_Tw mj_Mm mj_m332 x.1 x.2 :=
  (mj_ac (mj_e_gf "UncomputeryModel$Sum" (rfl : mj_cls[25]? = some mj_K25) (by decide) mj_u25 (Or.inl (mj_w9 47 rfl rfl)) (Or.inl rfl))
   (mj_ac (mj_e_gf "UncomputeryModel$Sum" (rfl : mj_cls[25]? = some mj_K25) (by decide) mj_u25 (Or.inl (mj_w9 53 rfl rfl)) (Or.inl rfl))
   (mj_ac (mj_e_gf "UncomputeryModel$Sum" (rfl : mj_cls[25]? = some mj_K25) (by decide) mj_u25 (Or.inl (mj_w9 47 rfl rfl)) (Or.inl rfl))
   mj_an)))
theorem mj_ok332 : mj_okRow mj_Tw mj_Mm mj_r332 := ⟨by decide +kernel, by decide +kernel, (mj_w1 38 rfl rfl), by decide, Or.inl ⟨mj_cd332, rfl, rfl⟩, mj_wlE (by decide +kernel) mj_wl332⟩
theorem mj_wl333 : ∀ x ∈ ([(1, .getfield 7, 0, 24, 0), (10, .getfield 7, 0, 24, 0)] : List (Nat × mj_E)), mj_okW mj_Tw mj_Mm mj_m333 x.1 x.2 :=
  (mj_ac (mj_e_gf "UncomputeryModel$Part" (rfl : mj_cls[24]? = some mj_K24) (by decide) mj_u24 (Or.inl (mj_w8 239 rfl rfl)) (Or.inl rfl))
   (mj_ac (mj_e_gf "UncomputeryModel$Part" (rfl : mj_cls[24]? = some mj_K24) (by decide) mj_u24 (Or.inl (mj_w8 239 rfl rfl)) (Or.inl rfl))
   mj_an))
theorem mj_ok333 : mj_okRow mj_Tw mj_Mm mj_r333 := ⟨by decide +kernel, by decide +kernel, (mj_w1 37 rfl rfl), by decide, Or.inl ⟨mj_cd333, rfl, rfl⟩, mj_wlE (by decide +kernel) mj_wl333⟩
theorem mj_wl334 : ∀ x ∈ ([(2, .getfield 133, 2, 22, 0), (17, .invokevirtual 36, 314, 3, 23), (22, .getfield 13, 1, 22, 0), (27, .putfield 13, 1, 22, 0), (32, .getfield 133, 2, 22, 0), (37, .putfield 133, 2, 22, 0), (42, .invokevirtual 136, 335, 1, 23), (45, .putfield 140, 4, 24, 0), (53, .invokevirtual 143, 336, 3, 23), (60, .invokevirtual 40, 303, 2, 23), (63, .putfield 147, 6, 24, 0), (71, .invokevirtual 143, 336, 3, 23), (78, .invokevirtual 40, 303, 2, 23), (81, .putfield 151, 7, 24, 0), (89, .invokevirtual 143, 336, 3, 23), (94, .invokevirtual 136, 335, 1, 23), (97, .putfield 154, 5, 24, 0), (102, .getfield 119, 0, 24, 0), (119, .invokevirtual 143, 336, 3, 23), (124, .getfield 133, 2, 22, 0), (129, .putfield 133, 2, 22, 0)] : List (Nat × mj_E)), mj_okW mj_Tw mj_Mm mj_m334 x.1 x.2 :=
  (mj_ac (mj_e_gf "UncomputeryModel$Reader" (rfl : mj_cls[22]? = some mj_K22) (by decide) mj_u22 (Or.inl (mj_w8 99 rfl rfl)) (Or.inl rfl))
   (mj_ac (mj_e_vi mj_M314 mj_nm314 mj_np314 (mj_w8 158 rfl rfl) (rfl : mj_cls[22]? = some mj_K22) (mj_wp 52 rfl rfl) (mj_w8 156 rfl rfl) mj_cd314)
   (mj_ac (mj_e_gf "UncomputeryModel$Reader" (rfl : mj_cls[22]? = some mj_K22) (by decide) mj_u22 (Or.inl (mj_w8 98 rfl rfl)) (Or.inl rfl))
   (mj_ac (mj_e_pf "UncomputeryModel$Reader" (rfl : mj_cls[22]? = some mj_K22) (by decide) mj_u22 (Or.inl (mj_w8 98 rfl rfl)) (Or.inl rfl) mj_pd22 mj_ds22 (Or.inl rfl))
   (mj_ac (mj_e_gf "UncomputeryModel$Reader" (rfl : mj_cls[22]? = some mj_K22) (by decide) mj_u22 (Or.inl (mj_w8 99 rfl rfl)) (Or.inl rfl))
   (mj_ac (mj_e_pf "UncomputeryModel$Reader" (rfl : mj_cls[22]? = some mj_K22) (by decide) mj_u22 (Or.inl (mj_w8 99 rfl rfl)) (Or.inl rfl) mj_pd22 mj_ds22 (Or.inl rfl))
   (mj_ac (mj_e_vi mj_M335 mj_nm335 mj_np335 (mj_w9 84 rfl rfl) (rfl : mj_cls[22]? = some mj_K22) (mj_wp 55 rfl rfl) (mj_w9 82 rfl rfl) mj_cd335)
   (mj_ac (mj_e_pf "UncomputeryModel$Part" (rfl : mj_cls[24]? = some mj_K24) (by decide) mj_u24 (Or.inr ⟨"UncomputeryModel", (mj_w9 13 rfl rfl)⟩) (Or.inl rfl) mj_pd24 mj_ds24 (Or.inl rfl))
   (mj_ac (mj_e_vi mj_M336 mj_nm336 mj_np336 (mj_w9 88 rfl rfl) (rfl : mj_cls[22]? = some mj_K22) (mj_wp 56 rfl rfl) (mj_w9 86 rfl rfl) mj_cd336)
   (mj_ac (mj_e_vi mj_M303 mj_nm303 mj_np303 (mj_w8 112 rfl rfl) (rfl : mj_cls[22]? = some mj_K22) (mj_w8 113 rfl rfl) (mj_w8 111 rfl rfl) mj_cd303)
   (mj_ac (mj_e_pf "UncomputeryModel$Part" (rfl : mj_cls[24]? = some mj_K24) (by decide) mj_u24 (Or.inr ⟨"UncomputeryModel", (mj_w9 20 rfl rfl)⟩) (Or.inl rfl) mj_pd24 mj_ds24 (Or.inl rfl))
   (mj_ac (mj_e_vi mj_M336 mj_nm336 mj_np336 (mj_w9 88 rfl rfl) (rfl : mj_cls[22]? = some mj_K22) (mj_wp 56 rfl rfl) (mj_w9 86 rfl rfl) mj_cd336)
   (mj_ac (mj_e_vi mj_M303 mj_nm303 mj_np303 (mj_w8 112 rfl rfl) (rfl : mj_cls[22]? = some mj_K22) (mj_w8 113 rfl rfl) (mj_w8 111 rfl rfl) mj_cd303)
   (mj_ac (mj_e_pf "UncomputeryModel$Part" (rfl : mj_cls[24]? = some mj_K24) (by decide) mj_u24 (Or.inr ⟨"UncomputeryModel", (mj_w9 23 rfl rfl)⟩) (Or.inl rfl) mj_pd24 mj_ds24 (Or.inl rfl))
   (mj_ac (mj_e_vi mj_M336 mj_nm336 mj_np336 (mj_w9 88 rfl rfl) (rfl : mj_cls[22]? = some mj_K22) (mj_wp 56 rfl rfl) (mj_w9 86 rfl rfl) mj_cd336)
   (mj_ac (mj_e_vi mj_M335 mj_nm335 mj_np335 (mj_w9 84 rfl rfl) (rfl : mj_cls[22]? = some mj_K22) (mj_wp 55 rfl rfl) (mj_w9 82 rfl rfl) mj_cd335)
   (mj_ac (mj_e_pf "UncomputeryModel$Part" (rfl : mj_cls[24]? = some mj_K24) (by decide) mj_u24 (Or.inr ⟨"UncomputeryModel", (mj_w9 16 rfl rfl)⟩) (Or.inl rfl) mj_pd24 mj_ds24 (Or.inl rfl))
   (mj_ac (mj_e_gf "UncomputeryModel$Part" (rfl : mj_cls[24]? = some mj_K24) (by decide) mj_u24 (Or.inr ⟨"UncomputeryModel", (mj_w9 1 rfl rfl)⟩) (Or.inl rfl))
   (mj_ac (mj_e_vi mj_M336 mj_nm336 mj_np336 (mj_w9 88 rfl rfl) (rfl : mj_cls[22]? = some mj_K22) (mj_wp 56 rfl rfl) (mj_w9 86 rfl rfl) mj_cd336)
   (mj_ac (mj_e_gf "UncomputeryModel$Reader" (rfl : mj_cls[22]? = some mj_K22) (by decide) mj_u22 (Or.inl (mj_w8 99 rfl rfl)) (Or.inl rfl))
   (mj_ac (mj_e_pf "UncomputeryModel$Reader" (rfl : mj_cls[22]? = some mj_K22) (by decide) mj_u22 (Or.inl (mj_w8 99 rfl rfl)) (Or.inl rfl) mj_pd22 mj_ds22 (Or.inl rfl))
   mj_an)))))))))))))))))))))
theorem mj_ok334 : mj_okRow mj_Tw mj_Mm mj_r334 := ⟨by decide +kernel, by decide +kernel, (mj_w1 34 rfl rfl), by decide, Or.inl ⟨mj_cd334, rfl, rfl⟩, mj_wlE (by decide +kernel) mj_wl334⟩
theorem mj_wl335 : ∀ x ∈ ([(0, .new 68, 25, 0, 0), (4, .invokespecial 83, 330, 1, 26), (10, .invokevirtual 84, 331, 2, 23), (15, .invokevirtual 32, 305, 1, 23), (24, .invokevirtual 32, 305, 1, 23), (33, .invokevirtual 32, 305, 1, 23), (48, .invokevirtual 36, 314, 3, 23), (53, .invokevirtual 32, 305, 1, 23), (56, .putfield 88, 2, 25, 0), (61, .getfield 13, 1, 22, 0), (66, .putfield 13, 1, 22, 0), (71, .invokevirtual 84, 331, 2, 23)] : List (Nat × mj_E)), mj_okW mj_Tw mj_Mm mj_m335 x.1 x.2 :=
  (mj_ac (mj_e_new mj_nw25 (mj_w9 41 rfl rfl))
   (mj_ac (mj_e_inN "UncomputeryModel" mj_M330 mj_nm330 mj_np330 (mj_w9 44 rfl rfl) mj_cd330 rfl rfl (mj_w9 43 rfl rfl))
   (mj_ac (mj_e_vi mj_M331 mj_nm331 mj_np331 (mj_w9 66 rfl rfl) (rfl : mj_cls[22]? = some mj_K22) (mj_wp 53 rfl rfl) (mj_w9 64 rfl rfl) mj_cd331)
   (mj_ac (mj_e_vi mj_M305 mj_nm305 mj_np305 (mj_w8 124 rfl rfl) (rfl : mj_cls[22]? = some mj_K22) (mj_wp 48 rfl rfl) (mj_w8 122 rfl rfl) mj_cd305)
   (mj_ac (mj_e_vi mj_M305 mj_nm305 mj_np305 (mj_w8 124 rfl rfl) (rfl : mj_cls[22]? = some mj_K22) (mj_wp 48 rfl rfl) (mj_w8 122 rfl rfl) mj_cd305)
   (mj_ac (mj_e_vi mj_M305 mj_nm305 mj_np305 (mj_w8 124 rfl rfl) (rfl : mj_cls[22]? = some mj_K22) (mj_wp 48 rfl rfl) (mj_w8 122 rfl rfl) mj_cd305)
   (mj_ac (mj_e_vi mj_M314 mj_nm314 mj_np314 (mj_w8 158 rfl rfl) (rfl : mj_cls[22]? = some mj_K22) (mj_wp 52 rfl rfl) (mj_w8 156 rfl rfl) mj_cd314)
   (mj_ac (mj_e_vi mj_M305 mj_nm305 mj_np305 (mj_w8 124 rfl rfl) (rfl : mj_cls[22]? = some mj_K22) (mj_wp 48 rfl rfl) (mj_w8 122 rfl rfl) mj_cd305)
   (mj_ac (mj_e_pf "UncomputeryModel$Sum" (rfl : mj_cls[25]? = some mj_K25) (by decide) mj_u25 (Or.inr ⟨"UncomputeryModel", (mj_w9 52 rfl rfl)⟩) (Or.inl rfl) mj_pd25 mj_ds25 (Or.inl rfl))
   (mj_ac (mj_e_gf "UncomputeryModel$Reader" (rfl : mj_cls[22]? = some mj_K22) (by decide) mj_u22 (Or.inl (mj_w8 98 rfl rfl)) (Or.inl rfl))
   (mj_ac (mj_e_pf "UncomputeryModel$Reader" (rfl : mj_cls[22]? = some mj_K22) (by decide) mj_u22 (Or.inl (mj_w8 98 rfl rfl)) (Or.inl rfl) mj_pd22 mj_ds22 (Or.inl rfl))
   (mj_ac (mj_e_vi mj_M331 mj_nm331 mj_np331 (mj_w9 66 rfl rfl) (rfl : mj_cls[22]? = some mj_K22) (mj_wp 53 rfl rfl) (mj_w9 64 rfl rfl) mj_cd331)
   mj_an))))))))))))
theorem mj_ok335 : mj_okRow mj_Tw mj_Mm mj_r335 := ⟨by decide +kernel, by decide +kernel, (mj_w1 34 rfl rfl), by decide, Or.inl ⟨mj_cd335, rfl, rfl⟩, mj_wlE (by decide +kernel) mj_wl335⟩
