theorem mj_wl240 : ∀ x ∈ ([(2, .getfield 27, 3, 17, 0), (5, .invokevirtual 89, 241, 1, 22), (18, .invokevirtual 92, 243, 2, 18), (26, .new 60, 20, 0, 0), (30, .invokespecial 62, 244, 1, 21), (35, .getfield 27, 3, 17, 0), (38, .invokevirtual 63, 248, 2, 21), (42, .invokevirtual 96, 272, 2, 21), (45, .invokevirtual 78, 279, 1, 21), (48, .putfield 27, 3, 17, 0), (52, .getfield 27, 3, 17, 0), (55, .invokevirtual 89, 241, 1, 22)] : List (Nat × mj_E)), mj_okW mj_Tw mj_Mm mj_m240 x.1 x.2 :=
  (mj_ac (mj_e_gf "UncomputeryModel" (rfl : mj_cls[17]? = some mj_K17) (by decide) mj_u17 (Or.inl (mj_w7 15 rfl rfl)) (Or.inl rfl))
   (mj_ac (mj_e_vi mj_M241 mj_nm241 mj_np241 (mj_w7 55 rfl rfl) (rfl : mj_cls[21]? = some mj_K21) (mj_w7 56 rfl rfl) (mj_w7 54 rfl rfl) mj_cd241)
   (mj_ac (mj_e_vi mj_M243 mj_nm243 mj_np243 (mj_w7 66 rfl rfl) (rfl : mj_cls[17]? = some mj_K17) (mj_wp 45 rfl rfl) (mj_w7 64 rfl rfl) mj_cd243)
   (mj_ac (mj_e_new mj_nw20 (mj_w7 68 rfl rfl))
   (mj_ac (mj_e_in mj_M244 mj_nm244 mj_np244 (mj_w7 71 rfl rfl) mj_cd244 rfl rfl (mj_w7 70 rfl rfl))
   (mj_ac (mj_e_gf "UncomputeryModel" (rfl : mj_cls[17]? = some mj_K17) (by decide) mj_u17 (Or.inl (mj_w7 15 rfl rfl)) (Or.inl rfl))
   (mj_ac (mj_e_vi mj_M248 mj_nm248 mj_np248 (mj_w7 99 rfl rfl) (rfl : mj_cls[20]? = some mj_K20) (mj_w7 100 rfl rfl) (mj_w7 98 rfl rfl) mj_cd248)
   (mj_ac (mj_e_vi mj_M272 mj_nm272 mj_np272 (mj_w7 205 rfl rfl) (rfl : mj_cls[20]? = some mj_K20) (mj_w7 206 rfl rfl) (mj_w7 204 rfl rfl) mj_cd272)
   (mj_ac (mj_e_vi mj_M279 mj_nm279 mj_np279 (mj_w7 227 rfl rfl) (rfl : mj_cls[20]? = some mj_K20) (mj_w7 228 rfl rfl) (mj_w7 226 rfl rfl) mj_cd279)
   (mj_ac (mj_e_pf "UncomputeryModel" (rfl : mj_cls[17]? = some mj_K17) (by decide) mj_u17 (Or.inl (mj_w7 15 rfl rfl)) (Or.inl rfl) mj_pd17 mj_ds17 (Or.inl rfl))
   (mj_ac (mj_e_gf "UncomputeryModel" (rfl : mj_cls[17]? = some mj_K17) (by decide) mj_u17 (Or.inl (mj_w7 15 rfl rfl)) (Or.inl rfl))
   (mj_ac (mj_e_vi mj_M241 mj_nm241 mj_np241 (mj_w7 55 rfl rfl) (rfl : mj_cls[21]? = some mj_K21) (mj_w7 56 rfl rfl) (mj_w7 54 rfl rfl) mj_cd241)
   mj_an))))))))))))
theorem mj_ok240 : mj_okRow mj_Tw mj_Mm mj_r240 := ⟨by decide +kernel, by decide +kernel, (mj_w1 11 rfl rfl), by decide, Or.inl ⟨mj_cd240, rfl, rfl⟩, mj_wlE (by decide +kernel) mj_wl240⟩
theorem mj_wl241 : ∀ x ∈ ([(1, .getfield 9, 0, 21, 0), (6, .invokevirtual 335, 242, 1, 22)] : List (Nat × mj_E)), mj_okW mj_Tw mj_Mm mj_m241 x.1 x.2 :=
  (mj_ac (mj_e_gf "java/lang/String" (rfl : mj_cls[21]? = some mj_K21) (by decide) mj_u21 (Or.inl (mj_w8 67 rfl rfl)) (Or.inl rfl))
   (mj_ac (mj_e_vi mj_M242 mj_nm242 mj_np242 (mj_w7 59 rfl rfl) (rfl : mj_cls[21]? = some mj_K21) (mj_w7 60 rfl rfl) (mj_w7 58 rfl rfl) mj_cd242)
   mj_an))
theorem mj_ok241 : mj_okRow mj_Tw mj_Mm mj_r241 := ⟨by decide +kernel, by decide +kernel, (mj_w1 20 rfl rfl), by decide, Or.inl ⟨mj_cd241, rfl, rfl⟩, mj_wlE (by decide +kernel) mj_wl241⟩
theorem mj_wl242 : ∀ x ∈ ([(0, .getstatic 38, 1, 0, 0), (7, .getfield 15, 1, 21, 0)] : List (Nat × mj_E)), mj_okW mj_Tw mj_Mm mj_m242 x.1 x.2 :=
  (mj_ac (mj_e_gs rfl (mj_w7 62 rfl rfl))
   (mj_ac (mj_e_gf "java/lang/String" (rfl : mj_cls[21]? = some mj_K21) (by decide) mj_u21 (Or.inl (mj_w8 68 rfl rfl)) (Or.inl rfl))
   mj_an))
theorem mj_ok242 : mj_okRow mj_Tw mj_Mm mj_r242 := ⟨by decide +kernel, by decide +kernel, (mj_w1 20 rfl rfl), by decide, Or.inl ⟨mj_cd242, rfl, rfl⟩, mj_wlE (by decide +kernel) mj_wl242⟩
theorem mj_wl243 : ∀ x ∈ ([(2, .putfield 38, 0, 17, 0)] : List (Nat × mj_E)), mj_okW mj_Tw mj_Mm mj_m243 x.1 x.2 :=
  (mj_ac (mj_e_pf "UncomputeryModel" (rfl : mj_cls[17]? = some mj_K17) (by decide) mj_u17 (Or.inl (mj_w7 11 rfl rfl)) (Or.inl rfl) mj_pd17 mj_ds17 (Or.inl rfl))
   mj_an)
theorem mj_ok243 : mj_okRow mj_Tw mj_Mm mj_r243 := ⟨by decide +kernel, by decide +kernel, (mj_w1 11 rfl rfl), by decide, Or.inl ⟨mj_cd243, rfl, rfl⟩, mj_wlE (by decide +kernel) mj_wl243⟩
theorem mj_wl244 : ∀ x ∈ ([(3, .invokespecial 1, 245, 2, 21)] : List (Nat × mj_E)), mj_okW mj_Tw mj_Mm mj_m244 x.1 x.2 :=
  (mj_ac (mj_e_in mj_M245 mj_nm245 mj_np245 (mj_w7 74 rfl rfl) mj_cd245 rfl rfl (mj_w7 73 rfl rfl))
   mj_an)
theorem mj_ok244 : mj_okRow mj_Tw mj_Mm mj_r244 := ⟨by decide +kernel, by decide +kernel, (mj_w1 22 rfl rfl), by decide, Or.inl ⟨mj_cd244, rfl, rfl⟩, mj_wlE (by decide +kernel) mj_wl244⟩
theorem mj_wl245 : ∀ x ∈ ([(1, .invokespecial 3, 9003, 1, 0), (4, .getstatic 18, 1, 0, 0), (12, .newarray .byte, 1, 0, 0), (14, .putfield 15, 0, 20, 0), (19, .putfield 22, 1, 20, 0), (27, .invokestatic 26, 246, 1, 0), (30, .putfield 15, 0, 20, 0), (35, .putfield 22, 1, 20, 0)] : List (Nat × mj_E)), mj_okW mj_Tw mj_Mm mj_m245 x.1 x.2 :=
  (mj_ac (mj_e_ob (mj_w7 76 rfl rfl) (mj_w1 54 rfl rfl) (mj_w1 55 rfl rfl))
   (mj_ac (mj_e_gs rfl (mj_w7 77 rfl rfl))
   (mj_ac (mj_e_na rfl (by decide) (mj_w4 110 rfl rfl))
   (mj_ac (mj_e_pf "java/lang/AbstractStringBuilder" (rfl : mj_cls[20]? = some mj_K20) (by decide) mj_u20 (Or.inl (mj_w7 85 rfl rfl)) (Or.inl rfl) mj_pd20 mj_ds20 (Or.inl rfl))
   (mj_ac (mj_e_pf "java/lang/AbstractStringBuilder" (rfl : mj_cls[20]? = some mj_K20) (by decide) mj_u20 (Or.inl (mj_w7 86 rfl rfl)) (Or.inl rfl) mj_pd20 mj_ds20 (Or.inl rfl))
   (mj_ac (mj_e_st mj_M246 mj_nm246 mj_np246 (mj_w7 79 rfl rfl) (mj_w1 23 rfl rfl) mj_cd246 (mj_w7 78 rfl rfl))
   (mj_ac (mj_e_pf "java/lang/AbstractStringBuilder" (rfl : mj_cls[20]? = some mj_K20) (by decide) mj_u20 (Or.inl (mj_w7 85 rfl rfl)) (Or.inl rfl) mj_pd20 mj_ds20 (Or.inl rfl))
   (mj_ac (mj_e_pf "java/lang/AbstractStringBuilder" (rfl : mj_cls[20]? = some mj_K20) (by decide) mj_u20 (Or.inl (mj_w7 86 rfl rfl)) (Or.inl rfl) mj_pd20 mj_ds20 (Or.inl rfl))
   mj_an))))))))
theorem mj_ok245 : mj_okRow mj_Tw mj_Mm mj_r245 := ⟨by decide +kernel, by decide +kernel, (mj_w1 21 rfl rfl), by decide, Or.inl ⟨mj_cd245, rfl, rfl⟩, mj_wlE (by decide +kernel) mj_wl245⟩
theorem mj_wl246 : ∀ x ∈ ([(1, .invokestatic 11, 247, 1, 0), (4, .newarray .byte, 1, 0, 0)] : List (Nat × mj_E)), mj_okW mj_Tw mj_Mm mj_m246 x.1 x.2 :=
  (mj_ac (mj_e_st mj_M247 mj_nm247 mj_np247 (mj_w7 82 rfl rfl) (mj_w1 23 rfl rfl) mj_cd247 (mj_w7 81 rfl rfl))
   (mj_ac (mj_e_na rfl (by decide) (mj_w4 110 rfl rfl))
   mj_an))
theorem mj_ok246 : mj_okRow mj_Tw mj_Mm mj_r246 := ⟨by decide +kernel, by decide +kernel, (mj_w1 23 rfl rfl), by decide, Or.inl ⟨mj_cd246, rfl, rfl⟩, mj_wlE (by decide +kernel) mj_wl246⟩
theorem mj_wl247 : ∀ x ∈ ([(13, .ldc 20, 0, 1073741823, 0), (43, .ldc 20, 0, 1073741823, 0)] : List (Nat × mj_E)), mj_okW mj_Tw mj_Mm mj_m247 x.1 x.2 :=
  (mj_ac (mj_e_l0 (mj_w7 84 rfl rfl))
   (mj_ac (mj_e_l0 (mj_w7 84 rfl rfl))
   mj_an))
theorem mj_ok247 : mj_okRow mj_Tw mj_Mm mj_r247 := ⟨by decide +kernel, by decide +kernel, (mj_w1 23 rfl rfl), by decide, Or.inl ⟨mj_cd247, rfl, rfl⟩, mj_wlE (by decide +kernel) mj_wl247⟩
theorem mj_wl248 : ∀ x ∈ ([(2, .invokespecial 29, 249, 2, 21)] : List (Nat × mj_E)), mj_okW mj_Tw mj_Mm mj_m248 x.1 x.2 :=
  (mj_ac (mj_e_su mj_M249 mj_nm249 mj_np249 (mj_w7 103 rfl rfl) mj_cd249 (by decide) (mj_w7 102 rfl rfl) (mj_w12 128 rfl rfl) (mj_w7 97 rfl rfl))
   mj_an)
theorem mj_ok248 : mj_okRow mj_Tw mj_Mm mj_r248 := ⟨by decide +kernel, by decide +kernel, (mj_w1 22 rfl rfl), by decide, Or.inl ⟨mj_cd248, rfl, rfl⟩, mj_wlE (by decide +kernel) mj_wl248⟩
theorem mj_wl249 : ∀ x ∈ ([(5, .invokevirtual 204, 250, 1, 21), (10, .invokevirtual 32, 241, 1, 22), (16, .getfield 79, 3, 20, 0), (21, .invokevirtual 100, 251, 2, 21), (26, .getfield 79, 3, 20, 0), (30, .invokevirtual 208, 263, 3, 21), (35, .getfield 79, 3, 20, 0), (40, .putfield 79, 3, 20, 0)] : List (Nat × mj_E)), mj_okW mj_Tw mj_Mm mj_m249 x.1 x.2 :=
  (mj_ac (mj_e_vi mj_M250 mj_nm250 mj_np250 (mj_w7 107 rfl rfl) (rfl : mj_cls[20]? = some mj_K20) (mj_wb 0 rfl rfl) (mj_w7 105 rfl rfl) mj_cd250)
   (mj_ac (mj_e_vi mj_M241 mj_nm241 mj_np241 (mj_w7 55 rfl rfl) (rfl : mj_cls[21]? = some mj_K21) (mj_w7 56 rfl rfl) (mj_w7 169 rfl rfl) mj_cd241)
   (mj_ac (mj_e_gf "java/lang/AbstractStringBuilder" (rfl : mj_cls[20]? = some mj_K20) (by decide) mj_u20 (Or.inl (mj_w7 88 rfl rfl)) (Or.inl rfl))
   (mj_ac (mj_e_vi mj_M251 mj_nm251 mj_np251 (mj_w7 111 rfl rfl) (rfl : mj_cls[20]? = some mj_K20) (mj_wb 1 rfl rfl) (mj_w7 109 rfl rfl) mj_cd251)
   (mj_ac (mj_e_gf "java/lang/AbstractStringBuilder" (rfl : mj_cls[20]? = some mj_K20) (by decide) mj_u20 (Or.inl (mj_w7 88 rfl rfl)) (Or.inl rfl))
   (mj_ac (mj_e_vi mj_M263 mj_nm263 mj_np263 (mj_w7 172 rfl rfl) (rfl : mj_cls[20]? = some mj_K20) (mj_wb 2 rfl rfl) (mj_w7 170 rfl rfl) mj_cd263)
   (mj_ac (mj_e_gf "java/lang/AbstractStringBuilder" (rfl : mj_cls[20]? = some mj_K20) (by decide) mj_u20 (Or.inl (mj_w7 88 rfl rfl)) (Or.inl rfl))
   (mj_ac (mj_e_pf "java/lang/AbstractStringBuilder" (rfl : mj_cls[20]? = some mj_K20) (by decide) mj_u20 (Or.inl (mj_w7 88 rfl rfl)) (Or.inl rfl) mj_pd20 mj_ds20 (Or.inl rfl))
   mj_an))))))))
theorem mj_ok249 : mj_okRow mj_Tw mj_Mm mj_r249 := ⟨by decide +kernel, by decide +kernel, (mj_w1 21 rfl rfl), by decide, Or.inl ⟨mj_cd249, rfl, rfl⟩, mj_wlE (by decide +kernel) mj_wl249⟩
theorem mj_wl250 : ∀ x ∈ ([(2, .getfield 79, 3, 20, 0), (7, .invokevirtual 100, 251, 2, 21), (11, .getfield 79, 3, 20, 0), (16, .getfield 15, 0, 20, 0), (21, .invokevirtual 83, 256, 1, 21), (72, .invokestatic 226, 257, 6, 0), (78, .putfield 79, 3, 20, 0)] : List (Nat × mj_E)), mj_okW mj_Tw mj_Mm mj_m250 x.1 x.2 :=
  (mj_ac (mj_e_gf "java/lang/AbstractStringBuilder" (rfl : mj_cls[20]? = some mj_K20) (by decide) mj_u20 (Or.inl (mj_w7 88 rfl rfl)) (Or.inl rfl))
   (mj_ac (mj_e_vi mj_M251 mj_nm251 mj_np251 (mj_w7 111 rfl rfl) (rfl : mj_cls[20]? = some mj_K20) (mj_wb 1 rfl rfl) (mj_w7 109 rfl rfl) mj_cd251)
   (mj_ac (mj_e_gf "java/lang/AbstractStringBuilder" (rfl : mj_cls[20]? = some mj_K20) (by decide) mj_u20 (Or.inl (mj_w7 88 rfl rfl)) (Or.inl rfl))
   (mj_ac (mj_e_gf "java/lang/AbstractStringBuilder" (rfl : mj_cls[20]? = some mj_K20) (by decide) mj_u20 (Or.inl (mj_w7 85 rfl rfl)) (Or.inl rfl))
   (mj_ac (mj_e_vi mj_M256 mj_nm256 mj_np256 (mj_w7 139 rfl rfl) (rfl : mj_cls[20]? = some mj_K20) (mj_w7 141 rfl rfl) (mj_w7 138 rfl rfl) mj_cd256)
   (mj_ac (mj_e_st mj_M257 mj_nm257 mj_np257 (mj_w7 144 rfl rfl) (mj_w1 23 rfl rfl) mj_cd257 (mj_w7 143 rfl rfl))
   (mj_ac (mj_e_pf "java/lang/AbstractStringBuilder" (rfl : mj_cls[20]? = some mj_K20) (by decide) mj_u20 (Or.inl (mj_w7 88 rfl rfl)) (Or.inl rfl) mj_pd20 mj_ds20 (Or.inl rfl))
   mj_an)))))))
theorem mj_ok250 : mj_okRow mj_Tw mj_Mm mj_r250 := ⟨by decide +kernel, by decide +kernel, (mj_w1 21 rfl rfl), by decide, Or.inl ⟨mj_cd250, rfl, rfl⟩, mj_wlE (by decide +kernel) mj_wl250⟩
theorem mj_wl251 : ∀ x ∈ ([(1, .getfield 15, 0, 20, 0), (6, .getfield 22, 1, 20, 0), (19, .getfield 15, 0, 20, 0), (24, .invokevirtual 104, 252, 2, 21), (28, .getfield 22, 1, 20, 0), (32, .invokestatic 108, 255, 2, 0), (35, .putfield 15, 0, 20, 0)] : List (Nat × mj_E)), mj_okW mj_Tw mj_Mm mj_m251 x.1 x.2 :=
  (mj_ac (mj_e_gf "java/lang/AbstractStringBuilder" (rfl : mj_cls[20]? = some mj_K20) (by decide) mj_u20 (Or.inl (mj_w7 85 rfl rfl)) (Or.inl rfl))
   (mj_ac (mj_e_gf "java/lang/AbstractStringBuilder" (rfl : mj_cls[20]? = some mj_K20) (by decide) mj_u20 (Or.inl (mj_w7 86 rfl rfl)) (Or.inl rfl))
   (mj_ac (mj_e_gf "java/lang/AbstractStringBuilder" (rfl : mj_cls[20]? = some mj_K20) (by decide) mj_u20 (Or.inl (mj_w7 85 rfl rfl)) (Or.inl rfl))
   (mj_ac (mj_e_vi mj_M252 mj_nm252 mj_np252 (mj_w7 115 rfl rfl) (rfl : mj_cls[20]? = some mj_K20) (mj_wb 3 rfl rfl) (mj_w7 113 rfl rfl) mj_cd252)
   (mj_ac (mj_e_gf "java/lang/AbstractStringBuilder" (rfl : mj_cls[20]? = some mj_K20) (by decide) mj_u20 (Or.inl (mj_w7 86 rfl rfl)) (Or.inl rfl))
   (mj_ac (mj_e_st mj_M255 mj_nm255 mj_np255 (mj_w7 127 rfl rfl) (mj_w1 26 rfl rfl) mj_cd255 (mj_w7 126 rfl rfl))
   (mj_ac (mj_e_pf "java/lang/AbstractStringBuilder" (rfl : mj_cls[20]? = some mj_K20) (by decide) mj_u20 (Or.inl (mj_w7 85 rfl rfl)) (Or.inl rfl) mj_pd20 mj_ds20 (Or.inl rfl))
   mj_an)))))))
theorem mj_ok251 : mj_okRow mj_Tw mj_Mm mj_r251 := ⟨by decide +kernel, by decide +kernel, (mj_w1 21 rfl rfl), by decide, Or.inl ⟨mj_cd251, rfl, rfl⟩, mj_wlE (by decide +kernel) mj_wl251⟩
theorem mj_wl252 : ∀ x ∈ ([(1, .getfield 15, 0, 20, 0), (8, .getfield 22, 1, 20, 0), (24, .getfield 22, 1, 20, 0), (29, .invokestatic 114, 253, 3, 0), (36, .ldc 39, 0, 2147483647, 0), (54, .getfield 22, 1, 20, 0)] : List (Nat × mj_E)), mj_okW mj_Tw mj_Mm mj_m252 x.1 x.2 :=
  (mj_ac (mj_e_gf "java/lang/AbstractStringBuilder" (rfl : mj_cls[20]? = some mj_K20) (by decide) mj_u20 (Or.inl (mj_w7 85 rfl rfl)) (Or.inl rfl))
   (mj_ac (mj_e_gf "java/lang/AbstractStringBuilder" (rfl : mj_cls[20]? = some mj_K20) (by decide) mj_u20 (Or.inl (mj_w7 86 rfl rfl)) (Or.inl rfl))
   (mj_ac (mj_e_gf "java/lang/AbstractStringBuilder" (rfl : mj_cls[20]? = some mj_K20) (by decide) mj_u20 (Or.inl (mj_w7 86 rfl rfl)) (Or.inl rfl))
   (mj_ac (mj_e_st mj_M253 mj_nm253 mj_np253 (mj_w7 118 rfl rfl) (mj_w1 24 rfl rfl) mj_cd253 (mj_w7 117 rfl rfl))
   (mj_ac (mj_e_l0 (mj_w7 125 rfl rfl))
   (mj_ac (mj_e_gf "java/lang/AbstractStringBuilder" (rfl : mj_cls[20]? = some mj_K20) (by decide) mj_u20 (Or.inl (mj_w7 86 rfl rfl)) (Or.inl rfl))
   mj_an))))))
theorem mj_ok252 : mj_okRow mj_Tw mj_Mm mj_r252 := ⟨by decide +kernel, by decide +kernel, (mj_w1 21 rfl rfl), by decide, Or.inl ⟨mj_cd252, rfl, rfl⟩, mj_wlE (by decide +kernel) mj_wl252⟩
theorem mj_wl253 : ∀ x ∈ ([(3, .invokestatic 194, 9004, 2, 0), (14, .ldc 200, 0, 2147483639, 0), (23, .invokestatic 201, 254, 2, 0)] : List (Nat × mj_E)), mj_okW mj_Tw mj_Mm mj_m253 x.1 x.2 :=
  (mj_ac (mj_e_mx (mj_w7 120 rfl rfl) (mj_w2 202 rfl rfl) (mj_w1 25 rfl rfl) (mj_w2 203 rfl rfl))
   (mj_ac (mj_e_l0 (mj_w7 121 rfl rfl))
   (mj_ac (mj_e_st mj_M254 mj_nm254 mj_np254 (mj_w7 123 rfl rfl) (mj_w1 24 rfl rfl) mj_cd254 (mj_w7 122 rfl rfl))
   mj_an)))
theorem mj_ok253 : mj_okRow mj_Tw mj_Mm mj_r253 := ⟨by decide +kernel, by decide +kernel, (mj_w1 24 rfl rfl), by decide, Or.inl ⟨mj_cd253, rfl, rfl⟩, mj_wlE (by decide +kernel) mj_wl253⟩
theorem mj_wl254 : ∀ x ∈ ([(50, .ldc 200, 0, 2147483639, 0), (55, .ldc 200, 0, 2147483639, 0)] : List (Nat × mj_E)), mj_okW mj_Tw mj_Mm mj_m254 x.1 x.2 :=
  (mj_ac (mj_e_l0 (mj_w7 121 rfl rfl))
   (mj_ac (mj_e_l0 (mj_w7 121 rfl rfl))
   mj_an))
theorem mj_ok254 : mj_okRow mj_Tw mj_Mm mj_r254 := ⟨by decide +kernel, by decide +kernel, (mj_w1 24 rfl rfl), by decide, Or.inl ⟨mj_cd254, rfl, rfl⟩, mj_wlE (by decide +kernel) mj_wl254⟩
theorem mj_wl255 : ∀ x ∈ ([(7, .invokevirtual 310, 9002, 1, 0), (10, .checkcast 311, 1, 1, 0), (15, .newarray .byte, 1, 0, 0), (25, .invokestatic 304, 9005, 2, 0), (28, .invokestatic 150, 9000, 5, 0)] : List (Nat × mj_E)), mj_okW mj_Tw mj_Mm mj_m255 x.1 x.2 :=
  (mj_ac (mj_e_cl (mj_w7 129 rfl rfl) (mj_w7 130 rfl rfl) (mj_w7 131 rfl rfl) (mj_w7 132 rfl rfl) (mj_w7 133 rfl rfl) (mj_w7 134 rfl rfl))
   (mj_ac (mj_e_cc1 (ty := .byte) rfl (by decide) (mj_cast (by decide +kernel) (mj_w7 135 rfl rfl)))
   (mj_ac (mj_e_na rfl (by decide) (mj_w4 110 rfl rfl))
   (mj_ac (mj_e_mi (mj_w7 136 rfl rfl) (mj_w2 176 rfl rfl) (mj_w1 25 rfl rfl) (mj_w2 177 rfl rfl))
   (mj_ac (mj_e_ac (mj_w7 137 rfl rfl) (mj_w5 223 rfl rfl) (mj_w5 222 rfl rfl) (mj_w1 27 rfl rfl))
   mj_an)))))
theorem mj_ok255 : mj_okRow mj_Tw mj_Mm mj_r255 := ⟨by decide +kernel, by decide +kernel, (mj_w1 26 rfl rfl), by decide, Or.inl ⟨mj_cd255, rfl, rfl⟩, mj_wlE (by decide +kernel) mj_wl255⟩
theorem mj_wl256 : ∀ x ∈ ([(0, .getstatic 18, 1, 0, 0), (7, .getfield 22, 1, 20, 0)] : List (Nat × mj_E)), mj_okW mj_Tw mj_Mm mj_m256 x.1 x.2 :=
  (mj_ac (mj_e_gs rfl (mj_w7 77 rfl rfl))
   (mj_ac (mj_e_gf "java/lang/AbstractStringBuilder" (rfl : mj_cls[20]? = some mj_K20) (by decide) mj_u20 (Or.inl (mj_w7 86 rfl rfl)) (Or.inl rfl))
   mj_an))
theorem mj_ok256 : mj_okRow mj_Tw mj_Mm mj_r256 := ⟨by decide +kernel, by decide +kernel, (mj_w1 21 rfl rfl), by decide, Or.inl ⟨mj_cd256, rfl, rfl⟩, mj_wlE (by decide +kernel) mj_wl256⟩
theorem mj_wl257 : ∀ x ∈ ([(9, .invokestatic 96, 258, 3, 0), (18, .invokestatic 111, 262, 3, 0), (27, .invokestatic 111, 262, 3, 0), (37, .invokestatic 111, 262, 3, 0), (47, .invokestatic 111, 262, 3, 0), (50, .getstatic 44, 2, 0, 0)] : List (Nat × mj_E)), mj_okW mj_Tw mj_Mm mj_m257 x.1 x.2 :=
  (mj_ac (mj_e_st mj_M258 mj_nm258 mj_np258 (mj_w7 147 rfl rfl) (mj_w1 23 rfl rfl) mj_cd258 (mj_w7 146 rfl rfl))
   (mj_ac (mj_e_st mj_M262 mj_nm262 mj_np262 (mj_w7 161 rfl rfl) (mj_w1 23 rfl rfl) mj_cd262 (mj_w7 160 rfl rfl))
   (mj_ac (mj_e_st mj_M262 mj_nm262 mj_np262 (mj_w7 161 rfl rfl) (mj_w1 23 rfl rfl) mj_cd262 (mj_w7 160 rfl rfl))
   (mj_ac (mj_e_st mj_M262 mj_nm262 mj_np262 (mj_w7 161 rfl rfl) (mj_w1 23 rfl rfl) mj_cd262 (mj_w7 160 rfl rfl))
   (mj_ac (mj_e_st mj_M262 mj_nm262 mj_np262 (mj_w7 161 rfl rfl) (mj_w1 23 rfl rfl) mj_cd262 (mj_w7 160 rfl rfl))
   (mj_ac (mj_e_gs rfl (mj_w7 163 rfl rfl))
   mj_an))))))
theorem mj_ok257 : mj_okRow mj_Tw mj_Mm mj_r257 := ⟨by decide +kernel, by decide +kernel, (mj_w1 23 rfl rfl), by decide, Or.inl ⟨mj_cd257, rfl, rfl⟩, mj_wlE (by decide +kernel) mj_wl257⟩
theorem mj_wl258 : ∀ x ∈ ([(3, .invokestatic 48, 259, 1, 0), (6, .invokestatic 241, 260, 3, 0)] : List (Nat × mj_E)), mj_okW mj_Tw mj_Mm mj_m258 x.1 x.2 :=
  (mj_ac (mj_e_st mj_M259 mj_nm259 mj_np259 (mj_w7 150 rfl rfl) (mj_w1 23 rfl rfl) mj_cd259 (mj_w7 149 rfl rfl))
   (mj_ac (mj_e_st mj_M260 mj_nm260 mj_np260 (mj_w7 153 rfl rfl) (mj_w1 20 rfl rfl) mj_cd260 (mj_w7 152 rfl rfl))
   mj_an))
theorem mj_ok258 : mj_okRow mj_Tw mj_Mm mj_r258 := ⟨by decide +kernel, by decide +kernel, (mj_w1 23 rfl rfl), by decide, Or.inl ⟨mj_cd258, rfl, rfl⟩, mj_wlE (by decide +kernel) mj_wl258⟩
theorem mj_wl259 : ∀ x ∈ ([] : List (Nat × mj_E)), mj_okW mj_Tw mj_Mm mj_m259 x.1 x.2 :=
  mj_an
theorem mj_ok259 : mj_okRow mj_Tw mj_Mm mj_r259 := ⟨by decide +kernel, by decide +kernel, (mj_w1 23 rfl rfl), by decide, Or.inl ⟨mj_cd259, rfl, rfl⟩, mj_wlE (by decide +kernel) mj_wl259⟩
theorem mj_wl260 : ∀ x ∈ ([(3, .getstatic 1053, 9, 0, 0), (6, .invokestatic 1062, 261, 4, 0)] : List (Nat × mj_E)), mj_okW mj_Tw mj_Mm mj_m260 x.1 x.2 :=
  (mj_ac (mj_e_gs rfl (mj_w7 155 rfl rfl))
   (mj_ac (mj_e_st mj_M261 mj_nm261 mj_np261 (mj_w7 158 rfl rfl) (mj_w1 28 rfl rfl) mj_cd261 (mj_w7 157 rfl rfl))
   mj_an))
theorem mj_ok260 : mj_okRow mj_Tw mj_Mm mj_r260 := ⟨by decide +kernel, by decide +kernel, (mj_w1 20 rfl rfl), by decide, Or.inl ⟨mj_cd260, rfl, rfl⟩, mj_wlE (by decide +kernel) mj_wl260⟩
theorem mj_wl261 : ∀ x ∈ ([] : List (Nat × mj_E)), mj_okW mj_Tw mj_Mm mj_m261 x.1 x.2 :=
  mj_an
theorem mj_ok261 : mj_okRow mj_Tw mj_Mm mj_r261 := ⟨by decide +kernel, by decide +kernel, (mj_w1 28 rfl rfl), by decide, Or.inl ⟨mj_cd261, rfl, rfl⟩, mj_wlE (by decide +kernel) mj_wl261⟩
theorem mj_wl262 : ∀ x ∈ ([(0, .getstatic 44, 2, 0, 0), (12, .invokestatic 48, 259, 1, 0), (38, .getstatic 59, 3, 0, 0), (47, .getstatic 63, 4, 0, 0)] : List (Nat × mj_E)), mj_okW mj_Tw mj_Mm mj_m262 x.1 x.2 :=
  (mj_ac (mj_e_gs rfl (mj_w7 163 rfl rfl))
   (mj_ac (mj_e_st mj_M259 mj_nm259 mj_np259 (mj_w7 150 rfl rfl) (mj_w1 23 rfl rfl) mj_cd259 (mj_w7 149 rfl rfl))
   (mj_ac (mj_e_gs rfl (mj_w7 165 rfl rfl))
   (mj_ac (mj_e_gs rfl (mj_w7 167 rfl rfl))
   mj_an))))
theorem mj_ok262 : mj_okRow mj_Tw mj_Mm mj_r262 := ⟨by decide +kernel, by decide +kernel, (mj_w1 23 rfl rfl), by decide, Or.inl ⟨mj_cd262, rfl, rfl⟩, mj_wlE (by decide +kernel) mj_wl262⟩
theorem mj_wl263 : ∀ x ∈ ([(2, .invokevirtual 397, 264, 2, 21), (7, .getfield 15, 0, 20, 0), (12, .getfield 22, 1, 20, 0), (15, .invokevirtual 399, 271, 4, 22)] : List (Nat × mj_E)), mj_okW mj_Tw mj_Mm mj_m263 x.1 x.2 :=
  (mj_ac (mj_e_vi mj_M264 mj_nm264 mj_np264 (mj_w7 176 rfl rfl) (rfl : mj_cls[20]? = some mj_K20) (mj_wb 4 rfl rfl) (mj_w7 174 rfl rfl) mj_cd264)
   (mj_ac (mj_e_gf "java/lang/AbstractStringBuilder" (rfl : mj_cls[20]? = some mj_K20) (by decide) mj_u20 (Or.inl (mj_w7 85 rfl rfl)) (Or.inl rfl))
   (mj_ac (mj_e_gf "java/lang/AbstractStringBuilder" (rfl : mj_cls[20]? = some mj_K20) (by decide) mj_u20 (Or.inl (mj_w7 86 rfl rfl)) (Or.inl rfl))
   (mj_ac (mj_e_vi mj_M271 mj_nm271 mj_np271 (mj_w7 199 rfl rfl) (rfl : mj_cls[21]? = some mj_K21) (mj_w7 200 rfl rfl) (mj_w7 198 rfl rfl) mj_cd271)
   mj_an))))
theorem mj_ok263 : mj_okRow mj_Tw mj_Mm mj_r263 := ⟨by decide +kernel, by decide +kernel, (mj_w1 21 rfl rfl), by decide, Or.inl ⟨mj_cd263, rfl, rfl⟩, mj_wlE (by decide +kernel) mj_wl263⟩
theorem mj_wl264 : ∀ x ∈ ([(0, .getstatic 18, 1, 0, 0), (7, .getfield 22, 1, 20, 0), (11, .invokevirtual 40, 242, 1, 22), (18, .invokevirtual 195, 265, 1, 21)] : List (Nat × mj_E)), mj_okW mj_Tw mj_Mm mj_m264 x.1 x.2 :=
  (mj_ac (mj_e_gs rfl (mj_w7 77 rfl rfl))
   (mj_ac (mj_e_gf "java/lang/AbstractStringBuilder" (rfl : mj_cls[20]? = some mj_K20) (by decide) mj_u20 (Or.inl (mj_w7 86 rfl rfl)) (Or.inl rfl))
   (mj_ac (mj_e_vi mj_M242 mj_nm242 mj_np242 (mj_w7 59 rfl rfl) (rfl : mj_cls[21]? = some mj_K21) (mj_w7 60 rfl rfl) (mj_w7 178 rfl rfl) mj_cd242)
   (mj_ac (mj_e_vi mj_M265 mj_nm265 mj_np265 (mj_w7 181 rfl rfl) (rfl : mj_cls[20]? = some mj_K20) (mj_wb 5 rfl rfl) (mj_w7 179 rfl rfl) mj_cd265)
   mj_an))))
theorem mj_ok264 : mj_okRow mj_Tw mj_Mm mj_r264 := ⟨by decide +kernel, by decide +kernel, (mj_w1 21 rfl rfl), by decide, Or.inl ⟨mj_cd264, rfl, rfl⟩, mj_wlE (by decide +kernel) mj_wl264⟩
theorem mj_wl265 : ∀ x ∈ ([(1, .invokevirtual 83, 256, 1, 21), (9, .getfield 15, 0, 20, 0), (13, .invokestatic 26, 246, 1, 0), (18, .getfield 15, 0, 20, 0), (25, .getfield 79, 3, 20, 0), (28, .invokestatic 125, 266, 5, 0), (33, .putfield 15, 0, 20, 0), (38, .putfield 22, 1, 20, 0)] : List (Nat × mj_E)), mj_okW mj_Tw mj_Mm mj_m265 x.1 x.2 :=
  (mj_ac (mj_e_vi mj_M256 mj_nm256 mj_np256 (mj_w7 139 rfl rfl) (rfl : mj_cls[20]? = some mj_K20) (mj_w7 141 rfl rfl) (mj_w7 138 rfl rfl) mj_cd256)
   (mj_ac (mj_e_gf "java/lang/AbstractStringBuilder" (rfl : mj_cls[20]? = some mj_K20) (by decide) mj_u20 (Or.inl (mj_w7 85 rfl rfl)) (Or.inl rfl))
   (mj_ac (mj_e_st mj_M246 mj_nm246 mj_np246 (mj_w7 79 rfl rfl) (mj_w1 23 rfl rfl) mj_cd246 (mj_w7 78 rfl rfl))
   (mj_ac (mj_e_gf "java/lang/AbstractStringBuilder" (rfl : mj_cls[20]? = some mj_K20) (by decide) mj_u20 (Or.inl (mj_w7 85 rfl rfl)) (Or.inl rfl))
   (mj_ac (mj_e_gf "java/lang/AbstractStringBuilder" (rfl : mj_cls[20]? = some mj_K20) (by decide) mj_u20 (Or.inl (mj_w7 88 rfl rfl)) (Or.inl rfl))
   (mj_ac (mj_e_st mj_M266 mj_nm266 mj_np266 (mj_w7 184 rfl rfl) (mj_w1 29 rfl rfl) mj_cd266 (mj_w7 183 rfl rfl))
   (mj_ac (mj_e_pf "java/lang/AbstractStringBuilder" (rfl : mj_cls[20]? = some mj_K20) (by decide) mj_u20 (Or.inl (mj_w7 85 rfl rfl)) (Or.inl rfl) mj_pd20 mj_ds20 (Or.inl rfl))
   (mj_ac (mj_e_pf "java/lang/AbstractStringBuilder" (rfl : mj_cls[20]? = some mj_K20) (by decide) mj_u20 (Or.inl (mj_w7 86 rfl rfl)) (Or.inl rfl) mj_pd20 mj_ds20 (Or.inl rfl))
   mj_an))))))))
theorem mj_ok265 : mj_okRow mj_Tw mj_Mm mj_r265 := ⟨by decide +kernel, by decide +kernel, (mj_w1 21 rfl rfl), by decide, Or.inl ⟨mj_cd265, rfl, rfl⟩, mj_wlE (by decide +kernel) mj_wl265⟩
theorem mj_wl266 : ∀ x ∈ ([(6, .invokestatic 240, 267, 5, 0)] : List (Nat × mj_E)), mj_okW mj_Tw mj_Mm mj_m266 x.1 x.2 :=
  (mj_ac (mj_e_st mj_M267 mj_nm267 mj_np267 (mj_w7 187 rfl rfl) (mj_w1 23 rfl rfl) mj_cd267 (mj_w7 186 rfl rfl))
   mj_an)
theorem mj_ok266 : mj_okRow mj_Tw mj_Mm mj_r266 := ⟨by decide +kernel, by decide +kernel, (mj_w1 29 rfl rfl), by decide, Or.inl ⟨mj_cd266, rfl, rfl⟩, mj_wlE (by decide +kernel) mj_wl266⟩
theorem mj_wl267 : ∀ x ∈ ([(4, .invokestatic 173, 268, 3, 0), (32, .invokestatic 111, 262, 3, 0)] : List (Nat × mj_E)), mj_okW mj_Tw mj_Mm mj_m267 x.1 x.2 :=
  (mj_ac (mj_e_st mj_M268 mj_nm268 mj_np268 (mj_w7 190 rfl rfl) (mj_w1 23 rfl rfl) mj_cd268 (mj_w7 189 rfl rfl))
   (mj_ac (mj_e_st mj_M262 mj_nm262 mj_np262 (mj_w7 161 rfl rfl) (mj_w1 23 rfl rfl) mj_cd262 (mj_w7 160 rfl rfl))
   mj_an))
theorem mj_ok267 : mj_okRow mj_Tw mj_Mm mj_r267 := ⟨by decide +kernel, by decide +kernel, (mj_w1 23 rfl rfl), by decide, Or.inl ⟨mj_cd267, rfl, rfl⟩, mj_wlE (by decide +kernel) mj_wl267⟩
theorem mj_wl268 : ∀ x ∈ ([(3, .invokestatic 48, 259, 1, 0), (6, .invokestatic 419, 269, 3, 0)] : List (Nat × mj_E)), mj_okW mj_Tw mj_Mm mj_m268 x.1 x.2 :=
  (mj_ac (mj_e_st mj_M259 mj_nm259 mj_np259 (mj_w7 150 rfl rfl) (mj_w1 23 rfl rfl) mj_cd259 (mj_w7 149 rfl rfl))
   (mj_ac (mj_e_st mj_M269 mj_nm269 mj_np269 (mj_w7 193 rfl rfl) (mj_w1 20 rfl rfl) mj_cd269 (mj_w7 192 rfl rfl))
   mj_an))
theorem mj_ok268 : mj_okRow mj_Tw mj_Mm mj_r268 := ⟨by decide +kernel, by decide +kernel, (mj_w1 23 rfl rfl), by decide, Or.inl ⟨mj_cd268, rfl, rfl⟩, mj_wlE (by decide +kernel) mj_wl268⟩
theorem mj_wl269 : ∀ x ∈ ([(3, .getstatic 1053, 9, 0, 0), (6, .invokestatic 1065, 270, 4, 0)] : List (Nat × mj_E)), mj_okW mj_Tw mj_Mm mj_m269 x.1 x.2 :=
  (mj_ac (mj_e_gs rfl (mj_w7 155 rfl rfl))
   (mj_ac (mj_e_st mj_M270 mj_nm270 mj_np270 (mj_w7 196 rfl rfl) (mj_w1 28 rfl rfl) mj_cd270 (mj_w7 195 rfl rfl))
   mj_an))
theorem mj_ok269 : mj_okRow mj_Tw mj_Mm mj_r269 := ⟨by decide +kernel, by decide +kernel, (mj_w1 20 rfl rfl), by decide, Or.inl ⟨mj_cd269, rfl, rfl⟩, mj_wlE (by decide +kernel) mj_wl269⟩
theorem mj_wl270 : ∀ x ∈ ([] : List (Nat × mj_E)), mj_okW mj_Tw mj_Mm mj_m270 x.1 x.2 :=
  mj_an
theorem mj_ok270 : mj_okRow mj_Tw mj_Mm mj_r270 := ⟨by decide +kernel, by decide +kernel, (mj_w1 28 rfl rfl), by decide, Or.inl ⟨mj_cd270, rfl, rfl⟩, mj_wlE (by decide +kernel) mj_wl270⟩
theorem mj_wl271 : ∀ x ∈ ([(1, .invokevirtual 335, 242, 1, 22), (9, .getfield 9, 0, 21, 0), (18, .getfield 9, 0, 21, 0), (22, .invokestatic 212, 9000, 5, 0), (29, .getfield 9, 0, 21, 0), (36, .getfield 9, 0, 21, 0), (40, .invokestatic 106, 266, 5, 0)] : List (Nat × mj_E)), mj_okW mj_Tw mj_Mm mj_m271 x.1 x.2 :=
  (mj_ac (mj_e_vi mj_M242 mj_nm242 mj_np242 (mj_w7 59 rfl rfl) (rfl : mj_cls[21]? = some mj_K21) (mj_w7 60 rfl rfl) (mj_w7 58 rfl rfl) mj_cd242)
   (mj_ac (mj_e_gf "java/lang/String" (rfl : mj_cls[21]? = some mj_K21) (by decide) mj_u21 (Or.inl (mj_w8 67 rfl rfl)) (Or.inl rfl))
   (mj_ac (mj_e_gf "java/lang/String" (rfl : mj_cls[21]? = some mj_K21) (by decide) mj_u21 (Or.inl (mj_w8 67 rfl rfl)) (Or.inl rfl))
   (mj_ac (mj_e_ac (mj_w7 202 rfl rfl) (mj_w5 223 rfl rfl) (mj_w5 222 rfl rfl) (mj_w1 27 rfl rfl))
   (mj_ac (mj_e_gf "java/lang/String" (rfl : mj_cls[21]? = some mj_K21) (by decide) mj_u21 (Or.inl (mj_w8 67 rfl rfl)) (Or.inl rfl))
   (mj_ac (mj_e_gf "java/lang/String" (rfl : mj_cls[21]? = some mj_K21) (by decide) mj_u21 (Or.inl (mj_w8 67 rfl rfl)) (Or.inl rfl))
   (mj_ac (mj_e_st mj_M266 mj_nm266 mj_np266 (mj_w7 184 rfl rfl) (mj_w1 29 rfl rfl) mj_cd266 (mj_w7 203 rfl rfl))
   mj_an)))))))
theorem mj_ok271 : mj_okRow mj_Tw mj_Mm mj_r271 := ⟨by decide +kernel, by decide +kernel, (mj_w1 20 rfl rfl), by decide, Or.inl ⟨mj_cd271, rfl, rfl⟩, mj_wlE (by decide +kernel) mj_wl271⟩
theorem mj_wl272 : ∀ x ∈ ([(2, .invokespecial 50, 273, 2, 21)] : List (Nat × mj_E)), mj_okW mj_Tw mj_Mm mj_m272 x.1 x.2 :=
  (mj_ac (mj_e_su mj_M273 mj_nm273 mj_np273 (mj_w7 209 rfl rfl) mj_cd273 (by decide) (mj_w7 208 rfl rfl) (mj_w12 135 rfl rfl) (mj_w7 97 rfl rfl))
   mj_an)
theorem mj_ok272 : mj_okRow mj_Tw mj_Mm mj_r272 := ⟨by decide +kernel, by decide +kernel, (mj_w1 22 rfl rfl), by decide, Or.inl ⟨mj_cd272, rfl, rfl⟩, mj_wlE (by decide +kernel) mj_wl272⟩
theorem mj_wl273 : ∀ x ∈ ([(2, .getfield 79, 3, 20, 0), (7, .invokevirtual 100, 251, 2, 21), (11, .invokevirtual 83, 256, 1, 21), (18, .invokestatic 191, 274, 1, 0), (25, .getfield 15, 0, 20, 0), (30, .getfield 79, 3, 20, 0), (36, .putfield 79, 3, 20, 0), (46, .invokevirtual 83, 256, 1, 21), (53, .invokevirtual 195, 265, 1, 21), (57, .getfield 15, 0, 20, 0), (62, .getfield 79, 3, 20, 0), (68, .putfield 79, 3, 20, 0), (72, .invokestatic 197, 275, 3, 0)] : List (Nat × mj_E)), mj_okW mj_Tw mj_Mm mj_m273 x.1 x.2 :=
  (mj_ac (mj_e_gf "java/lang/AbstractStringBuilder" (rfl : mj_cls[20]? = some mj_K20) (by decide) mj_u20 (Or.inl (mj_w7 88 rfl rfl)) (Or.inl rfl))
   (mj_ac (mj_e_vi mj_M251 mj_nm251 mj_np251 (mj_w7 111 rfl rfl) (rfl : mj_cls[20]? = some mj_K20) (mj_wb 1 rfl rfl) (mj_w7 109 rfl rfl) mj_cd251)
   (mj_ac (mj_e_vi mj_M256 mj_nm256 mj_np256 (mj_w7 139 rfl rfl) (rfl : mj_cls[20]? = some mj_K20) (mj_w7 141 rfl rfl) (mj_w7 138 rfl rfl) mj_cd256)
   (mj_ac (mj_e_st mj_M274 mj_nm274 mj_np274 (mj_w7 212 rfl rfl) (mj_w1 29 rfl rfl) mj_cd274 (mj_w7 211 rfl rfl))
   (mj_ac (mj_e_gf "java/lang/AbstractStringBuilder" (rfl : mj_cls[20]? = some mj_K20) (by decide) mj_u20 (Or.inl (mj_w7 85 rfl rfl)) (Or.inl rfl))
   (mj_ac (mj_e_gf "java/lang/AbstractStringBuilder" (rfl : mj_cls[20]? = some mj_K20) (by decide) mj_u20 (Or.inl (mj_w7 88 rfl rfl)) (Or.inl rfl))
   (mj_ac (mj_e_pf "java/lang/AbstractStringBuilder" (rfl : mj_cls[20]? = some mj_K20) (by decide) mj_u20 (Or.inl (mj_w7 88 rfl rfl)) (Or.inl rfl) mj_pd20 mj_ds20 (Or.inl rfl))
   (mj_ac (mj_e_vi mj_M256 mj_nm256 mj_np256 (mj_w7 139 rfl rfl) (rfl : mj_cls[20]? = some mj_K20) (mj_w7 141 rfl rfl) (mj_w7 138 rfl rfl) mj_cd256)
   (mj_ac (mj_e_vi mj_M265 mj_nm265 mj_np265 (mj_w7 181 rfl rfl) (rfl : mj_cls[20]? = some mj_K20) (mj_wb 5 rfl rfl) (mj_w7 179 rfl rfl) mj_cd265)
   (mj_ac (mj_e_gf "java/lang/AbstractStringBuilder" (rfl : mj_cls[20]? = some mj_K20) (by decide) mj_u20 (Or.inl (mj_w7 85 rfl rfl)) (Or.inl rfl))
   (mj_ac (mj_e_gf "java/lang/AbstractStringBuilder" (rfl : mj_cls[20]? = some mj_K20) (by decide) mj_u20 (Or.inl (mj_w7 88 rfl rfl)) (Or.inl rfl))
   (mj_ac (mj_e_pf "java/lang/AbstractStringBuilder" (rfl : mj_cls[20]? = some mj_K20) (by decide) mj_u20 (Or.inl (mj_w7 88 rfl rfl)) (Or.inl rfl) mj_pd20 mj_ds20 (Or.inl rfl))
   (mj_ac (mj_e_st mj_M275 mj_nm275 mj_np275 (mj_w7 215 rfl rfl) (mj_w1 23 rfl rfl) mj_cd275 (mj_w7 214 rfl rfl))
   mj_an)))))))))))))
theorem mj_ok273 : mj_okRow mj_Tw mj_Mm mj_r273 := ⟨by decide +kernel, by decide +kernel, (mj_w1 21 rfl rfl), by decide, Or.inl ⟨mj_cd273, rfl, rfl⟩, mj_wlE (by decide +kernel) mj_wl273⟩
theorem mj_wl274 : ∀ x ∈ ([] : List (Nat × mj_E)), mj_okW mj_Tw mj_Mm mj_m274 x.1 x.2 :=
  mj_an
theorem mj_ok274 : mj_okRow mj_Tw mj_Mm mj_r274 := ⟨by decide +kernel, by decide +kernel, (mj_w1 29 rfl rfl), by decide, Or.inl ⟨mj_cd274, rfl, rfl⟩, mj_wlE (by decide +kernel) mj_wl274⟩
theorem mj_wl275 : ∀ x ∈ ([(2, .invokestatic 67, 276, 2, 0), (8, .invokestatic 111, 262, 3, 0)] : List (Nat × mj_E)), mj_okW mj_Tw mj_Mm mj_m275 x.1 x.2 :=
  (mj_ac (mj_e_st mj_M276 mj_nm276 mj_np276 (mj_w7 218 rfl rfl) (mj_w1 23 rfl rfl) mj_cd276 (mj_w7 217 rfl rfl))
   (mj_ac (mj_e_st mj_M262 mj_nm262 mj_np262 (mj_w7 161 rfl rfl) (mj_w1 23 rfl rfl) mj_cd262 (mj_w7 160 rfl rfl))
   mj_an))
theorem mj_ok275 : mj_okRow mj_Tw mj_Mm mj_r275 := ⟨by decide +kernel, by decide +kernel, (mj_w1 23 rfl rfl), by decide, Or.inl ⟨mj_cd275, rfl, rfl⟩, mj_wlE (by decide +kernel) mj_wl275⟩
theorem mj_wl276 : ∀ x ∈ ([(2, .invokestatic 48, 259, 1, 0), (5, .invokestatic 414, 277, 2, 0)] : List (Nat × mj_E)), mj_okW mj_Tw mj_Mm mj_m276 x.1 x.2 :=
  (mj_ac (mj_e_st mj_M259 mj_nm259 mj_np259 (mj_w7 150 rfl rfl) (mj_w1 23 rfl rfl) mj_cd259 (mj_w7 149 rfl rfl))
   (mj_ac (mj_e_st mj_M277 mj_nm277 mj_np277 (mj_w7 221 rfl rfl) (mj_w1 20 rfl rfl) mj_cd277 (mj_w7 220 rfl rfl))
   mj_an))
theorem mj_ok276 : mj_okRow mj_Tw mj_Mm mj_r276 := ⟨by decide +kernel, by decide +kernel, (mj_w1 23 rfl rfl), by decide, Or.inl ⟨mj_cd276, rfl, rfl⟩, mj_wlE (by decide +kernel) mj_wl276⟩
theorem mj_wl277 : ∀ x ∈ ([(2, .getstatic 1053, 9, 0, 0), (5, .invokestatic 1059, 278, 3, 0)] : List (Nat × mj_E)), mj_okW mj_Tw mj_Mm mj_m277 x.1 x.2 :=
  (mj_ac (mj_e_gs rfl (mj_w7 155 rfl rfl))
   (mj_ac (mj_e_st mj_M278 mj_nm278 mj_np278 (mj_w7 224 rfl rfl) (mj_w1 28 rfl rfl) mj_cd278 (mj_w7 223 rfl rfl))
   mj_an))
theorem mj_ok277 : mj_okRow mj_Tw mj_Mm mj_r277 := ⟨by decide +kernel, by decide +kernel, (mj_w1 20 rfl rfl), by decide, Or.inl ⟨mj_cd277, rfl, rfl⟩, mj_wlE (by decide +kernel) mj_wl277⟩
theorem mj_wl278 : ∀ x ∈ ([] : List (Nat × mj_E)), mj_okW mj_Tw mj_Mm mj_m278 x.1 x.2 :=
  mj_an
theorem mj_ok278 : mj_okRow mj_Tw mj_Mm mj_r278 := ⟨by decide +kernel, by decide +kernel, (mj_w1 28 rfl rfl), by decide, Or.inl ⟨mj_cd278, rfl, rfl⟩, mj_wlE (by decide +kernel) mj_wl278⟩
theorem mj_wl279 : ∀ x ∈ ([(0, .new 18, 21, 0, 0), (5, .invokespecial 137, 280, 2, 22)] : List (Nat × mj_E)), mj_okW mj_Tw mj_Mm mj_m279 x.1 x.2 :=
  (mj_ac (mj_e_new mj_nw21 (mj_w7 230 rfl rfl))
   (mj_ac (mj_e_in mj_M280 mj_nm280 mj_np280 (mj_w7 233 rfl rfl) mj_cd280 rfl rfl (mj_w7 232 rfl rfl))
   mj_an))
theorem mj_ok279 : mj_okRow mj_Tw mj_Mm mj_r279 := ⟨by decide +kernel, by decide +kernel, (mj_w1 22 rfl rfl), by decide, Or.inl ⟨mj_cd279, rfl, rfl⟩, mj_wlE (by decide +kernel) mj_wl279⟩
theorem mj_wl280 : ∀ x ∈ ([(3, .invokespecial 489, 281, 3, 22)] : List (Nat × mj_E)), mj_okW mj_Tw mj_Mm mj_m280 x.1 x.2 :=
  (mj_ac (mj_e_in mj_M281 mj_nm281 mj_np281 (mj_w7 236 rfl rfl) mj_cd281 rfl rfl (mj_w7 235 rfl rfl))
   mj_an)
theorem mj_ok280 : mj_okRow mj_Tw mj_Mm mj_r280 := ⟨by decide +kernel, by decide +kernel, (mj_w1 20 rfl rfl), by decide, Or.inl ⟨mj_cd280, rfl, rfl⟩, mj_wlE (by decide +kernel) mj_wl280⟩
theorem mj_wl281 : ∀ x ∈ ([(1, .invokespecial 1, 9003, 1, 0), (5, .invokevirtual 552, 282, 1, 21), (10, .invokevirtual 549, 283, 1, 21), (16, .invokevirtual 1047, 256, 1, 21), (24, .putfield 15, 1, 21, 0), (32, .invokestatic 54, 285, 3, 0), (35, .putfield 9, 0, 21, 0), (41, .getstatic 38, 1, 0, 0), (48, .getfield 1048, 2, 20, 0), (59, .invokestatic 1051, 294, 3, 0), (62, .putfield 9, 0, 21, 0), (67, .getfield 9, 0, 21, 0), (72, .invokestatic 47, 297, 2, 0), (75, .putfield 15, 1, 21, 0), (81, .putfield 15, 1, 21, 0), (91, .invokestatic 54, 285, 3, 0), (94, .putfield 9, 0, 21, 0)] : List (Nat × mj_E)), mj_okW mj_Tw mj_Mm mj_m281 x.1 x.2 :=
  (mj_ac (mj_e_ob (mj_w7 238 rfl rfl) (mj_w1 54 rfl rfl) (mj_w1 55 rfl rfl))
   (mj_ac (mj_e_vi mj_M282 mj_nm282 mj_np282 (mj_w8 0 rfl rfl) (rfl : mj_cls[20]? = some mj_K20) (mj_w8 2 rfl rfl) (mj_w7 239 rfl rfl) mj_cd282)
   (mj_ac (mj_e_vu mj_M283 mj_nm283 mj_cd283 (mj_w8 8 rfl rfl) (rfl : mj_cls[20]? = some mj_K20) (x0 := ⟨"java/lang/AbstractStringBuilder", "length", "()I"⟩) (owner := "java/lang/AbstractStringBuilder") (u := mj_m284) (by unfold mj_np; decide +kernel) (by decide +kernel) (mj_w8 4 rfl rfl) (mj_w8 6 rfl rfl) (mj_w8 5 rfl rfl) mj_cd284 rfl (mj_w8 7 rfl rfl))
   (mj_ac (mj_e_vi mj_M256 mj_nm256 mj_np256 (mj_w7 139 rfl rfl) (rfl : mj_cls[20]? = some mj_K20) (mj_w7 141 rfl rfl) (mj_w8 12 rfl rfl) mj_cd256)
   (mj_ac (mj_e_pf "java/lang/String" (rfl : mj_cls[21]? = some mj_K21) (by decide) mj_u21 (Or.inl (mj_w8 68 rfl rfl)) (Or.inl rfl) mj_pd21 mj_ds21 (Or.inr ⟨rfl, rfl, rfl, (mj_w8 68 rfl rfl)⟩))
   (mj_ac (mj_e_st mj_M285 mj_nm285 mj_np285 (mj_w8 14 rfl rfl) (mj_w1 26 rfl rfl) mj_cd285 (mj_w8 13 rfl rfl))
   (mj_ac (mj_e_pf "java/lang/String" (rfl : mj_cls[21]? = some mj_K21) (by decide) mj_u21 (Or.inl (mj_w8 67 rfl rfl)) (Or.inl rfl) mj_pd21 mj_ds21 (Or.inr ⟨rfl, rfl, rfl, (mj_w8 67 rfl rfl)⟩))
   (mj_ac (mj_e_gs rfl (mj_w7 62 rfl rfl))
   (mj_ac (mj_e_gf "java/lang/AbstractStringBuilder" (rfl : mj_cls[20]? = some mj_K20) (by decide) mj_u20 (Or.inl (mj_w7 87 rfl rfl)) (Or.inl rfl))
   (mj_ac (mj_e_st mj_M294 mj_nm294 mj_np294 (mj_w8 55 rfl rfl) (mj_w1 23 rfl rfl) mj_cd294 (mj_w8 54 rfl rfl))
   (mj_ac (mj_e_pf "java/lang/String" (rfl : mj_cls[21]? = some mj_K21) (by decide) mj_u21 (Or.inl (mj_w8 67 rfl rfl)) (Or.inl rfl) mj_pd21 mj_ds21 (Or.inr ⟨rfl, rfl, rfl, (mj_w8 67 rfl rfl)⟩))
   (mj_ac (mj_e_gf "java/lang/String" (rfl : mj_cls[21]? = some mj_K21) (by decide) mj_u21 (Or.inl (mj_w8 67 rfl rfl)) (Or.inl rfl))
   (mj_ac (mj_e_st mj_M297 mj_nm297 mj_np297 (mj_w8 65 rfl rfl) (mj_w1 23 rfl rfl) mj_cd297 (mj_w8 64 rfl rfl))
   (mj_ac (mj_e_pf "java/lang/String" (rfl : mj_cls[21]? = some mj_K21) (by decide) mj_u21 (Or.inl (mj_w8 68 rfl rfl)) (Or.inl rfl) mj_pd21 mj_ds21 (Or.inr ⟨rfl, rfl, rfl, (mj_w8 68 rfl rfl)⟩))
   (mj_ac (mj_e_pf "java/lang/String" (rfl : mj_cls[21]? = some mj_K21) (by decide) mj_u21 (Or.inl (mj_w8 68 rfl rfl)) (Or.inl rfl) mj_pd21 mj_ds21 (Or.inr ⟨rfl, rfl, rfl, (mj_w8 68 rfl rfl)⟩))
   (mj_ac (mj_e_st mj_M285 mj_nm285 mj_np285 (mj_w8 14 rfl rfl) (mj_w1 26 rfl rfl) mj_cd285 (mj_w8 13 rfl rfl))
   (mj_ac (mj_e_pf "java/lang/String" (rfl : mj_cls[21]? = some mj_K21) (by decide) mj_u21 (Or.inl (mj_w8 67 rfl rfl)) (Or.inl rfl) mj_pd21 mj_ds21 (Or.inr ⟨rfl, rfl, rfl, (mj_w8 67 rfl rfl)⟩))
   mj_an)))))))))))))))))
theorem mj_ok281 : mj_okRow mj_Tw mj_Mm mj_r281 := ⟨by decide +kernel, by decide +kernel, (mj_w1 20 rfl rfl), by decide, Or.inl ⟨mj_cd281, rfl, rfl⟩, mj_wlE (by decide +kernel) mj_wl281⟩
theorem mj_wl282 : ∀ x ∈ ([(1, .getfield 15, 0, 20, 0)] : List (Nat × mj_E)), mj_okW mj_Tw mj_Mm mj_m282 x.1 x.2 :=
  (mj_ac (mj_e_gf "java/lang/AbstractStringBuilder" (rfl : mj_cls[20]? = some mj_K20) (by decide) mj_u20 (Or.inl (mj_w7 85 rfl rfl)) (Or.inl rfl))
   mj_an)
theorem mj_ok282 : mj_okRow mj_Tw mj_Mm mj_r282 := ⟨by decide +kernel, by decide +kernel, (mj_w1 21 rfl rfl), by decide, Or.inl ⟨mj_cd282, rfl, rfl⟩, mj_wlE (by decide +kernel) mj_wl282⟩
theorem mj_wl283 : ∀ x ∈ ([(1, .invokespecial 343, 284, 1, 21)] : List (Nat × mj_E)), mj_okW mj_Tw mj_Mm mj_m283 x.1 x.2 :=
  (mj_ac (mj_e_su mj_M284 mj_nm284 mj_np284 (mj_w8 5 rfl rfl) mj_cd284 (by decide) (mj_w8 10 rfl rfl) (mj_w8 6 rfl rfl) (mj_w7 97 rfl rfl))
   mj_an)
theorem mj_ok283 : mj_okRow mj_Tw mj_Mm mj_r283 := ⟨by decide +kernel, by decide +kernel, (mj_w1 22 rfl rfl), by decide, Or.inl ⟨mj_cd283, rfl, rfl⟩, mj_wlE (by decide +kernel) mj_wl283⟩
theorem mj_wl284 : ∀ x ∈ ([(1, .getfield 79, 3, 20, 0)] : List (Nat × mj_E)), mj_okW mj_Tw mj_Mm mj_m284 x.1 x.2 :=
  (mj_ac (mj_e_gf "java/lang/AbstractStringBuilder" (rfl : mj_cls[20]? = some mj_K20) (by decide) mj_u20 (Or.inl (mj_w7 88 rfl rfl)) (Or.inl rfl))
   mj_an)
theorem mj_ok284 : mj_okRow mj_Tw mj_Mm mj_r284 := ⟨by decide +kernel, by decide +kernel, (mj_w1 21 rfl rfl), by decide, Or.inl ⟨mj_cd284, rfl, rfl⟩, mj_wlE (by decide +kernel) mj_wl284⟩
theorem mj_wl285 : ∀ x ∈ ([(13, .invokestatic 339, 286, 3, 0), (18, .invokevirtual 310, 9002, 1, 0), (21, .checkcast 311, 1, 1, 0)] : List (Nat × mj_E)), mj_okW mj_Tw mj_Mm mj_m285 x.1 x.2 :=
  (mj_ac (mj_e_st mj_M286 mj_nm286 mj_np286 (mj_w8 17 rfl rfl) (mj_w1 26 rfl rfl) mj_cd286 (mj_w8 16 rfl rfl))
   (mj_ac (mj_e_cl (mj_w7 129 rfl rfl) (mj_w7 130 rfl rfl) (mj_w7 131 rfl rfl) (mj_w7 132 rfl rfl) (mj_w7 133 rfl rfl) (mj_w7 134 rfl rfl))
   (mj_ac (mj_e_cc1 (ty := .byte) rfl (by decide) (mj_cast (by decide +kernel) (mj_w7 135 rfl rfl)))
   mj_an)))
theorem mj_ok285 : mj_okRow mj_Tw mj_Mm mj_r285 := ⟨by decide +kernel, by decide +kernel, (mj_w1 26 rfl rfl), by decide, Or.inl ⟨mj_cd285, rfl, rfl⟩, mj_wlE (by decide +kernel) mj_wl285⟩
theorem mj_wl286 : ∀ x ∈ ([(2, .invokestatic 343, 287, 2, 0), (10, .newarray .byte, 1, 0, 0), (24, .invokestatic 304, 9005, 2, 0), (27, .invokestatic 150, 9000, 5, 0)] : List (Nat × mj_E)), mj_okW mj_Tw mj_Mm mj_m286 x.1 x.2 :=
  (mj_ac (mj_e_st mj_M287 mj_nm287 mj_np287 (mj_w8 20 rfl rfl) (mj_w1 26 rfl rfl) mj_cd287 (mj_w8 19 rfl rfl))
   (mj_ac (mj_e_na rfl (by decide) (mj_w4 110 rfl rfl))
   (mj_ac (mj_e_mi (mj_w7 136 rfl rfl) (mj_w2 176 rfl rfl) (mj_w1 25 rfl rfl) (mj_w2 177 rfl rfl))
   (mj_ac (mj_e_ac (mj_w7 137 rfl rfl) (mj_w5 223 rfl rfl) (mj_w5 222 rfl rfl) (mj_w1 27 rfl rfl))
   mj_an))))
theorem mj_ok286 : mj_okRow mj_Tw mj_Mm mj_r286 := ⟨by decide +kernel, by decide +kernel, (mj_w1 26 rfl rfl), by decide, Or.inl ⟨mj_cd286, rfl, rfl⟩, mj_wlE (by decide +kernel) mj_wl286⟩
theorem mj_wl287 : ∀ x ∈ ([(9, .new 45, 20, 0, 0), (13, .invokespecial 47, 244, 1, 21), (17, .invokevirtual 54, 288, 2, 21), (23, .invokevirtual 50, 248, 2, 21), (27, .invokevirtual 54, 288, 2, 21), (30, .invokevirtual 61, 279, 1, 21)] : List (Nat × mj_E)), mj_okW mj_Tw mj_Mm mj_m287 x.1 x.2 :=
  (mj_ac (mj_e_new mj_nw20 (mj_w8 23 rfl rfl))
   (mj_ac (mj_e_in mj_M244 mj_nm244 mj_np244 (mj_w7 71 rfl rfl) mj_cd244 rfl rfl (mj_w8 24 rfl rfl))
   (mj_ac (mj_e_vi mj_M288 mj_nm288 mj_np288 (mj_w8 26 rfl rfl) (rfl : mj_cls[20]? = some mj_K20) (mj_w8 27 rfl rfl) (mj_w8 25 rfl rfl) mj_cd288)
   (mj_ac (mj_e_vi mj_M248 mj_nm248 mj_np248 (mj_w7 99 rfl rfl) (rfl : mj_cls[20]? = some mj_K20) (mj_w7 100 rfl rfl) (mj_w8 51 rfl rfl) mj_cd248)
   (mj_ac (mj_e_vi mj_M288 mj_nm288 mj_np288 (mj_w8 26 rfl rfl) (rfl : mj_cls[20]? = some mj_K20) (mj_w8 27 rfl rfl) (mj_w8 25 rfl rfl) mj_cd288)
   (mj_ac (mj_e_vi mj_M279 mj_nm279 mj_np279 (mj_w7 227 rfl rfl) (rfl : mj_cls[20]? = some mj_K20) (mj_w7 228 rfl rfl) (mj_w8 52 rfl rfl) mj_cd279)
   mj_an))))))
theorem mj_ok287 : mj_okRow mj_Tw mj_Mm mj_r287 := ⟨by decide +kernel, by decide +kernel, (mj_w1 26 rfl rfl), by decide, Or.inl ⟨mj_cd287, rfl, rfl⟩, mj_wlE (by decide +kernel) mj_wl287⟩
