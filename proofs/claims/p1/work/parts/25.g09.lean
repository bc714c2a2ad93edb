theorem mj_wl432 : ∀ x ∈ ([(2, .getfield 48, 1, 18, 0), (18, .invokevirtual 198, 433, 2, 19)] : List (Nat × mj_E)), mj_okW mj_Tw mj_Mm mj_m432 x.1 x.2 :=
  (mj_ac (mj_e_gf "java/util/ArrayList" (rfl : mj_cls[18]? = some mj_K18) (by decide) mj_u18 (Or.inl (mj_w6 188 rfl rfl)) (Or.inl rfl))
   (mj_ac (mj_e_vi mj_M433 mj_nm433 mj_np433 (mj_w11 215 rfl rfl) (rfl : mj_cls[18]? = some mj_K18) (mj_wp 81 rfl rfl) (mj_w11 213 rfl rfl) mj_cd433)
   mj_an))
theorem mj_ok432 : mj_okRow mj_Tw mj_Mm mj_r432 := ⟨by decide +kernel, by decide +kernel, (mj_w1 14 rfl rfl), by decide, Or.inl ⟨mj_cd432, rfl, rfl⟩, mj_wlE (by decide +kernel) mj_wl432⟩
theorem mj_wl433 : ∀ x ∈ ([(0, .new 20, 20, 0, 0), (4, .invokespecial 22, 244, 1, 21), (9, .invokevirtual 25, 248, 2, 21), (13, .invokevirtual 29, 288, 2, 21), (18, .invokevirtual 25, 248, 2, 21), (22, .getfield 48, 1, 18, 0), (25, .invokevirtual 29, 288, 2, 21), (28, .invokevirtual 32, 279, 1, 21)] : List (Nat × mj_E)), mj_okW mj_Tw mj_Mm mj_m433 x.1 x.2 :=
  (mj_ac (mj_e_new mj_nw20 (mj_w11 217 rfl rfl))
   (mj_ac (mj_e_in mj_M244 mj_nm244 mj_np244 (mj_w7 71 rfl rfl) mj_cd244 rfl rfl (mj_w11 218 rfl rfl))
   (mj_ac (mj_e_vi mj_M248 mj_nm248 mj_np248 (mj_w7 99 rfl rfl) (rfl : mj_cls[20]? = some mj_K20) (mj_w7 100 rfl rfl) (mj_w11 220 rfl rfl) mj_cd248)
   (mj_ac (mj_e_vi mj_M288 mj_nm288 mj_np288 (mj_w8 26 rfl rfl) (rfl : mj_cls[20]? = some mj_K20) (mj_w8 27 rfl rfl) (mj_w11 221 rfl rfl) mj_cd288)
   (mj_ac (mj_e_vi mj_M248 mj_nm248 mj_np248 (mj_w7 99 rfl rfl) (rfl : mj_cls[20]? = some mj_K20) (mj_w7 100 rfl rfl) (mj_w11 220 rfl rfl) mj_cd248)
   (mj_ac (mj_e_gf "java/util/ArrayList" (rfl : mj_cls[18]? = some mj_K18) (by decide) mj_u18 (Or.inl (mj_w6 188 rfl rfl)) (Or.inl rfl))
   (mj_ac (mj_e_vi mj_M288 mj_nm288 mj_np288 (mj_w8 26 rfl rfl) (rfl : mj_cls[20]? = some mj_K20) (mj_w8 27 rfl rfl) (mj_w11 221 rfl rfl) mj_cd288)
   (mj_ac (mj_e_vi mj_M279 mj_nm279 mj_np279 (mj_w7 227 rfl rfl) (rfl : mj_cls[20]? = some mj_K20) (mj_w7 228 rfl rfl) (mj_w11 223 rfl rfl) mj_cd279)
   mj_an))))))))
theorem mj_ok433 : mj_okRow mj_Tw mj_Mm mj_r433 := ⟨by decide +kernel, by decide +kernel, (mj_w1 14 rfl rfl), by decide, Or.inl ⟨mj_cd433, rfl, rfl⟩, mj_wlE (by decide +kernel) mj_wl433⟩
theorem mj_wl434 : ∀ x ∈ ([(2, .getfield 63, 2, 18, 0), (7, .putfield 63, 2, 18, 0), (11, .getfield 9, 0, 18, 0), (16, .getfield 48, 1, 18, 0), (23, .putfield 48, 1, 18, 0)] : List (Nat × mj_E)), mj_okW mj_Tw mj_Mm mj_m434 x.1 x.2 :=
  (mj_ac (mj_e_gf "java/util/ArrayList" (rfl : mj_cls[18]? = some mj_K18) (by decide) mj_u18 (Or.inl (mj_w6 192 rfl rfl)) (Or.inr (mj_w6 191 rfl rfl)))
   (mj_ac (mj_e_pf "java/util/ArrayList" (rfl : mj_cls[18]? = some mj_K18) (by decide) mj_u18 (Or.inl (mj_w6 192 rfl rfl)) (Or.inr (mj_w6 191 rfl rfl)) mj_pd18 mj_ds18 (Or.inl rfl))
   (mj_ac (mj_e_gf "java/util/ArrayList" (rfl : mj_cls[18]? = some mj_K18) (by decide) mj_u18 (Or.inl (mj_w6 185 rfl rfl)) (Or.inl rfl))
   (mj_ac (mj_e_gf "java/util/ArrayList" (rfl : mj_cls[18]? = some mj_K18) (by decide) mj_u18 (Or.inl (mj_w6 188 rfl rfl)) (Or.inl rfl))
   (mj_ac (mj_e_pf "java/util/ArrayList" (rfl : mj_cls[18]? = some mj_K18) (by decide) mj_u18 (Or.inl (mj_w6 188 rfl rfl)) (Or.inl rfl) mj_pd18 mj_ds18 (Or.inl rfl))
   mj_an)))))
theorem mj_ok434 : mj_okRow mj_Tw mj_Mm mj_r434 := ⟨by decide +kernel, by decide +kernel, (mj_w1 14 rfl rfl), by decide, Or.inl ⟨mj_cd434, rfl, rfl⟩, mj_wlE (by decide +kernel) mj_wl434⟩
theorem mj_wl435 : ∀ x ∈ ([(1, .invokeinterface 42 1, 436, 1, 19), (9, .getfield 63, 2, 18, 0), (14, .putfield 63, 2, 18, 0), (28, .getfield 9, 0, 18, 0), (36, .getfield 48, 1, 18, 0), (51, .invokevirtual 69, 340, 2, 19), (63, .invokestatic 112, 9000, 5, 0), (71, .putfield 48, 1, 18, 0)] : List (Nat × mj_E)), mj_okW mj_Tw mj_Mm mj_m435 x.1 x.2 :=
  (mj_ac (mj_e_if mj_M436 mj_nm436 mj_cd436 (rfl : mj_cls[18]? = some mj_K18) (x0 := ⟨"java/util/Collection", "toArray", "()[Ljava/lang/Object;"⟩) (by unfold mj_np; decide +kernel) (by unfold mj_noMH; decide +kernel) (mj_w12 10 rfl rfl) (mj_w12 11 rfl rfl) (mj_w12 4 rfl rfl) (mj_w12 6 rfl rfl) (mj_w12 5 rfl rfl) (mj_w12 8 rfl rfl) (mj_w12 9 rfl rfl) (mj_w12 7 rfl rfl))
   (mj_ac (mj_e_gf "java/util/ArrayList" (rfl : mj_cls[18]? = some mj_K18) (by decide) mj_u18 (Or.inl (mj_w6 192 rfl rfl)) (Or.inr (mj_w6 191 rfl rfl)))
   (mj_ac (mj_e_pf "java/util/ArrayList" (rfl : mj_cls[18]? = some mj_K18) (by decide) mj_u18 (Or.inl (mj_w6 192 rfl rfl)) (Or.inr (mj_w6 191 rfl rfl)) mj_pd18 mj_ds18 (Or.inl rfl))
   (mj_ac (mj_e_gf "java/util/ArrayList" (rfl : mj_cls[18]? = some mj_K18) (by decide) mj_u18 (Or.inl (mj_w6 185 rfl rfl)) (Or.inl rfl))
   (mj_ac (mj_e_gf "java/util/ArrayList" (rfl : mj_cls[18]? = some mj_K18) (by decide) mj_u18 (Or.inl (mj_w6 188 rfl rfl)) (Or.inl rfl))
   (mj_ac (mj_e_vi mj_M340 mj_nm340 mj_np340 (mj_w9 110 rfl rfl) (rfl : mj_cls[18]? = some mj_K18) (mj_wp 59 rfl rfl) (mj_w9 108 rfl rfl) mj_cd340)
   (mj_ac (mj_e_ac (mj_w11 170 rfl rfl) (mj_w5 223 rfl rfl) (mj_w5 222 rfl rfl) (mj_w1 27 rfl rfl))
   (mj_ac (mj_e_pf "java/util/ArrayList" (rfl : mj_cls[18]? = some mj_K18) (by decide) mj_u18 (Or.inl (mj_w6 188 rfl rfl)) (Or.inl rfl) mj_pd18 mj_ds18 (Or.inl rfl))
   mj_an))))))))
theorem mj_ok435 : mj_okRow mj_Tw mj_Mm mj_r435 := ⟨by decide +kernel, by decide +kernel, (mj_w1 14 rfl rfl), by decide, Or.inl ⟨mj_cd435, rfl, rfl⟩, mj_wlE (by decide +kernel) mj_wl435⟩
theorem mj_wl436 : ∀ x ∈ ([(1, .getfield 9, 0, 18, 0), (5, .getfield 48, 1, 18, 0), (8, .invokestatic 66, 341, 2, 0)] : List (Nat × mj_E)), mj_okW mj_Tw mj_Mm mj_m436 x.1 x.2 :=
  (mj_ac (mj_e_gf "java/util/ArrayList" (rfl : mj_cls[18]? = some mj_K18) (by decide) mj_u18 (Or.inl (mj_w6 185 rfl rfl)) (Or.inl rfl))
   (mj_ac (mj_e_gf "java/util/ArrayList" (rfl : mj_cls[18]? = some mj_K18) (by decide) mj_u18 (Or.inl (mj_w6 188 rfl rfl)) (Or.inl rfl))
   (mj_ac (mj_e_st mj_M341 mj_nm341 mj_np341 (mj_w9 114 rfl rfl) (mj_w1 26 rfl rfl) mj_cd341 (mj_w9 113 rfl rfl))
   mj_an)))
theorem mj_ok436 : mj_okRow mj_Tw mj_Mm mj_r436 := ⟨by decide +kernel, by decide +kernel, (mj_w1 14 rfl rfl), by decide, Or.inl ⟨mj_cd436, rfl, rfl⟩, mj_wlE (by decide +kernel) mj_wl436⟩
theorem mj_wl437 : ∀ x ∈ ([(2, .putfield 38, 0, 17, 0), (6, .getfield 31, 6, 17, 0), (9, .invokeinterface 85 1, 345, 1, 19), (19, .getfield 31, 6, 17, 0), (22, .invokeinterface 85 1, 345, 1, 19), (32, .invokevirtual 286, 438, 2, 18), (48, .getfield 31, 6, 17, 0), (52, .invokeinterface 266 2, 422, 2, 19), (59, .getfield 31, 6, 17, 0), (63, .invokeinterface 266 2, 422, 2, 19), (76, .getfield 31, 6, 17, 0), (79, .invokeinterface 85 1, 345, 1, 19)] : List (Nat × mj_E)), mj_okW mj_Tw mj_Mm mj_m437 x.1 x.2 :=
  (mj_ac (mj_e_pf "UncomputeryModel" (rfl : mj_cls[17]? = some mj_K17) (by decide) mj_u17 (Or.inl (mj_w7 11 rfl rfl)) (Or.inl rfl) mj_pd17 mj_ds17 (Or.inl rfl))
   (mj_ac (mj_e_gf "UncomputeryModel" (rfl : mj_cls[17]? = some mj_K17) (by decide) mj_u17 (Or.inl (mj_w7 18 rfl rfl)) (Or.inl rfl))
   (mj_ac (mj_e_if mj_M345 mj_nm345 mj_cd345 (rfl : mj_cls[18]? = some mj_K18) (x0 := ⟨"java/util/List", "size", "()I"⟩) (by unfold mj_np; decide +kernel) (by unfold mj_noMH; decide +kernel) (mj_w9 172 rfl rfl) (mj_w9 173 rfl rfl) (mj_w9 167 rfl rfl) (mj_w9 169 rfl rfl) (mj_w9 168 rfl rfl) (mj_w9 170 rfl rfl) (mj_w9 171 rfl rfl) (mj_w9 94 rfl rfl))
   (mj_ac (mj_e_gf "UncomputeryModel" (rfl : mj_cls[17]? = some mj_K17) (by decide) mj_u17 (Or.inl (mj_w7 18 rfl rfl)) (Or.inl rfl))
   (mj_ac (mj_e_if mj_M345 mj_nm345 mj_cd345 (rfl : mj_cls[18]? = some mj_K18) (x0 := ⟨"java/util/List", "size", "()I"⟩) (by unfold mj_np; decide +kernel) (by unfold mj_noMH; decide +kernel) (mj_w9 172 rfl rfl) (mj_w9 173 rfl rfl) (mj_w9 167 rfl rfl) (mj_w9 169 rfl rfl) (mj_w9 168 rfl rfl) (mj_w9 170 rfl rfl) (mj_w9 171 rfl rfl) (mj_w9 94 rfl rfl))
   (mj_ac (mj_e_vi mj_M438 mj_nm438 mj_np438 (mj_w12 19 rfl rfl) (rfl : mj_cls[17]? = some mj_K17) (mj_wp 82 rfl rfl) (mj_w12 17 rfl rfl) mj_cd438)
   (mj_ac (mj_e_gf "UncomputeryModel" (rfl : mj_cls[17]? = some mj_K17) (by decide) mj_u17 (Or.inl (mj_w7 18 rfl rfl)) (Or.inl rfl))
   (mj_ac (mj_e_if mj_M422 mj_nm422 mj_cd422 (rfl : mj_cls[18]? = some mj_K18) (x0 := ⟨"java/util/List", "remove", "(I)Ljava/lang/Object;"⟩) (by unfold mj_np; decide +kernel) (by unfold mj_noMH; decide +kernel) (mj_w11 163 rfl rfl) (mj_w11 164 rfl rfl) (mj_w11 158 rfl rfl) (mj_w11 160 rfl rfl) (mj_w11 159 rfl rfl) (mj_w11 161 rfl rfl) (mj_w11 162 rfl rfl) (mj_w9 94 rfl rfl))
   (mj_ac (mj_e_gf "UncomputeryModel" (rfl : mj_cls[17]? = some mj_K17) (by decide) mj_u17 (Or.inl (mj_w7 18 rfl rfl)) (Or.inl rfl))
   (mj_ac (mj_e_if mj_M422 mj_nm422 mj_cd422 (rfl : mj_cls[18]? = some mj_K18) (x0 := ⟨"java/util/List", "remove", "(I)Ljava/lang/Object;"⟩) (by unfold mj_np; decide +kernel) (by unfold mj_noMH; decide +kernel) (mj_w11 163 rfl rfl) (mj_w11 164 rfl rfl) (mj_w11 158 rfl rfl) (mj_w11 160 rfl rfl) (mj_w11 159 rfl rfl) (mj_w11 161 rfl rfl) (mj_w11 162 rfl rfl) (mj_w9 94 rfl rfl))
   (mj_ac (mj_e_gf "UncomputeryModel" (rfl : mj_cls[17]? = some mj_K17) (by decide) mj_u17 (Or.inl (mj_w7 18 rfl rfl)) (Or.inl rfl))
   (mj_ac (mj_e_if mj_M345 mj_nm345 mj_cd345 (rfl : mj_cls[18]? = some mj_K18) (x0 := ⟨"java/util/List", "size", "()I"⟩) (by unfold mj_np; decide +kernel) (by unfold mj_noMH; decide +kernel) (mj_w9 172 rfl rfl) (mj_w9 173 rfl rfl) (mj_w9 167 rfl rfl) (mj_w9 169 rfl rfl) (mj_w9 168 rfl rfl) (mj_w9 170 rfl rfl) (mj_w9 171 rfl rfl) (mj_w9 94 rfl rfl))
   mj_an))))))))))))
theorem mj_ok437 : mj_okRow mj_Tw mj_Mm mj_r437 := ⟨by decide +kernel, by decide +kernel, (mj_w1 11 rfl rfl), by decide, Or.inl ⟨mj_cd437, rfl, rfl⟩, mj_wlE (by decide +kernel) mj_wl437⟩
theorem mj_wl438 : ∀ x ∈ ([(6, .getfield 31, 6, 17, 0), (9, .invokeinterface 85 1, 345, 1, 19), (18, .getfield 31, 6, 17, 0), (22, .invokeinterface 133 2, 358, 2, 19), (27, .checkcast 237, 29, 0, 0), (30, .invokevirtual 255, 424, 1, 30), (34, .getfield 31, 6, 17, 0), (38, .invokeinterface 133 2, 358, 2, 19), (43, .checkcast 237, 29, 0, 0), (46, .invokevirtual 255, 424, 1, 30), (55, .getfield 31, 6, 17, 0), (59, .invokeinterface 133 2, 358, 2, 19), (64, .checkcast 237, 29, 0, 0), (67, .invokevirtual 255, 424, 1, 30), (71, .getfield 31, 6, 17, 0), (75, .invokeinterface 133 2, 358, 2, 19), (80, .checkcast 237, 29, 0, 0), (83, .invokevirtual 255, 424, 1, 30), (86, .invokestatic 282, 439, 2, 0)] : List (Nat × mj_E)), mj_okW mj_Tw mj_Mm mj_m438 x.1 x.2 :=
  (mj_ac (mj_e_gf "UncomputeryModel" (rfl : mj_cls[17]? = some mj_K17) (by decide) mj_u17 (Or.inl (mj_w7 18 rfl rfl)) (Or.inl rfl))
   (mj_ac (mj_e_if mj_M345 mj_nm345 mj_cd345 (rfl : mj_cls[18]? = some mj_K18) (x0 := ⟨"java/util/List", "size", "()I"⟩) (by unfold mj_np; decide +kernel) (by unfold mj_noMH; decide +kernel) (mj_w9 172 rfl rfl) (mj_w9 173 rfl rfl) (mj_w9 167 rfl rfl) (mj_w9 169 rfl rfl) (mj_w9 168 rfl rfl) (mj_w9 170 rfl rfl) (mj_w9 171 rfl rfl) (mj_w9 94 rfl rfl))
   (mj_ac (mj_e_gf "UncomputeryModel" (rfl : mj_cls[17]? = some mj_K17) (by decide) mj_u17 (Or.inl (mj_w7 18 rfl rfl)) (Or.inl rfl))
   (mj_ac (mj_e_if mj_M358 mj_nm358 mj_cd358 (rfl : mj_cls[18]? = some mj_K18) (x0 := ⟨"java/util/List", "get", "(I)Ljava/lang/Object;"⟩) (by unfold mj_np; decide +kernel) (by unfold mj_noMH; decide +kernel) (mj_w10 72 rfl rfl) (mj_w10 73 rfl rfl) (mj_w10 67 rfl rfl) (mj_w10 69 rfl rfl) (mj_w10 68 rfl rfl) (mj_w10 70 rfl rfl) (mj_w10 71 rfl rfl) (mj_w9 94 rfl rfl))
   (mj_ac (mj_e_cc0 rfl (mj_w11 171 rfl rfl))
   (mj_ac (mj_e_vi mj_M424 mj_nm424 mj_np424 (mj_w11 173 rfl rfl) (rfl : mj_cls[29]? = some mj_K29) (mj_w11 174 rfl rfl) (mj_w11 172 rfl rfl) mj_cd424)
   (mj_ac (mj_e_gf "UncomputeryModel" (rfl : mj_cls[17]? = some mj_K17) (by decide) mj_u17 (Or.inl (mj_w7 18 rfl rfl)) (Or.inl rfl))
   (mj_ac (mj_e_if mj_M358 mj_nm358 mj_cd358 (rfl : mj_cls[18]? = some mj_K18) (x0 := ⟨"java/util/List", "get", "(I)Ljava/lang/Object;"⟩) (by unfold mj_np; decide +kernel) (by unfold mj_noMH; decide +kernel) (mj_w10 72 rfl rfl) (mj_w10 73 rfl rfl) (mj_w10 67 rfl rfl) (mj_w10 69 rfl rfl) (mj_w10 68 rfl rfl) (mj_w10 70 rfl rfl) (mj_w10 71 rfl rfl) (mj_w9 94 rfl rfl))
   (mj_ac (mj_e_cc0 rfl (mj_w11 171 rfl rfl))
   (mj_ac (mj_e_vi mj_M424 mj_nm424 mj_np424 (mj_w11 173 rfl rfl) (rfl : mj_cls[29]? = some mj_K29) (mj_w11 174 rfl rfl) (mj_w11 172 rfl rfl) mj_cd424)
   (mj_ac (mj_e_gf "UncomputeryModel" (rfl : mj_cls[17]? = some mj_K17) (by decide) mj_u17 (Or.inl (mj_w7 18 rfl rfl)) (Or.inl rfl))
   (mj_ac (mj_e_if mj_M358 mj_nm358 mj_cd358 (rfl : mj_cls[18]? = some mj_K18) (x0 := ⟨"java/util/List", "get", "(I)Ljava/lang/Object;"⟩) (by unfold mj_np; decide +kernel) (by unfold mj_noMH; decide +kernel) (mj_w10 72 rfl rfl) (mj_w10 73 rfl rfl) (mj_w10 67 rfl rfl) (mj_w10 69 rfl rfl) (mj_w10 68 rfl rfl) (mj_w10 70 rfl rfl) (mj_w10 71 rfl rfl) (mj_w9 94 rfl rfl))
   (mj_ac (mj_e_cc0 rfl (mj_w11 171 rfl rfl))
   (mj_ac (mj_e_vi mj_M424 mj_nm424 mj_np424 (mj_w11 173 rfl rfl) (rfl : mj_cls[29]? = some mj_K29) (mj_w11 174 rfl rfl) (mj_w11 172 rfl rfl) mj_cd424)
   (mj_ac (mj_e_gf "UncomputeryModel" (rfl : mj_cls[17]? = some mj_K17) (by decide) mj_u17 (Or.inl (mj_w7 18 rfl rfl)) (Or.inl rfl))
   (mj_ac (mj_e_if mj_M358 mj_nm358 mj_cd358 (rfl : mj_cls[18]? = some mj_K18) (x0 := ⟨"java/util/List", "get", "(I)Ljava/lang/Object;"⟩) (by unfold mj_np; decide +kernel) (by unfold mj_noMH; decide +kernel) (mj_w10 72 rfl rfl) (mj_w10 73 rfl rfl) (mj_w10 67 rfl rfl) (mj_w10 69 rfl rfl) (mj_w10 68 rfl rfl) (mj_w10 70 rfl rfl) (mj_w10 71 rfl rfl) (mj_w9 94 rfl rfl))
   (mj_ac (mj_e_cc0 rfl (mj_w11 171 rfl rfl))
   (mj_ac (mj_e_vi mj_M424 mj_nm424 mj_np424 (mj_w11 173 rfl rfl) (rfl : mj_cls[29]? = some mj_K29) (mj_w11 174 rfl rfl) (mj_w11 172 rfl rfl) mj_cd424)
   (mj_ac (mj_e_st mj_M439 mj_nm439 mj_np439 (mj_w12 22 rfl rfl) (mj_w1 11 rfl rfl) mj_cd439 (mj_w12 21 rfl rfl))
   mj_an)))))))))))))))))))
theorem mj_ok438 : mj_okRow mj_Tw mj_Mm mj_r438 := ⟨by decide +kernel, by decide +kernel, (mj_w1 11 rfl rfl), by decide, Or.inl ⟨mj_cd438, rfl, rfl⟩, mj_wlE (by decide +kernel) mj_wl438⟩
theorem mj_wl439 : ∀ x ∈ ([] : List (Nat × mj_E)), mj_okW mj_Tw mj_Mm mj_m439 x.1 x.2 :=
  mj_an
theorem mj_ok439 : mj_okRow mj_Tw mj_Mm mj_r439 := ⟨by decide +kernel, by decide +kernel, (mj_w1 11 rfl rfl), by decide, Or.inl ⟨mj_cd439, rfl, rfl⟩, mj_wlE (by decide +kernel) mj_wl439⟩
theorem mj_wl440 : ∀ x ∈ ([(2, .putfield 38, 0, 17, 0), (6, .invokevirtual 292, 441, 1, 18), (9, .invokeinterface 85 1, 345, 1, 19)] : List (Nat × mj_E)), mj_okW mj_Tw mj_Mm mj_m440 x.1 x.2 :=
  (mj_ac (mj_e_pf "UncomputeryModel" (rfl : mj_cls[17]? = some mj_K17) (by decide) mj_u17 (Or.inl (mj_w7 11 rfl rfl)) (Or.inl rfl) mj_pd17 mj_ds17 (Or.inl rfl))
   (mj_ac (mj_e_vi mj_M441 mj_nm441 mj_np441 (mj_w12 30 rfl rfl) (rfl : mj_cls[17]? = some mj_K17) (mj_wp 83 rfl rfl) (mj_w12 28 rfl rfl) mj_cd441)
   (mj_ac (mj_e_if mj_M345 mj_nm345 mj_cd345 (rfl : mj_cls[18]? = some mj_K18) (x0 := ⟨"java/util/List", "size", "()I"⟩) (by unfold mj_np; decide +kernel) (by unfold mj_noMH; decide +kernel) (mj_w9 172 rfl rfl) (mj_w9 173 rfl rfl) (mj_w9 167 rfl rfl) (mj_w9 169 rfl rfl) (mj_w9 168 rfl rfl) (mj_w9 170 rfl rfl) (mj_w9 171 rfl rfl) (mj_w9 94 rfl rfl))
   mj_an)))
theorem mj_ok440 : mj_okRow mj_Tw mj_Mm mj_r440 := ⟨by decide +kernel, by decide +kernel, (mj_w1 11 rfl rfl), by decide, Or.inl ⟨mj_cd440, rfl, rfl⟩, mj_wlE (by decide +kernel) mj_wl440⟩
theorem mj_wl441 : ∀ x ∈ ([(2, .newarray .int, 0, 0, 0), (17, .invokevirtual 269, 427, 2, 18), (27, .new 7, 18, 0, 0), (31, .invokespecial 9, 235, 1, 19), (76, .invokestatic 289, 442, 1, 0), (120, .invokestatic 258, 428, 2, 0), (134, .invokestatic 261, 417, 1, 0), (137, .invokeinterface 272 3, 431, 3, 19)] : List (Nat × mj_E)), mj_okW mj_Tw mj_Mm mj_m441 x.1 x.2 :=
  (mj_ac (mj_e_na rfl (by decide) (mj_w1 224 rfl rfl))
   (mj_ac (mj_e_vi mj_M427 mj_nm427 mj_np427 (mj_w11 186 rfl rfl) (rfl : mj_cls[17]? = some mj_K17) (mj_wp 79 rfl rfl) (mj_w11 184 rfl rfl) mj_cd427)
   (mj_ac (mj_e_new mj_nw18 (mj_w6 171 rfl rfl))
   (mj_ac (mj_e_in mj_M235 mj_nm235 mj_np235 (mj_w6 174 rfl rfl) mj_cd235 rfl rfl (mj_w6 173 rfl rfl))
   (mj_ac (mj_e_st mj_M442 mj_nm442 mj_np442 (mj_w12 33 rfl rfl) (mj_w1 32 rfl rfl) mj_cd442 (mj_w12 32 rfl rfl))
   (mj_ac (mj_e_st mj_M428 mj_nm428 mj_np428 (mj_w11 189 rfl rfl) (mj_w1 11 rfl rfl) mj_cd428 (mj_w11 188 rfl rfl))
   (mj_ac (mj_e_st mj_M417 mj_nm417 mj_np417 (mj_w11 125 rfl rfl) (mj_w1 32 rfl rfl) mj_cd417 (mj_w11 124 rfl rfl))
   (mj_ac (mj_e_if mj_M431 mj_nm431 mj_cd431 (rfl : mj_cls[18]? = some mj_K18) (x0 := ⟨"java/util/List", "add", "(ILjava/lang/Object;)V"⟩) (by unfold mj_np; decide +kernel) (by unfold mj_noMH; decide +kernel) (mj_w11 205 rfl rfl) (mj_w11 206 rfl rfl) (mj_w11 200 rfl rfl) (mj_w11 202 rfl rfl) (mj_w11 201 rfl rfl) (mj_w11 203 rfl rfl) (mj_w11 204 rfl rfl) (mj_w9 94 rfl rfl))
   mj_an))))))))
theorem mj_ok441 : mj_okRow mj_Tw mj_Mm mj_r441 := ⟨by decide +kernel, by decide +kernel, (mj_w1 11 rfl rfl), by decide, Or.inl ⟨mj_cd441, rfl, rfl⟩, mj_wlE (by decide +kernel) mj_wl441⟩
theorem mj_wl442 : ∀ x ∈ ([(20, .ldc_w 264, 0, 65536, 0)] : List (Nat × mj_E)), mj_okW mj_Tw mj_Mm mj_m442 x.1 x.2 :=
  (mj_ac (mj_e_lw (mj_w12 35 rfl rfl))
   mj_an)
theorem mj_ok442 : mj_okRow mj_Tw mj_Mm mj_r442 := ⟨by decide +kernel, by decide +kernel, (mj_w1 32 rfl rfl), by decide, Or.inl ⟨mj_cd442, rfl, rfl⟩, mj_wlE (by decide +kernel) mj_wl442⟩
theorem mj_wl443 : ∀ x ∈ ([(1, .invokevirtual 292, 441, 1, 18), (9, .invokeinterface 85 1, 345, 1, 19), (16, .invokestatic 81, 311, 3, 0), (27, .invokevirtual 92, 243, 2, 18), (39, .invokeinterface 133 2, 358, 2, 19), (44, .checkcast 237, 29, 0, 0), (47, .invokevirtual 255, 424, 1, 30)] : List (Nat × mj_E)), mj_okW mj_Tw mj_Mm mj_m443 x.1 x.2 :=
  (mj_ac (mj_e_vi mj_M441 mj_nm441 mj_np441 (mj_w12 30 rfl rfl) (rfl : mj_cls[17]? = some mj_K17) (mj_wp 83 rfl rfl) (mj_w12 28 rfl rfl) mj_cd441)
   (mj_ac (mj_e_if mj_M345 mj_nm345 mj_cd345 (rfl : mj_cls[18]? = some mj_K18) (x0 := ⟨"java/util/List", "size", "()I"⟩) (by unfold mj_np; decide +kernel) (by unfold mj_noMH; decide +kernel) (mj_w9 172 rfl rfl) (mj_w9 173 rfl rfl) (mj_w9 167 rfl rfl) (mj_w9 169 rfl rfl) (mj_w9 168 rfl rfl) (mj_w9 170 rfl rfl) (mj_w9 171 rfl rfl) (mj_w9 94 rfl rfl))
   (mj_ac (mj_e_st mj_M311 mj_nm311 mj_np311 (mj_w8 146 rfl rfl) (mj_w1 11 rfl rfl) mj_cd311 (mj_w10 65 rfl rfl))
   (mj_ac (mj_e_vi mj_M243 mj_nm243 mj_np243 (mj_w7 66 rfl rfl) (rfl : mj_cls[17]? = some mj_K17) (mj_wp 45 rfl rfl) (mj_w7 64 rfl rfl) mj_cd243)
   (mj_ac (mj_e_if mj_M358 mj_nm358 mj_cd358 (rfl : mj_cls[18]? = some mj_K18) (x0 := ⟨"java/util/List", "get", "(I)Ljava/lang/Object;"⟩) (by unfold mj_np; decide +kernel) (by unfold mj_noMH; decide +kernel) (mj_w10 72 rfl rfl) (mj_w10 73 rfl rfl) (mj_w10 67 rfl rfl) (mj_w10 69 rfl rfl) (mj_w10 68 rfl rfl) (mj_w10 70 rfl rfl) (mj_w10 71 rfl rfl) (mj_w9 94 rfl rfl))
   (mj_ac (mj_e_cc0 rfl (mj_w11 171 rfl rfl))
   (mj_ac (mj_e_vi mj_M424 mj_nm424 mj_np424 (mj_w11 173 rfl rfl) (rfl : mj_cls[29]? = some mj_K29) (mj_w11 174 rfl rfl) (mj_w11 172 rfl rfl) mj_cd424)
   mj_an)))))))
theorem mj_ok443 : mj_okRow mj_Tw mj_Mm mj_r443 := ⟨by decide +kernel, by decide +kernel, (mj_w1 11 rfl rfl), by decide, Or.inl ⟨mj_cd443, rfl, rfl⟩, mj_wlE (by decide +kernel) mj_wl443⟩
theorem mj_wl444 : ∀ x ∈ ([(2, .putfield 38, 0, 17, 0), (6, .invokevirtual 295, 445, 1, 18), (36, .getfield 298, 7, 17, 0), (42, .ldc_w 301, 0, 40320, 0), (45, .newarray .boolean, 2, 0, 0), (51, .getfield 298, 7, 17, 0), (54, .putfield 298, 7, 17, 0), (59, .getfield 302, 8, 17, 0), (65, .ldc_w 301, 0, 40320, 0), (68, .newarray .int, 0, 0, 0), (74, .getfield 302, 8, 17, 0), (77, .putfield 302, 8, 17, 0), (82, .getfield 305, 9, 17, 0), (88, .ldc_w 301, 0, 40320, 0), (91, .newarray .int, 0, 0, 0), (97, .getfield 305, 9, 17, 0), (100, .putfield 305, 9, 17, 0), (104, .getfield 298, 7, 17, 0), (108, .invokestatic 307, 446, 2, 0), (112, .getfield 298, 7, 17, 0), (116, .invokestatic 313, 447, 1, 0), (122, .getfield 302, 8, 17, 0), (146, .getfield 302, 8, 17, 0), (184, .getfield 302, 8, 17, 0), (192, .invokestatic 316, 448, 2, 0), (197, .invokevirtual 319, 449, 3, 18), (215, .getfield 302, 8, 17, 0), (222, .getfield 305, 9, 17, 0), (225, .putfield 302, 8, 17, 0), (231, .putfield 305, 9, 17, 0)] : List (Nat × mj_E)), mj_okW mj_Tw mj_Mm mj_m444 x.1 x.2 :=
  (mj_ac (mj_e_pf "UncomputeryModel" (rfl : mj_cls[17]? = some mj_K17) (by decide) mj_u17 (Or.inl (mj_w7 11 rfl rfl)) (Or.inl rfl) mj_pd17 mj_ds17 (Or.inl rfl))
   (mj_ac (mj_e_vi mj_M445 mj_nm445 mj_np445 (mj_w12 46 rfl rfl) (rfl : mj_cls[17]? = some mj_K17) (mj_wp 84 rfl rfl) (mj_w12 44 rfl rfl) mj_cd445)
   (mj_ac (mj_e_gf "UncomputeryModel" (rfl : mj_cls[17]? = some mj_K17) (by decide) mj_u17 (Or.inl (mj_w7 19 rfl rfl)) (Or.inl rfl))
   (mj_ac (mj_e_lw (mj_w12 48 rfl rfl))
   (mj_ac (mj_e_na rfl (by decide) (mj_w2 36 rfl rfl))
   (mj_ac (mj_e_gf "UncomputeryModel" (rfl : mj_cls[17]? = some mj_K17) (by decide) mj_u17 (Or.inl (mj_w7 19 rfl rfl)) (Or.inl rfl))
   (mj_ac (mj_e_pf "UncomputeryModel" (rfl : mj_cls[17]? = some mj_K17) (by decide) mj_u17 (Or.inl (mj_w7 19 rfl rfl)) (Or.inl rfl) mj_pd17 mj_ds17 (Or.inl rfl))
   (mj_ac (mj_e_gf "UncomputeryModel" (rfl : mj_cls[17]? = some mj_K17) (by decide) mj_u17 (Or.inl (mj_w7 20 rfl rfl)) (Or.inl rfl))
   (mj_ac (mj_e_lw (mj_w12 48 rfl rfl))
   (mj_ac (mj_e_na rfl (by decide) (mj_w1 224 rfl rfl))
   (mj_ac (mj_e_gf "UncomputeryModel" (rfl : mj_cls[17]? = some mj_K17) (by decide) mj_u17 (Or.inl (mj_w7 20 rfl rfl)) (Or.inl rfl))
   (mj_ac (mj_e_pf "UncomputeryModel" (rfl : mj_cls[17]? = some mj_K17) (by decide) mj_u17 (Or.inl (mj_w7 20 rfl rfl)) (Or.inl rfl) mj_pd17 mj_ds17 (Or.inl rfl))
   (mj_ac (mj_e_gf "UncomputeryModel" (rfl : mj_cls[17]? = some mj_K17) (by decide) mj_u17 (Or.inl (mj_w7 21 rfl rfl)) (Or.inl rfl))
   (mj_ac (mj_e_lw (mj_w12 48 rfl rfl))
   (mj_ac (mj_e_na rfl (by decide) (mj_w1 224 rfl rfl))
   (mj_ac (mj_e_gf "UncomputeryModel" (rfl : mj_cls[17]? = some mj_K17) (by decide) mj_u17 (Or.inl (mj_w7 21 rfl rfl)) (Or.inl rfl))
   (mj_ac (mj_e_pf "UncomputeryModel" (rfl : mj_cls[17]? = some mj_K17) (by decide) mj_u17 (Or.inl (mj_w7 21 rfl rfl)) (Or.inl rfl) mj_pd17 mj_ds17 (Or.inl rfl))
   (mj_ac (mj_e_gf "UncomputeryModel" (rfl : mj_cls[17]? = some mj_K17) (by decide) mj_u17 (Or.inl (mj_w7 19 rfl rfl)) (Or.inl rfl))
   (mj_ac (mj_e_st mj_M446 mj_nm446 mj_np446 (mj_w12 50 rfl rfl) (mj_w1 26 rfl rfl) mj_cd446 (mj_w12 49 rfl rfl))
   (mj_ac (mj_e_gf "UncomputeryModel" (rfl : mj_cls[17]? = some mj_K17) (by decide) mj_u17 (Or.inl (mj_w7 19 rfl rfl)) (Or.inl rfl))
   (mj_ac (mj_e_st mj_M447 mj_nm447 mj_np447 (mj_w12 53 rfl rfl) (mj_w1 11 rfl rfl) mj_cd447 (mj_w12 52 rfl rfl))
   (mj_ac (mj_e_gf "UncomputeryModel" (rfl : mj_cls[17]? = some mj_K17) (by decide) mj_u17 (Or.inl (mj_w7 20 rfl rfl)) (Or.inl rfl))
   (mj_ac (mj_e_gf "UncomputeryModel" (rfl : mj_cls[17]? = some mj_K17) (by decide) mj_u17 (Or.inl (mj_w7 20 rfl rfl)) (Or.inl rfl))
   (mj_ac (mj_e_gf "UncomputeryModel" (rfl : mj_cls[17]? = some mj_K17) (by decide) mj_u17 (Or.inl (mj_w7 20 rfl rfl)) (Or.inl rfl))
   (mj_ac (mj_e_st mj_M448 mj_nm448 mj_np448 (mj_w12 56 rfl rfl) (mj_w1 11 rfl rfl) mj_cd448 (mj_w12 55 rfl rfl))
   (mj_ac (mj_e_vi mj_M449 mj_nm449 mj_np449 (mj_w12 60 rfl rfl) (rfl : mj_cls[17]? = some mj_K17) (mj_wp 85 rfl rfl) (mj_w12 58 rfl rfl) mj_cd449)
   (mj_ac (mj_e_gf "UncomputeryModel" (rfl : mj_cls[17]? = some mj_K17) (by decide) mj_u17 (Or.inl (mj_w7 20 rfl rfl)) (Or.inl rfl))
   (mj_ac (mj_e_gf "UncomputeryModel" (rfl : mj_cls[17]? = some mj_K17) (by decide) mj_u17 (Or.inl (mj_w7 21 rfl rfl)) (Or.inl rfl))
   (mj_ac (mj_e_pf "UncomputeryModel" (rfl : mj_cls[17]? = some mj_K17) (by decide) mj_u17 (Or.inl (mj_w7 20 rfl rfl)) (Or.inl rfl) mj_pd17 mj_ds17 (Or.inl rfl))
   (mj_ac (mj_e_pf "UncomputeryModel" (rfl : mj_cls[17]? = some mj_K17) (by decide) mj_u17 (Or.inl (mj_w7 21 rfl rfl)) (Or.inl rfl) mj_pd17 mj_ds17 (Or.inl rfl))
   mj_an))))))))))))))))))))))))))))))
theorem mj_ok444 : mj_okRow mj_Tw mj_Mm mj_r444 := ⟨by decide +kernel, by decide +kernel, (mj_w1 11 rfl rfl), by decide, Or.inl ⟨mj_cd444, rfl, rfl⟩, mj_wlE (by decide +kernel) mj_wl444⟩
theorem mj_wl445 : ∀ x ∈ ([(13, .invokevirtual 269, 427, 2, 18)] : List (Nat × mj_E)), mj_okW mj_Tw mj_Mm mj_m445 x.1 x.2 :=
  (mj_ac (mj_e_vi mj_M427 mj_nm427 mj_np427 (mj_w11 186 rfl rfl) (rfl : mj_cls[17]? = some mj_K17) (mj_wp 79 rfl rfl) (mj_w11 184 rfl rfl) mj_cd427)
   mj_an)
theorem mj_ok445 : mj_okRow mj_Tw mj_Mm mj_r445 := ⟨by decide +kernel, by decide +kernel, (mj_w1 11 rfl rfl), by decide, Or.inl ⟨mj_cd445, rfl, rfl⟩, mj_wlE (by decide +kernel) mj_wl445⟩
theorem mj_wl446 : ∀ x ∈ ([] : List (Nat × mj_E)), mj_okW mj_Tw mj_Mm mj_m446 x.1 x.2 :=
  mj_an
theorem mj_ok446 : mj_okRow mj_Tw mj_Mm mj_r446 := ⟨by decide +kernel, by decide +kernel, (mj_w1 26 rfl rfl), by decide, Or.inl ⟨mj_cd446, rfl, rfl⟩, mj_wlE (by decide +kernel) mj_wl446⟩
theorem mj_wl447 : ∀ x ∈ ([] : List (Nat × mj_E)), mj_okW mj_Tw mj_Mm mj_m447 x.1 x.2 :=
  mj_an
theorem mj_ok447 : mj_okRow mj_Tw mj_Mm mj_r447 := ⟨by decide +kernel, by decide +kernel, (mj_w1 11 rfl rfl), by decide, Or.inl ⟨mj_cd447, rfl, rfl⟩, mj_wlE (by decide +kernel) mj_wl447⟩
theorem mj_wl448 : ∀ x ∈ ([(20, .invokestatic 258, 428, 2, 0)] : List (Nat × mj_E)), mj_okW mj_Tw mj_Mm mj_m448 x.1 x.2 :=
  (mj_ac (mj_e_st mj_M428 mj_nm428 mj_np428 (mj_w11 189 rfl rfl) (mj_w1 11 rfl rfl) mj_cd428 (mj_w11 188 rfl rfl))
   mj_an)
theorem mj_ok448 : mj_okRow mj_Tw mj_Mm mj_r448 := ⟨by decide +kernel, by decide +kernel, (mj_w1 11 rfl rfl), by decide, Or.inl ⟨mj_cd448, rfl, rfl⟩, mj_wlE (by decide +kernel) mj_wl448⟩
theorem mj_wl449 : ∀ x ∈ ([(1, .invokestatic 313, 447, 1, 0), (6, .getfield 298, 7, 17, 0), (17, .getfield 298, 7, 17, 0), (24, .getfield 305, 9, 17, 0)] : List (Nat × mj_E)), mj_okW mj_Tw mj_Mm mj_m449 x.1 x.2 :=
  (mj_ac (mj_e_st mj_M447 mj_nm447 mj_np447 (mj_w12 53 rfl rfl) (mj_w1 11 rfl rfl) mj_cd447 (mj_w12 52 rfl rfl))
   (mj_ac (mj_e_gf "UncomputeryModel" (rfl : mj_cls[17]? = some mj_K17) (by decide) mj_u17 (Or.inl (mj_w7 19 rfl rfl)) (Or.inl rfl))
   (mj_ac (mj_e_gf "UncomputeryModel" (rfl : mj_cls[17]? = some mj_K17) (by decide) mj_u17 (Or.inl (mj_w7 19 rfl rfl)) (Or.inl rfl))
   (mj_ac (mj_e_gf "UncomputeryModel" (rfl : mj_cls[17]? = some mj_K17) (by decide) mj_u17 (Or.inl (mj_w7 21 rfl rfl)) (Or.inl rfl))
   mj_an))))
theorem mj_ok449 : mj_okRow mj_Tw mj_Mm mj_r449 := ⟨by decide +kernel, by decide +kernel, (mj_w1 11 rfl rfl), by decide, Or.inl ⟨mj_cd449, rfl, rfl⟩, mj_wlE (by decide +kernel) mj_wl449⟩
theorem mj_wl450 : ∀ x ∈ ([(2, .putfield 38, 0, 17, 0), (18, .invokevirtual 322, 451, 2, 18)] : List (Nat × mj_E)), mj_okW mj_Tw mj_Mm mj_m450 x.1 x.2 :=
  (mj_ac (mj_e_pf "UncomputeryModel" (rfl : mj_cls[17]? = some mj_K17) (by decide) mj_u17 (Or.inl (mj_w7 11 rfl rfl)) (Or.inl rfl) mj_pd17 mj_ds17 (Or.inl rfl))
   (mj_ac (mj_e_vi mj_M451 mj_nm451 mj_np451 (mj_w12 68 rfl rfl) (rfl : mj_cls[17]? = some mj_K17) (mj_wp 86 rfl rfl) (mj_w12 66 rfl rfl) mj_cd451)
   mj_an))
theorem mj_ok450 : mj_okRow mj_Tw mj_Mm mj_r450 := ⟨by decide +kernel, by decide +kernel, (mj_w1 11 rfl rfl), by decide, Or.inl ⟨mj_cd450, rfl, rfl⟩, mj_wlE (by decide +kernel) mj_wl450⟩
theorem mj_wl451 : ∀ x ∈ ([(2, .invokevirtual 269, 427, 2, 18), (28, .invokevirtual 269, 427, 2, 18)] : List (Nat × mj_E)), mj_okW mj_Tw mj_Mm mj_m451 x.1 x.2 :=
  (mj_ac (mj_e_vi mj_M427 mj_nm427 mj_np427 (mj_w11 186 rfl rfl) (rfl : mj_cls[17]? = some mj_K17) (mj_wp 79 rfl rfl) (mj_w11 184 rfl rfl) mj_cd427)
   (mj_ac (mj_e_vi mj_M427 mj_nm427 mj_np427 (mj_w11 186 rfl rfl) (rfl : mj_cls[17]? = some mj_K17) (mj_wp 79 rfl rfl) (mj_w11 184 rfl rfl) mj_cd427)
   mj_an))
theorem mj_ok451 : mj_okRow mj_Tw mj_Mm mj_r451 := ⟨by decide +kernel, by decide +kernel, (mj_w1 11 rfl rfl), by decide, Or.inl ⟨mj_cd451, rfl, rfl⟩, mj_wlE (by decide +kernel) mj_wl451⟩
theorem mj_wl452 : ∀ x ∈ ([(2, .putfield 38, 0, 17, 0), (27, .invokevirtual 325, 453, 2, 18)] : List (Nat × mj_E)), mj_okW mj_Tw mj_Mm mj_m452 x.1 x.2 :=
  (mj_ac (mj_e_pf "UncomputeryModel" (rfl : mj_cls[17]? = some mj_K17) (by decide) mj_u17 (Or.inl (mj_w7 11 rfl rfl)) (Or.inl rfl) mj_pd17 mj_ds17 (Or.inl rfl))
   (mj_ac (mj_e_vi mj_M453 mj_nm453 mj_np453 (mj_w12 76 rfl rfl) (rfl : mj_cls[17]? = some mj_K17) (mj_wp 87 rfl rfl) (mj_w12 74 rfl rfl) mj_cd453)
   mj_an))
theorem mj_ok452 : mj_okRow mj_Tw mj_Mm mj_r452 := ⟨by decide +kernel, by decide +kernel, (mj_w1 11 rfl rfl), by decide, Or.inl ⟨mj_cd452, rfl, rfl⟩, mj_wlE (by decide +kernel) mj_wl452⟩
theorem mj_wl453 : ∀ x ∈ ([(4, .invokevirtual 269, 427, 2, 18), (15, .invokevirtual 269, 427, 2, 18)] : List (Nat × mj_E)), mj_okW mj_Tw mj_Mm mj_m453 x.1 x.2 :=
  (mj_ac (mj_e_vi mj_M427 mj_nm427 mj_np427 (mj_w11 186 rfl rfl) (rfl : mj_cls[17]? = some mj_K17) (mj_wp 79 rfl rfl) (mj_w11 184 rfl rfl) mj_cd427)
   (mj_ac (mj_e_vi mj_M427 mj_nm427 mj_np427 (mj_w11 186 rfl rfl) (rfl : mj_cls[17]? = some mj_K17) (mj_wp 79 rfl rfl) (mj_w11 184 rfl rfl) mj_cd427)
   mj_an))
theorem mj_ok453 : mj_okRow mj_Tw mj_Mm mj_r453 := ⟨by decide +kernel, by decide +kernel, (mj_w1 11 rfl rfl), by decide, Or.inl ⟨mj_cd453, rfl, rfl⟩, mj_wlE (by decide +kernel) mj_wl453⟩
theorem mj_wl454 : ∀ x ∈ ([(5, .invokestatic 81, 311, 3, 0), (15, .invokestatic 81, 311, 3, 0), (26, .invokevirtual 92, 243, 2, 18), (35, .getfield 34, 10, 17, 0), (42, .getfield 34, 10, 17, 0)] : List (Nat × mj_E)), mj_okW mj_Tw mj_Mm mj_m454 x.1 x.2 :=
  (mj_ac (mj_e_st mj_M311 mj_nm311 mj_np311 (mj_w8 146 rfl rfl) (mj_w1 11 rfl rfl) mj_cd311 (mj_w10 65 rfl rfl))
   (mj_ac (mj_e_st mj_M311 mj_nm311 mj_np311 (mj_w8 146 rfl rfl) (mj_w1 11 rfl rfl) mj_cd311 (mj_w10 65 rfl rfl))
   (mj_ac (mj_e_vi mj_M243 mj_nm243 mj_np243 (mj_w7 66 rfl rfl) (rfl : mj_cls[17]? = some mj_K17) (mj_wp 45 rfl rfl) (mj_w7 64 rfl rfl) mj_cd243)
   (mj_ac (mj_e_gf "UncomputeryModel" (rfl : mj_cls[17]? = some mj_K17) (by decide) mj_u17 (Or.inl (mj_w7 22 rfl rfl)) (Or.inl rfl))
   (mj_ac (mj_e_gf "UncomputeryModel" (rfl : mj_cls[17]? = some mj_K17) (by decide) mj_u17 (Or.inl (mj_w7 22 rfl rfl)) (Or.inl rfl))
   mj_an)))))
theorem mj_ok454 : mj_okRow mj_Tw mj_Mm mj_r454 := ⟨by decide +kernel, by decide +kernel, (mj_w1 11 rfl rfl), by decide, Or.inl ⟨mj_cd454, rfl, rfl⟩, mj_wlE (by decide +kernel) mj_wl454⟩
theorem mj_wl455 : ∀ x ∈ ([(2, .putfield 38, 0, 17, 0), (20, .invokevirtual 328, 456, 2, 18)] : List (Nat × mj_E)), mj_okW mj_Tw mj_Mm mj_m455 x.1 x.2 :=
  (mj_ac (mj_e_pf "UncomputeryModel" (rfl : mj_cls[17]? = some mj_K17) (by decide) mj_u17 (Or.inl (mj_w7 11 rfl rfl)) (Or.inl rfl) mj_pd17 mj_ds17 (Or.inl rfl))
   (mj_ac (mj_e_vi mj_M456 mj_nm456 mj_np456 (mj_w12 88 rfl rfl) (rfl : mj_cls[17]? = some mj_K17) (mj_wp 88 rfl rfl) (mj_w12 86 rfl rfl) mj_cd456)
   mj_an))
theorem mj_ok455 : mj_okRow mj_Tw mj_Mm mj_r455 := ⟨by decide +kernel, by decide +kernel, (mj_w1 11 rfl rfl), by decide, Or.inl ⟨mj_cd455, rfl, rfl⟩, mj_wlE (by decide +kernel) mj_wl455⟩
theorem mj_wl456 : ∀ x ∈ ([(3, .getfield 34, 10, 17, 0)] : List (Nat × mj_E)), mj_okW mj_Tw mj_Mm mj_m456 x.1 x.2 :=
  (mj_ac (mj_e_gf "UncomputeryModel" (rfl : mj_cls[17]? = some mj_K17) (by decide) mj_u17 (Or.inl (mj_w7 22 rfl rfl)) (Or.inl rfl))
   mj_an)
theorem mj_ok456 : mj_okRow mj_Tw mj_Mm mj_r456 := ⟨by decide +kernel, by decide +kernel, (mj_w1 11 rfl rfl), by decide, Or.inl ⟨mj_cd456, rfl, rfl⟩, mj_wlE (by decide +kernel) mj_wl456⟩
theorem mj_wl457 : ∀ x ∈ ([(2, .putfield 38, 0, 17, 0), (18, .invokevirtual 328, 456, 2, 18), (39, .ldc_w 331, 3, 1090519040, 0)] : List (Nat × mj_E)), mj_okW mj_Tw mj_Mm mj_m457 x.1 x.2 :=
  (mj_ac (mj_e_pf "UncomputeryModel" (rfl : mj_cls[17]? = some mj_K17) (by decide) mj_u17 (Or.inl (mj_w7 11 rfl rfl)) (Or.inl rfl) mj_pd17 mj_ds17 (Or.inl rfl))
   (mj_ac (mj_e_vi mj_M456 mj_nm456 mj_np456 (mj_w12 88 rfl rfl) (rfl : mj_cls[17]? = some mj_K17) (mj_wp 88 rfl rfl) (mj_w12 86 rfl rfl) mj_cd456)
   (mj_ac (mj_e_lf (mj_w12 94 rfl rfl))
   mj_an)))
theorem mj_ok457 : mj_okRow mj_Tw mj_Mm mj_r457 := ⟨by decide +kernel, by decide +kernel, (mj_w1 11 rfl rfl), by decide, Or.inl ⟨mj_cd457, rfl, rfl⟩, mj_wlE (by decide +kernel) mj_wl457⟩
theorem mj_wl458 : ∀ x ∈ ([(5, .invokestatic 81, 311, 3, 0), (15, .invokestatic 81, 311, 3, 0), (26, .invokevirtual 92, 243, 2, 18), (36, .invokestatic 335, 459, 2, 0), (51, .invokevirtual 92, 243, 2, 18)] : List (Nat × mj_E)), mj_okW mj_Tw mj_Mm mj_m458 x.1 x.2 :=
  (mj_ac (mj_e_st mj_M311 mj_nm311 mj_np311 (mj_w8 146 rfl rfl) (mj_w1 11 rfl rfl) mj_cd311 (mj_w10 65 rfl rfl))
   (mj_ac (mj_e_st mj_M311 mj_nm311 mj_np311 (mj_w8 146 rfl rfl) (mj_w1 11 rfl rfl) mj_cd311 (mj_w10 65 rfl rfl))
   (mj_ac (mj_e_vi mj_M243 mj_nm243 mj_np243 (mj_w7 66 rfl rfl) (rfl : mj_cls[17]? = some mj_K17) (mj_wp 45 rfl rfl) (mj_w7 64 rfl rfl) mj_cd243)
   (mj_ac (mj_e_st mj_M459 mj_nm459 mj_np459 (mj_w12 100 rfl rfl) (mj_w1 11 rfl rfl) mj_cd459 (mj_w12 99 rfl rfl))
   (mj_ac (mj_e_vi mj_M243 mj_nm243 mj_np243 (mj_w7 66 rfl rfl) (rfl : mj_cls[17]? = some mj_K17) (mj_wp 45 rfl rfl) (mj_w7 64 rfl rfl) mj_cd243)
   mj_an)))))
theorem mj_ok458 : mj_okRow mj_Tw mj_Mm mj_r458 := ⟨by decide +kernel, by decide +kernel, (mj_w1 11 rfl rfl), by decide, Or.inl ⟨mj_cd458, rfl, rfl⟩, mj_wlE (by decide +kernel) mj_wl458⟩
theorem mj_wl459 : ∀ x ∈ ([(3, .newarray .int, 0, 0, 0), (8, .invokestatic 332, 62, 2, 0), (14, .newarray .int, 0, 0, 0), (90, .invokestatic 236, 198, 1, 0)] : List (Nat × mj_E)), mj_okW mj_Tw mj_Mm mj_m459 x.1 x.2 :=
  (mj_ac (mj_e_na rfl (by decide) (mj_w1 224 rfl rfl))
   (mj_ac (mj_e_st mj_M62 mj_nm62 mj_np62 (mj_w3 78 rfl rfl) (mj_w1 26 rfl rfl) mj_cd62 (mj_w12 102 rfl rfl))
   (mj_ac (mj_e_na rfl (by decide) (mj_w1 224 rfl rfl))
   (mj_ac (mj_e_st mj_M198 mj_nm198 mj_np198 (mj_w6 8 rfl rfl) (mj_w1 32 rfl rfl) mj_cd198 (mj_w11 97 rfl rfl))
   mj_an))))
theorem mj_ok459 : mj_okRow mj_Tw mj_Mm mj_r459 := ⟨by decide +kernel, by decide +kernel, (mj_w1 11 rfl rfl), by decide, Or.inl ⟨mj_cd459, rfl, rfl⟩, mj_wlE (by decide +kernel) mj_wl459⟩
theorem mj_wl460 : ∀ x ∈ ([(5, .invokestatic 81, 311, 3, 0), (16, .invokevirtual 92, 243, 2, 18), (28, .invokestatic 335, 459, 2, 0)] : List (Nat × mj_E)), mj_okW mj_Tw mj_Mm mj_m460 x.1 x.2 :=
  (mj_ac (mj_e_st mj_M311 mj_nm311 mj_np311 (mj_w8 146 rfl rfl) (mj_w1 11 rfl rfl) mj_cd311 (mj_w10 65 rfl rfl))
   (mj_ac (mj_e_vi mj_M243 mj_nm243 mj_np243 (mj_w7 66 rfl rfl) (rfl : mj_cls[17]? = some mj_K17) (mj_wp 45 rfl rfl) (mj_w7 64 rfl rfl) mj_cd243)
   (mj_ac (mj_e_st mj_M459 mj_nm459 mj_np459 (mj_w12 100 rfl rfl) (mj_w1 11 rfl rfl) mj_cd459 (mj_w12 99 rfl rfl))
   mj_an)))
theorem mj_ok460 : mj_okRow mj_Tw mj_Mm mj_r460 := ⟨by decide +kernel, by decide +kernel, (mj_w1 11 rfl rfl), by decide, Or.inl ⟨mj_cd460, rfl, rfl⟩, mj_wlE (by decide +kernel) mj_wl460⟩
theorem mj_wl461 : ∀ x ∈ ([(2, .putfield 38, 0, 17, 0), (6, .getfield 10, 1, 17, 0), (9, .invokeinterface 85 1, 345, 1, 19)] : List (Nat × mj_E)), mj_okW mj_Tw mj_Mm mj_m461 x.1 x.2 :=
  (mj_ac (mj_e_pf "UncomputeryModel" (rfl : mj_cls[17]? = some mj_K17) (by decide) mj_u17 (Or.inl (mj_w7 11 rfl rfl)) (Or.inl rfl) mj_pd17 mj_ds17 (Or.inl rfl))
   (mj_ac (mj_e_gf "UncomputeryModel" (rfl : mj_cls[17]? = some mj_K17) (by decide) mj_u17 (Or.inl (mj_w7 12 rfl rfl)) (Or.inl rfl))
   (mj_ac (mj_e_if mj_M345 mj_nm345 mj_cd345 (rfl : mj_cls[18]? = some mj_K18) (x0 := ⟨"java/util/List", "size", "()I"⟩) (by unfold mj_np; decide +kernel) (by unfold mj_noMH; decide +kernel) (mj_w9 172 rfl rfl) (mj_w9 173 rfl rfl) (mj_w9 167 rfl rfl) (mj_w9 169 rfl rfl) (mj_w9 168 rfl rfl) (mj_w9 170 rfl rfl) (mj_w9 171 rfl rfl) (mj_w9 94 rfl rfl))
   mj_an)))
theorem mj_ok461 : mj_okRow mj_Tw mj_Mm mj_r461 := ⟨by decide +kernel, by decide +kernel, (mj_w1 11 rfl rfl), by decide, Or.inl ⟨mj_cd461, rfl, rfl⟩, mj_wlE (by decide +kernel) mj_wl461⟩
theorem mj_wl462 : ∀ x ∈ ([(2, .putfield 38, 0, 17, 0), (5, .ldc2_w 338, 7, 0, 0), (10, .getfield 21, 2, 17, 0), (13, .getfield 166, 0, 19, 0), (37, .ldc2_w 340, 31, 0, 0), (57, .getfield 21, 2, 17, 0), (60, .getfield 168, 7, 19, 0), (66, .ldc2_w 340, 31, 0, 0), (72, .getfield 21, 2, 17, 0), (75, .getfield 171, 1, 19, 0), (89, .ldc2_w 340, 31, 0, 0), (95, .getfield 233, 5, 17, 0)] : List (Nat × mj_E)), mj_okW mj_Tw mj_Mm mj_m462 x.1 x.2 :=
  (mj_ac (mj_e_pf "UncomputeryModel" (rfl : mj_cls[17]? = some mj_K17) (by decide) mj_u17 (Or.inl (mj_w7 11 rfl rfl)) (Or.inl rfl) mj_pd17 mj_ds17 (Or.inl rfl))
   (mj_ac (mj_e_l4 (mj_w12 115 rfl rfl))
   (mj_ac (mj_e_gf "UncomputeryModel" (rfl : mj_cls[17]? = some mj_K17) (by decide) mj_u17 (Or.inl (mj_w7 14 rfl rfl)) (Or.inl rfl))
   (mj_ac (mj_e_gf "UncomputeryModel$World" (rfl : mj_cls[19]? = some mj_K19) (by decide) mj_u19 (Or.inr ⟨"UncomputeryModel", (mj_w6 207 rfl rfl)⟩) (Or.inl rfl))
   (mj_ac (mj_e_l4 (mj_w12 116 rfl rfl))
   (mj_ac (mj_e_gf "UncomputeryModel" (rfl : mj_cls[17]? = some mj_K17) (by decide) mj_u17 (Or.inl (mj_w7 14 rfl rfl)) (Or.inl rfl))
   (mj_ac (mj_e_gf "UncomputeryModel$World" (rfl : mj_cls[19]? = some mj_K19) (by decide) mj_u19 (Or.inr ⟨"UncomputeryModel", (mj_w6 221 rfl rfl)⟩) (Or.inl rfl))
   (mj_ac (mj_e_l4 (mj_w12 116 rfl rfl))
   (mj_ac (mj_e_gf "UncomputeryModel" (rfl : mj_cls[17]? = some mj_K17) (by decide) mj_u17 (Or.inl (mj_w7 14 rfl rfl)) (Or.inl rfl))
   (mj_ac (mj_e_gf "UncomputeryModel$World" (rfl : mj_cls[19]? = some mj_K19) (by decide) mj_u19 (Or.inr ⟨"UncomputeryModel", (mj_w6 209 rfl rfl)⟩) (Or.inl rfl))
   (mj_ac (mj_e_l4 (mj_w12 116 rfl rfl))
   (mj_ac (mj_e_gf "UncomputeryModel" (rfl : mj_cls[17]? = some mj_K17) (by decide) mj_u17 (Or.inl (mj_w7 17 rfl rfl)) (Or.inl rfl))
   mj_an))))))))))))
theorem mj_ok462 : mj_okRow mj_Tw mj_Mm mj_r462 := ⟨by decide +kernel, by decide +kernel, (mj_w1 11 rfl rfl), by decide, Or.inl ⟨mj_cd462, rfl, rfl⟩, mj_wlE (by decide +kernel) mj_wl462⟩
theorem mj_wl463 : ∀ x ∈ ([(3, .getfield 10, 1, 17, 0), (6, .invokeinterface 42 1, 348, 1, 19), (13, .invokeinterface 48 1, 350, 1, 28), (22, .invokeinterface 54 1, 351, 1, 28), (27, .checkcast 121, 26, 0, 0), (33, .getfield 154, 2, 26, 0), (36, .invokeinterface 85 1, 345, 1, 19), (48, .getfield 10, 1, 17, 0), (51, .invokeinterface 265 1, 421, 1, 19), (64, .invokevirtual 92, 243, 2, 18), (77, .getfield 10, 1, 17, 0), (80, .invokeinterface 85 1, 345, 1, 19)] : List (Nat × mj_E)), mj_okW mj_Tw mj_Mm mj_m463 x.1 x.2 :=
  (mj_ac (mj_e_gf "UncomputeryModel" (rfl : mj_cls[17]? = some mj_K17) (by decide) mj_u17 (Or.inl (mj_w7 12 rfl rfl)) (Or.inl rfl))
   (mj_ac (mj_e_if mj_M348 mj_nm348 mj_cd348 (rfl : mj_cls[18]? = some mj_K18) (x0 := ⟨"java/util/List", "iterator", "()Ljava/util/Iterator;"⟩) (by unfold mj_np; decide +kernel) (by unfold mj_noMH; decide +kernel) (mj_w9 193 rfl rfl) (mj_w9 194 rfl rfl) (mj_w10 108 rfl rfl) (mj_w9 190 rfl rfl) (mj_w9 189 rfl rfl) (mj_w9 191 rfl rfl) (mj_w9 192 rfl rfl) (mj_w9 94 rfl rfl))
   (mj_ac (mj_e_if mj_M350 mj_nm350 mj_cd350 (rfl : mj_cls[27]? = some mj_K27) (x0 := ⟨"java/util/Iterator", "hasNext", "()Z"⟩) (by unfold mj_np; decide +kernel) (by unfold mj_noMH; decide +kernel) (mj_w9 222 rfl rfl) (mj_w9 223 rfl rfl) (mj_w10 110 rfl rfl) (mj_w9 218 rfl rfl) (mj_w9 217 rfl rfl) (mj_w9 220 rfl rfl) (mj_w9 221 rfl rfl) (mj_w9 219 rfl rfl))
   (mj_ac (mj_e_if mj_M351 mj_nm351 mj_cd351 (rfl : mj_cls[27]? = some mj_K27) (x0 := ⟨"java/util/Iterator", "next", "()Ljava/lang/Object;"⟩) (by unfold mj_np; decide +kernel) (by unfold mj_noMH; decide +kernel) (mj_w9 231 rfl rfl) (mj_w9 232 rfl rfl) (mj_w10 112 rfl rfl) (mj_w9 228 rfl rfl) (mj_w9 227 rfl rfl) (mj_w9 229 rfl rfl) (mj_w9 230 rfl rfl) (mj_w9 219 rfl rfl))
   (mj_ac (mj_e_cc0 rfl (mj_w9 175 rfl rfl))
   (mj_ac (mj_e_gf "UncomputeryModel$Procedure" (rfl : mj_cls[26]? = some mj_K26) (by decide) mj_u26 (Or.inr ⟨"UncomputeryModel", (mj_w10 47 rfl rfl)⟩) (Or.inl rfl))
   (mj_ac (mj_e_if mj_M345 mj_nm345 mj_cd345 (rfl : mj_cls[18]? = some mj_K18) (x0 := ⟨"java/util/List", "size", "()I"⟩) (by unfold mj_np; decide +kernel) (by unfold mj_noMH; decide +kernel) (mj_w9 172 rfl rfl) (mj_w9 173 rfl rfl) (mj_w9 167 rfl rfl) (mj_w9 169 rfl rfl) (mj_w9 168 rfl rfl) (mj_w9 170 rfl rfl) (mj_w9 171 rfl rfl) (mj_w9 94 rfl rfl))
   (mj_ac (mj_e_gf "UncomputeryModel" (rfl : mj_cls[17]? = some mj_K17) (by decide) mj_u17 (Or.inl (mj_w7 12 rfl rfl)) (Or.inl rfl))
   (mj_ac (mj_e_if mj_M421 mj_nm421 mj_cd421 (rfl : mj_cls[18]? = some mj_K18) (x0 := ⟨"java/util/List", "isEmpty", "()Z"⟩) (by unfold mj_np; decide +kernel) (by unfold mj_noMH; decide +kernel) (mj_w11 154 rfl rfl) (mj_w11 155 rfl rfl) (mj_w11 149 rfl rfl) (mj_w11 151 rfl rfl) (mj_w11 150 rfl rfl) (mj_w11 152 rfl rfl) (mj_w11 153 rfl rfl) (mj_w9 94 rfl rfl))
   (mj_ac (mj_e_vi mj_M243 mj_nm243 mj_np243 (mj_w7 66 rfl rfl) (rfl : mj_cls[17]? = some mj_K17) (mj_wp 45 rfl rfl) (mj_w7 64 rfl rfl) mj_cd243)
   (mj_ac (mj_e_gf "UncomputeryModel" (rfl : mj_cls[17]? = some mj_K17) (by decide) mj_u17 (Or.inl (mj_w7 12 rfl rfl)) (Or.inl rfl))
   (mj_ac (mj_e_if mj_M345 mj_nm345 mj_cd345 (rfl : mj_cls[18]? = some mj_K18) (x0 := ⟨"java/util/List", "size", "()I"⟩) (by unfold mj_np; decide +kernel) (by unfold mj_noMH; decide +kernel) (mj_w9 172 rfl rfl) (mj_w9 173 rfl rfl) (mj_w9 167 rfl rfl) (mj_w9 169 rfl rfl) (mj_w9 168 rfl rfl) (mj_w9 170 rfl rfl) (mj_w9 171 rfl rfl) (mj_w9 94 rfl rfl))
   mj_an))))))))))))
theorem mj_ok463 : mj_okRow mj_Tw mj_Mm mj_r463 := ⟨by decide +kernel, by decide +kernel, (mj_w1 11 rfl rfl), by decide, Or.inl ⟨mj_cd463, rfl, rfl⟩, mj_wlE (by decide +kernel) mj_wl463⟩
theorem mj_wl464 : ∀ x ∈ ([(2, .putfield 38, 0, 17, 0)] : List (Nat × mj_E)), mj_okW mj_Tw mj_Mm mj_m464 x.1 x.2 :=
  (mj_ac (mj_e_pf "UncomputeryModel" (rfl : mj_cls[17]? = some mj_K17) (by decide) mj_u17 (Or.inl (mj_w7 11 rfl rfl)) (Or.inl rfl) mj_pd17 mj_ds17 (Or.inl rfl))
   mj_an)
theorem mj_ok464 : mj_okRow mj_Tw mj_Mm mj_r464 := ⟨by decide +kernel, by decide +kernel, (mj_w1 11 rfl rfl), by decide, Or.inl ⟨mj_cd464, rfl, rfl⟩, mj_wlE (by decide +kernel) mj_wl464⟩
