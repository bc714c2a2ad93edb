theorem mj_wl432 : ∀ x ∈ ([(0, .new 20, 20, 0, 0), (4, .invokespecial 22, 243, 1, 21), (9, .invokevirtual 25, 247, 2, 21), (13, .invokevirtual 29, 287, 2, 21), (18, .invokevirtual 25, 247, 2, 21), (22, .getfield 48, 1, 18, 0), (25, .invokevirtual 29, 287, 2, 21), (28, .invokevirtual 32, 278, 1, 21)] : List (Nat × mj_E)), mj_okW mj_Tw mj_Mm mj_m432 x.1 x.2 :=
  (mj_ac (mj_e_new mj_nw20 (mj_w11 213 rfl rfl))
   (mj_ac (mj_e_in mj_M243 mj_nm243 mj_np243 (mj_w7 67 rfl rfl) mj_cd243 rfl rfl (mj_w11 214 rfl rfl))
   (mj_ac (mj_e_vi mj_M247 mj_nm247 mj_np247 (mj_w7 95 rfl rfl) (rfl : mj_cls[20]? = some mj_K20) (mj_w7 96 rfl rfl) (mj_w11 216 rfl rfl) mj_cd247)
   (mj_ac (mj_e_vi mj_M287 mj_nm287 mj_np287 (mj_w8 22 rfl rfl) (rfl : mj_cls[20]? = some mj_K20) (mj_w8 23 rfl rfl) (mj_w11 217 rfl rfl) mj_cd287)
   (mj_ac (mj_e_vi mj_M247 mj_nm247 mj_np247 (mj_w7 95 rfl rfl) (rfl : mj_cls[20]? = some mj_K20) (mj_w7 96 rfl rfl) (mj_w11 216 rfl rfl) mj_cd247)
   (mj_ac (mj_e_gf "java/util/ArrayList" (rfl : mj_cls[18]? = some mj_K18) (by decide) mj_u18 (Or.inl (mj_w6 184 rfl rfl)) (Or.inl rfl))
   (mj_ac (mj_e_vi mj_M287 mj_nm287 mj_np287 (mj_w8 22 rfl rfl) (rfl : mj_cls[20]? = some mj_K20) (mj_w8 23 rfl rfl) (mj_w11 217 rfl rfl) mj_cd287)
   (mj_ac (mj_e_vi mj_M278 mj_nm278 mj_np278 (mj_w7 223 rfl rfl) (rfl : mj_cls[20]? = some mj_K20) (mj_w7 224 rfl rfl) (mj_w11 219 rfl rfl) mj_cd278)
   mj_an))))))))
theorem mj_ok432 : mj_okRow mj_Tw mj_Mm mj_r432 := ⟨by decide +kernel, by decide +kernel, (mj_w1 14 rfl rfl), by decide, Or.inl ⟨mj_cd432, rfl, rfl⟩, mj_wlE (by decide +kernel) mj_wl432⟩
theorem mj_wl433 : ∀ x ∈ ([(2, .getfield 63, 2, 18, 0), (7, .putfield 63, 2, 18, 0), (11, .getfield 9, 0, 18, 0), (16, .getfield 48, 1, 18, 0), (23, .putfield 48, 1, 18, 0)] : List (Nat × mj_E)), mj_okW mj_Tw mj_Mm mj_m433 x.1 x.2 :=
  (mj_ac (mj_e_gf "java/util/ArrayList" (rfl : mj_cls[18]? = some mj_K18) (by decide) mj_u18 (Or.inl (mj_w6 188 rfl rfl)) (Or.inr (mj_w6 187 rfl rfl)))
   (mj_ac (mj_e_pf "java/util/ArrayList" (rfl : mj_cls[18]? = some mj_K18) (by decide) mj_u18 (Or.inl (mj_w6 188 rfl rfl)) (Or.inr (mj_w6 187 rfl rfl)) mj_pd18 mj_ds18 (Or.inl rfl))
   (mj_ac (mj_e_gf "java/util/ArrayList" (rfl : mj_cls[18]? = some mj_K18) (by decide) mj_u18 (Or.inl (mj_w6 181 rfl rfl)) (Or.inl rfl))
   (mj_ac (mj_e_gf "java/util/ArrayList" (rfl : mj_cls[18]? = some mj_K18) (by decide) mj_u18 (Or.inl (mj_w6 184 rfl rfl)) (Or.inl rfl))
   (mj_ac (mj_e_pf "java/util/ArrayList" (rfl : mj_cls[18]? = some mj_K18) (by decide) mj_u18 (Or.inl (mj_w6 184 rfl rfl)) (Or.inl rfl) mj_pd18 mj_ds18 (Or.inl rfl))
   mj_an)))))
theorem mj_ok433 : mj_okRow mj_Tw mj_Mm mj_r433 := ⟨by decide +kernel, by decide +kernel, (mj_w1 14 rfl rfl), by decide, Or.inl ⟨mj_cd433, rfl, rfl⟩, mj_wlE (by decide +kernel) mj_wl433⟩
theorem mj_wl434 : ∀ x ∈ ([(1, .invokeinterface 42 1, 435, 1, 19), (9, .getfield 63, 2, 18, 0), (14, .putfield 63, 2, 18, 0), (28, .getfield 9, 0, 18, 0), (36, .getfield 48, 1, 18, 0), (51, .invokevirtual 69, 339, 2, 19), (63, .invokestatic 112, 9000, 5, 0), (71, .putfield 48, 1, 18, 0)] : List (Nat × mj_E)), mj_okW mj_Tw mj_Mm mj_m434 x.1 x.2 :=
  (mj_ac (mj_e_if mj_M435 mj_nm435 mj_cd435 (rfl : mj_cls[18]? = some mj_K18) (x0 := ⟨"java/util/Collection", "toArray", "()[Ljava/lang/Object;"⟩) (by unfold mj_np; decide +kernel) (by unfold mj_noMH; decide +kernel) (mj_w12 6 rfl rfl) (mj_w12 7 rfl rfl) (mj_w12 0 rfl rfl) (mj_w12 2 rfl rfl) (mj_w12 1 rfl rfl) (mj_w12 4 rfl rfl) (mj_w12 5 rfl rfl) (mj_w12 3 rfl rfl))
   (mj_ac (mj_e_gf "java/util/ArrayList" (rfl : mj_cls[18]? = some mj_K18) (by decide) mj_u18 (Or.inl (mj_w6 188 rfl rfl)) (Or.inr (mj_w6 187 rfl rfl)))
   (mj_ac (mj_e_pf "java/util/ArrayList" (rfl : mj_cls[18]? = some mj_K18) (by decide) mj_u18 (Or.inl (mj_w6 188 rfl rfl)) (Or.inr (mj_w6 187 rfl rfl)) mj_pd18 mj_ds18 (Or.inl rfl))
   (mj_ac (mj_e_gf "java/util/ArrayList" (rfl : mj_cls[18]? = some mj_K18) (by decide) mj_u18 (Or.inl (mj_w6 181 rfl rfl)) (Or.inl rfl))
   (mj_ac (mj_e_gf "java/util/ArrayList" (rfl : mj_cls[18]? = some mj_K18) (by decide) mj_u18 (Or.inl (mj_w6 184 rfl rfl)) (Or.inl rfl))
   (mj_ac (mj_e_vi mj_M339 mj_nm339 mj_np339 (mj_w9 106 rfl rfl) (rfl : mj_cls[18]? = some mj_K18) (mj_wp 58 rfl rfl) (mj_w9 104 rfl rfl) mj_cd339)
   (mj_ac (mj_e_ac (mj_w11 166 rfl rfl) (mj_w5 219 rfl rfl) (mj_w5 218 rfl rfl) (mj_w1 27 rfl rfl))
   (mj_ac (mj_e_pf "java/util/ArrayList" (rfl : mj_cls[18]? = some mj_K18) (by decide) mj_u18 (Or.inl (mj_w6 184 rfl rfl)) (Or.inl rfl) mj_pd18 mj_ds18 (Or.inl rfl))
   mj_an))))))))
theorem mj_ok434 : mj_okRow mj_Tw mj_Mm mj_r434 := ⟨by decide +kernel, by decide +kernel, (mj_w1 14 rfl rfl), by decide, Or.inl ⟨mj_cd434, rfl, rfl⟩, mj_wlE (by decide +kernel) mj_wl434⟩
theorem mj_wl435 : ∀ x ∈ ([(1, .getfield 9, 0, 18, 0), (5, .getfield 48, 1, 18, 0), (8, .invokestatic 66, 340, 2, 0)] : List (Nat × mj_E)), mj_okW mj_Tw mj_Mm mj_m435 x.1 x.2 :=
  (mj_ac (mj_e_gf "java/util/ArrayList" (rfl : mj_cls[18]? = some mj_K18) (by decide) mj_u18 (Or.inl (mj_w6 181 rfl rfl)) (Or.inl rfl))
   (mj_ac (mj_e_gf "java/util/ArrayList" (rfl : mj_cls[18]? = some mj_K18) (by decide) mj_u18 (Or.inl (mj_w6 184 rfl rfl)) (Or.inl rfl))
   (mj_ac (mj_e_st mj_M340 mj_nm340 mj_np340 (mj_w9 110 rfl rfl) (mj_w1 26 rfl rfl) mj_cd340 (mj_w9 109 rfl rfl))
   mj_an)))
theorem mj_ok435 : mj_okRow mj_Tw mj_Mm mj_r435 := ⟨by decide +kernel, by decide +kernel, (mj_w1 14 rfl rfl), by decide, Or.inl ⟨mj_cd435, rfl, rfl⟩, mj_wlE (by decide +kernel) mj_wl435⟩
theorem mj_wl436 : ∀ x ∈ ([(2, .putfield 38, 0, 17, 0), (6, .getfield 31, 6, 17, 0), (9, .invokeinterface 85 1, 344, 1, 19), (19, .getfield 31, 6, 17, 0), (22, .invokeinterface 85 1, 344, 1, 19), (32, .invokevirtual 286, 437, 2, 18), (48, .getfield 31, 6, 17, 0), (52, .invokeinterface 266 2, 421, 2, 19), (59, .getfield 31, 6, 17, 0), (63, .invokeinterface 266 2, 421, 2, 19), (76, .getfield 31, 6, 17, 0), (79, .invokeinterface 85 1, 344, 1, 19)] : List (Nat × mj_E)), mj_okW mj_Tw mj_Mm mj_m436 x.1 x.2 :=
  (mj_ac (mj_e_pf "UncomputeryModel" (rfl : mj_cls[17]? = some mj_K17) (by decide) mj_u17 (Or.inl (mj_w7 7 rfl rfl)) (Or.inl rfl) mj_pd17 mj_ds17 (Or.inl rfl))
   (mj_ac (mj_e_gf "UncomputeryModel" (rfl : mj_cls[17]? = some mj_K17) (by decide) mj_u17 (Or.inl (mj_w7 14 rfl rfl)) (Or.inl rfl))
   (mj_ac (mj_e_if mj_M344 mj_nm344 mj_cd344 (rfl : mj_cls[18]? = some mj_K18) (x0 := ⟨"java/util/List", "size", "()I"⟩) (by unfold mj_np; decide +kernel) (by unfold mj_noMH; decide +kernel) (mj_w9 168 rfl rfl) (mj_w9 169 rfl rfl) (mj_w9 163 rfl rfl) (mj_w9 165 rfl rfl) (mj_w9 164 rfl rfl) (mj_w9 166 rfl rfl) (mj_w9 167 rfl rfl) (mj_w9 90 rfl rfl))
   (mj_ac (mj_e_gf "UncomputeryModel" (rfl : mj_cls[17]? = some mj_K17) (by decide) mj_u17 (Or.inl (mj_w7 14 rfl rfl)) (Or.inl rfl))
   (mj_ac (mj_e_if mj_M344 mj_nm344 mj_cd344 (rfl : mj_cls[18]? = some mj_K18) (x0 := ⟨"java/util/List", "size", "()I"⟩) (by unfold mj_np; decide +kernel) (by unfold mj_noMH; decide +kernel) (mj_w9 168 rfl rfl) (mj_w9 169 rfl rfl) (mj_w9 163 rfl rfl) (mj_w9 165 rfl rfl) (mj_w9 164 rfl rfl) (mj_w9 166 rfl rfl) (mj_w9 167 rfl rfl) (mj_w9 90 rfl rfl))
   (mj_ac (mj_e_vi mj_M437 mj_nm437 mj_np437 (mj_w12 15 rfl rfl) (rfl : mj_cls[17]? = some mj_K17) (mj_wp 81 rfl rfl) (mj_w12 13 rfl rfl) mj_cd437)
   (mj_ac (mj_e_gf "UncomputeryModel" (rfl : mj_cls[17]? = some mj_K17) (by decide) mj_u17 (Or.inl (mj_w7 14 rfl rfl)) (Or.inl rfl))
   (mj_ac (mj_e_if mj_M421 mj_nm421 mj_cd421 (rfl : mj_cls[18]? = some mj_K18) (x0 := ⟨"java/util/List", "remove", "(I)Ljava/lang/Object;"⟩) (by unfold mj_np; decide +kernel) (by unfold mj_noMH; decide +kernel) (mj_w11 159 rfl rfl) (mj_w11 160 rfl rfl) (mj_w11 154 rfl rfl) (mj_w11 156 rfl rfl) (mj_w11 155 rfl rfl) (mj_w11 157 rfl rfl) (mj_w11 158 rfl rfl) (mj_w9 90 rfl rfl))
   (mj_ac (mj_e_gf "UncomputeryModel" (rfl : mj_cls[17]? = some mj_K17) (by decide) mj_u17 (Or.inl (mj_w7 14 rfl rfl)) (Or.inl rfl))
   (mj_ac (mj_e_if mj_M421 mj_nm421 mj_cd421 (rfl : mj_cls[18]? = some mj_K18) (x0 := ⟨"java/util/List", "remove", "(I)Ljava/lang/Object;"⟩) (by unfold mj_np; decide +kernel) (by unfold mj_noMH; decide +kernel) (mj_w11 159 rfl rfl) (mj_w11 160 rfl rfl) (mj_w11 154 rfl rfl) (mj_w11 156 rfl rfl) (mj_w11 155 rfl rfl) (mj_w11 157 rfl rfl) (mj_w11 158 rfl rfl) (mj_w9 90 rfl rfl))
   (mj_ac (mj_e_gf "UncomputeryModel" (rfl : mj_cls[17]? = some mj_K17) (by decide) mj_u17 (Or.inl (mj_w7 14 rfl rfl)) (Or.inl rfl))
   (mj_ac (mj_e_if mj_M344 mj_nm344 mj_cd344 (rfl : mj_cls[18]? = some mj_K18) (x0 := ⟨"java/util/List", "size", "()I"⟩) (by unfold mj_np; decide +kernel) (by unfold mj_noMH; decide +kernel) (mj_w9 168 rfl rfl) (mj_w9 169 rfl rfl) (mj_w9 163 rfl rfl) (mj_w9 165 rfl rfl) (mj_w9 164 rfl rfl) (mj_w9 166 rfl rfl) (mj_w9 167 rfl rfl) (mj_w9 90 rfl rfl))
   mj_an))))))))))))
theorem mj_ok436 : mj_okRow mj_Tw mj_Mm mj_r436 := ⟨by decide +kernel, by decide +kernel, (mj_w1 11 rfl rfl), by decide, Or.inl ⟨mj_cd436, rfl, rfl⟩, mj_wlE (by decide +kernel) mj_wl436⟩
theorem mj_wl437 : ∀ x ∈ ([(6, .getfield 31, 6, 17, 0), (9, .invokeinterface 85 1, 344, 1, 19), (18, .getfield 31, 6, 17, 0), (22, .invokeinterface 133 2, 357, 2, 19), (27, .checkcast 237, 29, 0, 0), (30, .invokevirtual 255, 423, 1, 30), (34, .getfield 31, 6, 17, 0), (38, .invokeinterface 133 2, 357, 2, 19), (43, .checkcast 237, 29, 0, 0), (46, .invokevirtual 255, 423, 1, 30), (55, .getfield 31, 6, 17, 0), (59, .invokeinterface 133 2, 357, 2, 19), (64, .checkcast 237, 29, 0, 0), (67, .invokevirtual 255, 423, 1, 30), (71, .getfield 31, 6, 17, 0), (75, .invokeinterface 133 2, 357, 2, 19), (80, .checkcast 237, 29, 0, 0), (83, .invokevirtual 255, 423, 1, 30), (86, .invokestatic 282, 438, 2, 0)] : List (Nat × mj_E)), mj_okW mj_Tw mj_Mm mj_m437 x.1 x.2 :=
  (mj_ac (mj_e_gf "UncomputeryModel" (rfl : mj_cls[17]? = some mj_K17) (by decide) mj_u17 (Or.inl (mj_w7 14 rfl rfl)) (Or.inl rfl))
   (mj_ac (mj_e_if mj_M344 mj_nm344 mj_cd344 (rfl : mj_cls[18]? = some mj_K18) (x0 := ⟨"java/util/List", "size", "()I"⟩) (by unfold mj_np; decide +kernel) (by unfold mj_noMH; decide +kernel) (mj_w9 168 rfl rfl) (mj_w9 169 rfl rfl) (mj_w9 163 rfl rfl) (mj_w9 165 rfl rfl) (mj_w9 164 rfl rfl) (mj_w9 166 rfl rfl) (mj_w9 167 rfl rfl) (mj_w9 90 rfl rfl))
   (mj_ac (mj_e_gf "UncomputeryModel" (rfl : mj_cls[17]? = some mj_K17) (by decide) mj_u17 (Or.inl (mj_w7 14 rfl rfl)) (Or.inl rfl))
   (mj_ac (mj_e_if mj_M357 mj_nm357 mj_cd357 (rfl : mj_cls[18]? = some mj_K18) (x0 := ⟨"java/util/List", "get", "(I)Ljava/lang/Object;"⟩) (by unfold mj_np; decide +kernel) (by unfold mj_noMH; decide +kernel) (mj_w10 68 rfl rfl) (mj_w10 69 rfl rfl) (mj_w10 63 rfl rfl) (mj_w10 65 rfl rfl) (mj_w10 64 rfl rfl) (mj_w10 66 rfl rfl) (mj_w10 67 rfl rfl) (mj_w9 90 rfl rfl))
   (mj_ac (mj_e_cc0 rfl (mj_w11 167 rfl rfl))
   (mj_ac (mj_e_vi mj_M423 mj_nm423 mj_np423 (mj_w11 169 rfl rfl) (rfl : mj_cls[29]? = some mj_K29) (mj_w11 170 rfl rfl) (mj_w11 168 rfl rfl) mj_cd423)
   (mj_ac (mj_e_gf "UncomputeryModel" (rfl : mj_cls[17]? = some mj_K17) (by decide) mj_u17 (Or.inl (mj_w7 14 rfl rfl)) (Or.inl rfl))
   (mj_ac (mj_e_if mj_M357 mj_nm357 mj_cd357 (rfl : mj_cls[18]? = some mj_K18) (x0 := ⟨"java/util/List", "get", "(I)Ljava/lang/Object;"⟩) (by unfold mj_np; decide +kernel) (by unfold mj_noMH; decide +kernel) (mj_w10 68 rfl rfl) (mj_w10 69 rfl rfl) (mj_w10 63 rfl rfl) (mj_w10 65 rfl rfl) (mj_w10 64 rfl rfl) (mj_w10 66 rfl rfl) (mj_w10 67 rfl rfl) (mj_w9 90 rfl rfl))
   (mj_ac (mj_e_cc0 rfl (mj_w11 167 rfl rfl))
   (mj_ac (mj_e_vi mj_M423 mj_nm423 mj_np423 (mj_w11 169 rfl rfl) (rfl : mj_cls[29]? = some mj_K29) (mj_w11 170 rfl rfl) (mj_w11 168 rfl rfl) mj_cd423)
   (mj_ac (mj_e_gf "UncomputeryModel" (rfl : mj_cls[17]? = some mj_K17) (by decide) mj_u17 (Or.inl (mj_w7 14 rfl rfl)) (Or.inl rfl))
   (mj_ac (mj_e_if mj_M357 mj_nm357 mj_cd357 (rfl : mj_cls[18]? = some mj_K18) (x0 := ⟨"java/util/List", "get", "(I)Ljava/lang/Object;"⟩) (by unfold mj_np; decide +kernel) (by unfold mj_noMH; decide +kernel) (mj_w10 68 rfl rfl) (mj_w10 69 rfl rfl) (mj_w10 63 rfl rfl) (mj_w10 65 rfl rfl) (mj_w10 64 rfl rfl) (mj_w10 66 rfl rfl) (mj_w10 67 rfl rfl) (mj_w9 90 rfl rfl))
   (mj_ac (mj_e_cc0 rfl (mj_w11 167 rfl rfl))
   (mj_ac (mj_e_vi mj_M423 mj_nm423 mj_np423 (mj_w11 169 rfl rfl) (rfl : mj_cls[29]? = some mj_K29) (mj_w11 170 rfl rfl) (mj_w11 168 rfl rfl) mj_cd423)
   (mj_ac (mj_e_gf "UncomputeryModel" (rfl : mj_cls[17]? = some mj_K17) (by decide) mj_u17 (Or.inl (mj_w7 14 rfl rfl)) (Or.inl rfl))
   (mj_ac (mj_e_if mj_M357 mj_nm357 mj_cd357 (rfl : mj_cls[18]? = some mj_K18) (x0 := ⟨"java/util/List", "get", "(I)Ljava/lang/Object;"⟩) (by unfold mj_np; decide +kernel) (by unfold mj_noMH; decide +kernel) (mj_w10 68 rfl rfl) (mj_w10 69 rfl rfl) (mj_w10 63 rfl rfl) (mj_w10 65 rfl rfl) (mj_w10 64 rfl rfl) (mj_w10 66 rfl rfl) (mj_w10 67 rfl rfl) (mj_w9 90 rfl rfl))
   (mj_ac (mj_e_cc0 rfl (mj_w11 167 rfl rfl))
   (mj_ac (mj_e_vi mj_M423 mj_nm423 mj_np423 (mj_w11 169 rfl rfl) (rfl : mj_cls[29]? = some mj_K29) (mj_w11 170 rfl rfl) (mj_w11 168 rfl rfl) mj_cd423)
   (mj_ac (mj_e_st mj_M438 mj_nm438 mj_np438 (mj_w12 18 rfl rfl) (mj_w1 11 rfl rfl) mj_cd438 (mj_w12 17 rfl rfl))
   mj_an)))))))))))))))))))
theorem mj_ok437 : mj_okRow mj_Tw mj_Mm mj_r437 := ⟨by decide +kernel, by decide +kernel, (mj_w1 11 rfl rfl), by decide, Or.inl ⟨mj_cd437, rfl, rfl⟩, mj_wlE (by decide +kernel) mj_wl437⟩
theorem mj_wl438 : ∀ x ∈ ([] : List (Nat × mj_E)), mj_okW mj_Tw mj_Mm mj_m438 x.1 x.2 :=
  mj_an
theorem mj_ok438 : mj_okRow mj_Tw mj_Mm mj_r438 := ⟨by decide +kernel, by decide +kernel, (mj_w1 11 rfl rfl), by decide, Or.inl ⟨mj_cd438, rfl, rfl⟩, mj_wlE (by decide +kernel) mj_wl438⟩
theorem mj_wl439 : ∀ x ∈ ([(2, .putfield 38, 0, 17, 0), (6, .invokevirtual 292, 440, 1, 18), (9, .invokeinterface 85 1, 344, 1, 19)] : List (Nat × mj_E)), mj_okW mj_Tw mj_Mm mj_m439 x.1 x.2 :=
  (mj_ac (mj_e_pf "UncomputeryModel" (rfl : mj_cls[17]? = some mj_K17) (by decide) mj_u17 (Or.inl (mj_w7 7 rfl rfl)) (Or.inl rfl) mj_pd17 mj_ds17 (Or.inl rfl))
   (mj_ac (mj_e_vi mj_M440 mj_nm440 mj_np440 (mj_w12 26 rfl rfl) (rfl : mj_cls[17]? = some mj_K17) (mj_wp 82 rfl rfl) (mj_w12 24 rfl rfl) mj_cd440)
   (mj_ac (mj_e_if mj_M344 mj_nm344 mj_cd344 (rfl : mj_cls[18]? = some mj_K18) (x0 := ⟨"java/util/List", "size", "()I"⟩) (by unfold mj_np; decide +kernel) (by unfold mj_noMH; decide +kernel) (mj_w9 168 rfl rfl) (mj_w9 169 rfl rfl) (mj_w9 163 rfl rfl) (mj_w9 165 rfl rfl) (mj_w9 164 rfl rfl) (mj_w9 166 rfl rfl) (mj_w9 167 rfl rfl) (mj_w9 90 rfl rfl))
   mj_an)))
theorem mj_ok439 : mj_okRow mj_Tw mj_Mm mj_r439 := ⟨by decide +kernel, by decide +kernel, (mj_w1 11 rfl rfl), by decide, Or.inl ⟨mj_cd439, rfl, rfl⟩, mj_wlE (by decide +kernel) mj_wl439⟩
theorem mj_wl440 : ∀ x ∈ ([(2, .newarray .int, 0, 0, 0), (17, .invokevirtual 269, 426, 2, 18), (27, .new 7, 18, 0, 0), (31, .invokespecial 9, 234, 1, 19), (76, .invokestatic 289, 441, 1, 0), (120, .invokestatic 258, 427, 2, 0), (134, .invokestatic 261, 416, 1, 0), (137, .invokeinterface 272 3, 430, 3, 19)] : List (Nat × mj_E)), mj_okW mj_Tw mj_Mm mj_m440 x.1 x.2 :=
  (mj_ac (mj_e_na rfl (by decide) (mj_w1 224 rfl rfl))
   (mj_ac (mj_e_vi mj_M426 mj_nm426 mj_np426 (mj_w11 182 rfl rfl) (rfl : mj_cls[17]? = some mj_K17) (mj_wp 78 rfl rfl) (mj_w11 180 rfl rfl) mj_cd426)
   (mj_ac (mj_e_new mj_nw18 (mj_w6 167 rfl rfl))
   (mj_ac (mj_e_in mj_M234 mj_nm234 mj_np234 (mj_w6 170 rfl rfl) mj_cd234 rfl rfl (mj_w6 169 rfl rfl))
   (mj_ac (mj_e_st mj_M441 mj_nm441 mj_np441 (mj_w12 29 rfl rfl) (mj_w1 32 rfl rfl) mj_cd441 (mj_w12 28 rfl rfl))
   (mj_ac (mj_e_st mj_M427 mj_nm427 mj_np427 (mj_w11 185 rfl rfl) (mj_w1 11 rfl rfl) mj_cd427 (mj_w11 184 rfl rfl))
   (mj_ac (mj_e_st mj_M416 mj_nm416 mj_np416 (mj_w11 121 rfl rfl) (mj_w1 32 rfl rfl) mj_cd416 (mj_w11 120 rfl rfl))
   (mj_ac (mj_e_if mj_M430 mj_nm430 mj_cd430 (rfl : mj_cls[18]? = some mj_K18) (x0 := ⟨"java/util/List", "add", "(ILjava/lang/Object;)V"⟩) (by unfold mj_np; decide +kernel) (by unfold mj_noMH; decide +kernel) (mj_w11 201 rfl rfl) (mj_w11 202 rfl rfl) (mj_w11 196 rfl rfl) (mj_w11 198 rfl rfl) (mj_w11 197 rfl rfl) (mj_w11 199 rfl rfl) (mj_w11 200 rfl rfl) (mj_w9 90 rfl rfl))
   mj_an))))))))
theorem mj_ok440 : mj_okRow mj_Tw mj_Mm mj_r440 := ⟨by decide +kernel, by decide +kernel, (mj_w1 11 rfl rfl), by decide, Or.inl ⟨mj_cd440, rfl, rfl⟩, mj_wlE (by decide +kernel) mj_wl440⟩
theorem mj_wl441 : ∀ x ∈ ([(20, .ldc_w 264, 0, 65536, 0)] : List (Nat × mj_E)), mj_okW mj_Tw mj_Mm mj_m441 x.1 x.2 :=
  (mj_ac (mj_e_lw (mj_w12 31 rfl rfl))
   mj_an)
theorem mj_ok441 : mj_okRow mj_Tw mj_Mm mj_r441 := ⟨by decide +kernel, by decide +kernel, (mj_w1 32 rfl rfl), by decide, Or.inl ⟨mj_cd441, rfl, rfl⟩, mj_wlE (by decide +kernel) mj_wl441⟩
theorem mj_wl442 : ∀ x ∈ ([(1, .invokevirtual 292, 440, 1, 18), (9, .invokeinterface 85 1, 344, 1, 19), (16, .invokestatic 81, 310, 3, 0), (27, .invokevirtual 92, 242, 2, 18), (39, .invokeinterface 133 2, 357, 2, 19), (44, .checkcast 237, 29, 0, 0), (47, .invokevirtual 255, 423, 1, 30)] : List (Nat × mj_E)), mj_okW mj_Tw mj_Mm mj_m442 x.1 x.2 :=
  (mj_ac (mj_e_vi mj_M440 mj_nm440 mj_np440 (mj_w12 26 rfl rfl) (rfl : mj_cls[17]? = some mj_K17) (mj_wp 82 rfl rfl) (mj_w12 24 rfl rfl) mj_cd440)
   (mj_ac (mj_e_if mj_M344 mj_nm344 mj_cd344 (rfl : mj_cls[18]? = some mj_K18) (x0 := ⟨"java/util/List", "size", "()I"⟩) (by unfold mj_np; decide +kernel) (by unfold mj_noMH; decide +kernel) (mj_w9 168 rfl rfl) (mj_w9 169 rfl rfl) (mj_w9 163 rfl rfl) (mj_w9 165 rfl rfl) (mj_w9 164 rfl rfl) (mj_w9 166 rfl rfl) (mj_w9 167 rfl rfl) (mj_w9 90 rfl rfl))
   (mj_ac (mj_e_st mj_M310 mj_nm310 mj_np310 (mj_w8 142 rfl rfl) (mj_w1 11 rfl rfl) mj_cd310 (mj_w10 61 rfl rfl))
   (mj_ac (mj_e_vi mj_M242 mj_nm242 mj_np242 (mj_w7 62 rfl rfl) (rfl : mj_cls[17]? = some mj_K17) (mj_wp 44 rfl rfl) (mj_w7 60 rfl rfl) mj_cd242)
   (mj_ac (mj_e_if mj_M357 mj_nm357 mj_cd357 (rfl : mj_cls[18]? = some mj_K18) (x0 := ⟨"java/util/List", "get", "(I)Ljava/lang/Object;"⟩) (by unfold mj_np; decide +kernel) (by unfold mj_noMH; decide +kernel) (mj_w10 68 rfl rfl) (mj_w10 69 rfl rfl) (mj_w10 63 rfl rfl) (mj_w10 65 rfl rfl) (mj_w10 64 rfl rfl) (mj_w10 66 rfl rfl) (mj_w10 67 rfl rfl) (mj_w9 90 rfl rfl))
   (mj_ac (mj_e_cc0 rfl (mj_w11 167 rfl rfl))
   (mj_ac (mj_e_vi mj_M423 mj_nm423 mj_np423 (mj_w11 169 rfl rfl) (rfl : mj_cls[29]? = some mj_K29) (mj_w11 170 rfl rfl) (mj_w11 168 rfl rfl) mj_cd423)
   mj_an)))))))
theorem mj_ok442 : mj_okRow mj_Tw mj_Mm mj_r442 := ⟨by decide +kernel, by decide +kernel, (mj_w1 11 rfl rfl), by decide, Or.inl ⟨mj_cd442, rfl, rfl⟩, mj_wlE (by decide +kernel) mj_wl442⟩
theorem mj_wl443 : ∀ x ∈ ([(2, .putfield 38, 0, 17, 0), (6, .invokevirtual 295, 444, 1, 18), (36, .getfield 298, 7, 17, 0), (42, .ldc_w 301, 0, 40320, 0), (45, .newarray .boolean, 2, 0, 0), (51, .getfield 298, 7, 17, 0), (54, .putfield 298, 7, 17, 0), (59, .getfield 302, 8, 17, 0), (65, .ldc_w 301, 0, 40320, 0), (68, .newarray .int, 0, 0, 0), (74, .getfield 302, 8, 17, 0), (77, .putfield 302, 8, 17, 0), (82, .getfield 305, 9, 17, 0), (88, .ldc_w 301, 0, 40320, 0), (91, .newarray .int, 0, 0, 0), (97, .getfield 305, 9, 17, 0), (100, .putfield 305, 9, 17, 0), (104, .getfield 298, 7, 17, 0), (108, .invokestatic 307, 445, 2, 0), (112, .getfield 298, 7, 17, 0), (116, .invokestatic 313, 446, 1, 0), (122, .getfield 302, 8, 17, 0), (146, .getfield 302, 8, 17, 0), (184, .getfield 302, 8, 17, 0), (192, .invokestatic 316, 447, 2, 0), (197, .invokevirtual 319, 448, 3, 18), (215, .getfield 302, 8, 17, 0), (222, .getfield 305, 9, 17, 0), (225, .putfield 302, 8, 17, 0), (231, .putfield 305, 9, 17, 0)] : List (Nat × mj_E)), mj_okW mj_Tw mj_Mm mj_m443 x.1 x.2 :=
  (mj_ac (mj_e_pf "UncomputeryModel" (rfl : mj_cls[17]? = some mj_K17) (by decide) mj_u17 (Or.inl (mj_w7 7 rfl rfl)) (Or.inl rfl) mj_pd17 mj_ds17 (Or.inl rfl))
   (mj_ac (mj_e_vi mj_M444 mj_nm444 mj_np444 (mj_w12 42 rfl rfl) (rfl : mj_cls[17]? = some mj_K17) (mj_wp 83 rfl rfl) (mj_w12 40 rfl rfl) mj_cd444)
   (mj_ac (mj_e_gf "UncomputeryModel" (rfl : mj_cls[17]? = some mj_K17) (by decide) mj_u17 (Or.inl (mj_w7 15 rfl rfl)) (Or.inl rfl))
   (mj_ac (mj_e_lw (mj_w12 44 rfl rfl))
   (mj_ac (mj_e_na rfl (by decide) (mj_w2 36 rfl rfl))
   (mj_ac (mj_e_gf "UncomputeryModel" (rfl : mj_cls[17]? = some mj_K17) (by decide) mj_u17 (Or.inl (mj_w7 15 rfl rfl)) (Or.inl rfl))
   (mj_ac (mj_e_pf "UncomputeryModel" (rfl : mj_cls[17]? = some mj_K17) (by decide) mj_u17 (Or.inl (mj_w7 15 rfl rfl)) (Or.inl rfl) mj_pd17 mj_ds17 (Or.inl rfl))
   (mj_ac (mj_e_gf "UncomputeryModel" (rfl : mj_cls[17]? = some mj_K17) (by decide) mj_u17 (Or.inl (mj_w7 16 rfl rfl)) (Or.inl rfl))
   (mj_ac (mj_e_lw (mj_w12 44 rfl rfl))
   (mj_ac (mj_e_na rfl (by decide) (mj_w1 224 rfl rfl))
   (mj_ac (mj_e_gf "UncomputeryModel" (rfl : mj_cls[17]? = some mj_K17) (by decide) mj_u17 (Or.inl (mj_w7 16 rfl rfl)) (Or.inl rfl))
   (mj_ac (mj_e_pf "UncomputeryModel" (rfl : mj_cls[17]? = some mj_K17) (by decide) mj_u17 (Or.inl (mj_w7 16 rfl rfl)) (Or.inl rfl) mj_pd17 mj_ds17 (Or.inl rfl))
   (mj_ac (mj_e_gf "UncomputeryModel" (rfl : mj_cls[17]? = some mj_K17) (by decide) mj_u17 (Or.inl (mj_w7 17 rfl rfl)) (Or.inl rfl))
   (mj_ac (mj_e_lw (mj_w12 44 rfl rfl))
   (mj_ac (mj_e_na rfl (by decide) (mj_w1 224 rfl rfl))
   (mj_ac (mj_e_gf "UncomputeryModel" (rfl : mj_cls[17]? = some mj_K17) (by decide) mj_u17 (Or.inl (mj_w7 17 rfl rfl)) (Or.inl rfl))
   (mj_ac (mj_e_pf "UncomputeryModel" (rfl : mj_cls[17]? = some mj_K17) (by decide) mj_u17 (Or.inl (mj_w7 17 rfl rfl)) (Or.inl rfl) mj_pd17 mj_ds17 (Or.inl rfl))
   (mj_ac (mj_e_gf "UncomputeryModel" (rfl : mj_cls[17]? = some mj_K17) (by decide) mj_u17 (Or.inl (mj_w7 15 rfl rfl)) (Or.inl rfl))
   (mj_ac (mj_e_st mj_M445 mj_nm445 mj_np445 (mj_w12 46 rfl rfl) (mj_w1 26 rfl rfl) mj_cd445 (mj_w12 45 rfl rfl))
   (mj_ac (mj_e_gf "UncomputeryModel" (rfl : mj_cls[17]? = some mj_K17) (by decide) mj_u17 (Or.inl (mj_w7 15 rfl rfl)) (Or.inl rfl))
   (mj_ac (mj_e_st mj_M446 mj_nm446 mj_np446 (mj_w12 49 rfl rfl) (mj_w1 11 rfl rfl) mj_cd446 (mj_w12 48 rfl rfl))
   (mj_ac (mj_e_gf "UncomputeryModel" (rfl : mj_cls[17]? = some mj_K17) (by decide) mj_u17 (Or.inl (mj_w7 16 rfl rfl)) (Or.inl rfl))
   (mj_ac (mj_e_gf "UncomputeryModel" (rfl : mj_cls[17]? = some mj_K17) (by decide) mj_u17 (Or.inl (mj_w7 16 rfl rfl)) (Or.inl rfl))
   (mj_ac (mj_e_gf "UncomputeryModel" (rfl : mj_cls[17]? = some mj_K17) (by decide) mj_u17 (Or.inl (mj_w7 16 rfl rfl)) (Or.inl rfl))
   (mj_ac (mj_e_st mj_M447 mj_nm447 mj_np447 (mj_w12 52 rfl rfl) (mj_w1 11 rfl rfl) mj_cd447 (mj_w12 51 rfl rfl))
   (mj_ac (mj_e_vi mj_M448 mj_nm448 mj_np448 (mj_w12 56 rfl rfl) (rfl : mj_cls[17]? = some mj_K17) (mj_wp 84 rfl rfl) (mj_w12 54 rfl rfl) mj_cd448)
   (mj_ac (mj_e_gf "UncomputeryModel" (rfl : mj_cls[17]? = some mj_K17) (by decide) mj_u17 (Or.inl (mj_w7 16 rfl rfl)) (Or.inl rfl))
   (mj_ac (mj_e_gf "UncomputeryModel" (rfl : mj_cls[17]? = some mj_K17) (by decide) mj_u17 (Or.inl (mj_w7 17 rfl rfl)) (Or.inl rfl))
   (mj_ac (mj_e_pf "UncomputeryModel" (rfl : mj_cls[17]? = some mj_K17) (by decide) mj_u17 (Or.inl (mj_w7 16 rfl rfl)) (Or.inl rfl) mj_pd17 mj_ds17 (Or.inl rfl))
   (mj_ac (mj_e_pf "UncomputeryModel" (rfl : mj_cls[17]? = some mj_K17) (by decide) mj_u17 (Or.inl (mj_w7 17 rfl rfl)) (Or.inl rfl) mj_pd17 mj_ds17 (Or.inl rfl))
   mj_an))))))))))))))))))))))))))))))
theorem mj_ok443 : mj_okRow mj_Tw mj_Mm mj_r443 := ⟨by decide +kernel, by decide +kernel, (mj_w1 11 rfl rfl), by decide, Or.inl ⟨mj_cd443, rfl, rfl⟩, mj_wlE (by decide +kernel) mj_wl443⟩
theorem mj_wl444 : ∀ x ∈ ([(13, .invokevirtual 269, 426, 2, 18)] : List (Nat × mj_E)), mj_okW mj_Tw mj_Mm mj_m444 x.1 x.2 :=
  (mj_ac (mj_e_vi mj_M426 mj_nm426 mj_np426 (mj_w11 182 rfl rfl) (rfl : mj_cls[17]? = some mj_K17) (mj_wp 78 rfl rfl) (mj_w11 180 rfl rfl) mj_cd426)
   mj_an)
theorem mj_ok444 : mj_okRow mj_Tw mj_Mm mj_r444 := ⟨by decide +kernel, by decide +kernel, (mj_w1 11 rfl rfl), by decide, Or.inl ⟨mj_cd444, rfl, rfl⟩, mj_wlE (by decide +kernel) mj_wl444⟩
theorem mj_wl445 : ∀ x ∈ ([] : List (Nat × mj_E)), mj_okW mj_Tw mj_Mm mj_m445 x.1 x.2 :=
  mj_an
theorem mj_ok445 : mj_okRow mj_Tw mj_Mm mj_r445 := ⟨by decide +kernel, by decide +kernel, (mj_w1 26 rfl rfl), by decide, Or.inl ⟨mj_cd445, rfl, rfl⟩, mj_wlE (by decide +kernel) mj_wl445⟩
theorem mj_wl446 : ∀ x ∈ ([] : List (Nat × mj_E)), mj_okW mj_Tw mj_Mm mj_m446 x.1 x.2 :=
  mj_an
theorem mj_ok446 : mj_okRow mj_Tw mj_Mm mj_r446 := ⟨by decide +kernel, by decide +kernel, (mj_w1 11 rfl rfl), by decide, Or.inl ⟨mj_cd446, rfl, rfl⟩, mj_wlE (by decide +kernel) mj_wl446⟩
theorem mj_wl447 : ∀ x ∈ ([(20, .invokestatic 258, 427, 2, 0)] : List (Nat × mj_E)), mj_okW mj_Tw mj_Mm mj_m447 x.1 x.2 :=
  (mj_ac (mj_e_st mj_M427 mj_nm427 mj_np427 (mj_w11 185 rfl rfl) (mj_w1 11 rfl rfl) mj_cd427 (mj_w11 184 rfl rfl))
   mj_an)
theorem mj_ok447 : mj_okRow mj_Tw mj_Mm mj_r447 := ⟨by decide +kernel, by decide +kernel, (mj_w1 11 rfl rfl), by decide, Or.inl ⟨mj_cd447, rfl, rfl⟩, mj_wlE (by decide +kernel) mj_wl447⟩
theorem mj_wl448 : ∀ x ∈ ([(1, .invokestatic 313, 446, 1, 0), (6, .getfield 298, 7, 17, 0), (17, .getfield 298, 7, 17, 0), (24, .getfield 305, 9, 17, 0)] : List (Nat × mj_E)), mj_okW mj_Tw mj_Mm mj_m448 x.1 x.2 :=
  (mj_ac (mj_e_st mj_M446 mj_nm446 mj_np446 (mj_w12 49 rfl rfl) (mj_w1 11 rfl rfl) mj_cd446 (mj_w12 48 rfl rfl))
   (mj_ac (mj_e_gf "UncomputeryModel" (rfl : mj_cls[17]? = some mj_K17) (by decide) mj_u17 (Or.inl (mj_w7 15 rfl rfl)) (Or.inl rfl))
   (mj_ac (mj_e_gf "UncomputeryModel" (rfl : mj_cls[17]? = some mj_K17) (by decide) mj_u17 (Or.inl (mj_w7 15 rfl rfl)) (Or.inl rfl))
   (mj_ac (mj_e_gf "UncomputeryModel" (rfl : mj_cls[17]? = some mj_K17) (by decide) mj_u17 (Or.inl (mj_w7 17 rfl rfl)) (Or.inl rfl))
   mj_an))))
theorem mj_ok448 : mj_okRow mj_Tw mj_Mm mj_r448 := ⟨by decide +kernel, by decide +kernel, (mj_w1 11 rfl rfl), by decide, Or.inl ⟨mj_cd448, rfl, rfl⟩, mj_wlE (by decide +kernel) mj_wl448⟩
theorem mj_wl449 : ∀ x ∈ ([(2, .putfield 38, 0, 17, 0), (18, .invokevirtual 322, 450, 2, 18)] : List (Nat × mj_E)), mj_okW mj_Tw mj_Mm mj_m449 x.1 x.2 :=
  (mj_ac (mj_e_pf "UncomputeryModel" (rfl : mj_cls[17]? = some mj_K17) (by decide) mj_u17 (Or.inl (mj_w7 7 rfl rfl)) (Or.inl rfl) mj_pd17 mj_ds17 (Or.inl rfl))
   (mj_ac (mj_e_vi mj_M450 mj_nm450 mj_np450 (mj_w12 64 rfl rfl) (rfl : mj_cls[17]? = some mj_K17) (mj_wp 85 rfl rfl) (mj_w12 62 rfl rfl) mj_cd450)
   mj_an))
theorem mj_ok449 : mj_okRow mj_Tw mj_Mm mj_r449 := ⟨by decide +kernel, by decide +kernel, (mj_w1 11 rfl rfl), by decide, Or.inl ⟨mj_cd449, rfl, rfl⟩, mj_wlE (by decide +kernel) mj_wl449⟩
theorem mj_wl450 : ∀ x ∈ ([(2, .invokevirtual 269, 426, 2, 18), (28, .invokevirtual 269, 426, 2, 18)] : List (Nat × mj_E)), mj_okW mj_Tw mj_Mm mj_m450 x.1 x.2 :=
  (mj_ac (mj_e_vi mj_M426 mj_nm426 mj_np426 (mj_w11 182 rfl rfl) (rfl : mj_cls[17]? = some mj_K17) (mj_wp 78 rfl rfl) (mj_w11 180 rfl rfl) mj_cd426)
   (mj_ac (mj_e_vi mj_M426 mj_nm426 mj_np426 (mj_w11 182 rfl rfl) (rfl : mj_cls[17]? = some mj_K17) (mj_wp 78 rfl rfl) (mj_w11 180 rfl rfl) mj_cd426)
   mj_an))
theorem mj_ok450 : mj_okRow mj_Tw mj_Mm mj_r450 := ⟨by decide +kernel, by decide +kernel, (mj_w1 11 rfl rfl), by decide, Or.inl ⟨mj_cd450, rfl, rfl⟩, mj_wlE (by decide +kernel) mj_wl450⟩
theorem mj_wl451 : ∀ x ∈ ([(2, .putfield 38, 0, 17, 0), (27, .invokevirtual 325, 452, 2, 18)] : List (Nat × mj_E)), mj_okW mj_Tw mj_Mm mj_m451 x.1 x.2 :=
  (mj_ac (mj_e_pf "UncomputeryModel" (rfl : mj_cls[17]? = some mj_K17) (by decide) mj_u17 (Or.inl (mj_w7 7 rfl rfl)) (Or.inl rfl) mj_pd17 mj_ds17 (Or.inl rfl))
   (mj_ac (mj_e_vi mj_M452 mj_nm452 mj_np452 (mj_w12 72 rfl rfl) (rfl : mj_cls[17]? = some mj_K17) (mj_wp 86 rfl rfl) (mj_w12 70 rfl rfl) mj_cd452)
   mj_an))
theorem mj_ok451 : mj_okRow mj_Tw mj_Mm mj_r451 := ⟨by decide +kernel, by decide +kernel, (mj_w1 11 rfl rfl), by decide, Or.inl ⟨mj_cd451, rfl, rfl⟩, mj_wlE (by decide +kernel) mj_wl451⟩
theorem mj_wl452 : ∀ x ∈ ([(4, .invokevirtual 269, 426, 2, 18), (15, .invokevirtual 269, 426, 2, 18)] : List (Nat × mj_E)), mj_okW mj_Tw mj_Mm mj_m452 x.1 x.2 :=
  (mj_ac (mj_e_vi mj_M426 mj_nm426 mj_np426 (mj_w11 182 rfl rfl) (rfl : mj_cls[17]? = some mj_K17) (mj_wp 78 rfl rfl) (mj_w11 180 rfl rfl) mj_cd426)
   (mj_ac (mj_e_vi mj_M426 mj_nm426 mj_np426 (mj_w11 182 rfl rfl) (rfl : mj_cls[17]? = some mj_K17) (mj_wp 78 rfl rfl) (mj_w11 180 rfl rfl) mj_cd426)
   mj_an))
theorem mj_ok452 : mj_okRow mj_Tw mj_Mm mj_r452 := ⟨by decide +kernel, by decide +kernel, (mj_w1 11 rfl rfl), by decide, Or.inl ⟨mj_cd452, rfl, rfl⟩, mj_wlE (by decide +kernel) mj_wl452⟩
theorem mj_wl453 : ∀ x ∈ ([(5, .invokestatic 81, 310, 3, 0), (15, .invokestatic 81, 310, 3, 0), (26, .invokevirtual 92, 242, 2, 18), (35, .getfield 34, 10, 17, 0), (42, .getfield 34, 10, 17, 0)] : List (Nat × mj_E)), mj_okW mj_Tw mj_Mm mj_m453 x.1 x.2 :=
  (mj_ac (mj_e_st mj_M310 mj_nm310 mj_np310 (mj_w8 142 rfl rfl) (mj_w1 11 rfl rfl) mj_cd310 (mj_w10 61 rfl rfl))
   (mj_ac (mj_e_st mj_M310 mj_nm310 mj_np310 (mj_w8 142 rfl rfl) (mj_w1 11 rfl rfl) mj_cd310 (mj_w10 61 rfl rfl))
   (mj_ac (mj_e_vi mj_M242 mj_nm242 mj_np242 (mj_w7 62 rfl rfl) (rfl : mj_cls[17]? = some mj_K17) (mj_wp 44 rfl rfl) (mj_w7 60 rfl rfl) mj_cd242)
   (mj_ac (mj_e_gf "UncomputeryModel" (rfl : mj_cls[17]? = some mj_K17) (by decide) mj_u17 (Or.inl (mj_w7 18 rfl rfl)) (Or.inl rfl))
   (mj_ac (mj_e_gf "UncomputeryModel" (rfl : mj_cls[17]? = some mj_K17) (by decide) mj_u17 (Or.inl (mj_w7 18 rfl rfl)) (Or.inl rfl))
   mj_an)))))
theorem mj_ok453 : mj_okRow mj_Tw mj_Mm mj_r453 := ⟨by decide +kernel, by decide +kernel, (mj_w1 11 rfl rfl), by decide, Or.inl ⟨mj_cd453, rfl, rfl⟩, mj_wlE (by decide +kernel) mj_wl453⟩
theorem mj_wl454 : ∀ x ∈ ([(2, .putfield 38, 0, 17, 0), (20, .invokevirtual 328, 455, 2, 18)] : List (Nat × mj_E)), mj_okW mj_Tw mj_Mm mj_m454 x.1 x.2 :=
  (mj_ac (mj_e_pf "UncomputeryModel" (rfl : mj_cls[17]? = some mj_K17) (by decide) mj_u17 (Or.inl (mj_w7 7 rfl rfl)) (Or.inl rfl) mj_pd17 mj_ds17 (Or.inl rfl))
   (mj_ac (mj_e_vi mj_M455 mj_nm455 mj_np455 (mj_w12 84 rfl rfl) (rfl : mj_cls[17]? = some mj_K17) (mj_wp 87 rfl rfl) (mj_w12 82 rfl rfl) mj_cd455)
   mj_an))
theorem mj_ok454 : mj_okRow mj_Tw mj_Mm mj_r454 := ⟨by decide +kernel, by decide +kernel, (mj_w1 11 rfl rfl), by decide, Or.inl ⟨mj_cd454, rfl, rfl⟩, mj_wlE (by decide +kernel) mj_wl454⟩
theorem mj_wl455 : ∀ x ∈ ([(3, .getfield 34, 10, 17, 0)] : List (Nat × mj_E)), mj_okW mj_Tw mj_Mm mj_m455 x.1 x.2 :=
  (mj_ac (mj_e_gf "UncomputeryModel" (rfl : mj_cls[17]? = some mj_K17) (by decide) mj_u17 (Or.inl (mj_w7 18 rfl rfl)) (Or.inl rfl))
   mj_an)
theorem mj_ok455 : mj_okRow mj_Tw mj_Mm mj_r455 := ⟨by decide +kernel, by decide +kernel, (mj_w1 11 rfl rfl), by decide, Or.inl ⟨mj_cd455, rfl, rfl⟩, mj_wlE (by decide +kernel) mj_wl455⟩
theorem mj_wl456 : ∀ x ∈ ([(2, .putfield 38, 0, 17, 0), (18, .invokevirtual 328, 455, 2, 18), (39, .ldc_w 331, 3, 1090519040, 0)] : List (Nat × mj_E)), mj_okW mj_Tw mj_Mm mj_m456 x.1 x.2 :=
  (mj_ac (mj_e_pf "UncomputeryModel" (rfl : mj_cls[17]? = some mj_K17) (by decide) mj_u17 (Or.inl (mj_w7 7 rfl rfl)) (Or.inl rfl) mj_pd17 mj_ds17 (Or.inl rfl))
   (mj_ac (mj_e_vi mj_M455 mj_nm455 mj_np455 (mj_w12 84 rfl rfl) (rfl : mj_cls[17]? = some mj_K17) (mj_wp 87 rfl rfl) (mj_w12 82 rfl rfl) mj_cd455)
   (mj_ac (mj_e_lf (mj_w12 90 rfl rfl))
   mj_an)))
theorem mj_ok456 : mj_okRow mj_Tw mj_Mm mj_r456 := ⟨by decide +kernel, by decide +kernel, (mj_w1 11 rfl rfl), by decide, Or.inl ⟨mj_cd456, rfl, rfl⟩, mj_wlE (by decide +kernel) mj_wl456⟩
theorem mj_wl457 : ∀ x ∈ ([(5, .invokestatic 81, 310, 3, 0), (15, .invokestatic 81, 310, 3, 0), (26, .invokevirtual 92, 242, 2, 18), (36, .invokestatic 335, 458, 2, 0), (51, .invokevirtual 92, 242, 2, 18)] : List (Nat × mj_E)), mj_okW mj_Tw mj_Mm mj_m457 x.1 x.2 :=
  (mj_ac (mj_e_st mj_M310 mj_nm310 mj_np310 (mj_w8 142 rfl rfl) (mj_w1 11 rfl rfl) mj_cd310 (mj_w10 61 rfl rfl))
   (mj_ac (mj_e_st mj_M310 mj_nm310 mj_np310 (mj_w8 142 rfl rfl) (mj_w1 11 rfl rfl) mj_cd310 (mj_w10 61 rfl rfl))
   (mj_ac (mj_e_vi mj_M242 mj_nm242 mj_np242 (mj_w7 62 rfl rfl) (rfl : mj_cls[17]? = some mj_K17) (mj_wp 44 rfl rfl) (mj_w7 60 rfl rfl) mj_cd242)
   (mj_ac (mj_e_st mj_M458 mj_nm458 mj_np458 (mj_w12 96 rfl rfl) (mj_w1 11 rfl rfl) mj_cd458 (mj_w12 95 rfl rfl))
   (mj_ac (mj_e_vi mj_M242 mj_nm242 mj_np242 (mj_w7 62 rfl rfl) (rfl : mj_cls[17]? = some mj_K17) (mj_wp 44 rfl rfl) (mj_w7 60 rfl rfl) mj_cd242)
   mj_an)))))
theorem mj_ok457 : mj_okRow mj_Tw mj_Mm mj_r457 := ⟨by decide +kernel, by decide +kernel, (mj_w1 11 rfl rfl), by decide, Or.inl ⟨mj_cd457, rfl, rfl⟩, mj_wlE (by decide +kernel) mj_wl457⟩
theorem mj_wl458 : ∀ x ∈ ([(3, .newarray .int, 0, 0, 0), (8, .invokestatic 332, 61, 2, 0), (14, .newarray .int, 0, 0, 0), (90, .invokestatic 236, 197, 1, 0)] : List (Nat × mj_E)), mj_okW mj_Tw mj_Mm mj_m458 x.1 x.2 :=
  (mj_ac (mj_e_na rfl (by decide) (mj_w1 224 rfl rfl))
   (mj_ac (mj_e_st mj_M61 mj_nm61 mj_np61 (mj_w3 74 rfl rfl) (mj_w1 26 rfl rfl) mj_cd61 (mj_w12 98 rfl rfl))
   (mj_ac (mj_e_na rfl (by decide) (mj_w1 224 rfl rfl))
   (mj_ac (mj_e_st mj_M197 mj_nm197 mj_np197 (mj_w6 4 rfl rfl) (mj_w1 32 rfl rfl) mj_cd197 (mj_w11 93 rfl rfl))
   mj_an))))
theorem mj_ok458 : mj_okRow mj_Tw mj_Mm mj_r458 := ⟨by decide +kernel, by decide +kernel, (mj_w1 11 rfl rfl), by decide, Or.inl ⟨mj_cd458, rfl, rfl⟩, mj_wlE (by decide +kernel) mj_wl458⟩
theorem mj_wl459 : ∀ x ∈ ([(5, .invokestatic 81, 310, 3, 0), (16, .invokevirtual 92, 242, 2, 18), (28, .invokestatic 335, 458, 2, 0)] : List (Nat × mj_E)), mj_okW mj_Tw mj_Mm mj_m459 x.1 x.2 :=
  (mj_ac (mj_e_st mj_M310 mj_nm310 mj_np310 (mj_w8 142 rfl rfl) (mj_w1 11 rfl rfl) mj_cd310 (mj_w10 61 rfl rfl))
   (mj_ac (mj_e_vi mj_M242 mj_nm242 mj_np242 (mj_w7 62 rfl rfl) (rfl : mj_cls[17]? = some mj_K17) (mj_wp 44 rfl rfl) (mj_w7 60 rfl rfl) mj_cd242)
   (mj_ac (mj_e_st mj_M458 mj_nm458 mj_np458 (mj_w12 96 rfl rfl) (mj_w1 11 rfl rfl) mj_cd458 (mj_w12 95 rfl rfl))
   mj_an)))
theorem mj_ok459 : mj_okRow mj_Tw mj_Mm mj_r459 := ⟨by decide +kernel, by decide +kernel, (mj_w1 11 rfl rfl), by decide, Or.inl ⟨mj_cd459, rfl, rfl⟩, mj_wlE (by decide +kernel) mj_wl459⟩
theorem mj_wl460 : ∀ x ∈ ([(2, .putfield 38, 0, 17, 0), (6, .getfield 10, 1, 17, 0), (9, .invokeinterface 85 1, 344, 1, 19)] : List (Nat × mj_E)), mj_okW mj_Tw mj_Mm mj_m460 x.1 x.2 :=
  (mj_ac (mj_e_pf "UncomputeryModel" (rfl : mj_cls[17]? = some mj_K17) (by decide) mj_u17 (Or.inl (mj_w7 7 rfl rfl)) (Or.inl rfl) mj_pd17 mj_ds17 (Or.inl rfl))
   (mj_ac (mj_e_gf "UncomputeryModel" (rfl : mj_cls[17]? = some mj_K17) (by decide) mj_u17 (Or.inl (mj_w7 8 rfl rfl)) (Or.inl rfl))
   (mj_ac (mj_e_if mj_M344 mj_nm344 mj_cd344 (rfl : mj_cls[18]? = some mj_K18) (x0 := ⟨"java/util/List", "size", "()I"⟩) (by unfold mj_np; decide +kernel) (by unfold mj_noMH; decide +kernel) (mj_w9 168 rfl rfl) (mj_w9 169 rfl rfl) (mj_w9 163 rfl rfl) (mj_w9 165 rfl rfl) (mj_w9 164 rfl rfl) (mj_w9 166 rfl rfl) (mj_w9 167 rfl rfl) (mj_w9 90 rfl rfl))
   mj_an)))
theorem mj_ok460 : mj_okRow mj_Tw mj_Mm mj_r460 := ⟨by decide +kernel, by decide +kernel, (mj_w1 11 rfl rfl), by decide, Or.inl ⟨mj_cd460, rfl, rfl⟩, mj_wlE (by decide +kernel) mj_wl460⟩
theorem mj_wl461 : ∀ x ∈ ([(2, .putfield 38, 0, 17, 0), (5, .ldc2_w 338, 7, 0, 0), (10, .getfield 21, 2, 17, 0), (13, .getfield 166, 0, 19, 0), (37, .ldc2_w 340, 31, 0, 0), (57, .getfield 21, 2, 17, 0), (60, .getfield 168, 7, 19, 0), (66, .ldc2_w 340, 31, 0, 0), (72, .getfield 21, 2, 17, 0), (75, .getfield 171, 1, 19, 0), (89, .ldc2_w 340, 31, 0, 0), (95, .getfield 233, 5, 17, 0)] : List (Nat × mj_E)), mj_okW mj_Tw mj_Mm mj_m461 x.1 x.2 :=
  (mj_ac (mj_e_pf "UncomputeryModel" (rfl : mj_cls[17]? = some mj_K17) (by decide) mj_u17 (Or.inl (mj_w7 7 rfl rfl)) (Or.inl rfl) mj_pd17 mj_ds17 (Or.inl rfl))
   (mj_ac (mj_e_l4 (mj_w12 111 rfl rfl))
   (mj_ac (mj_e_gf "UncomputeryModel" (rfl : mj_cls[17]? = some mj_K17) (by decide) mj_u17 (Or.inl (mj_w7 10 rfl rfl)) (Or.inl rfl))
   (mj_ac (mj_e_gf "UncomputeryModel$World" (rfl : mj_cls[19]? = some mj_K19) (by decide) mj_u19 (Or.inr ⟨"UncomputeryModel", (mj_w6 203 rfl rfl)⟩) (Or.inl rfl))
   (mj_ac (mj_e_l4 (mj_w12 112 rfl rfl))
   (mj_ac (mj_e_gf "UncomputeryModel" (rfl : mj_cls[17]? = some mj_K17) (by decide) mj_u17 (Or.inl (mj_w7 10 rfl rfl)) (Or.inl rfl))
   (mj_ac (mj_e_gf "UncomputeryModel$World" (rfl : mj_cls[19]? = some mj_K19) (by decide) mj_u19 (Or.inr ⟨"UncomputeryModel", (mj_w6 217 rfl rfl)⟩) (Or.inl rfl))
   (mj_ac (mj_e_l4 (mj_w12 112 rfl rfl))
   (mj_ac (mj_e_gf "UncomputeryModel" (rfl : mj_cls[17]? = some mj_K17) (by decide) mj_u17 (Or.inl (mj_w7 10 rfl rfl)) (Or.inl rfl))
   (mj_ac (mj_e_gf "UncomputeryModel$World" (rfl : mj_cls[19]? = some mj_K19) (by decide) mj_u19 (Or.inr ⟨"UncomputeryModel", (mj_w6 205 rfl rfl)⟩) (Or.inl rfl))
   (mj_ac (mj_e_l4 (mj_w12 112 rfl rfl))
   (mj_ac (mj_e_gf "UncomputeryModel" (rfl : mj_cls[17]? = some mj_K17) (by decide) mj_u17 (Or.inl (mj_w7 13 rfl rfl)) (Or.inl rfl))
   mj_an))))))))))))
theorem mj_ok461 : mj_okRow mj_Tw mj_Mm mj_r461 := ⟨by decide +kernel, by decide +kernel, (mj_w1 11 rfl rfl), by decide, Or.inl ⟨mj_cd461, rfl, rfl⟩, mj_wlE (by decide +kernel) mj_wl461⟩
theorem mj_wl462 : ∀ x ∈ ([(3, .getfield 10, 1, 17, 0), (6, .invokeinterface 42 1, 347, 1, 19), (13, .invokeinterface 48 1, 349, 1, 28), (22, .invokeinterface 54 1, 350, 1, 28), (27, .checkcast 121, 26, 0, 0), (33, .getfield 154, 2, 26, 0), (36, .invokeinterface 85 1, 344, 1, 19), (48, .getfield 10, 1, 17, 0), (51, .invokeinterface 265 1, 420, 1, 19), (64, .invokevirtual 92, 242, 2, 18), (77, .getfield 10, 1, 17, 0), (80, .invokeinterface 85 1, 344, 1, 19)] : List (Nat × mj_E)), mj_okW mj_Tw mj_Mm mj_m462 x.1 x.2 :=
  (mj_ac (mj_e_gf "UncomputeryModel" (rfl : mj_cls[17]? = some mj_K17) (by decide) mj_u17 (Or.inl (mj_w7 8 rfl rfl)) (Or.inl rfl))
   (mj_ac (mj_e_if mj_M347 mj_nm347 mj_cd347 (rfl : mj_cls[18]? = some mj_K18) (x0 := ⟨"java/util/List", "iterator", "()Ljava/util/Iterator;"⟩) (by unfold mj_np; decide +kernel) (by unfold mj_noMH; decide +kernel) (mj_w9 189 rfl rfl) (mj_w9 190 rfl rfl) (mj_w10 104 rfl rfl) (mj_w9 186 rfl rfl) (mj_w9 185 rfl rfl) (mj_w9 187 rfl rfl) (mj_w9 188 rfl rfl) (mj_w9 90 rfl rfl))
   (mj_ac (mj_e_if mj_M349 mj_nm349 mj_cd349 (rfl : mj_cls[27]? = some mj_K27) (x0 := ⟨"java/util/Iterator", "hasNext", "()Z"⟩) (by unfold mj_np; decide +kernel) (by unfold mj_noMH; decide +kernel) (mj_w9 218 rfl rfl) (mj_w9 219 rfl rfl) (mj_w10 106 rfl rfl) (mj_w9 214 rfl rfl) (mj_w9 213 rfl rfl) (mj_w9 216 rfl rfl) (mj_w9 217 rfl rfl) (mj_w9 215 rfl rfl))
   (mj_ac (mj_e_if mj_M350 mj_nm350 mj_cd350 (rfl : mj_cls[27]? = some mj_K27) (x0 := ⟨"java/util/Iterator", "next", "()Ljava/lang/Object;"⟩) (by unfold mj_np; decide +kernel) (by unfold mj_noMH; decide +kernel) (mj_w9 227 rfl rfl) (mj_w9 228 rfl rfl) (mj_w10 108 rfl rfl) (mj_w9 224 rfl rfl) (mj_w9 223 rfl rfl) (mj_w9 225 rfl rfl) (mj_w9 226 rfl rfl) (mj_w9 215 rfl rfl))
   (mj_ac (mj_e_cc0 rfl (mj_w9 171 rfl rfl))
   (mj_ac (mj_e_gf "UncomputeryModel$Procedure" (rfl : mj_cls[26]? = some mj_K26) (by decide) mj_u26 (Or.inr ⟨"UncomputeryModel", (mj_w10 43 rfl rfl)⟩) (Or.inl rfl))
   (mj_ac (mj_e_if mj_M344 mj_nm344 mj_cd344 (rfl : mj_cls[18]? = some mj_K18) (x0 := ⟨"java/util/List", "size", "()I"⟩) (by unfold mj_np; decide +kernel) (by unfold mj_noMH; decide +kernel) (mj_w9 168 rfl rfl) (mj_w9 169 rfl rfl) (mj_w9 163 rfl rfl) (mj_w9 165 rfl rfl) (mj_w9 164 rfl rfl) (mj_w9 166 rfl rfl) (mj_w9 167 rfl rfl) (mj_w9 90 rfl rfl))
   (mj_ac (mj_e_gf "UncomputeryModel" (rfl : mj_cls[17]? = some mj_K17) (by decide) mj_u17 (Or.inl (mj_w7 8 rfl rfl)) (Or.inl rfl))
   (mj_ac (mj_e_if mj_M420 mj_nm420 mj_cd420 (rfl : mj_cls[18]? = some mj_K18) (x0 := ⟨"java/util/List", "isEmpty", "()Z"⟩) (by unfold mj_np; decide +kernel) (by unfold mj_noMH; decide +kernel) (mj_w11 150 rfl rfl) (mj_w11 151 rfl rfl) (mj_w11 145 rfl rfl) (mj_w11 147 rfl rfl) (mj_w11 146 rfl rfl) (mj_w11 148 rfl rfl) (mj_w11 149 rfl rfl) (mj_w9 90 rfl rfl))
   (mj_ac (mj_e_vi mj_M242 mj_nm242 mj_np242 (mj_w7 62 rfl rfl) (rfl : mj_cls[17]? = some mj_K17) (mj_wp 44 rfl rfl) (mj_w7 60 rfl rfl) mj_cd242)
   (mj_ac (mj_e_gf "UncomputeryModel" (rfl : mj_cls[17]? = some mj_K17) (by decide) mj_u17 (Or.inl (mj_w7 8 rfl rfl)) (Or.inl rfl))
   (mj_ac (mj_e_if mj_M344 mj_nm344 mj_cd344 (rfl : mj_cls[18]? = some mj_K18) (x0 := ⟨"java/util/List", "size", "()I"⟩) (by unfold mj_np; decide +kernel) (by unfold mj_noMH; decide +kernel) (mj_w9 168 rfl rfl) (mj_w9 169 rfl rfl) (mj_w9 163 rfl rfl) (mj_w9 165 rfl rfl) (mj_w9 164 rfl rfl) (mj_w9 166 rfl rfl) (mj_w9 167 rfl rfl) (mj_w9 90 rfl rfl))
   mj_an))))))))))))
theorem mj_ok462 : mj_okRow mj_Tw mj_Mm mj_r462 := ⟨by decide +kernel, by decide +kernel, (mj_w1 11 rfl rfl), by decide, Or.inl ⟨mj_cd462, rfl, rfl⟩, mj_wlE (by decide +kernel) mj_wl462⟩
theorem mj_wl463 : ∀ x ∈ ([(2, .putfield 38, 0, 17, 0)] : List (Nat × mj_E)), mj_okW mj_Tw mj_Mm mj_m463 x.1 x.2 :=
  (mj_ac (mj_e_pf "UncomputeryModel" (rfl : mj_cls[17]? = some mj_K17) (by decide) mj_u17 (Or.inl (mj_w7 7 rfl rfl)) (Or.inl rfl) mj_pd17 mj_ds17 (Or.inl rfl))
   mj_an)
theorem mj_ok463 : mj_okRow mj_Tw mj_Mm mj_r463 := ⟨by decide +kernel, by decide +kernel, (mj_w1 11 rfl rfl), by decide, Or.inl ⟨mj_cd463, rfl, rfl⟩, mj_wlE (by decide +kernel) mj_wl463⟩
