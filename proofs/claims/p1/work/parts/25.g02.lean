theorem mj_wl96 : ∀ x ∈ ([(2, .getfield 27, 2, 5, 0), (7, .putfield 27, 2, 5, 0), (11, .invokevirtual 48, 84, 1, 6), (14, .invokestatic 64, 86, 1, 0), (24, .getfield 27, 2, 5, 0), (27, .invokevirtual 52, 88, 3, 6), (32, .getfield 19, 1, 5, 0), (36, .invokevirtual 82, 89, 2, 4), (40, .invokevirtual 48, 84, 1, 6), (46, .putfield 86, 1, 4, 0), (51, .getfield 27, 2, 5, 0), (56, .putfield 27, 2, 5, 0)] : List (Nat × mj_E)), mj_okW mj_Tw mj_Mm mj_m96 x.1 x.2 :=
  (mj_ac (mj_e_gf "Uncomputery$Reader" (rfl : mj_cls[5]? = some mj_K5) (by decide) mj_u5 (Or.inl (mj_w1 156 rfl rfl)) (Or.inl rfl))
   (mj_ac (mj_e_pf "Uncomputery$Reader" (rfl : mj_cls[5]? = some mj_K5) (by decide) mj_u5 (Or.inl (mj_w1 156 rfl rfl)) (Or.inl rfl) mj_pd5 mj_ds5 (Or.inl rfl))
   (mj_ac (mj_e_vi mj_M84 mj_nm84 mj_np84 (mj_w3 168 rfl rfl) (rfl : mj_cls[5]? = some mj_K5) (mj_wp 15 rfl rfl) (mj_w3 166 rfl rfl) mj_cd84)
   (mj_ac (mj_e_stN "Uncomputery" mj_M86 mj_nm86 mj_np86 (mj_w3 175 rfl rfl) (mj_w1 1 rfl rfl) mj_cd86 (mj_w3 174 rfl rfl))
   (mj_ac (mj_e_gf "Uncomputery$Reader" (rfl : mj_cls[5]? = some mj_K5) (by decide) mj_u5 (Or.inl (mj_w1 156 rfl rfl)) (Or.inl rfl))
   (mj_ac (mj_e_vi mj_M88 mj_nm88 mj_np88 (mj_w3 183 rfl rfl) (rfl : mj_cls[5]? = some mj_K5) (mj_wp 18 rfl rfl) (mj_w3 181 rfl rfl) mj_cd88)
   (mj_ac (mj_e_gf "Uncomputery$Reader" (rfl : mj_cls[5]? = some mj_K5) (by decide) mj_u5 (Or.inl (mj_w1 155 rfl rfl)) (Or.inl rfl))
   (mj_ac (mj_e_vi mj_M89 mj_nm89 mj_np89 (mj_w3 186 rfl rfl) (rfl : mj_cls[3]? = some mj_K3) (mj_w3 187 rfl rfl) (mj_w3 185 rfl rfl) mj_cd89)
   (mj_ac (mj_e_vi mj_M84 mj_nm84 mj_np84 (mj_w3 168 rfl rfl) (rfl : mj_cls[5]? = some mj_K5) (mj_wp 15 rfl rfl) (mj_w3 166 rfl rfl) mj_cd84)
   (mj_ac (mj_e_pf "Uncomputery$Instruction" (rfl : mj_cls[4]? = some mj_K4) (by decide) mj_u4 (Or.inl (mj_w1 96 rfl rfl)) (Or.inl rfl) mj_pd4 mj_ds4 (Or.inl rfl))
   (mj_ac (mj_e_gf "Uncomputery$Reader" (rfl : mj_cls[5]? = some mj_K5) (by decide) mj_u5 (Or.inl (mj_w1 156 rfl rfl)) (Or.inl rfl))
   (mj_ac (mj_e_pf "Uncomputery$Reader" (rfl : mj_cls[5]? = some mj_K5) (by decide) mj_u5 (Or.inl (mj_w1 156 rfl rfl)) (Or.inl rfl) mj_pd5 mj_ds5 (Or.inl rfl))
   mj_an))))))))))))
theorem mj_ok96 : mj_okRow mj_Tw mj_Mm mj_r96 := ⟨by decide +kernel, by decide +kernel, (mj_w1 6 rfl rfl), by decide, Or.inl ⟨mj_cd96, rfl, rfl⟩, mj_wlE (by decide +kernel) mj_wl96⟩
theorem mj_wl97 : ∀ x ∈ ([(2, .getfield 27, 2, 5, 0), (7, .putfield 27, 2, 5, 0), (11, .invokevirtual 48, 84, 1, 6), (20, .invokevirtual 48, 84, 1, 6), (32, .getfield 27, 2, 5, 0), (35, .invokevirtual 52, 88, 3, 6), (40, .getfield 19, 1, 5, 0), (44, .invokevirtual 82, 89, 2, 4), (48, .invokevirtual 48, 84, 1, 6), (54, .putfield 86, 1, 4, 0), (59, .getfield 27, 2, 5, 0), (64, .putfield 27, 2, 5, 0)] : List (Nat × mj_E)), mj_okW mj_Tw mj_Mm mj_m97 x.1 x.2 :=
  (mj_ac (mj_e_gf "Uncomputery$Reader" (rfl : mj_cls[5]? = some mj_K5) (by decide) mj_u5 (Or.inl (mj_w1 156 rfl rfl)) (Or.inl rfl))
   (mj_ac (mj_e_pf "Uncomputery$Reader" (rfl : mj_cls[5]? = some mj_K5) (by decide) mj_u5 (Or.inl (mj_w1 156 rfl rfl)) (Or.inl rfl) mj_pd5 mj_ds5 (Or.inl rfl))
   (mj_ac (mj_e_vi mj_M84 mj_nm84 mj_np84 (mj_w3 168 rfl rfl) (rfl : mj_cls[5]? = some mj_K5) (mj_wp 15 rfl rfl) (mj_w3 166 rfl rfl) mj_cd84)
   (mj_ac (mj_e_vi mj_M84 mj_nm84 mj_np84 (mj_w3 168 rfl rfl) (rfl : mj_cls[5]? = some mj_K5) (mj_wp 15 rfl rfl) (mj_w3 166 rfl rfl) mj_cd84)
   (mj_ac (mj_e_gf "Uncomputery$Reader" (rfl : mj_cls[5]? = some mj_K5) (by decide) mj_u5 (Or.inl (mj_w1 156 rfl rfl)) (Or.inl rfl))
   (mj_ac (mj_e_vi mj_M88 mj_nm88 mj_np88 (mj_w3 183 rfl rfl) (rfl : mj_cls[5]? = some mj_K5) (mj_wp 18 rfl rfl) (mj_w3 181 rfl rfl) mj_cd88)
   (mj_ac (mj_e_gf "Uncomputery$Reader" (rfl : mj_cls[5]? = some mj_K5) (by decide) mj_u5 (Or.inl (mj_w1 155 rfl rfl)) (Or.inl rfl))
   (mj_ac (mj_e_vi mj_M89 mj_nm89 mj_np89 (mj_w3 186 rfl rfl) (rfl : mj_cls[3]? = some mj_K3) (mj_w3 187 rfl rfl) (mj_w3 185 rfl rfl) mj_cd89)
   (mj_ac (mj_e_vi mj_M84 mj_nm84 mj_np84 (mj_w3 168 rfl rfl) (rfl : mj_cls[5]? = some mj_K5) (mj_wp 15 rfl rfl) (mj_w3 166 rfl rfl) mj_cd84)
   (mj_ac (mj_e_pf "Uncomputery$Instruction" (rfl : mj_cls[4]? = some mj_K4) (by decide) mj_u4 (Or.inl (mj_w1 96 rfl rfl)) (Or.inl rfl) mj_pd4 mj_ds4 (Or.inl rfl))
   (mj_ac (mj_e_gf "Uncomputery$Reader" (rfl : mj_cls[5]? = some mj_K5) (by decide) mj_u5 (Or.inl (mj_w1 156 rfl rfl)) (Or.inl rfl))
   (mj_ac (mj_e_pf "Uncomputery$Reader" (rfl : mj_cls[5]? = some mj_K5) (by decide) mj_u5 (Or.inl (mj_w1 156 rfl rfl)) (Or.inl rfl) mj_pd5 mj_ds5 (Or.inl rfl))
   mj_an))))))))))))
theorem mj_ok97 : mj_okRow mj_Tw mj_Mm mj_r97 := ⟨by decide +kernel, by decide +kernel, (mj_w1 6 rfl rfl), by decide, Or.inl ⟨mj_cd97, rfl, rfl⟩, mj_wlE (by decide +kernel) mj_wl97⟩
theorem mj_wl98 : ∀ x ∈ ([(11, .getfield 27, 2, 5, 0), (14, .invokevirtual 52, 88, 3, 6), (20, .getfield 27, 2, 5, 0), (25, .putfield 27, 2, 5, 0), (29, .getfield 19, 1, 5, 0), (32, .invokevirtual 123, 21, 1, 4), (39, .getfield 19, 1, 5, 0), (43, .invokevirtual 82, 89, 2, 4), (46, .invokevirtual 126, 99, 2, 6), (57, .invokevirtual 60, 101, 3, 6), (70, .invokevirtual 35, 83, 3, 6), (80, .getfield 27, 2, 5, 0), (85, .putfield 27, 2, 5, 0), (89, .getfield 19, 1, 5, 0), (92, .invokevirtual 123, 21, 1, 4), (98, .getfield 19, 1, 5, 0), (102, .invokevirtual 82, 89, 2, 4), (113, .invokevirtual 35, 83, 3, 6), (123, .getfield 27, 2, 5, 0), (128, .putfield 27, 2, 5, 0), (132, .getfield 19, 1, 5, 0), (135, .invokevirtual 123, 21, 1, 4), (142, .getfield 19, 1, 5, 0), (146, .invokevirtual 82, 89, 2, 4), (149, .invokevirtual 126, 99, 2, 6), (159, .invokevirtual 60, 101, 3, 6), (168, .getfield 19, 1, 5, 0), (177, .invokevirtual 129, 102, 4, 4)] : List (Nat × mj_E)), mj_okW mj_Tw mj_Mm mj_m98 x.1 x.2 :=
  (mj_ac (mj_e_gf "Uncomputery$Reader" (rfl : mj_cls[5]? = some mj_K5) (by decide) mj_u5 (Or.inl (mj_w1 156 rfl rfl)) (Or.inl rfl))
   (mj_ac (mj_e_vi mj_M88 mj_nm88 mj_np88 (mj_w3 183 rfl rfl) (rfl : mj_cls[5]? = some mj_K5) (mj_wp 18 rfl rfl) (mj_w3 181 rfl rfl) mj_cd88)
   (mj_ac (mj_e_gf "Uncomputery$Reader" (rfl : mj_cls[5]? = some mj_K5) (by decide) mj_u5 (Or.inl (mj_w1 156 rfl rfl)) (Or.inl rfl))
   (mj_ac (mj_e_pf "Uncomputery$Reader" (rfl : mj_cls[5]? = some mj_K5) (by decide) mj_u5 (Or.inl (mj_w1 156 rfl rfl)) (Or.inl rfl) mj_pd5 mj_ds5 (Or.inl rfl))
   (mj_ac (mj_e_gf "Uncomputery$Reader" (rfl : mj_cls[5]? = some mj_K5) (by decide) mj_u5 (Or.inl (mj_w1 155 rfl rfl)) (Or.inl rfl))
   (mj_ac (mj_e_vi mj_M21 mj_nm21 mj_np21 (mj_w2 152 rfl rfl) (rfl : mj_cls[3]? = some mj_K3) (mj_w2 153 rfl rfl) (mj_w3 223 rfl rfl) mj_cd21)
   (mj_ac (mj_e_gf "Uncomputery$Reader" (rfl : mj_cls[5]? = some mj_K5) (by decide) mj_u5 (Or.inl (mj_w1 155 rfl rfl)) (Or.inl rfl))
   (mj_ac (mj_e_vi mj_M89 mj_nm89 mj_np89 (mj_w3 186 rfl rfl) (rfl : mj_cls[3]? = some mj_K3) (mj_w3 187 rfl rfl) (mj_w3 185 rfl rfl) mj_cd89)
   (mj_ac (mj_e_vi mj_M99 mj_nm99 mj_np99 (mj_w3 226 rfl rfl) (rfl : mj_cls[5]? = some mj_K5) (mj_wp 24 rfl rfl) (mj_w3 224 rfl rfl) mj_cd99)
   (mj_ac (mj_e_vi mj_M101 mj_nm101 mj_np101 (mj_w3 233 rfl rfl) (rfl : mj_cls[5]? = some mj_K5) (mj_wp 25 rfl rfl) (mj_w3 231 rfl rfl) mj_cd101)
   (mj_ac (mj_e_vi mj_M83 mj_nm83 mj_np83 (mj_w3 164 rfl rfl) (rfl : mj_cls[5]? = some mj_K5) (mj_wp 14 rfl rfl) (mj_w3 162 rfl rfl) mj_cd83)
   (mj_ac (mj_e_gf "Uncomputery$Reader" (rfl : mj_cls[5]? = some mj_K5) (by decide) mj_u5 (Or.inl (mj_w1 156 rfl rfl)) (Or.inl rfl))
   (mj_ac (mj_e_pf "Uncomputery$Reader" (rfl : mj_cls[5]? = some mj_K5) (by decide) mj_u5 (Or.inl (mj_w1 156 rfl rfl)) (Or.inl rfl) mj_pd5 mj_ds5 (Or.inl rfl))
   (mj_ac (mj_e_gf "Uncomputery$Reader" (rfl : mj_cls[5]? = some mj_K5) (by decide) mj_u5 (Or.inl (mj_w1 155 rfl rfl)) (Or.inl rfl))
   (mj_ac (mj_e_vi mj_M21 mj_nm21 mj_np21 (mj_w2 152 rfl rfl) (rfl : mj_cls[3]? = some mj_K3) (mj_w2 153 rfl rfl) (mj_w3 223 rfl rfl) mj_cd21)
   (mj_ac (mj_e_gf "Uncomputery$Reader" (rfl : mj_cls[5]? = some mj_K5) (by decide) mj_u5 (Or.inl (mj_w1 155 rfl rfl)) (Or.inl rfl))
   (mj_ac (mj_e_vi mj_M89 mj_nm89 mj_np89 (mj_w3 186 rfl rfl) (rfl : mj_cls[3]? = some mj_K3) (mj_w3 187 rfl rfl) (mj_w3 185 rfl rfl) mj_cd89)
   (mj_ac (mj_e_vi mj_M83 mj_nm83 mj_np83 (mj_w3 164 rfl rfl) (rfl : mj_cls[5]? = some mj_K5) (mj_wp 14 rfl rfl) (mj_w3 162 rfl rfl) mj_cd83)
   (mj_ac (mj_e_gf "Uncomputery$Reader" (rfl : mj_cls[5]? = some mj_K5) (by decide) mj_u5 (Or.inl (mj_w1 156 rfl rfl)) (Or.inl rfl))
   (mj_ac (mj_e_pf "Uncomputery$Reader" (rfl : mj_cls[5]? = some mj_K5) (by decide) mj_u5 (Or.inl (mj_w1 156 rfl rfl)) (Or.inl rfl) mj_pd5 mj_ds5 (Or.inl rfl))
   (mj_ac (mj_e_gf "Uncomputery$Reader" (rfl : mj_cls[5]? = some mj_K5) (by decide) mj_u5 (Or.inl (mj_w1 155 rfl rfl)) (Or.inl rfl))
   (mj_ac (mj_e_vi mj_M21 mj_nm21 mj_np21 (mj_w2 152 rfl rfl) (rfl : mj_cls[3]? = some mj_K3) (mj_w2 153 rfl rfl) (mj_w3 223 rfl rfl) mj_cd21)
   (mj_ac (mj_e_gf "Uncomputery$Reader" (rfl : mj_cls[5]? = some mj_K5) (by decide) mj_u5 (Or.inl (mj_w1 155 rfl rfl)) (Or.inl rfl))
   (mj_ac (mj_e_vi mj_M89 mj_nm89 mj_np89 (mj_w3 186 rfl rfl) (rfl : mj_cls[3]? = some mj_K3) (mj_w3 187 rfl rfl) (mj_w3 185 rfl rfl) mj_cd89)
   (mj_ac (mj_e_vi mj_M99 mj_nm99 mj_np99 (mj_w3 226 rfl rfl) (rfl : mj_cls[5]? = some mj_K5) (mj_wp 24 rfl rfl) (mj_w3 224 rfl rfl) mj_cd99)
   (mj_ac (mj_e_vi mj_M101 mj_nm101 mj_np101 (mj_w3 233 rfl rfl) (rfl : mj_cls[5]? = some mj_K5) (mj_wp 25 rfl rfl) (mj_w3 231 rfl rfl) mj_cd101)
   (mj_ac (mj_e_gf "Uncomputery$Reader" (rfl : mj_cls[5]? = some mj_K5) (by decide) mj_u5 (Or.inl (mj_w1 155 rfl rfl)) (Or.inl rfl))
   (mj_ac (mj_e_vi mj_M102 mj_nm102 mj_np102 (mj_w3 236 rfl rfl) (rfl : mj_cls[3]? = some mj_K3) (mj_w3 237 rfl rfl) (mj_w3 235 rfl rfl) mj_cd102)
   mj_an))))))))))))))))))))))))))))
theorem mj_ok98 : mj_okRow mj_Tw mj_Mm mj_r98 := ⟨by decide +kernel, by decide +kernel, (mj_w1 6 rfl rfl), by decide, Or.inl ⟨mj_cd98, rfl, rfl⟩, mj_wlE (by decide +kernel) mj_wl98⟩
theorem mj_wl99 : ∀ x ∈ ([(1, .invokevirtual 95, 92, 1, 6), (11, .getfield 98, 5, 5, 0), (14, .putfield 101, 2, 4, 0), (18, .invokevirtual 48, 84, 1, 6), (21, .invokestatic 133, 100, 1, 0), (31, .getfield 27, 2, 5, 0), (34, .invokevirtual 52, 88, 3, 6), (40, .invokevirtual 48, 84, 1, 6), (44, .putfield 107, 3, 4, 0), (49, .getfield 27, 2, 5, 0), (54, .putfield 27, 2, 5, 0), (58, .invokevirtual 95, 92, 1, 6), (68, .getfield 98, 5, 5, 0), (71, .putfield 110, 4, 4, 0)] : List (Nat × mj_E)), mj_okW mj_Tw mj_Mm mj_m99 x.1 x.2 :=
  (mj_ac (mj_e_vi mj_M92 mj_nm92 mj_np92 (mj_w3 200 rfl rfl) (rfl : mj_cls[5]? = some mj_K5) (mj_wp 20 rfl rfl) (mj_w3 198 rfl rfl) mj_cd92)
   (mj_ac (mj_e_gf "Uncomputery$Reader" (rfl : mj_cls[5]? = some mj_K5) (by decide) mj_u5 (Or.inl (mj_w1 159 rfl rfl)) (Or.inl rfl))
   (mj_ac (mj_e_pf "Uncomputery$Instruction" (rfl : mj_cls[4]? = some mj_K4) (by decide) mj_u4 (Or.inl (mj_w1 101 rfl rfl)) (Or.inl rfl) mj_pd4 mj_ds4 (Or.inl rfl))
   (mj_ac (mj_e_vi mj_M84 mj_nm84 mj_np84 (mj_w3 168 rfl rfl) (rfl : mj_cls[5]? = some mj_K5) (mj_wp 15 rfl rfl) (mj_w3 166 rfl rfl) mj_cd84)
   (mj_ac (mj_e_st mj_M100 mj_nm100 mj_np100 (mj_w3 229 rfl rfl) (mj_w1 6 rfl rfl) mj_cd100 (mj_w3 228 rfl rfl))
   (mj_ac (mj_e_gf "Uncomputery$Reader" (rfl : mj_cls[5]? = some mj_K5) (by decide) mj_u5 (Or.inl (mj_w1 156 rfl rfl)) (Or.inl rfl))
   (mj_ac (mj_e_vi mj_M88 mj_nm88 mj_np88 (mj_w3 183 rfl rfl) (rfl : mj_cls[5]? = some mj_K5) (mj_wp 18 rfl rfl) (mj_w3 181 rfl rfl) mj_cd88)
   (mj_ac (mj_e_vi mj_M84 mj_nm84 mj_np84 (mj_w3 168 rfl rfl) (rfl : mj_cls[5]? = some mj_K5) (mj_wp 15 rfl rfl) (mj_w3 166 rfl rfl) mj_cd84)
   (mj_ac (mj_e_pf "Uncomputery$Instruction" (rfl : mj_cls[4]? = some mj_K4) (by decide) mj_u4 (Or.inl (mj_w1 106 rfl rfl)) (Or.inl rfl) mj_pd4 mj_ds4 (Or.inl rfl))
   (mj_ac (mj_e_gf "Uncomputery$Reader" (rfl : mj_cls[5]? = some mj_K5) (by decide) mj_u5 (Or.inl (mj_w1 156 rfl rfl)) (Or.inl rfl))
   (mj_ac (mj_e_pf "Uncomputery$Reader" (rfl : mj_cls[5]? = some mj_K5) (by decide) mj_u5 (Or.inl (mj_w1 156 rfl rfl)) (Or.inl rfl) mj_pd5 mj_ds5 (Or.inl rfl))
   (mj_ac (mj_e_vi mj_M92 mj_nm92 mj_np92 (mj_w3 200 rfl rfl) (rfl : mj_cls[5]? = some mj_K5) (mj_wp 20 rfl rfl) (mj_w3 198 rfl rfl) mj_cd92)
   (mj_ac (mj_e_gf "Uncomputery$Reader" (rfl : mj_cls[5]? = some mj_K5) (by decide) mj_u5 (Or.inl (mj_w1 159 rfl rfl)) (Or.inl rfl))
   (mj_ac (mj_e_pf "Uncomputery$Instruction" (rfl : mj_cls[4]? = some mj_K4) (by decide) mj_u4 (Or.inl (mj_w1 110 rfl rfl)) (Or.inl rfl) mj_pd4 mj_ds4 (Or.inl rfl))
   mj_an))))))))))))))
theorem mj_ok99 : mj_okRow mj_Tw mj_Mm mj_r99 := ⟨by decide +kernel, by decide +kernel, (mj_w1 6 rfl rfl), by decide, Or.inl ⟨mj_cd99, rfl, rfl⟩, mj_wlE (by decide +kernel) mj_wl99⟩
theorem mj_wl100 : ∀ x ∈ ([] : List (Nat × mj_E)), mj_okW mj_Tw mj_Mm mj_m100 x.1 x.2 :=
  mj_an
theorem mj_ok100 : mj_okRow mj_Tw mj_Mm mj_r100 := ⟨by decide +kernel, by decide +kernel, (mj_w1 6 rfl rfl), by decide, Or.inl ⟨mj_cd100, rfl, rfl⟩, mj_wlE (by decide +kernel) mj_wl100⟩
theorem mj_wl101 : ∀ x ∈ ([(1, .invokevirtual 48, 84, 1, 6), (11, .getfield 27, 2, 5, 0), (14, .invokevirtual 52, 88, 3, 6), (20, .getfield 27, 2, 5, 0), (25, .putfield 27, 2, 5, 0)] : List (Nat × mj_E)), mj_okW mj_Tw mj_Mm mj_m101 x.1 x.2 :=
  (mj_ac (mj_e_vi mj_M84 mj_nm84 mj_np84 (mj_w3 168 rfl rfl) (rfl : mj_cls[5]? = some mj_K5) (mj_wp 15 rfl rfl) (mj_w3 166 rfl rfl) mj_cd84)
   (mj_ac (mj_e_gf "Uncomputery$Reader" (rfl : mj_cls[5]? = some mj_K5) (by decide) mj_u5 (Or.inl (mj_w1 156 rfl rfl)) (Or.inl rfl))
   (mj_ac (mj_e_vi mj_M88 mj_nm88 mj_np88 (mj_w3 183 rfl rfl) (rfl : mj_cls[5]? = some mj_K5) (mj_wp 18 rfl rfl) (mj_w3 181 rfl rfl) mj_cd88)
   (mj_ac (mj_e_gf "Uncomputery$Reader" (rfl : mj_cls[5]? = some mj_K5) (by decide) mj_u5 (Or.inl (mj_w1 156 rfl rfl)) (Or.inl rfl))
   (mj_ac (mj_e_pf "Uncomputery$Reader" (rfl : mj_cls[5]? = some mj_K5) (by decide) mj_u5 (Or.inl (mj_w1 156 rfl rfl)) (Or.inl rfl) mj_pd5 mj_ds5 (Or.inl rfl))
   mj_an)))))
theorem mj_ok101 : mj_okRow mj_Tw mj_Mm mj_r101 := ⟨by decide +kernel, by decide +kernel, (mj_w1 6 rfl rfl), by decide, Or.inl ⟨mj_cd101, rfl, rfl⟩, mj_wlE (by decide +kernel) mj_wl101⟩
theorem mj_wl102 : ∀ x ∈ ([(2, .invokevirtual 30, 74, 2, 4), (8, .invokestatic 34, 103, 4, 0), (13, .invokevirtual 30, 74, 2, 4), (19, .invokestatic 34, 103, 4, 0), (24, .invokevirtual 30, 74, 2, 4), (30, .invokestatic 34, 103, 4, 0)] : List (Nat × mj_E)), mj_okW mj_Tw mj_Mm mj_m102 x.1 x.2 :=
  (mj_ac (mj_e_vi mj_M74 mj_nm74 mj_np74 (mj_w3 130 rfl rfl) (rfl : mj_cls[3]? = some mj_K3) (mj_w3 131 rfl rfl) (mj_w3 129 rfl rfl) mj_cd74)
   (mj_ac (mj_e_st mj_M103 mj_nm103 mj_np103 (mj_w4 0 rfl rfl) (mj_w1 4 rfl rfl) mj_cd103 (mj_w3 239 rfl rfl))
   (mj_ac (mj_e_vi mj_M74 mj_nm74 mj_np74 (mj_w3 130 rfl rfl) (rfl : mj_cls[3]? = some mj_K3) (mj_w3 131 rfl rfl) (mj_w3 129 rfl rfl) mj_cd74)
   (mj_ac (mj_e_st mj_M103 mj_nm103 mj_np103 (mj_w4 0 rfl rfl) (mj_w1 4 rfl rfl) mj_cd103 (mj_w3 239 rfl rfl))
   (mj_ac (mj_e_vi mj_M74 mj_nm74 mj_np74 (mj_w3 130 rfl rfl) (rfl : mj_cls[3]? = some mj_K3) (mj_w3 131 rfl rfl) (mj_w3 129 rfl rfl) mj_cd74)
   (mj_ac (mj_e_st mj_M103 mj_nm103 mj_np103 (mj_w4 0 rfl rfl) (mj_w1 4 rfl rfl) mj_cd103 (mj_w3 239 rfl rfl))
   mj_an))))))
theorem mj_ok102 : mj_okRow mj_Tw mj_Mm mj_r102 := ⟨by decide +kernel, by decide +kernel, (mj_w1 4 rfl rfl), by decide, Or.inl ⟨mj_cd102, rfl, rfl⟩, mj_wlE (by decide +kernel) mj_wl102⟩
theorem mj_wl103 : ∀ x ∈ ([(2, .putfield 38, 5, 4, 0), (7, .putfield 41, 6, 4, 0), (12, .putfield 44, 7, 4, 0)] : List (Nat × mj_E)), mj_okW mj_Tw mj_Mm mj_m103 x.1 x.2 :=
  (mj_ac (mj_e_pf "Uncomputery$Instruction" (rfl : mj_cls[4]? = some mj_K4) (by decide) mj_u4 (Or.inl (mj_w1 113 rfl rfl)) (Or.inl rfl) mj_pd4 mj_ds4 (Or.inl rfl))
   (mj_ac (mj_e_pf "Uncomputery$Instruction" (rfl : mj_cls[4]? = some mj_K4) (by decide) mj_u4 (Or.inl (mj_w1 116 rfl rfl)) (Or.inl rfl) mj_pd4 mj_ds4 (Or.inl rfl))
   (mj_ac (mj_e_pf "Uncomputery$Instruction" (rfl : mj_cls[4]? = some mj_K4) (by decide) mj_u4 (Or.inl (mj_w1 119 rfl rfl)) (Or.inl rfl) mj_pd4 mj_ds4 (Or.inl rfl))
   mj_an)))
theorem mj_ok103 : mj_okRow mj_Tw mj_Mm mj_r103 := ⟨by decide +kernel, by decide +kernel, (mj_w1 4 rfl rfl), by decide, Or.inl ⟨mj_cd103, rfl, rfl⟩, mj_wlE (by decide +kernel) mj_wl103⟩
theorem mj_wl104 : ∀ x ∈ ([(1, .getfield 15, 1, 2, 0), (5, .getfield 15, 1, 2, 0), (17, .getfield 15, 1, 2, 0), (25, .invokevirtual 30, 105, 2, 3), (30, .invokevirtual 30, 105, 2, 3)] : List (Nat × mj_E)), mj_okW mj_Tw mj_Mm mj_m104 x.1 x.2 :=
  (mj_ac (mj_e_gf "Uncomputery$Text" (rfl : mj_cls[2]? = some mj_K2) (by decide) mj_u2 (Or.inl (mj_w1 70 rfl rfl)) (Or.inl rfl))
   (mj_ac (mj_e_gf "Uncomputery$Text" (rfl : mj_cls[2]? = some mj_K2) (by decide) mj_u2 (Or.inl (mj_w1 70 rfl rfl)) (Or.inl rfl))
   (mj_ac (mj_e_gf "Uncomputery$Text" (rfl : mj_cls[2]? = some mj_K2) (by decide) mj_u2 (Or.inl (mj_w1 70 rfl rfl)) (Or.inl rfl))
   (mj_ac (mj_e_vi mj_M105 mj_nm105 mj_np105 (mj_w4 8 rfl rfl) (rfl : mj_cls[2]? = some mj_K2) (mj_w4 9 rfl rfl) (mj_w4 7 rfl rfl) mj_cd105)
   (mj_ac (mj_e_vi mj_M105 mj_nm105 mj_np105 (mj_w4 8 rfl rfl) (rfl : mj_cls[2]? = some mj_K2) (mj_w4 9 rfl rfl) (mj_w4 7 rfl rfl) mj_cd105)
   mj_an)))))
theorem mj_ok104 : mj_okRow mj_Tw mj_Mm mj_r104 := ⟨by decide +kernel, by decide +kernel, (mj_w1 3 rfl rfl), by decide, Or.inl ⟨mj_cd104, rfl, rfl⟩, mj_wlE (by decide +kernel) mj_wl104⟩
theorem mj_wl105 : ∀ x ∈ ([(6, .getfield 15, 1, 2, 0), (14, .getfield 9, 0, 2, 0), (22, .getfield 9, 0, 2, 0)] : List (Nat × mj_E)), mj_okW mj_Tw mj_Mm mj_m105 x.1 x.2 :=
  (mj_ac (mj_e_gf "Uncomputery$Text" (rfl : mj_cls[2]? = some mj_K2) (by decide) mj_u2 (Or.inl (mj_w1 70 rfl rfl)) (Or.inl rfl))
   (mj_ac (mj_e_gf "Uncomputery$Text" (rfl : mj_cls[2]? = some mj_K2) (by decide) mj_u2 (Or.inl (mj_w1 68 rfl rfl)) (Or.inl rfl))
   (mj_ac (mj_e_gf "Uncomputery$Text" (rfl : mj_cls[2]? = some mj_K2) (by decide) mj_u2 (Or.inl (mj_w1 68 rfl rfl)) (Or.inl rfl))
   mj_an)))
theorem mj_ok105 : mj_okRow mj_Tw mj_Mm mj_r105 := ⟨by decide +kernel, by decide +kernel, (mj_w1 3 rfl rfl), by decide, Or.inl ⟨mj_cd105, rfl, rfl⟩, mj_wlE (by decide +kernel) mj_wl105⟩
theorem mj_wl106 : ∀ x ∈ ([(1, .getfield 61, 9, 0, 0), (4, .invokevirtual 314, 36, 1, 10), (17, .getfield 61, 9, 0, 0), (21, .invokevirtual 302, 38, 2, 10), (26, .getfield 61, 9, 0, 0), (30, .invokevirtual 305, 107, 2, 10), (38, .getfield 61, 9, 0, 0), (42, .invokevirtual 389, 108, 2, 10)] : List (Nat × mj_E)), mj_okW mj_Tw mj_Mm mj_m106 x.1 x.2 :=
  (mj_ac (mj_e_gf "Uncomputery" (rfl : mj_cls[0]? = some mj_K0) (by decide) mj_u0 (Or.inl (mj_w2 68 rfl rfl)) (Or.inl rfl))
   (mj_ac (mj_e_vi mj_M36 mj_nm36 mj_np36 (mj_w2 209 rfl rfl) (rfl : mj_cls[9]? = some mj_K9) (mj_w2 210 rfl rfl) (mj_w2 208 rfl rfl) mj_cd36)
   (mj_ac (mj_e_gf "Uncomputery" (rfl : mj_cls[0]? = some mj_K0) (by decide) mj_u0 (Or.inl (mj_w2 68 rfl rfl)) (Or.inl rfl))
   (mj_ac (mj_e_vi mj_M38 mj_nm38 mj_np38 (mj_w2 217 rfl rfl) (rfl : mj_cls[9]? = some mj_K9) (mj_w2 218 rfl rfl) (mj_w4 15 rfl rfl) mj_cd38)
   (mj_ac (mj_e_gf "Uncomputery" (rfl : mj_cls[0]? = some mj_K0) (by decide) mj_u0 (Or.inl (mj_w2 68 rfl rfl)) (Or.inl rfl))
   (mj_ac (mj_e_vi mj_M107 mj_nm107 mj_np107 (mj_w4 17 rfl rfl) (rfl : mj_cls[9]? = some mj_K9) (mj_w4 18 rfl rfl) (mj_w4 16 rfl rfl) mj_cd107)
   (mj_ac (mj_e_gf "Uncomputery" (rfl : mj_cls[0]? = some mj_K0) (by decide) mj_u0 (Or.inl (mj_w2 68 rfl rfl)) (Or.inl rfl))
   (mj_ac (mj_e_vi mj_M108 mj_nm108 mj_np108 (mj_w4 21 rfl rfl) (rfl : mj_cls[9]? = some mj_K9) (mj_w4 22 rfl rfl) (mj_w4 20 rfl rfl) mj_cd108)
   mj_an))))))))
theorem mj_ok106 : mj_okRow mj_Tw mj_Mm mj_r106 := ⟨by decide +kernel, by decide +kernel, (mj_w1 1 rfl rfl), by decide, Or.inl ⟨mj_cd106, rfl, rfl⟩, mj_wlE (by decide +kernel) mj_wl106⟩
theorem mj_wl107 : ∀ x ∈ ([(3, .getfield 21, 3, 9, 0), (7, .getfield 9, 0, 9, 0), (11, .invokestatic 29, 9005, 2, 0), (22, .getfield 9, 0, 9, 0), (28, .invokestatic 25, 39, 2, 0)] : List (Nat × mj_E)), mj_okW mj_Tw mj_Mm mj_m107 x.1 x.2 :=
  (mj_ac (mj_e_gf "Uncomputery$Circuit" (rfl : mj_cls[9]? = some mj_K9) (by decide) mj_u9 (Or.inl (mj_w2 46 rfl rfl)) (Or.inl rfl))
   (mj_ac (mj_e_gf "Uncomputery$Circuit" (rfl : mj_cls[9]? = some mj_K9) (by decide) mj_u9 (Or.inl (mj_w2 43 rfl rfl)) (Or.inl rfl))
   (mj_ac (mj_e_mi (mj_w2 175 rfl rfl) (mj_w2 176 rfl rfl) (mj_w1 25 rfl rfl) (mj_w2 177 rfl rfl))
   (mj_ac (mj_e_gf "Uncomputery$Circuit" (rfl : mj_cls[9]? = some mj_K9) (by decide) mj_u9 (Or.inl (mj_w2 43 rfl rfl)) (Or.inl rfl))
   (mj_ac (mj_e_st mj_M39 mj_nm39 mj_np39 (mj_w2 221 rfl rfl) (mj_w1 10 rfl rfl) mj_cd39 (mj_w2 220 rfl rfl))
   mj_an)))))
theorem mj_ok107 : mj_okRow mj_Tw mj_Mm mj_r107 := ⟨by decide +kernel, by decide +kernel, (mj_w1 10 rfl rfl), by decide, Or.inl ⟨mj_cd107, rfl, rfl⟩, mj_wlE (by decide +kernel) mj_wl107⟩
theorem mj_wl108 : ∀ x ∈ ([(6, .getfield 59, 4, 9, 0), (14, .invokevirtual 66, 109, 2, 10), (18, .invokestatic 25, 39, 2, 0)] : List (Nat × mj_E)), mj_okW mj_Tw mj_Mm mj_m108 x.1 x.2 :=
  (mj_ac (mj_e_gf "Uncomputery$Circuit" (rfl : mj_cls[9]? = some mj_K9) (by decide) mj_u9 (Or.inl (mj_w2 47 rfl rfl)) (Or.inl rfl))
   (mj_ac (mj_e_vi mj_M109 mj_nm109 mj_np109 (mj_w4 25 rfl rfl) (rfl : mj_cls[9]? = some mj_K9) (mj_w4 26 rfl rfl) (mj_w4 24 rfl rfl) mj_cd109)
   (mj_ac (mj_e_st mj_M39 mj_nm39 mj_np39 (mj_w2 221 rfl rfl) (mj_w1 10 rfl rfl) mj_cd39 (mj_w2 220 rfl rfl))
   mj_an)))
theorem mj_ok108 : mj_okRow mj_Tw mj_Mm mj_r108 := ⟨by decide +kernel, by decide +kernel, (mj_w1 10 rfl rfl), by decide, Or.inl ⟨mj_cd108, rfl, rfl⟩, mj_wlE (by decide +kernel) mj_wl108⟩
theorem mj_wl109 : ∀ x ∈ ([(1, .getfield 59, 4, 9, 0), (15, .getfield 18, 2, 9, 0), (23, .getfield 18, 2, 9, 0)] : List (Nat × mj_E)), mj_okW mj_Tw mj_Mm mj_m109 x.1 x.2 :=
  (mj_ac (mj_e_gf "Uncomputery$Circuit" (rfl : mj_cls[9]? = some mj_K9) (by decide) mj_u9 (Or.inl (mj_w2 47 rfl rfl)) (Or.inl rfl))
   (mj_ac (mj_e_gf "Uncomputery$Circuit" (rfl : mj_cls[9]? = some mj_K9) (by decide) mj_u9 (Or.inl (mj_w2 45 rfl rfl)) (Or.inl rfl))
   (mj_ac (mj_e_gf "Uncomputery$Circuit" (rfl : mj_cls[9]? = some mj_K9) (by decide) mj_u9 (Or.inl (mj_w2 45 rfl rfl)) (Or.inl rfl))
   mj_an)))
theorem mj_ok109 : mj_okRow mj_Tw mj_Mm mj_r109 := ⟨by decide +kernel, by decide +kernel, (mj_w1 10 rfl rfl), by decide, Or.inl ⟨mj_cd109, rfl, rfl⟩, mj_wlE (by decide +kernel) mj_wl109⟩
theorem mj_wl110 : ∀ x ∈ ([(4, .invokevirtual 7, 111, 2, 1)] : List (Nat × mj_E)), mj_okW mj_Tw mj_Mm mj_m110 x.1 x.2 :=
  (mj_ac (mj_e_vi mj_M111 mj_nm111 mj_np111 (mj_w4 33 rfl rfl) (rfl : mj_cls[0]? = some mj_K0) (mj_w4 34 rfl rfl) (mj_w4 32 rfl rfl) mj_cd111)
   mj_an)
theorem mj_ok110 : mj_okRow mj_Tw mj_Mm mj_r110 := ⟨by decide +kernel, by decide +kernel, (mj_w1 0 rfl rfl), by decide, Or.inr ⟨mj_cd110, ⟨⟨rfl, rfl, rfl, by decide, mj_K11, rfl, (mj_w4 31 rfl rfl), (mj_w4 42 rfl rfl)⟩, trivial⟩⟩, mj_wlE (by decide +kernel) mj_wl110⟩
theorem mj_wl111 : ∀ x ∈ ([(1, .getfield 10, 0, 0, 0), (4, .getfield 75, 0, 1, 0), (7, .invokevirtual 78, 112, 1, 3), (13, .new 82, 11, 0, 1), (24, .getfield 10, 0, 0, 0), (27, .getfield 75, 0, 1, 0), (31, .invokevirtual 89, 73, 2, 3), (35, .getfield 10, 0, 0, 0), (38, .getfield 75, 0, 1, 0), (41, .invokevirtual 93, 12, 1, 3)] : List (Nat × mj_E)), mj_okW mj_Tw mj_Mm mj_m111 x.1 x.2 :=
  (mj_ac (mj_e_gf "Uncomputery" (rfl : mj_cls[0]? = some mj_K0) (by decide) mj_u0 (Or.inl (mj_w2 59 rfl rfl)) (Or.inl rfl))
   (mj_ac (mj_e_gf "Uncomputery$Procedure" (rfl : mj_cls[1]? = some mj_K1) (by decide) mj_u1 (Or.inl (mj_w1 174 rfl rfl)) (Or.inl rfl))
   (mj_ac (mj_e_vi mj_M112 mj_nm112 mj_np112 (mj_w4 37 rfl rfl) (rfl : mj_cls[2]? = some mj_K2) (mj_w4 38 rfl rfl) (mj_w4 36 rfl rfl) mj_cd112)
   (mj_ac (mj_e_th 84 86 mj_tc11 rfl (mj_w4 40 rfl rfl) (text := "60 signs are typed") (by decide +kernel) (mj_w4 85 rfl rfl) (by decide +kernel) (Or.inl ⟨by decide +kernel, by decide +kernel, by decide +kernel⟩))
   (mj_ac (mj_e_gf "Uncomputery" (rfl : mj_cls[0]? = some mj_K0) (by decide) mj_u0 (Or.inl (mj_w2 59 rfl rfl)) (Or.inl rfl))
   (mj_ac (mj_e_gf "Uncomputery$Procedure" (rfl : mj_cls[1]? = some mj_K1) (by decide) mj_u1 (Or.inl (mj_w1 174 rfl rfl)) (Or.inl rfl))
   (mj_ac (mj_e_vi mj_M73 mj_nm73 mj_np73 (mj_w3 126 rfl rfl) (rfl : mj_cls[2]? = some mj_K2) (mj_w3 127 rfl rfl) (mj_w4 111 rfl rfl) mj_cd73)
   (mj_ac (mj_e_gf "Uncomputery" (rfl : mj_cls[0]? = some mj_K0) (by decide) mj_u0 (Or.inl (mj_w2 59 rfl rfl)) (Or.inl rfl))
   (mj_ac (mj_e_gf "Uncomputery$Procedure" (rfl : mj_cls[1]? = some mj_K1) (by decide) mj_u1 (Or.inl (mj_w1 174 rfl rfl)) (Or.inl rfl))
   (mj_ac (mj_e_vi mj_M12 mj_nm12 mj_np12 (mj_w2 116 rfl rfl) (rfl : mj_cls[2]? = some mj_K2) (mj_w2 117 rfl rfl) (mj_w2 115 rfl rfl) mj_cd12)
   mj_an))))))))))
theorem mj_ok111 : mj_okRow mj_Tw mj_Mm mj_r111 := ⟨by decide +kernel, by decide +kernel, (mj_w1 1 rfl rfl), by decide, Or.inl ⟨mj_cd111, rfl, rfl⟩, mj_wlE (by decide +kernel) mj_wl111⟩
theorem mj_wl112 : ∀ x ∈ ([(1, .getfield 15, 1, 2, 0)] : List (Nat × mj_E)), mj_okW mj_Tw mj_Mm mj_m112 x.1 x.2 :=
  (mj_ac (mj_e_gf "Uncomputery$Text" (rfl : mj_cls[2]? = some mj_K2) (by decide) mj_u2 (Or.inl (mj_w1 70 rfl rfl)) (Or.inl rfl))
   mj_an)
theorem mj_ok112 : mj_okRow mj_Tw mj_Mm mj_r112 := ⟨by decide +kernel, by decide +kernel, (mj_w1 3 rfl rfl), by decide, Or.inl ⟨mj_cd112, rfl, rfl⟩, mj_wlE (by decide +kernel) mj_wl112⟩
theorem mj_wl113 : ∀ x ∈ ([(1, .invokespecial 1, 9003, 1, 0), (10, .getstatic 13, 10, 0, 0), (17, .getstatic 20, 11, 0, 0)] : List (Nat × mj_E)), mj_okW mj_Tw mj_Mm mj_m113 x.1 x.2 :=
  (mj_ac (mj_e_ob (mj_w4 65 rfl rfl) (mj_w1 54 rfl rfl) (mj_w1 55 rfl rfl))
   (mj_ac (mj_e_gs rfl (mj_w4 66 rfl rfl))
   (mj_ac (mj_e_gs rfl (mj_w4 68 rfl rfl))
   mj_an)))
theorem mj_ok113 : mj_okRow mj_Tw mj_Mm mj_r113 := ⟨by decide +kernel, by decide +kernel, (mj_w1 16 rfl rfl), by decide, Or.inl ⟨mj_cd113, rfl, rfl⟩, mj_wlE (by decide +kernel) mj_wl113⟩
theorem mj_wl114 : ∀ x ∈ ([] : List (Nat × mj_E)), mj_okW mj_Tw mj_Mm mj_m114 x.1 x.2 :=
  mj_an
theorem mj_ok114 : mj_okRow mj_Tw mj_Mm mj_r114 := ⟨by decide +kernel, by decide +kernel, (mj_w1 19 rfl rfl), by decide, Or.inl ⟨mj_cd114, rfl, rfl⟩, mj_wlE (by decide +kernel) mj_wl114⟩
theorem mj_wl115 : ∀ x ∈ ([] : List (Nat × mj_E)), mj_okW mj_Tw mj_Mm mj_m115 x.1 x.2 :=
  mj_an
theorem mj_ok115 : mj_okRow mj_Tw mj_Mm mj_r115 := ⟨by decide +kernel, by decide +kernel, (mj_w1 18 rfl rfl), by decide, Or.inl ⟨mj_cd115, rfl, rfl⟩, mj_wlE (by decide +kernel) mj_wl115⟩
theorem mj_wl116 : ∀ x ∈ ([] : List (Nat × mj_E)), mj_okW mj_Tw mj_Mm mj_m116 x.1 x.2 :=
  mj_an
theorem mj_ok116 : mj_okRow mj_Tw mj_Mm mj_r116 := ⟨by decide +kernel, by decide +kernel, (mj_w1 17 rfl rfl), by decide, Or.inl ⟨mj_cd116, rfl, rfl⟩, mj_wlE (by decide +kernel) mj_wl116⟩
theorem mj_wl117 : ∀ x ∈ ([(1, .invokespecial 1, 9003, 1, 0), (10, .getstatic 13, 10, 0, 0), (17, .getstatic 20, 11, 0, 0)] : List (Nat × mj_E)), mj_okW mj_Tw mj_Mm mj_m117 x.1 x.2 :=
  (mj_ac (mj_e_ob (mj_w4 65 rfl rfl) (mj_w1 54 rfl rfl) (mj_w1 55 rfl rfl))
   (mj_ac (mj_e_gs rfl (mj_w4 66 rfl rfl))
   (mj_ac (mj_e_gs rfl (mj_w4 68 rfl rfl))
   mj_an)))
theorem mj_ok117 : mj_okRow mj_Tw mj_Mm mj_r117 := ⟨by decide +kernel, by decide +kernel, (mj_w1 16 rfl rfl), by decide, Or.inl ⟨mj_cd117, rfl, rfl⟩, mj_wlE (by decide +kernel) mj_wl117⟩
theorem mj_wl118 : ∀ x ∈ ([(3, .invokevirtual 15, 119, 1, 1)] : List (Nat × mj_E)), mj_okW mj_Tw mj_Mm mj_m118 x.1 x.2 :=
  (mj_ac (mj_e_vi mj_M119 mj_nm119 mj_np119 (mj_w4 117 rfl rfl) (rfl : mj_cls[0]? = some mj_K0) (mj_w4 118 rfl rfl) (mj_w4 116 rfl rfl) mj_cd119)
   mj_an)
theorem mj_ok118 : mj_okRow mj_Tw mj_Mm mj_r118 := ⟨by decide +kernel, by decide +kernel, (mj_w1 0 rfl rfl), by decide, Or.inr ⟨mj_cd118, ⟨⟨rfl, rfl, rfl, by decide, mj_K12, rfl, (mj_w4 115 rfl rfl), (mj_w4 122 rfl rfl)⟩, trivial⟩⟩, mj_wlE (by decide +kernel) mj_wl118⟩
theorem mj_wl119 : ∀ x ∈ ([(1, .getfield 10, 0, 0, 0), (4, .getfield 100, 2, 1, 0), (7, .invokevirtual 104, 81, 1, 6), (13, .new 109, 12, 0, 1), (24, .getfield 10, 0, 0, 0), (27, .getfield 100, 2, 1, 0), (30, .invokevirtual 114, 121, 1, 6)] : List (Nat × mj_E)), mj_okW mj_Tw mj_Mm mj_m119 x.1 x.2 :=
  (mj_ac (mj_e_gf "Uncomputery" (rfl : mj_cls[0]? = some mj_K0) (by decide) mj_u0 (Or.inl (mj_w2 59 rfl rfl)) (Or.inl rfl))
   (mj_ac (mj_e_gf "Uncomputery$Procedure" (rfl : mj_cls[1]? = some mj_K1) (by decide) mj_u1 (Or.inl (mj_w1 179 rfl rfl)) (Or.inl rfl))
   (mj_ac (mj_e_vi mj_M81 mj_nm81 mj_np81 (mj_w3 155 rfl rfl) (rfl : mj_cls[5]? = some mj_K5) (mj_w3 156 rfl rfl) (mj_w3 154 rfl rfl) mj_cd81)
   (mj_ac (mj_e_th 111 113 mj_tc12 rfl (mj_w4 120 rfl rfl) (text := "the text has no fault") (by decide +kernel) (mj_w4 130 rfl rfl) (by decide +kernel) (Or.inl ⟨by decide +kernel, by decide +kernel, by decide +kernel⟩))
   (mj_ac (mj_e_gf "Uncomputery" (rfl : mj_cls[0]? = some mj_K0) (by decide) mj_u0 (Or.inl (mj_w2 59 rfl rfl)) (Or.inl rfl))
   (mj_ac (mj_e_gf "Uncomputery$Procedure" (rfl : mj_cls[1]? = some mj_K1) (by decide) mj_u1 (Or.inl (mj_w1 179 rfl rfl)) (Or.inl rfl))
   (mj_ac (mj_e_vi mj_M121 mj_nm121 mj_np121 (mj_w4 137 rfl rfl) (rfl : mj_cls[5]? = some mj_K5) (mj_w4 138 rfl rfl) (mj_w4 136 rfl rfl) mj_cd121)
   mj_an)))))))
theorem mj_ok119 : mj_okRow mj_Tw mj_Mm mj_r119 := ⟨by decide +kernel, by decide +kernel, (mj_w1 1 rfl rfl), by decide, Or.inl ⟨mj_cd119, rfl, rfl⟩, mj_wlE (by decide +kernel) mj_wl119⟩
theorem mj_wl120 : ∀ x ∈ ([] : List (Nat × mj_E)), mj_okW mj_Tw mj_Mm mj_m120 x.1 x.2 :=
  mj_an
theorem mj_ok120 : mj_okRow mj_Tw mj_Mm mj_r120 := ⟨by decide +kernel, by decide +kernel, (mj_w1 33 rfl rfl), by decide, Or.inl ⟨mj_cd120, rfl, rfl⟩, mj_wlE (by decide +kernel) mj_wl120⟩
theorem mj_wl121 : ∀ x ∈ ([(1, .getfield 23, 3, 5, 0)] : List (Nat × mj_E)), mj_okW mj_Tw mj_Mm mj_m121 x.1 x.2 :=
  (mj_ac (mj_e_gf "Uncomputery$Reader" (rfl : mj_cls[5]? = some mj_K5) (by decide) mj_u5 (Or.inl (mj_w1 157 rfl rfl)) (Or.inl rfl))
   mj_an)
theorem mj_ok121 : mj_okRow mj_Tw mj_Mm mj_r121 := ⟨by decide +kernel, by decide +kernel, (mj_w1 6 rfl rfl), by decide, Or.inl ⟨mj_cd121, rfl, rfl⟩, mj_wlE (by decide +kernel) mj_wl121⟩
theorem mj_wl122 : ∀ x ∈ ([(3, .invokevirtual 21, 123, 1, 1)] : List (Nat × mj_E)), mj_okW mj_Tw mj_Mm mj_m122 x.1 x.2 :=
  (mj_ac (mj_e_vi mj_M123 mj_nm123 mj_np123 (mj_w4 144 rfl rfl) (rfl : mj_cls[0]? = some mj_K0) (mj_w4 145 rfl rfl) (mj_w4 143 rfl rfl) mj_cd123)
   mj_an)
theorem mj_ok122 : mj_okRow mj_Tw mj_Mm mj_r122 := ⟨by decide +kernel, by decide +kernel, (mj_w1 0 rfl rfl), by decide, Or.inr ⟨mj_cd122, ⟨⟨rfl, rfl, rfl, by decide, mj_K12, rfl, (mj_w4 115 rfl rfl), (mj_w4 122 rfl rfl)⟩, trivial⟩⟩, mj_wlE (by decide +kernel) mj_wl122⟩
theorem mj_wl123 : ∀ x ∈ ([(1, .getfield 10, 0, 0, 0), (4, .getfield 100, 2, 1, 0), (7, .invokevirtual 104, 81, 1, 6), (13, .new 109, 12, 0, 1), (24, .getfield 10, 0, 0, 0), (27, .getfield 100, 2, 1, 0), (30, .invokevirtual 117, 124, 1, 6)] : List (Nat × mj_E)), mj_okW mj_Tw mj_Mm mj_m123 x.1 x.2 :=
  (mj_ac (mj_e_gf "Uncomputery" (rfl : mj_cls[0]? = some mj_K0) (by decide) mj_u0 (Or.inl (mj_w2 59 rfl rfl)) (Or.inl rfl))
   (mj_ac (mj_e_gf "Uncomputery$Procedure" (rfl : mj_cls[1]? = some mj_K1) (by decide) mj_u1 (Or.inl (mj_w1 179 rfl rfl)) (Or.inl rfl))
   (mj_ac (mj_e_vi mj_M81 mj_nm81 mj_np81 (mj_w3 155 rfl rfl) (rfl : mj_cls[5]? = some mj_K5) (mj_w3 156 rfl rfl) (mj_w3 154 rfl rfl) mj_cd81)
   (mj_ac (mj_e_th 111 113 mj_tc12 rfl (mj_w4 120 rfl rfl) (text := "the text has no fault") (by decide +kernel) (mj_w4 130 rfl rfl) (by decide +kernel) (Or.inl ⟨by decide +kernel, by decide +kernel, by decide +kernel⟩))
   (mj_ac (mj_e_gf "Uncomputery" (rfl : mj_cls[0]? = some mj_K0) (by decide) mj_u0 (Or.inl (mj_w2 59 rfl rfl)) (Or.inl rfl))
   (mj_ac (mj_e_gf "Uncomputery$Procedure" (rfl : mj_cls[1]? = some mj_K1) (by decide) mj_u1 (Or.inl (mj_w1 179 rfl rfl)) (Or.inl rfl))
   (mj_ac (mj_e_vi mj_M124 mj_nm124 mj_np124 (mj_w4 148 rfl rfl) (rfl : mj_cls[5]? = some mj_K5) (mj_w4 149 rfl rfl) (mj_w4 147 rfl rfl) mj_cd124)
   mj_an)))))))
theorem mj_ok123 : mj_okRow mj_Tw mj_Mm mj_r123 := ⟨by decide +kernel, by decide +kernel, (mj_w1 1 rfl rfl), by decide, Or.inl ⟨mj_cd123, rfl, rfl⟩, mj_wlE (by decide +kernel) mj_wl123⟩
theorem mj_wl124 : ∀ x ∈ ([(1, .getfield 9, 4, 5, 0)] : List (Nat × mj_E)), mj_okW mj_Tw mj_Mm mj_m124 x.1 x.2 :=
  (mj_ac (mj_e_gf "Uncomputery$Reader" (rfl : mj_cls[5]? = some mj_K5) (by decide) mj_u5 (Or.inl (mj_w1 158 rfl rfl)) (Or.inl rfl))
   mj_an)
theorem mj_ok124 : mj_okRow mj_Tw mj_Mm mj_r124 := ⟨by decide +kernel, by decide +kernel, (mj_w1 6 rfl rfl), by decide, Or.inl ⟨mj_cd124, rfl, rfl⟩, mj_wlE (by decide +kernel) mj_wl124⟩
theorem mj_wl125 : ∀ x ∈ ([(3, .invokevirtual 25, 126, 1, 1)] : List (Nat × mj_E)), mj_okW mj_Tw mj_Mm mj_m125 x.1 x.2 :=
  (mj_ac (mj_e_vi mj_M126 mj_nm126 mj_np126 (mj_w4 156 rfl rfl) (rfl : mj_cls[0]? = some mj_K0) (mj_w4 157 rfl rfl) (mj_w4 155 rfl rfl) mj_cd126)
   mj_an)
theorem mj_ok125 : mj_okRow mj_Tw mj_Mm mj_r125 := ⟨by decide +kernel, by decide +kernel, (mj_w1 0 rfl rfl), by decide, Or.inr ⟨mj_cd125, ⟨⟨rfl, rfl, rfl, by decide, mj_K13, rfl, (mj_w4 154 rfl rfl), (mj_w4 161 rfl rfl)⟩, ⟨⟨rfl, rfl, rfl, by decide, mj_K11, rfl, (mj_w4 31 rfl rfl), (mj_w4 42 rfl rfl)⟩, trivial⟩⟩⟩, mj_wlE (by decide +kernel) mj_wl125⟩
theorem mj_wl126 : ∀ x ∈ ([(1, .getfield 10, 0, 0, 0), (4, .getfield 100, 2, 1, 0), (7, .invokevirtual 104, 81, 1, 6), (13, .new 121, 13, 0, 1), (24, .getfield 19, 1, 0, 0), (27, .invokevirtual 126, 128, 1, 7), (33, .new 82, 11, 0, 1), (44, .getfield 19, 1, 0, 0), (47, .invokevirtual 129, 129, 1, 7), (52, .getfield 75, 0, 1, 0), (56, .getfield 10, 0, 0, 0), (59, .getfield 75, 0, 1, 0), (62, .invokevirtual 133, 130, 2, 3), (66, .getfield 100, 2, 1, 0), (69, .invokevirtual 104, 81, 1, 6), (74, .getfield 10, 0, 0, 0), (77, .getfield 75, 0, 1, 0), (80, .invokevirtual 97, 13, 1, 3), (84, .getfield 19, 1, 0, 0), (87, .invokevirtual 137, 131, 1, 7)] : List (Nat × mj_E)), mj_okW mj_Tw mj_Mm mj_m126 x.1 x.2 :=
  (mj_ac (mj_e_gf "Uncomputery" (rfl : mj_cls[0]? = some mj_K0) (by decide) mj_u0 (Or.inl (mj_w2 59 rfl rfl)) (Or.inl rfl))
   (mj_ac (mj_e_gf "Uncomputery$Procedure" (rfl : mj_cls[1]? = some mj_K1) (by decide) mj_u1 (Or.inl (mj_w1 179 rfl rfl)) (Or.inl rfl))
   (mj_ac (mj_e_vi mj_M81 mj_nm81 mj_np81 (mj_w3 155 rfl rfl) (rfl : mj_cls[5]? = some mj_K5) (mj_w3 156 rfl rfl) (mj_w3 154 rfl rfl) mj_cd81)
   (mj_ac (mj_e_th 123 125 mj_tc13 rfl (mj_w4 159 rfl rfl) (text := "the text has a fault") (by decide +kernel) (mj_w4 169 rfl rfl) (by decide +kernel) (Or.inl ⟨by decide +kernel, by decide +kernel, by decide +kernel⟩))
   (mj_ac (mj_e_gf "Uncomputery" (rfl : mj_cls[0]? = some mj_K0) (by decide) mj_u0 (Or.inl (mj_w2 60 rfl rfl)) (Or.inl rfl))
   (mj_ac (mj_e_vi mj_M128 mj_nm128 mj_np128 (mj_w4 176 rfl rfl) (rfl : mj_cls[6]? = some mj_K6) (mj_w4 177 rfl rfl) (mj_w4 175 rfl rfl) mj_cd128)
   (mj_ac (mj_e_th 127 86 mj_tc11 rfl (mj_w4 40 rfl rfl) (text := "there are 6 procedures") (by decide +kernel) (mj_w4 85 rfl rfl) (by decide +kernel) (Or.inl ⟨by decide +kernel, by decide +kernel, by decide +kernel⟩))
   (mj_ac (mj_e_gf "Uncomputery" (rfl : mj_cls[0]? = some mj_K0) (by decide) mj_u0 (Or.inl (mj_w2 60 rfl rfl)) (Or.inl rfl))
   (mj_ac (mj_e_vi mj_M129 mj_nm129 mj_np129 (mj_w4 181 rfl rfl) (rfl : mj_cls[6]? = some mj_K6) (mj_w4 182 rfl rfl) (mj_w4 180 rfl rfl) mj_cd129)
   (mj_ac (mj_e_gf "Uncomputery$Procedure" (rfl : mj_cls[1]? = some mj_K1) (by decide) mj_u1 (Or.inl (mj_w1 174 rfl rfl)) (Or.inl rfl))
   (mj_ac (mj_e_gf "Uncomputery" (rfl : mj_cls[0]? = some mj_K0) (by decide) mj_u0 (Or.inl (mj_w2 59 rfl rfl)) (Or.inl rfl))
   (mj_ac (mj_e_gf "Uncomputery$Procedure" (rfl : mj_cls[1]? = some mj_K1) (by decide) mj_u1 (Or.inl (mj_w1 174 rfl rfl)) (Or.inl rfl))
   (mj_ac (mj_e_vi mj_M130 mj_nm130 mj_np130 (mj_w4 185 rfl rfl) (rfl : mj_cls[2]? = some mj_K2) (mj_w4 186 rfl rfl) (mj_w4 184 rfl rfl) mj_cd130)
   (mj_ac (mj_e_gf "Uncomputery$Procedure" (rfl : mj_cls[1]? = some mj_K1) (by decide) mj_u1 (Or.inl (mj_w1 179 rfl rfl)) (Or.inl rfl))
   (mj_ac (mj_e_vi mj_M81 mj_nm81 mj_np81 (mj_w3 155 rfl rfl) (rfl : mj_cls[5]? = some mj_K5) (mj_w3 156 rfl rfl) (mj_w3 154 rfl rfl) mj_cd81)
   (mj_ac (mj_e_gf "Uncomputery" (rfl : mj_cls[0]? = some mj_K0) (by decide) mj_u0 (Or.inl (mj_w2 59 rfl rfl)) (Or.inl rfl))
   (mj_ac (mj_e_gf "Uncomputery$Procedure" (rfl : mj_cls[1]? = some mj_K1) (by decide) mj_u1 (Or.inl (mj_w1 174 rfl rfl)) (Or.inl rfl))
   (mj_ac (mj_e_vi mj_M13 mj_nm13 mj_np13 (mj_w2 120 rfl rfl) (rfl : mj_cls[2]? = some mj_K2) (mj_w2 121 rfl rfl) (mj_w2 119 rfl rfl) mj_cd13)
   (mj_ac (mj_e_gf "Uncomputery" (rfl : mj_cls[0]? = some mj_K0) (by decide) mj_u0 (Or.inl (mj_w2 60 rfl rfl)) (Or.inl rfl))
   (mj_ac (mj_e_vi mj_M131 mj_nm131 mj_np131 (mj_w4 190 rfl rfl) (rfl : mj_cls[6]? = some mj_K6) (mj_w4 191 rfl rfl) (mj_w4 189 rfl rfl) mj_cd131)
   mj_an))))))))))))))))))))
theorem mj_ok126 : mj_okRow mj_Tw mj_Mm mj_r126 := ⟨by decide +kernel, by decide +kernel, (mj_w1 1 rfl rfl), by decide, Or.inl ⟨mj_cd126, rfl, rfl⟩, mj_wlE (by decide +kernel) mj_wl126⟩
theorem mj_wl127 : ∀ x ∈ ([] : List (Nat × mj_E)), mj_okW mj_Tw mj_Mm mj_m127 x.1 x.2 :=
  mj_an
theorem mj_ok127 : mj_okRow mj_Tw mj_Mm mj_r127 := ⟨by decide +kernel, by decide +kernel, (mj_w1 30 rfl rfl), by decide, Or.inl ⟨mj_cd127, rfl, rfl⟩, mj_wlE (by decide +kernel) mj_wl127⟩
theorem mj_wl128 : ∀ x ∈ ([(1, .getfield 22, 2, 6, 0)] : List (Nat × mj_E)), mj_okW mj_Tw mj_Mm mj_m128 x.1 x.2 :=
  (mj_ac (mj_e_gf "Uncomputery$Library" (rfl : mj_cls[6]? = some mj_K6) (by decide) mj_u6 (Or.inl (mj_w1 198 rfl rfl)) (Or.inl rfl))
   mj_an)
theorem mj_ok128 : mj_okRow mj_Tw mj_Mm mj_r128 := ⟨by decide +kernel, by decide +kernel, (mj_w1 7 rfl rfl), by decide, Or.inl ⟨mj_cd128, rfl, rfl⟩, mj_wlE (by decide +kernel) mj_wl128⟩
theorem mj_wl129 : ∀ x ∈ ([(1, .getfield 22, 2, 6, 0), (8, .getfield 22, 2, 6, 0), (12, .getfield 11, 0, 6, 0), (20, .getfield 11, 0, 6, 0), (24, .getfield 22, 2, 6, 0), (32, .getfield 18, 1, 6, 0)] : List (Nat × mj_E)), mj_okW mj_Tw mj_Mm mj_m129 x.1 x.2 :=
  (mj_ac (mj_e_gf "Uncomputery$Library" (rfl : mj_cls[6]? = some mj_K6) (by decide) mj_u6 (Or.inl (mj_w1 198 rfl rfl)) (Or.inl rfl))
   (mj_ac (mj_e_gf "Uncomputery$Library" (rfl : mj_cls[6]? = some mj_K6) (by decide) mj_u6 (Or.inl (mj_w1 198 rfl rfl)) (Or.inl rfl))
   (mj_ac (mj_e_gf "Uncomputery$Library" (rfl : mj_cls[6]? = some mj_K6) (by decide) mj_u6 (Or.inl (mj_w1 196 rfl rfl)) (Or.inl rfl))
   (mj_ac (mj_e_gf "Uncomputery$Library" (rfl : mj_cls[6]? = some mj_K6) (by decide) mj_u6 (Or.inl (mj_w1 196 rfl rfl)) (Or.inl rfl))
   (mj_ac (mj_e_gf "Uncomputery$Library" (rfl : mj_cls[6]? = some mj_K6) (by decide) mj_u6 (Or.inl (mj_w1 198 rfl rfl)) (Or.inl rfl))
   (mj_ac (mj_e_gf "Uncomputery$Library" (rfl : mj_cls[6]? = some mj_K6) (by decide) mj_u6 (Or.inl (mj_w1 197 rfl rfl)) (Or.inl rfl))
   mj_an))))))
theorem mj_ok129 : mj_okRow mj_Tw mj_Mm mj_r129 := ⟨by decide +kernel, by decide +kernel, (mj_w1 7 rfl rfl), by decide, Or.inl ⟨mj_cd129, rfl, rfl⟩, mj_wlE (by decide +kernel) mj_wl129⟩
theorem mj_wl130 : ∀ x ∈ ([(1, .invokevirtual 27, 13, 1, 3), (8, .getfield 15, 1, 2, 0), (23, .invokevirtual 30, 105, 2, 3), (27, .invokevirtual 23, 73, 2, 3)] : List (Nat × mj_E)), mj_okW mj_Tw mj_Mm mj_m130 x.1 x.2 :=
  (mj_ac (mj_e_vi mj_M13 mj_nm13 mj_np13 (mj_w2 120 rfl rfl) (rfl : mj_cls[2]? = some mj_K2) (mj_w2 121 rfl rfl) (mj_w4 188 rfl rfl) mj_cd13)
   (mj_ac (mj_e_gf "Uncomputery$Text" (rfl : mj_cls[2]? = some mj_K2) (by decide) mj_u2 (Or.inl (mj_w1 70 rfl rfl)) (Or.inl rfl))
   (mj_ac (mj_e_vi mj_M105 mj_nm105 mj_np105 (mj_w4 8 rfl rfl) (rfl : mj_cls[2]? = some mj_K2) (mj_w4 9 rfl rfl) (mj_w4 7 rfl rfl) mj_cd105)
   (mj_ac (mj_e_vi mj_M73 mj_nm73 mj_np73 (mj_w3 126 rfl rfl) (rfl : mj_cls[2]? = some mj_K2) (mj_w3 127 rfl rfl) (mj_w3 146 rfl rfl) mj_cd73)
   mj_an))))
theorem mj_ok130 : mj_okRow mj_Tw mj_Mm mj_r130 := ⟨by decide +kernel, by decide +kernel, (mj_w1 3 rfl rfl), by decide, Or.inl ⟨mj_cd130, rfl, rfl⟩, mj_wlE (by decide +kernel) mj_wl130⟩
theorem mj_wl131 : ∀ x ∈ ([(2, .getfield 22, 2, 6, 0), (7, .putfield 22, 2, 6, 0), (11, .getfield 22, 2, 6, 0)] : List (Nat × mj_E)), mj_okW mj_Tw mj_Mm mj_m131 x.1 x.2 :=
  (mj_ac (mj_e_gf "Uncomputery$Library" (rfl : mj_cls[6]? = some mj_K6) (by decide) mj_u6 (Or.inl (mj_w1 198 rfl rfl)) (Or.inl rfl))
   (mj_ac (mj_e_pf "Uncomputery$Library" (rfl : mj_cls[6]? = some mj_K6) (by decide) mj_u6 (Or.inl (mj_w1 198 rfl rfl)) (Or.inl rfl) mj_pd6 mj_ds6 (Or.inl rfl))
   (mj_ac (mj_e_gf "Uncomputery$Library" (rfl : mj_cls[6]? = some mj_K6) (by decide) mj_u6 (Or.inl (mj_w1 198 rfl rfl)) (Or.inl rfl))
   mj_an)))
theorem mj_ok131 : mj_okRow mj_Tw mj_Mm mj_r131 := ⟨by decide +kernel, by decide +kernel, (mj_w1 7 rfl rfl), by decide, Or.inl ⟨mj_cd131, rfl, rfl⟩, mj_wlE (by decide +kernel) mj_wl131⟩
theorem mj_wl132 : ∀ x ∈ ([(4, .invokevirtual 30, 133, 2, 1)] : List (Nat × mj_E)), mj_okW mj_Tw mj_Mm mj_m132 x.1 x.2 :=
  (mj_ac (mj_e_vi mj_M133 mj_nm133 mj_np133 (mj_w4 198 rfl rfl) (rfl : mj_cls[0]? = some mj_K0) (mj_w4 199 rfl rfl) (mj_w4 197 rfl rfl) mj_cd133)
   mj_an)
theorem mj_ok132 : mj_okRow mj_Tw mj_Mm mj_r132 := ⟨by decide +kernel, by decide +kernel, (mj_w1 0 rfl rfl), by decide, Or.inr ⟨mj_cd132, ⟨⟨rfl, rfl, rfl, by decide, mj_K14, rfl, (mj_w4 196 rfl rfl), (mj_w4 207 rfl rfl)⟩, ⟨⟨rfl, rfl, rfl, by decide, mj_K11, rfl, (mj_w4 31 rfl rfl), (mj_w4 42 rfl rfl)⟩, trivial⟩⟩⟩, mj_wlE (by decide +kernel) mj_wl132⟩
theorem mj_wl133 : ∀ x ∈ ([(1, .getfield 19, 1, 0, 0), (5, .invokevirtual 140, 134, 2, 7), (11, .new 144, 14, 0, 1), (22, .getfield 19, 1, 0, 0), (25, .invokevirtual 126, 128, 1, 7), (31, .new 82, 11, 0, 1), (42, .getfield 19, 1, 0, 0), (45, .invokevirtual 129, 129, 1, 7), (50, .getfield 19, 1, 0, 0), (54, .invokevirtual 149, 20, 2, 7), (58, .getfield 75, 0, 1, 0), (61, .invokevirtual 153, 71, 2, 4), (65, .getfield 100, 2, 1, 0), (68, .invokevirtual 104, 81, 1, 6), (73, .getfield 19, 1, 0, 0), (76, .invokevirtual 137, 131, 1, 7)] : List (Nat × mj_E)), mj_okW mj_Tw mj_Mm mj_m133 x.1 x.2 :=
  (mj_ac (mj_e_gf "Uncomputery" (rfl : mj_cls[0]? = some mj_K0) (by decide) mj_u0 (Or.inl (mj_w2 60 rfl rfl)) (Or.inl rfl))
   (mj_ac (mj_e_vi mj_M134 mj_nm134 mj_np134 (mj_w4 202 rfl rfl) (rfl : mj_cls[6]? = some mj_K6) (mj_w4 203 rfl rfl) (mj_w4 201 rfl rfl) mj_cd134)
   (mj_ac (mj_e_th 146 148 mj_tc14 rfl (mj_w4 205 rfl rfl) (text := "no such procedure") (by decide +kernel) (mj_w4 215 rfl rfl) (by decide +kernel) (Or.inl ⟨by decide +kernel, by decide +kernel, by decide +kernel⟩))
   (mj_ac (mj_e_gf "Uncomputery" (rfl : mj_cls[0]? = some mj_K0) (by decide) mj_u0 (Or.inl (mj_w2 60 rfl rfl)) (Or.inl rfl))
   (mj_ac (mj_e_vi mj_M128 mj_nm128 mj_np128 (mj_w4 176 rfl rfl) (rfl : mj_cls[6]? = some mj_K6) (mj_w4 177 rfl rfl) (mj_w4 175 rfl rfl) mj_cd128)
   (mj_ac (mj_e_th 127 86 mj_tc11 rfl (mj_w4 40 rfl rfl) (text := "there are 6 procedures") (by decide +kernel) (mj_w4 85 rfl rfl) (by decide +kernel) (Or.inl ⟨by decide +kernel, by decide +kernel, by decide +kernel⟩))
   (mj_ac (mj_e_gf "Uncomputery" (rfl : mj_cls[0]? = some mj_K0) (by decide) mj_u0 (Or.inl (mj_w2 60 rfl rfl)) (Or.inl rfl))
   (mj_ac (mj_e_vi mj_M129 mj_nm129 mj_np129 (mj_w4 181 rfl rfl) (rfl : mj_cls[6]? = some mj_K6) (mj_w4 182 rfl rfl) (mj_w4 180 rfl rfl) mj_cd129)
   (mj_ac (mj_e_gf "Uncomputery" (rfl : mj_cls[0]? = some mj_K0) (by decide) mj_u0 (Or.inl (mj_w2 60 rfl rfl)) (Or.inl rfl))
   (mj_ac (mj_e_vi mj_M20 mj_nm20 mj_np20 (mj_w2 148 rfl rfl) (rfl : mj_cls[6]? = some mj_K6) (mj_w2 149 rfl rfl) (mj_w3 116 rfl rfl) mj_cd20)
   (mj_ac (mj_e_gf "Uncomputery$Procedure" (rfl : mj_cls[1]? = some mj_K1) (by decide) mj_u1 (Or.inl (mj_w1 174 rfl rfl)) (Or.inl rfl))
   (mj_ac (mj_e_vi mj_M71 mj_nm71 mj_np71 (mj_w3 118 rfl rfl) (rfl : mj_cls[3]? = some mj_K3) (mj_w3 119 rfl rfl) (mj_w3 117 rfl rfl) mj_cd71)
   (mj_ac (mj_e_gf "Uncomputery$Procedure" (rfl : mj_cls[1]? = some mj_K1) (by decide) mj_u1 (Or.inl (mj_w1 179 rfl rfl)) (Or.inl rfl))
   (mj_ac (mj_e_vi mj_M81 mj_nm81 mj_np81 (mj_w3 155 rfl rfl) (rfl : mj_cls[5]? = some mj_K5) (mj_w3 156 rfl rfl) (mj_w3 154 rfl rfl) mj_cd81)
   (mj_ac (mj_e_gf "Uncomputery" (rfl : mj_cls[0]? = some mj_K0) (by decide) mj_u0 (Or.inl (mj_w2 60 rfl rfl)) (Or.inl rfl))
   (mj_ac (mj_e_vi mj_M131 mj_nm131 mj_np131 (mj_w4 190 rfl rfl) (rfl : mj_cls[6]? = some mj_K6) (mj_w4 191 rfl rfl) (mj_w4 189 rfl rfl) mj_cd131)
   mj_an))))))))))))))))
theorem mj_ok133 : mj_okRow mj_Tw mj_Mm mj_r133 := ⟨by decide +kernel, by decide +kernel, (mj_w1 1 rfl rfl), by decide, Or.inl ⟨mj_cd133, rfl, rfl⟩, mj_wlE (by decide +kernel) mj_wl133⟩
theorem mj_wl134 : ∀ x ∈ ([(6, .getfield 22, 2, 6, 0)] : List (Nat × mj_E)), mj_okW mj_Tw mj_Mm mj_m134 x.1 x.2 :=
  (mj_ac (mj_e_gf "Uncomputery$Library" (rfl : mj_cls[6]? = some mj_K6) (by decide) mj_u6 (Or.inl (mj_w1 198 rfl rfl)) (Or.inl rfl))
   mj_an)
theorem mj_ok134 : mj_okRow mj_Tw mj_Mm mj_r134 := ⟨by decide +kernel, by decide +kernel, (mj_w1 7 rfl rfl), by decide, Or.inl ⟨mj_cd134, rfl, rfl⟩, mj_wlE (by decide +kernel) mj_wl134⟩
theorem mj_wl135 : ∀ x ∈ ([] : List (Nat × mj_E)), mj_okW mj_Tw mj_Mm mj_m135 x.1 x.2 :=
  mj_an
theorem mj_ok135 : mj_okRow mj_Tw mj_Mm mj_r135 := ⟨by decide +kernel, by decide +kernel, (mj_w1 42 rfl rfl), by decide, Or.inl ⟨mj_cd135, rfl, rfl⟩, mj_wlE (by decide +kernel) mj_wl135⟩
theorem mj_wl136 : ∀ x ∈ ([(4, .invokevirtual 36, 137, 2, 1)] : List (Nat × mj_E)), mj_okW mj_Tw mj_Mm mj_m136 x.1 x.2 :=
  (mj_ac (mj_e_vi mj_M137 mj_nm137 mj_np137 (mj_w4 225 rfl rfl) (rfl : mj_cls[0]? = some mj_K0) (mj_w4 226 rfl rfl) (mj_w4 224 rfl rfl) mj_cd137)
   mj_an)
theorem mj_ok136 : mj_okRow mj_Tw mj_Mm mj_r136 := ⟨by decide +kernel, by decide +kernel, (mj_w1 0 rfl rfl), by decide, Or.inr ⟨mj_cd136, ⟨⟨rfl, rfl, rfl, by decide, mj_K14, rfl, (mj_w4 196 rfl rfl), (mj_w4 207 rfl rfl)⟩, trivial⟩⟩, mj_wlE (by decide +kernel) mj_wl136⟩
theorem mj_wl137 : ∀ x ∈ ([(1, .getfield 19, 1, 0, 0), (5, .invokevirtual 140, 134, 2, 7), (11, .new 144, 14, 0, 1), (22, .getfield 19, 1, 0, 0), (26, .invokevirtual 158, 138, 2, 7), (29, .getfield 75, 0, 1, 0), (32, .invokevirtual 93, 12, 1, 3)] : List (Nat × mj_E)), mj_okW mj_Tw mj_Mm mj_m137 x.1 x.2 :=
  (mj_ac (mj_e_gf "Uncomputery" (rfl : mj_cls[0]? = some mj_K0) (by decide) mj_u0 (Or.inl (mj_w2 60 rfl rfl)) (Or.inl rfl))
   (mj_ac (mj_e_vi mj_M134 mj_nm134 mj_np134 (mj_w4 202 rfl rfl) (rfl : mj_cls[6]? = some mj_K6) (mj_w4 203 rfl rfl) (mj_w4 201 rfl rfl) mj_cd134)
   (mj_ac (mj_e_th 146 148 mj_tc14 rfl (mj_w4 205 rfl rfl) (text := "no such procedure") (by decide +kernel) (mj_w4 215 rfl rfl) (by decide +kernel) (Or.inl ⟨by decide +kernel, by decide +kernel, by decide +kernel⟩))
   (mj_ac (mj_e_gf "Uncomputery" (rfl : mj_cls[0]? = some mj_K0) (by decide) mj_u0 (Or.inl (mj_w2 60 rfl rfl)) (Or.inl rfl))
   (mj_ac (mj_e_vi mj_M138 mj_nm138 mj_np138 (mj_w4 229 rfl rfl) (rfl : mj_cls[6]? = some mj_K6) (mj_w4 230 rfl rfl) (mj_w4 228 rfl rfl) mj_cd138)
   (mj_ac (mj_e_gf "Uncomputery$Procedure" (rfl : mj_cls[1]? = some mj_K1) (by decide) mj_u1 (Or.inl (mj_w1 174 rfl rfl)) (Or.inl rfl))
   (mj_ac (mj_e_vi mj_M12 mj_nm12 mj_np12 (mj_w2 116 rfl rfl) (rfl : mj_cls[2]? = some mj_K2) (mj_w2 117 rfl rfl) (mj_w2 115 rfl rfl) mj_cd12)
   mj_an)))))))
theorem mj_ok137 : mj_okRow mj_Tw mj_Mm mj_r137 := ⟨by decide +kernel, by decide +kernel, (mj_w1 1 rfl rfl), by decide, Or.inl ⟨mj_cd137, rfl, rfl⟩, mj_wlE (by decide +kernel) mj_wl137⟩
theorem mj_wl138 : ∀ x ∈ ([(2, .invokevirtual 26, 134, 2, 7), (10, .getfield 11, 0, 6, 0), (18, .getfield 11, 0, 6, 0), (27, .getfield 18, 1, 6, 0)] : List (Nat × mj_E)), mj_okW mj_Tw mj_Mm mj_m138 x.1 x.2 :=
  (mj_ac (mj_e_vi mj_M134 mj_nm134 mj_np134 (mj_w4 202 rfl rfl) (rfl : mj_cls[6]? = some mj_K6) (mj_w4 203 rfl rfl) (mj_w4 232 rfl rfl) mj_cd134)
   (mj_ac (mj_e_gf "Uncomputery$Library" (rfl : mj_cls[6]? = some mj_K6) (by decide) mj_u6 (Or.inl (mj_w1 196 rfl rfl)) (Or.inl rfl))
   (mj_ac (mj_e_gf "Uncomputery$Library" (rfl : mj_cls[6]? = some mj_K6) (by decide) mj_u6 (Or.inl (mj_w1 196 rfl rfl)) (Or.inl rfl))
   (mj_ac (mj_e_gf "Uncomputery$Library" (rfl : mj_cls[6]? = some mj_K6) (by decide) mj_u6 (Or.inl (mj_w1 197 rfl rfl)) (Or.inl rfl))
   mj_an))))
theorem mj_ok138 : mj_okRow mj_Tw mj_Mm mj_r138 := ⟨by decide +kernel, by decide +kernel, (mj_w1 7 rfl rfl), by decide, Or.inl ⟨mj_cd138, rfl, rfl⟩, mj_wlE (by decide +kernel) mj_wl138⟩
theorem mj_wl139 : ∀ x ∈ ([(5, .invokevirtual 39, 140, 3, 1)] : List (Nat × mj_E)), mj_okW mj_Tw mj_Mm mj_m139 x.1 x.2 :=
  (mj_ac (mj_e_vi mj_M140 mj_nm140 mj_np140 (mj_w4 237 rfl rfl) (rfl : mj_cls[0]? = some mj_K0) (mj_w4 238 rfl rfl) (mj_w4 236 rfl rfl) mj_cd140)
   mj_an)
theorem mj_ok139 : mj_okRow mj_Tw mj_Mm mj_r139 := ⟨by decide +kernel, by decide +kernel, (mj_w1 0 rfl rfl), by decide, Or.inr ⟨mj_cd139, ⟨⟨rfl, rfl, rfl, by decide, mj_K14, rfl, (mj_w4 196 rfl rfl), (mj_w4 207 rfl rfl)⟩, trivial⟩⟩, mj_wlE (by decide +kernel) mj_wl139⟩
theorem mj_wl140 : ∀ x ∈ ([(1, .getfield 19, 1, 0, 0), (5, .invokevirtual 140, 134, 2, 7), (11, .new 144, 14, 0, 1), (22, .getfield 19, 1, 0, 0), (26, .invokevirtual 158, 138, 2, 7), (29, .getfield 75, 0, 1, 0), (39, .invokevirtual 93, 12, 1, 3), (45, .new 144, 14, 0, 1), (57, .invokevirtual 164, 105, 2, 3)] : List (Nat × mj_E)), mj_okW mj_Tw mj_Mm mj_m140 x.1 x.2 :=
  (mj_ac (mj_e_gf "Uncomputery" (rfl : mj_cls[0]? = some mj_K0) (by decide) mj_u0 (Or.inl (mj_w2 60 rfl rfl)) (Or.inl rfl))
   (mj_ac (mj_e_vi mj_M134 mj_nm134 mj_np134 (mj_w4 202 rfl rfl) (rfl : mj_cls[6]? = some mj_K6) (mj_w4 203 rfl rfl) (mj_w4 201 rfl rfl) mj_cd134)
   (mj_ac (mj_e_th 146 148 mj_tc14 rfl (mj_w4 205 rfl rfl) (text := "no such procedure") (by decide +kernel) (mj_w4 215 rfl rfl) (by decide +kernel) (Or.inl ⟨by decide +kernel, by decide +kernel, by decide +kernel⟩))
   (mj_ac (mj_e_gf "Uncomputery" (rfl : mj_cls[0]? = some mj_K0) (by decide) mj_u0 (Or.inl (mj_w2 60 rfl rfl)) (Or.inl rfl))
   (mj_ac (mj_e_vi mj_M138 mj_nm138 mj_np138 (mj_w4 229 rfl rfl) (rfl : mj_cls[6]? = some mj_K6) (mj_w4 230 rfl rfl) (mj_w4 228 rfl rfl) mj_cd138)
   (mj_ac (mj_e_gf "Uncomputery$Procedure" (rfl : mj_cls[1]? = some mj_K1) (by decide) mj_u1 (Or.inl (mj_w1 174 rfl rfl)) (Or.inl rfl))
   (mj_ac (mj_e_vi mj_M12 mj_nm12 mj_np12 (mj_w2 116 rfl rfl) (rfl : mj_cls[2]? = some mj_K2) (mj_w2 117 rfl rfl) (mj_w2 115 rfl rfl) mj_cd12)
   (mj_ac (mj_e_th 162 148 mj_tc14 rfl (mj_w4 205 rfl rfl) (text := "no such index") (by decide +kernel) (mj_w4 215 rfl rfl) (by decide +kernel) (Or.inl ⟨by decide +kernel, by decide +kernel, by decide +kernel⟩))
   (mj_ac (mj_e_vi mj_M105 mj_nm105 mj_np105 (mj_w4 8 rfl rfl) (rfl : mj_cls[2]? = some mj_K2) (mj_w4 9 rfl rfl) (mj_w5 1 rfl rfl) mj_cd105)
   mj_an)))))))))
theorem mj_ok140 : mj_okRow mj_Tw mj_Mm mj_r140 := ⟨by decide +kernel, by decide +kernel, (mj_w1 1 rfl rfl), by decide, Or.inl ⟨mj_cd140, rfl, rfl⟩, mj_wlE (by decide +kernel) mj_wl140⟩
theorem mj_wl141 : ∀ x ∈ ([(4, .invokevirtual 43, 142, 2, 1)] : List (Nat × mj_E)), mj_okW mj_Tw mj_Mm mj_m141 x.1 x.2 :=
  (mj_ac (mj_e_vi mj_M142 mj_nm142 mj_np142 (mj_w5 6 rfl rfl) (rfl : mj_cls[0]? = some mj_K0) (mj_w5 7 rfl rfl) (mj_w5 5 rfl rfl) mj_cd142)
   mj_an)
theorem mj_ok141 : mj_okRow mj_Tw mj_Mm mj_r141 := ⟨by decide +kernel, by decide +kernel, (mj_w1 0 rfl rfl), by decide, Or.inr ⟨mj_cd141, ⟨⟨rfl, rfl, rfl, by decide, mj_K14, rfl, (mj_w4 196 rfl rfl), (mj_w4 207 rfl rfl)⟩, trivial⟩⟩, mj_wlE (by decide +kernel) mj_wl141⟩
theorem mj_wl142 : ∀ x ∈ ([(1, .getfield 19, 1, 0, 0), (5, .invokevirtual 140, 134, 2, 7), (11, .new 144, 14, 0, 1), (22, .getfield 19, 1, 0, 0), (26, .invokevirtual 149, 20, 2, 7), (29, .invokevirtual 168, 21, 1, 4)] : List (Nat × mj_E)), mj_okW mj_Tw mj_Mm mj_m142 x.1 x.2 :=
  (mj_ac (mj_e_gf "Uncomputery" (rfl : mj_cls[0]? = some mj_K0) (by decide) mj_u0 (Or.inl (mj_w2 60 rfl rfl)) (Or.inl rfl))
   (mj_ac (mj_e_vi mj_M134 mj_nm134 mj_np134 (mj_w4 202 rfl rfl) (rfl : mj_cls[6]? = some mj_K6) (mj_w4 203 rfl rfl) (mj_w4 201 rfl rfl) mj_cd134)
   (mj_ac (mj_e_th 146 148 mj_tc14 rfl (mj_w4 205 rfl rfl) (text := "no such procedure") (by decide +kernel) (mj_w4 215 rfl rfl) (by decide +kernel) (Or.inl ⟨by decide +kernel, by decide +kernel, by decide +kernel⟩))
   (mj_ac (mj_e_gf "Uncomputery" (rfl : mj_cls[0]? = some mj_K0) (by decide) mj_u0 (Or.inl (mj_w2 60 rfl rfl)) (Or.inl rfl))
   (mj_ac (mj_e_vi mj_M20 mj_nm20 mj_np20 (mj_w2 148 rfl rfl) (rfl : mj_cls[6]? = some mj_K6) (mj_w2 149 rfl rfl) (mj_w3 116 rfl rfl) mj_cd20)
   (mj_ac (mj_e_vi mj_M21 mj_nm21 mj_np21 (mj_w2 152 rfl rfl) (rfl : mj_cls[3]? = some mj_K3) (mj_w2 153 rfl rfl) (mj_w4 2 rfl rfl) mj_cd21)
   mj_an))))))
theorem mj_ok142 : mj_okRow mj_Tw mj_Mm mj_r142 := ⟨by decide +kernel, by decide +kernel, (mj_w1 1 rfl rfl), by decide, Or.inl ⟨mj_cd142, rfl, rfl⟩, mj_wlE (by decide +kernel) mj_wl142⟩
theorem mj_wl143 : ∀ x ∈ ([(5, .invokevirtual 46, 144, 3, 1)] : List (Nat × mj_E)), mj_okW mj_Tw mj_Mm mj_m143 x.1 x.2 :=
  (mj_ac (mj_e_vi mj_M144 mj_nm144 mj_np144 (mj_w5 13 rfl rfl) (rfl : mj_cls[0]? = some mj_K0) (mj_w5 14 rfl rfl) (mj_w5 12 rfl rfl) mj_cd144)
   mj_an)
theorem mj_ok143 : mj_okRow mj_Tw mj_Mm mj_r143 := ⟨by decide +kernel, by decide +kernel, (mj_w1 0 rfl rfl), by decide, Or.inr ⟨mj_cd143, ⟨⟨rfl, rfl, rfl, by decide, mj_K14, rfl, (mj_w4 196 rfl rfl), (mj_w4 207 rfl rfl)⟩, trivial⟩⟩, mj_wlE (by decide +kernel) mj_wl143⟩
