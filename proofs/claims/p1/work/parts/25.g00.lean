theorem mj_wl0 : ∀ x ∈ ([(1, .invokespecial 1, 9003, 1, 0), (5, .new 7, 1, 0, 0), (9, .invokespecial 9, 2, 1, 2), (12, .putfield 10, 0, 0, 0), (16, .new 16, 6, 0, 0), (20, .invokespecial 18, 7, 1, 7), (23, .putfield 19, 1, 0, 0), (27, .new 7, 1, 0, 0), (31, .invokespecial 9, 2, 1, 2), (34, .putfield 23, 2, 0, 0), (38, .new 7, 1, 0, 0), (42, .invokespecial 9, 2, 1, 2), (45, .putfield 26, 3, 0, 0), (49, .new 29, 2, 0, 0), (53, .invokespecial 31, 3, 1, 3), (56, .putfield 32, 4, 0, 0), (60, .new 36, 7, 0, 0), (64, .invokespecial 38, 8, 1, 8), (67, .putfield 39, 5, 0, 0), (71, .new 36, 7, 0, 0), (75, .invokespecial 38, 8, 1, 8), (78, .putfield 43, 6, 0, 0), (82, .new 46, 8, 0, 0), (87, .getfield 19, 1, 0, 0), (91, .getfield 39, 5, 0, 0), (94, .invokespecial 48, 9, 3, 9), (97, .putfield 51, 7, 0, 0), (101, .new 46, 8, 0, 0), (106, .getfield 19, 1, 0, 0), (110, .getfield 43, 6, 0, 0), (113, .invokespecial 48, 9, 3, 9), (116, .putfield 55, 8, 0, 0), (120, .new 58, 9, 0, 0), (124, .invokespecial 60, 10, 1, 10), (127, .putfield 61, 9, 0, 0), (133, .newarray .int, 0, 0, 0), (135, .putfield 65, 12, 0, 0), (141, .newarray .int, 0, 0, 0), (143, .putfield 69, 13, 0, 0), (149, .newarray .int, 0, 0, 0), (151, .putfield 72, 14, 0, 0)] : List (Nat × mj_E)), mj_okW mj_Tw mj_Mm mj_m0 x.1 x.2 :=
  (mj_ac (mj_e_ob (mj_w1 53 rfl rfl) (mj_w1 54 rfl rfl) (mj_w1 55 rfl rfl))
   (mj_ac (mj_e_new mj_nw1 (mj_w1 56 rfl rfl))
   (mj_ac (mj_e_inN "Uncomputery" mj_M2 mj_nm2 mj_np2 (mj_w1 59 rfl rfl) mj_cd2 rfl rfl (mj_w1 58 rfl rfl))
   (mj_ac (mj_e_pf "Uncomputery" (rfl : mj_cls[0]? = some mj_K0) (by decide) mj_u0 (Or.inl (mj_w2 59 rfl rfl)) (Or.inl rfl) mj_pd0 mj_ds0 (Or.inr ⟨rfl, rfl, rfl, (mj_w2 59 rfl rfl)⟩))
   (mj_ac (mj_e_new mj_nw6 (mj_w1 187 rfl rfl))
   (mj_ac (mj_e_in mj_M7 mj_nm7 mj_np7 (mj_w1 190 rfl rfl) mj_cd7 rfl rfl (mj_w1 189 rfl rfl))
   (mj_ac (mj_e_pf "Uncomputery" (rfl : mj_cls[0]? = some mj_K0) (by decide) mj_u0 (Or.inl (mj_w2 60 rfl rfl)) (Or.inl rfl) mj_pd0 mj_ds0 (Or.inr ⟨rfl, rfl, rfl, (mj_w2 60 rfl rfl)⟩))
   (mj_ac (mj_e_new mj_nw1 (mj_w1 56 rfl rfl))
   (mj_ac (mj_e_inN "Uncomputery" mj_M2 mj_nm2 mj_np2 (mj_w1 59 rfl rfl) mj_cd2 rfl rfl (mj_w1 58 rfl rfl))
   (mj_ac (mj_e_pf "Uncomputery" (rfl : mj_cls[0]? = some mj_K0) (by decide) mj_u0 (Or.inl (mj_w2 61 rfl rfl)) (Or.inl rfl) mj_pd0 mj_ds0 (Or.inr ⟨rfl, rfl, rfl, (mj_w2 61 rfl rfl)⟩))
   (mj_ac (mj_e_new mj_nw1 (mj_w1 56 rfl rfl))
   (mj_ac (mj_e_inN "Uncomputery" mj_M2 mj_nm2 mj_np2 (mj_w1 59 rfl rfl) mj_cd2 rfl rfl (mj_w1 58 rfl rfl))
   (mj_ac (mj_e_pf "Uncomputery" (rfl : mj_cls[0]? = some mj_K0) (by decide) mj_u0 (Or.inl (mj_w2 62 rfl rfl)) (Or.inl rfl) mj_pd0 mj_ds0 (Or.inr ⟨rfl, rfl, rfl, (mj_w2 62 rfl rfl)⟩))
   (mj_ac (mj_e_new mj_nw2 (mj_w1 206 rfl rfl))
   (mj_ac (mj_e_inN "Uncomputery" mj_M3 mj_nm3 mj_np3 (mj_w1 65 rfl rfl) mj_cd3 rfl rfl (mj_w1 207 rfl rfl))
   (mj_ac (mj_e_pf "Uncomputery" (rfl : mj_cls[0]? = some mj_K0) (by decide) mj_u0 (Or.inl (mj_w2 63 rfl rfl)) (Or.inl rfl) mj_pd0 mj_ds0 (Or.inr ⟨rfl, rfl, rfl, (mj_w2 63 rfl rfl)⟩))
   (mj_ac (mj_e_new mj_nw7 (mj_w1 208 rfl rfl))
   (mj_ac (mj_e_inN "Uncomputery" mj_M8 mj_nm8 mj_np8 (mj_w1 211 rfl rfl) mj_cd8 rfl rfl (mj_w1 210 rfl rfl))
   (mj_ac (mj_e_pf "Uncomputery" (rfl : mj_cls[0]? = some mj_K0) (by decide) mj_u0 (Or.inl (mj_w2 64 rfl rfl)) (Or.inl rfl) mj_pd0 mj_ds0 (Or.inr ⟨rfl, rfl, rfl, (mj_w2 64 rfl rfl)⟩))
   (mj_ac (mj_e_new mj_nw7 (mj_w1 208 rfl rfl))
   (mj_ac (mj_e_inN "Uncomputery" mj_M8 mj_nm8 mj_np8 (mj_w1 211 rfl rfl) mj_cd8 rfl rfl (mj_w1 210 rfl rfl))
   (mj_ac (mj_e_pf "Uncomputery" (rfl : mj_cls[0]? = some mj_K0) (by decide) mj_u0 (Or.inl (mj_w2 65 rfl rfl)) (Or.inl rfl) mj_pd0 mj_ds0 (Or.inr ⟨rfl, rfl, rfl, (mj_w2 65 rfl rfl)⟩))
   (mj_ac (mj_e_new mj_nw8 (mj_w1 225 rfl rfl))
   (mj_ac (mj_e_gf "Uncomputery" (rfl : mj_cls[0]? = some mj_K0) (by decide) mj_u0 (Or.inl (mj_w2 60 rfl rfl)) (Or.inl rfl))
   (mj_ac (mj_e_gf "Uncomputery" (rfl : mj_cls[0]? = some mj_K0) (by decide) mj_u0 (Or.inl (mj_w2 64 rfl rfl)) (Or.inl rfl))
   (mj_ac (mj_e_in mj_M9 mj_nm9 mj_np9 (mj_w1 228 rfl rfl) mj_cd9 rfl rfl (mj_w1 227 rfl rfl))
   (mj_ac (mj_e_pf "Uncomputery" (rfl : mj_cls[0]? = some mj_K0) (by decide) mj_u0 (Or.inl (mj_w2 66 rfl rfl)) (Or.inl rfl) mj_pd0 mj_ds0 (Or.inr ⟨rfl, rfl, rfl, (mj_w2 66 rfl rfl)⟩))
   (mj_ac (mj_e_new mj_nw8 (mj_w1 225 rfl rfl))
   (mj_ac (mj_e_gf "Uncomputery" (rfl : mj_cls[0]? = some mj_K0) (by decide) mj_u0 (Or.inl (mj_w2 60 rfl rfl)) (Or.inl rfl))
   (mj_ac (mj_e_gf "Uncomputery" (rfl : mj_cls[0]? = some mj_K0) (by decide) mj_u0 (Or.inl (mj_w2 65 rfl rfl)) (Or.inl rfl))
   (mj_ac (mj_e_in mj_M9 mj_nm9 mj_np9 (mj_w1 228 rfl rfl) mj_cd9 rfl rfl (mj_w1 227 rfl rfl))
   (mj_ac (mj_e_pf "Uncomputery" (rfl : mj_cls[0]? = some mj_K0) (by decide) mj_u0 (Or.inl (mj_w2 67 rfl rfl)) (Or.inl rfl) mj_pd0 mj_ds0 (Or.inr ⟨rfl, rfl, rfl, (mj_w2 67 rfl rfl)⟩))
   (mj_ac (mj_e_new mj_nw9 (mj_w2 37 rfl rfl))
   (mj_ac (mj_e_inN "Uncomputery" mj_M10 mj_nm10 mj_np10 (mj_w2 40 rfl rfl) mj_cd10 rfl rfl (mj_w2 39 rfl rfl))
   (mj_ac (mj_e_pf "Uncomputery" (rfl : mj_cls[0]? = some mj_K0) (by decide) mj_u0 (Or.inl (mj_w2 68 rfl rfl)) (Or.inl rfl) mj_pd0 mj_ds0 (Or.inr ⟨rfl, rfl, rfl, (mj_w2 68 rfl rfl)⟩))
   (mj_ac (mj_e_na rfl (by decide) (mj_w1 224 rfl rfl))
   (mj_ac (mj_e_pf "Uncomputery" (rfl : mj_cls[0]? = some mj_K0) (by decide) mj_u0 (Or.inl (mj_w2 71 rfl rfl)) (Or.inl rfl) mj_pd0 mj_ds0 (Or.inr ⟨rfl, rfl, rfl, (mj_w2 71 rfl rfl)⟩))
   (mj_ac (mj_e_na rfl (by decide) (mj_w1 224 rfl rfl))
   (mj_ac (mj_e_pf "Uncomputery" (rfl : mj_cls[0]? = some mj_K0) (by decide) mj_u0 (Or.inl (mj_w2 72 rfl rfl)) (Or.inl rfl) mj_pd0 mj_ds0 (Or.inr ⟨rfl, rfl, rfl, (mj_w2 72 rfl rfl)⟩))
   (mj_ac (mj_e_na rfl (by decide) (mj_w1 224 rfl rfl))
   (mj_ac (mj_e_pf "Uncomputery" (rfl : mj_cls[0]? = some mj_K0) (by decide) mj_u0 (Or.inl (mj_w2 73 rfl rfl)) (Or.inl rfl) mj_pd0 mj_ds0 (Or.inr ⟨rfl, rfl, rfl, (mj_w2 73 rfl rfl)⟩))
   mj_an)))))))))))))))))))))))))))))))))))))))))
theorem mj_ok0 : mj_okRow mj_Tw mj_Mm mj_r0 := ⟨by decide +kernel, by decide +kernel, (mj_w1 1 rfl rfl), by decide, Or.inl ⟨mj_cd0, rfl, rfl⟩, mj_wlE (by decide +kernel) mj_wl0⟩
/- no word -/
theorem mj_wl2 : ∀ x ∈ ([(1, .invokespecial 1, 9003, 1, 0), (5, .new 7, 2, 0, 0), (9, .invokespecial 9, 3, 1, 3), (12, .putfield 10, 0, 1, 0), (16, .new 16, 3, 0, 0), (20, .invokespecial 18, 4, 1, 4), (23, .putfield 19, 1, 1, 0), (27, .new 23, 5, 0, 0), (32, .getfield 10, 0, 1, 0), (36, .getfield 19, 1, 1, 0), (39, .invokespecial 25, 6, 3, 6), (42, .putfield 28, 2, 1, 0)] : List (Nat × mj_E)), mj_okW mj_Tw mj_Mm mj_m2 x.1 x.2 :=
  (mj_ac (mj_e_ob (mj_w1 61 rfl rfl) (mj_w1 54 rfl rfl) (mj_w1 55 rfl rfl))
   (mj_ac (mj_e_new mj_nw2 (mj_w1 62 rfl rfl))
   (mj_ac (mj_e_inN "Uncomputery" mj_M3 mj_nm3 mj_np3 (mj_w1 65 rfl rfl) mj_cd3 rfl rfl (mj_w1 64 rfl rfl))
   (mj_ac (mj_e_pf "Uncomputery$Procedure" (rfl : mj_cls[1]? = some mj_K1) (by decide) mj_u1 (Or.inl (mj_w1 173 rfl rfl)) (Or.inl rfl) mj_pd1 mj_ds1 (Or.inr ⟨rfl, rfl, rfl, (mj_w1 173 rfl rfl)⟩))
   (mj_ac (mj_e_new mj_nw3 (mj_w1 78 rfl rfl))
   (mj_ac (mj_e_in mj_M4 mj_nm4 mj_np4 (mj_w1 81 rfl rfl) mj_cd4 rfl rfl (mj_w1 80 rfl rfl))
   (mj_ac (mj_e_pf "Uncomputery$Procedure" (rfl : mj_cls[1]? = some mj_K1) (by decide) mj_u1 (Or.inl (mj_w1 175 rfl rfl)) (Or.inl rfl) mj_pd1 mj_ds1 (Or.inr ⟨rfl, rfl, rfl, (mj_w1 175 rfl rfl)⟩))
   (mj_ac (mj_e_new mj_nw5 (mj_w1 148 rfl rfl))
   (mj_ac (mj_e_gf "Uncomputery$Procedure" (rfl : mj_cls[1]? = some mj_K1) (by decide) mj_u1 (Or.inl (mj_w1 173 rfl rfl)) (Or.inl rfl))
   (mj_ac (mj_e_gf "Uncomputery$Procedure" (rfl : mj_cls[1]? = some mj_K1) (by decide) mj_u1 (Or.inl (mj_w1 175 rfl rfl)) (Or.inl rfl))
   (mj_ac (mj_e_in mj_M6 mj_nm6 mj_np6 (mj_w1 151 rfl rfl) mj_cd6 rfl rfl (mj_w1 150 rfl rfl))
   (mj_ac (mj_e_pf "Uncomputery$Procedure" (rfl : mj_cls[1]? = some mj_K1) (by decide) mj_u1 (Or.inl (mj_w1 178 rfl rfl)) (Or.inl rfl) mj_pd1 mj_ds1 (Or.inr ⟨rfl, rfl, rfl, (mj_w1 178 rfl rfl)⟩))
   mj_an))))))))))))
theorem mj_ok2 : mj_okRow mj_Tw mj_Mm mj_r2 := ⟨by decide +kernel, by decide +kernel, (mj_w1 2 rfl rfl), by decide, Or.inl ⟨mj_cd2, rfl, rfl⟩, mj_wlE (by decide +kernel) mj_wl2⟩
theorem mj_wl3 : ∀ x ∈ ([(1, .invokespecial 3, 9003, 1, 0), (7, .newarray .char, 3, 0, 0), (9, .putfield 9, 0, 2, 0)] : List (Nat × mj_E)), mj_okW mj_Tw mj_Mm mj_m3 x.1 x.2 :=
  (mj_ac (mj_e_ob (mj_w1 67 rfl rfl) (mj_w1 54 rfl rfl) (mj_w1 55 rfl rfl))
   (mj_ac (mj_e_na rfl (by decide) (mj_w1 77 rfl rfl))
   (mj_ac (mj_e_pf "Uncomputery$Text" (rfl : mj_cls[2]? = some mj_K2) (by decide) mj_u2 (Or.inl (mj_w1 68 rfl rfl)) (Or.inl rfl) mj_pd2 mj_ds2 (Or.inr ⟨rfl, rfl, rfl, (mj_w1 68 rfl rfl)⟩))
   mj_an)))
theorem mj_ok3 : mj_okRow mj_Tw mj_Mm mj_r3 := ⟨by decide +kernel, by decide +kernel, (mj_w1 3 rfl rfl), by decide, Or.inl ⟨mj_cd3, rfl, rfl⟩, mj_wlE (by decide +kernel) mj_wl3⟩
theorem mj_wl4 : ∀ x ∈ ([(1, .invokespecial 3, 9003, 1, 0), (7, .anewarray 9, 7, 0, 0), (10, .putfield 11, 0, 3, 0), (14, .new 9, 4, 0, 0), (18, .invokespecial 17, 5, 1, 5), (21, .putfield 18, 1, 3, 0), (28, .getfield 11, 0, 3, 0), (36, .getfield 11, 0, 3, 0), (40, .new 9, 4, 0, 0), (44, .invokespecial 17, 5, 1, 5)] : List (Nat × mj_E)), mj_okW mj_Tw mj_Mm mj_m4 x.1 x.2 :=
  (mj_ac (mj_e_ob (mj_w1 83 rfl rfl) (mj_w1 54 rfl rfl) (mj_w1 55 rfl rfl))
   (mj_ac (mj_e_nq "Uncomputery$Instruction" rfl (by decide) (mj_w1 84 rfl rfl) (mj_w1 85 rfl rfl))
   (mj_ac (mj_e_pf "Uncomputery$Code" (rfl : mj_cls[3]? = some mj_K3) (by decide) mj_u3 (Or.inl (mj_w1 138 rfl rfl)) (Or.inl rfl) mj_pd3 mj_ds3 (Or.inr ⟨rfl, rfl, rfl, (mj_w1 138 rfl rfl)⟩))
   (mj_ac (mj_e_new mj_nw4 (mj_w1 84 rfl rfl))
   (mj_ac (mj_e_inN "Uncomputery" mj_M5 mj_nm5 mj_np5 (mj_w1 88 rfl rfl) mj_cd5 rfl rfl (mj_w1 87 rfl rfl))
   (mj_ac (mj_e_pf "Uncomputery$Code" (rfl : mj_cls[3]? = some mj_K3) (by decide) mj_u3 (Or.inl (mj_w1 139 rfl rfl)) (Or.inl rfl) mj_pd3 mj_ds3 (Or.inr ⟨rfl, rfl, rfl, (mj_w1 139 rfl rfl)⟩))
   (mj_ac (mj_e_gf "Uncomputery$Code" (rfl : mj_cls[3]? = some mj_K3) (by decide) mj_u3 (Or.inl (mj_w1 138 rfl rfl)) (Or.inl rfl))
   (mj_ac (mj_e_gf "Uncomputery$Code" (rfl : mj_cls[3]? = some mj_K3) (by decide) mj_u3 (Or.inl (mj_w1 138 rfl rfl)) (Or.inl rfl))
   (mj_ac (mj_e_new mj_nw4 (mj_w1 84 rfl rfl))
   (mj_ac (mj_e_inN "Uncomputery" mj_M5 mj_nm5 mj_np5 (mj_w1 88 rfl rfl) mj_cd5 rfl rfl (mj_w1 87 rfl rfl))
   mj_an))))))))))
theorem mj_ok4 : mj_okRow mj_Tw mj_Mm mj_r4 := ⟨by decide +kernel, by decide +kernel, (mj_w1 4 rfl rfl), by decide, Or.inl ⟨mj_cd4, rfl, rfl⟩, mj_wlE (by decide +kernel) mj_wl4⟩
theorem mj_wl5 : ∀ x ∈ ([(1, .invokespecial 3, 9003, 1, 0), (7, .putfield 9, 0, 4, 0), (13, .putfield 15, 3, 4, 0)] : List (Nat × mj_E)), mj_okW mj_Tw mj_Mm mj_m5 x.1 x.2 :=
  (mj_ac (mj_e_ob (mj_w1 90 rfl rfl) (mj_w1 54 rfl rfl) (mj_w1 55 rfl rfl))
   (mj_ac (mj_e_pf "Uncomputery$Instruction" (rfl : mj_cls[4]? = some mj_K4) (by decide) mj_u4 (Or.inl (mj_w1 91 rfl rfl)) (Or.inl rfl) mj_pd4 mj_ds4 (Or.inl rfl))
   (mj_ac (mj_e_pf "Uncomputery$Instruction" (rfl : mj_cls[4]? = some mj_K4) (by decide) mj_u4 (Or.inl (mj_w1 104 rfl rfl)) (Or.inl rfl) mj_pd4 mj_ds4 (Or.inl rfl))
   mj_an)))
theorem mj_ok5 : mj_okRow mj_Tw mj_Mm mj_r5 := ⟨by decide +kernel, by decide +kernel, (mj_w1 5 rfl rfl), by decide, Or.inl ⟨mj_cd5, rfl, rfl⟩, mj_wlE (by decide +kernel) mj_wl5⟩
theorem mj_wl6 : ∀ x ∈ ([(1, .invokespecial 3, 9003, 1, 0), (7, .putfield 9, 4, 5, 0), (12, .putfield 15, 0, 5, 0), (17, .putfield 19, 1, 5, 0)] : List (Nat × mj_E)), mj_okW mj_Tw mj_Mm mj_m6 x.1 x.2 :=
  (mj_ac (mj_e_ob (mj_w1 153 rfl rfl) (mj_w1 54 rfl rfl) (mj_w1 55 rfl rfl))
   (mj_ac (mj_e_pf "Uncomputery$Reader" (rfl : mj_cls[5]? = some mj_K5) (by decide) mj_u5 (Or.inl (mj_w1 158 rfl rfl)) (Or.inl rfl) mj_pd5 mj_ds5 (Or.inl rfl))
   (mj_ac (mj_e_pf "Uncomputery$Reader" (rfl : mj_cls[5]? = some mj_K5) (by decide) mj_u5 (Or.inl (mj_w1 154 rfl rfl)) (Or.inl rfl) mj_pd5 mj_ds5 (Or.inr ⟨rfl, rfl, rfl, (mj_w1 154 rfl rfl)⟩))
   (mj_ac (mj_e_pf "Uncomputery$Reader" (rfl : mj_cls[5]? = some mj_K5) (by decide) mj_u5 (Or.inl (mj_w1 155 rfl rfl)) (Or.inl rfl) mj_pd5 mj_ds5 (Or.inr ⟨rfl, rfl, rfl, (mj_w1 155 rfl rfl)⟩))
   mj_an))))
theorem mj_ok6 : mj_okRow mj_Tw mj_Mm mj_r6 := ⟨by decide +kernel, by decide +kernel, (mj_w1 6 rfl rfl), by decide, Or.inl ⟨mj_cd6, rfl, rfl⟩, mj_wlE (by decide +kernel) mj_wl6⟩
theorem mj_wl7 : ∀ x ∈ ([(1, .invokespecial 3, 9003, 1, 0), (7, .anewarray 9, 8, 0, 0), (10, .putfield 11, 0, 6, 0), (14, .new 9, 1, 0, 0), (18, .invokespecial 17, 2, 1, 2), (21, .putfield 18, 1, 6, 0), (28, .getfield 11, 0, 6, 0), (36, .getfield 11, 0, 6, 0), (40, .new 9, 1, 0, 0), (44, .invokespecial 17, 2, 1, 2)] : List (Nat × mj_E)), mj_okW mj_Tw mj_Mm mj_m7 x.1 x.2 :=
  (mj_ac (mj_e_ob (mj_w1 192 rfl rfl) (mj_w1 54 rfl rfl) (mj_w1 55 rfl rfl))
   (mj_ac (mj_e_nq "Uncomputery$Procedure" rfl (by decide) (mj_w1 193 rfl rfl) (mj_w1 194 rfl rfl))
   (mj_ac (mj_e_pf "Uncomputery$Library" (rfl : mj_cls[6]? = some mj_K6) (by decide) mj_u6 (Or.inl (mj_w1 196 rfl rfl)) (Or.inl rfl) mj_pd6 mj_ds6 (Or.inr ⟨rfl, rfl, rfl, (mj_w1 196 rfl rfl)⟩))
   (mj_ac (mj_e_new mj_nw1 (mj_w1 193 rfl rfl))
   (mj_ac (mj_e_inN "Uncomputery" mj_M2 mj_nm2 mj_np2 (mj_w1 59 rfl rfl) mj_cd2 rfl rfl (mj_w1 195 rfl rfl))
   (mj_ac (mj_e_pf "Uncomputery$Library" (rfl : mj_cls[6]? = some mj_K6) (by decide) mj_u6 (Or.inl (mj_w1 197 rfl rfl)) (Or.inl rfl) mj_pd6 mj_ds6 (Or.inr ⟨rfl, rfl, rfl, (mj_w1 197 rfl rfl)⟩))
   (mj_ac (mj_e_gf "Uncomputery$Library" (rfl : mj_cls[6]? = some mj_K6) (by decide) mj_u6 (Or.inl (mj_w1 196 rfl rfl)) (Or.inl rfl))
   (mj_ac (mj_e_gf "Uncomputery$Library" (rfl : mj_cls[6]? = some mj_K6) (by decide) mj_u6 (Or.inl (mj_w1 196 rfl rfl)) (Or.inl rfl))
   (mj_ac (mj_e_new mj_nw1 (mj_w1 193 rfl rfl))
   (mj_ac (mj_e_inN "Uncomputery" mj_M2 mj_nm2 mj_np2 (mj_w1 59 rfl rfl) mj_cd2 rfl rfl (mj_w1 195 rfl rfl))
   mj_an))))))))))
theorem mj_ok7 : mj_okRow mj_Tw mj_Mm mj_r7 := ⟨by decide +kernel, by decide +kernel, (mj_w1 7 rfl rfl), by decide, Or.inl ⟨mj_cd7, rfl, rfl⟩, mj_wlE (by decide +kernel) mj_wl7⟩
theorem mj_wl8 : ∀ x ∈ ([(1, .invokespecial 3, 9003, 1, 0), (7, .newarray .int, 0, 0, 0), (9, .putfield 9, 0, 7, 0), (15, .newarray .int, 0, 0, 0), (17, .putfield 15, 1, 7, 0)] : List (Nat × mj_E)), mj_okW mj_Tw mj_Mm mj_m8 x.1 x.2 :=
  (mj_ac (mj_e_ob (mj_w1 213 rfl rfl) (mj_w1 54 rfl rfl) (mj_w1 55 rfl rfl))
   (mj_ac (mj_e_na rfl (by decide) (mj_w1 224 rfl rfl))
   (mj_ac (mj_e_pf "Uncomputery$Store" (rfl : mj_cls[7]? = some mj_K7) (by decide) mj_u7 (Or.inl (mj_w1 214 rfl rfl)) (Or.inl rfl) mj_pd7 mj_ds7 (Or.inr ⟨rfl, rfl, rfl, (mj_w1 214 rfl rfl)⟩))
   (mj_ac (mj_e_na rfl (by decide) (mj_w1 224 rfl rfl))
   (mj_ac (mj_e_pf "Uncomputery$Store" (rfl : mj_cls[7]? = some mj_K7) (by decide) mj_u7 (Or.inl (mj_w1 215 rfl rfl)) (Or.inl rfl) mj_pd7 mj_ds7 (Or.inr ⟨rfl, rfl, rfl, (mj_w1 215 rfl rfl)⟩))
   mj_an)))))
theorem mj_ok8 : mj_okRow mj_Tw mj_Mm mj_r8 := ⟨by decide +kernel, by decide +kernel, (mj_w1 8 rfl rfl), by decide, Or.inl ⟨mj_cd8, rfl, rfl⟩, mj_wlE (by decide +kernel) mj_wl8⟩
theorem mj_wl9 : ∀ x ∈ ([(1, .invokespecial 3, 9003, 1, 0), (7, .newarray .int, 0, 0, 0), (9, .putfield 9, 2, 8, 0), (15, .newarray .int, 0, 0, 0), (17, .putfield 15, 3, 8, 0), (23, .newarray .boolean, 2, 0, 0), (25, .putfield 18, 4, 8, 0), (30, .newarray .char, 3, 0, 0), (32, .putfield 22, 5, 8, 0), (37, .newarray .int, 0, 0, 0), (39, .putfield 26, 6, 8, 0), (44, .putfield 29, 0, 8, 0), (49, .putfield 33, 1, 8, 0)] : List (Nat × mj_E)), mj_okW mj_Tw mj_Mm mj_m9 x.1 x.2 :=
  (mj_ac (mj_e_ob (mj_w1 230 rfl rfl) (mj_w1 54 rfl rfl) (mj_w1 55 rfl rfl))
   (mj_ac (mj_e_na rfl (by decide) (mj_w1 224 rfl rfl))
   (mj_ac (mj_e_pf "Uncomputery$Run" (rfl : mj_cls[8]? = some mj_K8) (by decide) mj_u8 (Or.inl (mj_w1 233 rfl rfl)) (Or.inl rfl) mj_pd8 mj_ds8 (Or.inr ⟨rfl, rfl, rfl, (mj_w1 233 rfl rfl)⟩))
   (mj_ac (mj_e_na rfl (by decide) (mj_w1 224 rfl rfl))
   (mj_ac (mj_e_pf "Uncomputery$Run" (rfl : mj_cls[8]? = some mj_K8) (by decide) mj_u8 (Or.inl (mj_w1 234 rfl rfl)) (Or.inl rfl) mj_pd8 mj_ds8 (Or.inr ⟨rfl, rfl, rfl, (mj_w1 234 rfl rfl)⟩))
   (mj_ac (mj_e_na rfl (by decide) (mj_w2 36 rfl rfl))
   (mj_ac (mj_e_pf "Uncomputery$Run" (rfl : mj_cls[8]? = some mj_K8) (by decide) mj_u8 (Or.inl (mj_w1 235 rfl rfl)) (Or.inl rfl) mj_pd8 mj_ds8 (Or.inr ⟨rfl, rfl, rfl, (mj_w1 235 rfl rfl)⟩))
   (mj_ac (mj_e_na rfl (by decide) (mj_w1 77 rfl rfl))
   (mj_ac (mj_e_pf "Uncomputery$Run" (rfl : mj_cls[8]? = some mj_K8) (by decide) mj_u8 (Or.inl (mj_w1 236 rfl rfl)) (Or.inl rfl) mj_pd8 mj_ds8 (Or.inr ⟨rfl, rfl, rfl, (mj_w1 236 rfl rfl)⟩))
   (mj_ac (mj_e_na rfl (by decide) (mj_w1 224 rfl rfl))
   (mj_ac (mj_e_pf "Uncomputery$Run" (rfl : mj_cls[8]? = some mj_K8) (by decide) mj_u8 (Or.inl (mj_w1 237 rfl rfl)) (Or.inl rfl) mj_pd8 mj_ds8 (Or.inr ⟨rfl, rfl, rfl, (mj_w1 237 rfl rfl)⟩))
   (mj_ac (mj_e_pf "Uncomputery$Run" (rfl : mj_cls[8]? = some mj_K8) (by decide) mj_u8 (Or.inl (mj_w1 231 rfl rfl)) (Or.inl rfl) mj_pd8 mj_ds8 (Or.inr ⟨rfl, rfl, rfl, (mj_w1 231 rfl rfl)⟩))
   (mj_ac (mj_e_pf "Uncomputery$Run" (rfl : mj_cls[8]? = some mj_K8) (by decide) mj_u8 (Or.inl (mj_w1 232 rfl rfl)) (Or.inl rfl) mj_pd8 mj_ds8 (Or.inr ⟨rfl, rfl, rfl, (mj_w1 232 rfl rfl)⟩))
   mj_an)))))))))))))
theorem mj_ok9 : mj_okRow mj_Tw mj_Mm mj_r9 := ⟨by decide +kernel, by decide +kernel, (mj_w1 9 rfl rfl), by decide, Or.inl ⟨mj_cd9, rfl, rfl⟩, mj_wlE (by decide +kernel) mj_wl9⟩
theorem mj_wl10 : ∀ x ∈ ([(1, .invokespecial 3, 9003, 1, 0), (7, .newarray .int, 0, 0, 0), (9, .putfield 9, 0, 9, 0), (15, .newarray .int, 0, 0, 0), (17, .putfield 15, 1, 9, 0), (23, .newarray .int, 0, 0, 0), (25, .putfield 18, 2, 9, 0)] : List (Nat × mj_E)), mj_okW mj_Tw mj_Mm mj_m10 x.1 x.2 :=
  (mj_ac (mj_e_ob (mj_w2 42 rfl rfl) (mj_w1 54 rfl rfl) (mj_w1 55 rfl rfl))
   (mj_ac (mj_e_na rfl (by decide) (mj_w1 224 rfl rfl))
   (mj_ac (mj_e_pf "Uncomputery$Circuit" (rfl : mj_cls[9]? = some mj_K9) (by decide) mj_u9 (Or.inl (mj_w2 43 rfl rfl)) (Or.inl rfl) mj_pd9 mj_ds9 (Or.inr ⟨rfl, rfl, rfl, (mj_w2 43 rfl rfl)⟩))
   (mj_ac (mj_e_na rfl (by decide) (mj_w1 224 rfl rfl))
   (mj_ac (mj_e_pf "Uncomputery$Circuit" (rfl : mj_cls[9]? = some mj_K9) (by decide) mj_u9 (Or.inl (mj_w2 44 rfl rfl)) (Or.inl rfl) mj_pd9 mj_ds9 (Or.inr ⟨rfl, rfl, rfl, (mj_w2 44 rfl rfl)⟩))
   (mj_ac (mj_e_na rfl (by decide) (mj_w1 224 rfl rfl))
   (mj_ac (mj_e_pf "Uncomputery$Circuit" (rfl : mj_cls[9]? = some mj_K9) (by decide) mj_u9 (Or.inl (mj_w2 45 rfl rfl)) (Or.inl rfl) mj_pd9 mj_ds9 (Or.inr ⟨rfl, rfl, rfl, (mj_w2 45 rfl rfl)⟩))
   mj_an)))))))
theorem mj_ok10 : mj_okRow mj_Tw mj_Mm mj_r10 := ⟨by decide +kernel, by decide +kernel, (mj_w1 10 rfl rfl), by decide, Or.inl ⟨mj_cd10, rfl, rfl⟩, mj_wlE (by decide +kernel) mj_wl10⟩
theorem mj_wl11 : ∀ x ∈ ([(1, .getfield 10, 0, 0, 0), (4, .getfield 75, 0, 1, 0), (7, .invokevirtual 93, 12, 1, 3), (12, .getfield 10, 0, 0, 0), (15, .getfield 75, 0, 1, 0), (18, .invokevirtual 97, 13, 1, 3)] : List (Nat × mj_E)), mj_okW mj_Tw mj_Mm mj_m11 x.1 x.2 :=
  (mj_ac (mj_e_gf "Uncomputery" (rfl : mj_cls[0]? = some mj_K0) (by decide) mj_u0 (Or.inl (mj_w2 59 rfl rfl)) (Or.inl rfl))
   (mj_ac (mj_e_gf "Uncomputery$Procedure" (rfl : mj_cls[1]? = some mj_K1) (by decide) mj_u1 (Or.inl (mj_w1 174 rfl rfl)) (Or.inl rfl))
   (mj_ac (mj_e_vi mj_M12 mj_nm12 mj_np12 (mj_w2 116 rfl rfl) (rfl : mj_cls[2]? = some mj_K2) (mj_w2 117 rfl rfl) (mj_w2 115 rfl rfl) mj_cd12)
   (mj_ac (mj_e_gf "Uncomputery" (rfl : mj_cls[0]? = some mj_K0) (by decide) mj_u0 (Or.inl (mj_w2 59 rfl rfl)) (Or.inl rfl))
   (mj_ac (mj_e_gf "Uncomputery$Procedure" (rfl : mj_cls[1]? = some mj_K1) (by decide) mj_u1 (Or.inl (mj_w1 174 rfl rfl)) (Or.inl rfl))
   (mj_ac (mj_e_vi mj_M13 mj_nm13 mj_np13 (mj_w2 120 rfl rfl) (rfl : mj_cls[2]? = some mj_K2) (mj_w2 121 rfl rfl) (mj_w2 119 rfl rfl) mj_cd13)
   mj_an))))))
theorem mj_ok11 : mj_okRow mj_Tw mj_Mm mj_r11 := ⟨by decide +kernel, by decide +kernel, (mj_w1 1 rfl rfl), by decide, Or.inl ⟨mj_cd11, rfl, rfl⟩, mj_wlE (by decide +kernel) mj_wl11⟩
theorem mj_wl12 : ∀ x ∈ ([(1, .getfield 15, 1, 2, 0)] : List (Nat × mj_E)), mj_okW mj_Tw mj_Mm mj_m12 x.1 x.2 :=
  (mj_ac (mj_e_gf "Uncomputery$Text" (rfl : mj_cls[2]? = some mj_K2) (by decide) mj_u2 (Or.inl (mj_w1 70 rfl rfl)) (Or.inl rfl))
   mj_an)
theorem mj_ok12 : mj_okRow mj_Tw mj_Mm mj_r12 := ⟨by decide +kernel, by decide +kernel, (mj_w1 3 rfl rfl), by decide, Or.inl ⟨mj_cd12, rfl, rfl⟩, mj_wlE (by decide +kernel) mj_wl12⟩
theorem mj_wl13 : ∀ x ∈ ([(2, .putfield 15, 1, 2, 0)] : List (Nat × mj_E)), mj_okW mj_Tw mj_Mm mj_m13 x.1 x.2 :=
  (mj_ac (mj_e_pf "Uncomputery$Text" (rfl : mj_cls[2]? = some mj_K2) (by decide) mj_u2 (Or.inl (mj_w1 70 rfl rfl)) (Or.inl rfl) mj_pd2 mj_ds2 (Or.inl rfl))
   mj_an)
theorem mj_ok13 : mj_okRow mj_Tw mj_Mm mj_r13 := ⟨by decide +kernel, by decide +kernel, (mj_w1 3 rfl rfl), by decide, Or.inl ⟨mj_cd13, rfl, rfl⟩, mj_wlE (by decide +kernel) mj_wl13⟩
theorem mj_wl14 : ∀ x ∈ ([(1, .getfield 39, 5, 0, 0), (4, .invokevirtual 191, 15, 1, 8)] : List (Nat × mj_E)), mj_okW mj_Tw mj_Mm mj_m14 x.1 x.2 :=
  (mj_ac (mj_e_gf "Uncomputery" (rfl : mj_cls[0]? = some mj_K0) (by decide) mj_u0 (Or.inl (mj_w2 64 rfl rfl)) (Or.inl rfl))
   (mj_ac (mj_e_vi mj_M15 mj_nm15 mj_np15 (mj_w2 128 rfl rfl) (rfl : mj_cls[7]? = some mj_K7) (mj_w2 129 rfl rfl) (mj_w2 127 rfl rfl) mj_cd15)
   mj_an))
theorem mj_ok14 : mj_okRow mj_Tw mj_Mm mj_r14 := ⟨by decide +kernel, by decide +kernel, (mj_w1 1 rfl rfl), by decide, Or.inl ⟨mj_cd14, rfl, rfl⟩, mj_wlE (by decide +kernel) mj_wl14⟩
theorem mj_wl15 : ∀ x ∈ ([(1, .getfield 24, 2, 7, 0)] : List (Nat × mj_E)), mj_okW mj_Tw mj_Mm mj_m15 x.1 x.2 :=
  (mj_ac (mj_e_gf "Uncomputery$Store" (rfl : mj_cls[7]? = some mj_K7) (by decide) mj_u7 (Or.inl (mj_w1 216 rfl rfl)) (Or.inl rfl))
   mj_an)
theorem mj_ok15 : mj_okRow mj_Tw mj_Mm mj_r15 := ⟨by decide +kernel, by decide +kernel, (mj_w1 8 rfl rfl), by decide, Or.inl ⟨mj_cd15, rfl, rfl⟩, mj_wlE (by decide +kernel) mj_wl15⟩
theorem mj_wl16 : ∀ x ∈ ([(1, .getfield 51, 7, 0, 0), (4, .getfield 209, 8, 8, 0), (14, .getfield 51, 7, 0, 0), (17, .invokevirtual 225, 17, 1, 9), (27, .getfield 51, 7, 0, 0), (30, .invokevirtual 228, 18, 1, 9)] : List (Nat × mj_E)), mj_okW mj_Tw mj_Mm mj_m16 x.1 x.2 :=
  (mj_ac (mj_e_gf "Uncomputery" (rfl : mj_cls[0]? = some mj_K0) (by decide) mj_u0 (Or.inl (mj_w2 66 rfl rfl)) (Or.inl rfl))
   (mj_ac (mj_e_gf "Uncomputery$Run" (rfl : mj_cls[8]? = some mj_K8) (by decide) mj_u8 (Or.inl (mj_w2 0 rfl rfl)) (Or.inl rfl))
   (mj_ac (mj_e_gf "Uncomputery" (rfl : mj_cls[0]? = some mj_K0) (by decide) mj_u0 (Or.inl (mj_w2 66 rfl rfl)) (Or.inl rfl))
   (mj_ac (mj_e_vi mj_M17 mj_nm17 mj_np17 (mj_w2 136 rfl rfl) (rfl : mj_cls[8]? = some mj_K8) (mj_w2 137 rfl rfl) (mj_w2 135 rfl rfl) mj_cd17)
   (mj_ac (mj_e_gf "Uncomputery" (rfl : mj_cls[0]? = some mj_K0) (by decide) mj_u0 (Or.inl (mj_w2 66 rfl rfl)) (Or.inl rfl))
   (mj_ac (mj_e_vi mj_M18 mj_nm18 mj_np18 (mj_w2 140 rfl rfl) (rfl : mj_cls[8]? = some mj_K8) (mj_w2 141 rfl rfl) (mj_w2 139 rfl rfl) mj_cd18)
   mj_an))))))
theorem mj_ok16 : mj_okRow mj_Tw mj_Mm mj_r16 := ⟨by decide +kernel, by decide +kernel, (mj_w1 1 rfl rfl), by decide, Or.inl ⟨mj_cd16, rfl, rfl⟩, mj_wlE (by decide +kernel) mj_wl16⟩
theorem mj_wl17 : ∀ x ∈ ([(1, .getfield 41, 7, 8, 0)] : List (Nat × mj_E)), mj_okW mj_Tw mj_Mm mj_m17 x.1 x.2 :=
  (mj_ac (mj_e_gf "Uncomputery$Run" (rfl : mj_cls[8]? = some mj_K8) (by decide) mj_u8 (Or.inl (mj_w1 238 rfl rfl)) (Or.inl rfl))
   mj_an)
theorem mj_ok17 : mj_okRow mj_Tw mj_Mm mj_r17 := ⟨by decide +kernel, by decide +kernel, (mj_w1 9 rfl rfl), by decide, Or.inl ⟨mj_cd17, rfl, rfl⟩, mj_wlE (by decide +kernel) mj_wl17⟩
theorem mj_wl18 : ∀ x ∈ ([(1, .getfield 45, 11, 8, 0), (8, .invokevirtual 73, 19, 1, 9)] : List (Nat × mj_E)), mj_okW mj_Tw mj_Mm mj_m18 x.1 x.2 :=
  (mj_ac (mj_e_gf "Uncomputery$Run" (rfl : mj_cls[8]? = some mj_K8) (by decide) mj_u8 (Or.inl (mj_w2 5 rfl rfl)) (Or.inl rfl))
   (mj_ac (mj_e_vi mj_M19 mj_nm19 mj_np19 (mj_w2 145 rfl rfl) (rfl : mj_cls[8]? = some mj_K8) (mj_wp 0 rfl rfl) (mj_w2 143 rfl rfl) mj_cd19)
   mj_an))
theorem mj_ok18 : mj_okRow mj_Tw mj_Mm mj_r18 := ⟨by decide +kernel, by decide +kernel, (mj_w1 9 rfl rfl), by decide, Or.inl ⟨mj_cd18, rfl, rfl⟩, mj_wlE (by decide +kernel) mj_wl18⟩
theorem mj_wl19 : ∀ x ∈ ([(1, .getfield 55, 12, 8, 0), (8, .getfield 70, 10, 8, 0), (12, .getfield 29, 0, 8, 0), (16, .getfield 52, 9, 8, 0), (19, .invokevirtual 58, 20, 2, 7), (22, .invokevirtual 64, 21, 1, 4), (37, .getfield 70, 10, 8, 0)] : List (Nat × mj_E)), mj_okW mj_Tw mj_Mm mj_m19 x.1 x.2 :=
  (mj_ac (mj_e_gf "Uncomputery$Run" (rfl : mj_cls[8]? = some mj_K8) (by decide) mj_u8 (Or.inl (mj_w2 7 rfl rfl)) (Or.inl rfl))
   (mj_ac (mj_e_gf "Uncomputery$Run" (rfl : mj_cls[8]? = some mj_K8) (by decide) mj_u8 (Or.inl (mj_w2 3 rfl rfl)) (Or.inl rfl))
   (mj_ac (mj_e_gf "Uncomputery$Run" (rfl : mj_cls[8]? = some mj_K8) (by decide) mj_u8 (Or.inl (mj_w1 231 rfl rfl)) (Or.inl rfl))
   (mj_ac (mj_e_gf "Uncomputery$Run" (rfl : mj_cls[8]? = some mj_K8) (by decide) mj_u8 (Or.inl (mj_w2 1 rfl rfl)) (Or.inl rfl))
   (mj_ac (mj_e_vi mj_M20 mj_nm20 mj_np20 (mj_w2 148 rfl rfl) (rfl : mj_cls[6]? = some mj_K6) (mj_w2 149 rfl rfl) (mj_w2 147 rfl rfl) mj_cd20)
   (mj_ac (mj_e_vi mj_M21 mj_nm21 mj_np21 (mj_w2 152 rfl rfl) (rfl : mj_cls[3]? = some mj_K3) (mj_w2 153 rfl rfl) (mj_w2 151 rfl rfl) mj_cd21)
   (mj_ac (mj_e_gf "Uncomputery$Run" (rfl : mj_cls[8]? = some mj_K8) (by decide) mj_u8 (Or.inl (mj_w2 3 rfl rfl)) (Or.inl rfl))
   mj_an)))))))
theorem mj_ok19 : mj_okRow mj_Tw mj_Mm mj_r19 := ⟨by decide +kernel, by decide +kernel, (mj_w1 9 rfl rfl), by decide, Or.inl ⟨mj_cd19, rfl, rfl⟩, mj_wlE (by decide +kernel) mj_wl19⟩
theorem mj_wl20 : ∀ x ∈ ([(6, .getfield 22, 2, 6, 0), (14, .getfield 11, 0, 6, 0), (22, .getfield 11, 0, 6, 0), (27, .getfield 30, 1, 1, 0), (34, .getfield 18, 1, 6, 0), (37, .getfield 30, 1, 1, 0)] : List (Nat × mj_E)), mj_okW mj_Tw mj_Mm mj_m20 x.1 x.2 :=
  (mj_ac (mj_e_gf "Uncomputery$Library" (rfl : mj_cls[6]? = some mj_K6) (by decide) mj_u6 (Or.inl (mj_w1 198 rfl rfl)) (Or.inl rfl))
   (mj_ac (mj_e_gf "Uncomputery$Library" (rfl : mj_cls[6]? = some mj_K6) (by decide) mj_u6 (Or.inl (mj_w1 196 rfl rfl)) (Or.inl rfl))
   (mj_ac (mj_e_gf "Uncomputery$Library" (rfl : mj_cls[6]? = some mj_K6) (by decide) mj_u6 (Or.inl (mj_w1 196 rfl rfl)) (Or.inl rfl))
   (mj_ac (mj_e_gf "Uncomputery$Procedure" (rfl : mj_cls[1]? = some mj_K1) (by decide) mj_u1 (Or.inl (mj_w1 176 rfl rfl)) (Or.inl rfl))
   (mj_ac (mj_e_gf "Uncomputery$Library" (rfl : mj_cls[6]? = some mj_K6) (by decide) mj_u6 (Or.inl (mj_w1 197 rfl rfl)) (Or.inl rfl))
   (mj_ac (mj_e_gf "Uncomputery$Procedure" (rfl : mj_cls[1]? = some mj_K1) (by decide) mj_u1 (Or.inl (mj_w1 176 rfl rfl)) (Or.inl rfl))
   mj_an))))))
theorem mj_ok20 : mj_okRow mj_Tw mj_Mm mj_r20 := ⟨by decide +kernel, by decide +kernel, (mj_w1 7 rfl rfl), by decide, Or.inl ⟨mj_cd20, rfl, rfl⟩, mj_wlE (by decide +kernel) mj_wl20⟩
theorem mj_wl21 : ∀ x ∈ ([(1, .getfield 22, 2, 3, 0)] : List (Nat × mj_E)), mj_okW mj_Tw mj_Mm mj_m21 x.1 x.2 :=
  (mj_ac (mj_e_gf "Uncomputery$Code" (rfl : mj_cls[3]? = some mj_K3) (by decide) mj_u3 (Or.inl (mj_w1 140 rfl rfl)) (Or.inl rfl))
   mj_an)
theorem mj_ok21 : mj_okRow mj_Tw mj_Mm mj_r21 := ⟨by decide +kernel, by decide +kernel, (mj_w1 4 rfl rfl), by decide, Or.inl ⟨mj_cd21, rfl, rfl⟩, mj_wlE (by decide +kernel) mj_wl21⟩
theorem mj_wl22 : ∀ x ∈ ([(1, .getfield 221, 15, 0, 0)] : List (Nat × mj_E)), mj_okW mj_Tw mj_Mm mj_m22 x.1 x.2 :=
  (mj_ac (mj_e_gf "Uncomputery" (rfl : mj_cls[0]? = some mj_K0) (by decide) mj_u0 (Or.inl (mj_w2 74 rfl rfl)) (Or.inl rfl))
   mj_an)
theorem mj_ok22 : mj_okRow mj_Tw mj_Mm mj_r22 := ⟨by decide +kernel, by decide +kernel, (mj_w1 1 rfl rfl), by decide, Or.inl ⟨mj_cd22, rfl, rfl⟩, mj_wlE (by decide +kernel) mj_wl22⟩
theorem mj_wl23 : ∀ x ∈ ([(1, .getfield 61, 9, 0, 0), (4, .invokevirtual 291, 24, 1, 10)] : List (Nat × mj_E)), mj_okW mj_Tw mj_Mm mj_m23 x.1 x.2 :=
  (mj_ac (mj_e_gf "Uncomputery" (rfl : mj_cls[0]? = some mj_K0) (by decide) mj_u0 (Or.inl (mj_w2 68 rfl rfl)) (Or.inl rfl))
   (mj_ac (mj_e_vi mj_M24 mj_nm24 mj_np24 (mj_w2 164 rfl rfl) (rfl : mj_cls[9]? = some mj_K9) (mj_w2 165 rfl rfl) (mj_w2 163 rfl rfl) mj_cd24)
   mj_an))
theorem mj_ok23 : mj_okRow mj_Tw mj_Mm mj_r23 := ⟨by decide +kernel, by decide +kernel, (mj_w1 1 rfl rfl), by decide, Or.inl ⟨mj_cd23, rfl, rfl⟩, mj_wlE (by decide +kernel) mj_wl23⟩
theorem mj_wl24 : ∀ x ∈ ([(1, .getfield 21, 3, 9, 0)] : List (Nat × mj_E)), mj_okW mj_Tw mj_Mm mj_m24 x.1 x.2 :=
  (mj_ac (mj_e_gf "Uncomputery$Circuit" (rfl : mj_cls[9]? = some mj_K9) (by decide) mj_u9 (Or.inl (mj_w2 46 rfl rfl)) (Or.inl rfl))
   mj_an)
theorem mj_ok24 : mj_okRow mj_Tw mj_Mm mj_r24 := ⟨by decide +kernel, by decide +kernel, (mj_w1 10 rfl rfl), by decide, Or.inl ⟨mj_cd24, rfl, rfl⟩, mj_wlE (by decide +kernel) mj_wl24⟩
theorem mj_wl25 : ∀ x ∈ ([(1, .getfield 61, 9, 0, 0), (4, .invokevirtual 308, 26, 1, 10), (8, .getfield 61, 9, 0, 0), (11, .invokevirtual 291, 24, 1, 10)] : List (Nat × mj_E)), mj_okW mj_Tw mj_Mm mj_m25 x.1 x.2 :=
  (mj_ac (mj_e_gf "Uncomputery" (rfl : mj_cls[0]? = some mj_K0) (by decide) mj_u0 (Or.inl (mj_w2 68 rfl rfl)) (Or.inl rfl))
   (mj_ac (mj_e_vi mj_M26 mj_nm26 mj_np26 (mj_w2 172 rfl rfl) (rfl : mj_cls[9]? = some mj_K9) (mj_w2 173 rfl rfl) (mj_w2 171 rfl rfl) mj_cd26)
   (mj_ac (mj_e_gf "Uncomputery" (rfl : mj_cls[0]? = some mj_K0) (by decide) mj_u0 (Or.inl (mj_w2 68 rfl rfl)) (Or.inl rfl))
   (mj_ac (mj_e_vi mj_M24 mj_nm24 mj_np24 (mj_w2 164 rfl rfl) (rfl : mj_cls[9]? = some mj_K9) (mj_w2 165 rfl rfl) (mj_w2 163 rfl rfl) mj_cd24)
   mj_an))))
theorem mj_ok25 : mj_okRow mj_Tw mj_Mm mj_r25 := ⟨by decide +kernel, by decide +kernel, (mj_w1 1 rfl rfl), by decide, Or.inl ⟨mj_cd25, rfl, rfl⟩, mj_wlE (by decide +kernel) mj_wl25⟩
theorem mj_wl26 : ∀ x ∈ ([(3, .getfield 21, 3, 9, 0), (7, .getfield 9, 0, 9, 0), (11, .invokestatic 29, 9005, 2, 0), (23, .getfield 9, 0, 9, 0), (30, .getfield 9, 0, 9, 0), (35, .getfield 9, 0, 9, 0), (42, .getfield 9, 0, 9, 0)] : List (Nat × mj_E)), mj_okW mj_Tw mj_Mm mj_m26 x.1 x.2 :=
  (mj_ac (mj_e_gf "Uncomputery$Circuit" (rfl : mj_cls[9]? = some mj_K9) (by decide) mj_u9 (Or.inl (mj_w2 46 rfl rfl)) (Or.inl rfl))
   (mj_ac (mj_e_gf "Uncomputery$Circuit" (rfl : mj_cls[9]? = some mj_K9) (by decide) mj_u9 (Or.inl (mj_w2 43 rfl rfl)) (Or.inl rfl))
   (mj_ac (mj_e_mi (mj_w2 175 rfl rfl) (mj_w2 176 rfl rfl) (mj_w1 25 rfl rfl) (mj_w2 177 rfl rfl))
   (mj_ac (mj_e_gf "Uncomputery$Circuit" (rfl : mj_cls[9]? = some mj_K9) (by decide) mj_u9 (Or.inl (mj_w2 43 rfl rfl)) (Or.inl rfl))
   (mj_ac (mj_e_gf "Uncomputery$Circuit" (rfl : mj_cls[9]? = some mj_K9) (by decide) mj_u9 (Or.inl (mj_w2 43 rfl rfl)) (Or.inl rfl))
   (mj_ac (mj_e_gf "Uncomputery$Circuit" (rfl : mj_cls[9]? = some mj_K9) (by decide) mj_u9 (Or.inl (mj_w2 43 rfl rfl)) (Or.inl rfl))
   (mj_ac (mj_e_gf "Uncomputery$Circuit" (rfl : mj_cls[9]? = some mj_K9) (by decide) mj_u9 (Or.inl (mj_w2 43 rfl rfl)) (Or.inl rfl))
   mj_an)))))))
theorem mj_ok26 : mj_okRow mj_Tw mj_Mm mj_r26 := ⟨by decide +kernel, by decide +kernel, (mj_w1 10 rfl rfl), by decide, Or.inl ⟨mj_cd26, rfl, rfl⟩, mj_wlE (by decide +kernel) mj_wl26⟩
/- no word -/
theorem mj_wl28 : ∀ x ∈ ([(1, .getfield 61, 9, 0, 0), (4, .invokevirtual 311, 29, 1, 10)] : List (Nat × mj_E)), mj_okW mj_Tw mj_Mm mj_m28 x.1 x.2 :=
  (mj_ac (mj_e_gf "Uncomputery" (rfl : mj_cls[0]? = some mj_K0) (by decide) mj_u0 (Or.inl (mj_w2 68 rfl rfl)) (Or.inl rfl))
   (mj_ac (mj_e_vi mj_M29 mj_nm29 mj_np29 (mj_w2 183 rfl rfl) (rfl : mj_cls[9]? = some mj_K9) (mj_w2 184 rfl rfl) (mj_w2 182 rfl rfl) mj_cd29)
   mj_an))
theorem mj_ok28 : mj_okRow mj_Tw mj_Mm mj_r28 := ⟨by decide +kernel, by decide +kernel, (mj_w1 1 rfl rfl), by decide, Or.inl ⟨mj_cd28, rfl, rfl⟩, mj_wlE (by decide +kernel) mj_wl28⟩
theorem mj_wl29 : ∀ x ∈ ([(11, .invokevirtual 34, 30, 1, 10)] : List (Nat × mj_E)), mj_okW mj_Tw mj_Mm mj_m29 x.1 x.2 :=
  (mj_ac (mj_e_vi mj_M30 mj_nm30 mj_np30 (mj_w2 188 rfl rfl) (rfl : mj_cls[9]? = some mj_K9) (mj_wp 1 rfl rfl) (mj_w2 186 rfl rfl) mj_cd30)
   mj_an)
theorem mj_ok29 : mj_okRow mj_Tw mj_Mm mj_r29 := ⟨by decide +kernel, by decide +kernel, (mj_w1 10 rfl rfl), by decide, Or.inl ⟨mj_cd29, rfl, rfl⟩, mj_wlE (by decide +kernel) mj_wl29⟩
theorem mj_wl30 : ∀ x ∈ ([(4, .getfield 21, 3, 9, 0), (12, .invokevirtual 38, 31, 2, 10), (23, .invokevirtual 42, 33, 2, 10), (28, .invokevirtual 42, 33, 2, 10)] : List (Nat × mj_E)), mj_okW mj_Tw mj_Mm mj_m30 x.1 x.2 :=
  (mj_ac (mj_e_gf "Uncomputery$Circuit" (rfl : mj_cls[9]? = some mj_K9) (by decide) mj_u9 (Or.inl (mj_w2 46 rfl rfl)) (Or.inl rfl))
   (mj_ac (mj_e_vi mj_M31 mj_nm31 mj_np31 (mj_w2 192 rfl rfl) (rfl : mj_cls[9]? = some mj_K9) (mj_wp 2 rfl rfl) (mj_w2 190 rfl rfl) mj_cd31)
   (mj_ac (mj_e_vi mj_M33 mj_nm33 mj_np33 (mj_w2 199 rfl rfl) (rfl : mj_cls[9]? = some mj_K9) (mj_wp 3 rfl rfl) (mj_w2 197 rfl rfl) mj_cd33)
   (mj_ac (mj_e_vi mj_M33 mj_nm33 mj_np33 (mj_w2 199 rfl rfl) (rfl : mj_cls[9]? = some mj_K9) (mj_wp 3 rfl rfl) (mj_w2 197 rfl rfl) mj_cd33)
   mj_an))))
theorem mj_ok30 : mj_okRow mj_Tw mj_Mm mj_r30 := ⟨by decide +kernel, by decide +kernel, (mj_w1 10 rfl rfl), by decide, Or.inl ⟨mj_cd30, rfl, rfl⟩, mj_wlE (by decide +kernel) mj_wl30⟩
theorem mj_wl31 : ∀ x ∈ ([(6, .getfield 9, 0, 9, 0), (16, .getfield 9, 0, 9, 0), (28, .getfield 21, 3, 9, 0), (36, .getfield 9, 0, 9, 0), (44, .getfield 9, 0, 9, 0), (56, .getfield 9, 0, 9, 0), (62, .invokestatic 46, 32, 2, 0), (70, .getfield 9, 0, 9, 0), (75, .invokestatic 46, 32, 2, 0)] : List (Nat × mj_E)), mj_okW mj_Tw mj_Mm mj_m31 x.1 x.2 :=
  (mj_ac (mj_e_gf "Uncomputery$Circuit" (rfl : mj_cls[9]? = some mj_K9) (by decide) mj_u9 (Or.inl (mj_w2 43 rfl rfl)) (Or.inl rfl))
   (mj_ac (mj_e_gf "Uncomputery$Circuit" (rfl : mj_cls[9]? = some mj_K9) (by decide) mj_u9 (Or.inl (mj_w2 43 rfl rfl)) (Or.inl rfl))
   (mj_ac (mj_e_gf "Uncomputery$Circuit" (rfl : mj_cls[9]? = some mj_K9) (by decide) mj_u9 (Or.inl (mj_w2 46 rfl rfl)) (Or.inl rfl))
   (mj_ac (mj_e_gf "Uncomputery$Circuit" (rfl : mj_cls[9]? = some mj_K9) (by decide) mj_u9 (Or.inl (mj_w2 43 rfl rfl)) (Or.inl rfl))
   (mj_ac (mj_e_gf "Uncomputery$Circuit" (rfl : mj_cls[9]? = some mj_K9) (by decide) mj_u9 (Or.inl (mj_w2 43 rfl rfl)) (Or.inl rfl))
   (mj_ac (mj_e_gf "Uncomputery$Circuit" (rfl : mj_cls[9]? = some mj_K9) (by decide) mj_u9 (Or.inl (mj_w2 43 rfl rfl)) (Or.inl rfl))
   (mj_ac (mj_e_st mj_M32 mj_nm32 mj_np32 (mj_w2 195 rfl rfl) (mj_w1 10 rfl rfl) mj_cd32 (mj_w2 194 rfl rfl))
   (mj_ac (mj_e_gf "Uncomputery$Circuit" (rfl : mj_cls[9]? = some mj_K9) (by decide) mj_u9 (Or.inl (mj_w2 43 rfl rfl)) (Or.inl rfl))
   (mj_ac (mj_e_st mj_M32 mj_nm32 mj_np32 (mj_w2 195 rfl rfl) (mj_w1 10 rfl rfl) mj_cd32 (mj_w2 194 rfl rfl))
   mj_an)))))))))
theorem mj_ok31 : mj_okRow mj_Tw mj_Mm mj_r31 := ⟨by decide +kernel, by decide +kernel, (mj_w1 10 rfl rfl), by decide, Or.inl ⟨mj_cd31, rfl, rfl⟩, mj_wlE (by decide +kernel) mj_wl31⟩
theorem mj_wl32 : ∀ x ∈ ([] : List (Nat × mj_E)), mj_okW mj_Tw mj_Mm mj_m32 x.1 x.2 :=
  mj_an
theorem mj_ok32 : mj_okRow mj_Tw mj_Mm mj_r32 := ⟨by decide +kernel, by decide +kernel, (mj_w1 10 rfl rfl), by decide, Or.inl ⟨mj_cd32, rfl, rfl⟩, mj_wlE (by decide +kernel) mj_wl32⟩
theorem mj_wl33 : ∀ x ∈ ([(2, .invokestatic 50, 9004, 2, 0), (10, .getfield 21, 3, 9, 0), (18, .getfield 9, 0, 9, 0), (26, .getfield 9, 0, 9, 0), (33, .getfield 9, 0, 9, 0), (47, .getfield 21, 3, 9, 0), (52, .putfield 21, 3, 9, 0)] : List (Nat × mj_E)), mj_okW mj_Tw mj_Mm mj_m33 x.1 x.2 :=
  (mj_ac (mj_e_mx (mj_w2 201 rfl rfl) (mj_w2 202 rfl rfl) (mj_w1 25 rfl rfl) (mj_w2 203 rfl rfl))
   (mj_ac (mj_e_gf "Uncomputery$Circuit" (rfl : mj_cls[9]? = some mj_K9) (by decide) mj_u9 (Or.inl (mj_w2 46 rfl rfl)) (Or.inl rfl))
   (mj_ac (mj_e_gf "Uncomputery$Circuit" (rfl : mj_cls[9]? = some mj_K9) (by decide) mj_u9 (Or.inl (mj_w2 43 rfl rfl)) (Or.inl rfl))
   (mj_ac (mj_e_gf "Uncomputery$Circuit" (rfl : mj_cls[9]? = some mj_K9) (by decide) mj_u9 (Or.inl (mj_w2 43 rfl rfl)) (Or.inl rfl))
   (mj_ac (mj_e_gf "Uncomputery$Circuit" (rfl : mj_cls[9]? = some mj_K9) (by decide) mj_u9 (Or.inl (mj_w2 43 rfl rfl)) (Or.inl rfl))
   (mj_ac (mj_e_gf "Uncomputery$Circuit" (rfl : mj_cls[9]? = some mj_K9) (by decide) mj_u9 (Or.inl (mj_w2 46 rfl rfl)) (Or.inl rfl))
   (mj_ac (mj_e_pf "Uncomputery$Circuit" (rfl : mj_cls[9]? = some mj_K9) (by decide) mj_u9 (Or.inl (mj_w2 46 rfl rfl)) (Or.inl rfl) mj_pd9 mj_ds9 (Or.inl rfl))
   mj_an)))))))
theorem mj_ok33 : mj_okRow mj_Tw mj_Mm mj_r33 := ⟨by decide +kernel, by decide +kernel, (mj_w1 10 rfl rfl), by decide, Or.inl ⟨mj_cd33, rfl, rfl⟩, mj_wlE (by decide +kernel) mj_wl33⟩
/- no word -/
theorem mj_wl35 : ∀ x ∈ ([(1, .getfield 61, 9, 0, 0), (4, .invokevirtual 314, 36, 1, 10)] : List (Nat × mj_E)), mj_okW mj_Tw mj_Mm mj_m35 x.1 x.2 :=
  (mj_ac (mj_e_gf "Uncomputery" (rfl : mj_cls[0]? = some mj_K0) (by decide) mj_u0 (Or.inl (mj_w2 68 rfl rfl)) (Or.inl rfl))
   (mj_ac (mj_e_vi mj_M36 mj_nm36 mj_np36 (mj_w2 209 rfl rfl) (rfl : mj_cls[9]? = some mj_K9) (mj_w2 210 rfl rfl) (mj_w2 208 rfl rfl) mj_cd36)
   mj_an))
theorem mj_ok35 : mj_okRow mj_Tw mj_Mm mj_r35 := ⟨by decide +kernel, by decide +kernel, (mj_w1 1 rfl rfl), by decide, Or.inl ⟨mj_cd35, rfl, rfl⟩, mj_wlE (by decide +kernel) mj_wl35⟩
theorem mj_wl36 : ∀ x ∈ ([(1, .invokevirtual 56, 37, 1, 10), (6, .putfield 59, 4, 9, 0), (13, .getfield 15, 1, 9, 0), (29, .getfield 15, 1, 9, 0), (47, .getfield 15, 1, 9, 0), (52, .invokevirtual 62, 40, 3, 10), (69, .getfield 15, 1, 9, 0), (88, .invokevirtual 62, 40, 3, 10), (104, .getfield 59, 4, 9, 0)] : List (Nat × mj_E)), mj_okW mj_Tw mj_Mm mj_m36 x.1 x.2 :=
  (mj_ac (mj_e_vi mj_M37 mj_nm37 mj_np37 (mj_w2 214 rfl rfl) (rfl : mj_cls[9]? = some mj_K9) (mj_wp 4 rfl rfl) (mj_w2 212 rfl rfl) mj_cd37)
   (mj_ac (mj_e_pf "Uncomputery$Circuit" (rfl : mj_cls[9]? = some mj_K9) (by decide) mj_u9 (Or.inl (mj_w2 47 rfl rfl)) (Or.inl rfl) mj_pd9 mj_ds9 (Or.inl rfl))
   (mj_ac (mj_e_gf "Uncomputery$Circuit" (rfl : mj_cls[9]? = some mj_K9) (by decide) mj_u9 (Or.inl (mj_w2 44 rfl rfl)) (Or.inl rfl))
   (mj_ac (mj_e_gf "Uncomputery$Circuit" (rfl : mj_cls[9]? = some mj_K9) (by decide) mj_u9 (Or.inl (mj_w2 44 rfl rfl)) (Or.inl rfl))
   (mj_ac (mj_e_gf "Uncomputery$Circuit" (rfl : mj_cls[9]? = some mj_K9) (by decide) mj_u9 (Or.inl (mj_w2 44 rfl rfl)) (Or.inl rfl))
   (mj_ac (mj_e_vi mj_M40 mj_nm40 mj_np40 (mj_w2 225 rfl rfl) (rfl : mj_cls[9]? = some mj_K9) (mj_wp 5 rfl rfl) (mj_w2 223 rfl rfl) mj_cd40)
   (mj_ac (mj_e_gf "Uncomputery$Circuit" (rfl : mj_cls[9]? = some mj_K9) (by decide) mj_u9 (Or.inl (mj_w2 44 rfl rfl)) (Or.inl rfl))
   (mj_ac (mj_e_vi mj_M40 mj_nm40 mj_np40 (mj_w2 225 rfl rfl) (rfl : mj_cls[9]? = some mj_K9) (mj_wp 5 rfl rfl) (mj_w2 223 rfl rfl) mj_cd40)
   (mj_ac (mj_e_gf "Uncomputery$Circuit" (rfl : mj_cls[9]? = some mj_K9) (by decide) mj_u9 (Or.inl (mj_w2 47 rfl rfl)) (Or.inl rfl))
   mj_an)))))))))
theorem mj_ok36 : mj_okRow mj_Tw mj_Mm mj_r36 := ⟨by decide +kernel, by decide +kernel, (mj_w1 10 rfl rfl), by decide, Or.inl ⟨mj_cd36, rfl, rfl⟩, mj_wlE (by decide +kernel) mj_wl36⟩
theorem mj_wl37 : ∀ x ∈ ([(4, .getfield 15, 1, 9, 0), (12, .getfield 15, 1, 9, 0), (18, .invokevirtual 53, 38, 2, 10)] : List (Nat × mj_E)), mj_okW mj_Tw mj_Mm mj_m37 x.1 x.2 :=
  (mj_ac (mj_e_gf "Uncomputery$Circuit" (rfl : mj_cls[9]? = some mj_K9) (by decide) mj_u9 (Or.inl (mj_w2 44 rfl rfl)) (Or.inl rfl))
   (mj_ac (mj_e_gf "Uncomputery$Circuit" (rfl : mj_cls[9]? = some mj_K9) (by decide) mj_u9 (Or.inl (mj_w2 44 rfl rfl)) (Or.inl rfl))
   (mj_ac (mj_e_vi mj_M38 mj_nm38 mj_np38 (mj_w2 217 rfl rfl) (rfl : mj_cls[9]? = some mj_K9) (mj_w2 218 rfl rfl) (mj_w2 216 rfl rfl) mj_cd38)
   mj_an)))
theorem mj_ok37 : mj_okRow mj_Tw mj_Mm mj_r37 := ⟨by decide +kernel, by decide +kernel, (mj_w1 10 rfl rfl), by decide, Or.inl ⟨mj_cd37, rfl, rfl⟩, mj_wlE (by decide +kernel) mj_wl37⟩
theorem mj_wl38 : ∀ x ∈ ([(6, .getfield 21, 3, 9, 0), (14, .getfield 9, 0, 9, 0), (22, .getfield 9, 0, 9, 0), (28, .invokestatic 25, 39, 2, 0)] : List (Nat × mj_E)), mj_okW mj_Tw mj_Mm mj_m38 x.1 x.2 :=
  (mj_ac (mj_e_gf "Uncomputery$Circuit" (rfl : mj_cls[9]? = some mj_K9) (by decide) mj_u9 (Or.inl (mj_w2 46 rfl rfl)) (Or.inl rfl))
   (mj_ac (mj_e_gf "Uncomputery$Circuit" (rfl : mj_cls[9]? = some mj_K9) (by decide) mj_u9 (Or.inl (mj_w2 43 rfl rfl)) (Or.inl rfl))
   (mj_ac (mj_e_gf "Uncomputery$Circuit" (rfl : mj_cls[9]? = some mj_K9) (by decide) mj_u9 (Or.inl (mj_w2 43 rfl rfl)) (Or.inl rfl))
   (mj_ac (mj_e_st mj_M39 mj_nm39 mj_np39 (mj_w2 221 rfl rfl) (mj_w1 10 rfl rfl) mj_cd39 (mj_w2 220 rfl rfl))
   mj_an))))
theorem mj_ok38 : mj_okRow mj_Tw mj_Mm mj_r38 := ⟨by decide +kernel, by decide +kernel, (mj_w1 10 rfl rfl), by decide, Or.inl ⟨mj_cd38, rfl, rfl⟩, mj_wlE (by decide +kernel) mj_wl38⟩
theorem mj_wl39 : ∀ x ∈ ([] : List (Nat × mj_E)), mj_okW mj_Tw mj_Mm mj_m39 x.1 x.2 :=
  mj_an
theorem mj_ok39 : mj_okRow mj_Tw mj_Mm mj_r39 := ⟨by decide +kernel, by decide +kernel, (mj_w1 10 rfl rfl), by decide, Or.inl ⟨mj_cd39, rfl, rfl⟩, mj_wlE (by decide +kernel) mj_wl39⟩
theorem mj_wl40 : ∀ x ∈ ([(8, .getfield 59, 4, 9, 0), (15, .getfield 59, 4, 9, 0), (19, .getfield 18, 2, 9, 0), (27, .getfield 18, 2, 9, 0), (31, .getfield 59, 4, 9, 0), (38, .getfield 59, 4, 9, 0), (43, .putfield 59, 4, 9, 0), (52, .getfield 15, 1, 9, 0), (60, .getfield 15, 1, 9, 0), (67, .getfield 15, 1, 9, 0), (73, .invokestatic 25, 39, 2, 0)] : List (Nat × mj_E)), mj_okW mj_Tw mj_Mm mj_m40 x.1 x.2 :=
  (mj_ac (mj_e_gf "Uncomputery$Circuit" (rfl : mj_cls[9]? = some mj_K9) (by decide) mj_u9 (Or.inl (mj_w2 47 rfl rfl)) (Or.inl rfl))
   (mj_ac (mj_e_gf "Uncomputery$Circuit" (rfl : mj_cls[9]? = some mj_K9) (by decide) mj_u9 (Or.inl (mj_w2 47 rfl rfl)) (Or.inl rfl))
   (mj_ac (mj_e_gf "Uncomputery$Circuit" (rfl : mj_cls[9]? = some mj_K9) (by decide) mj_u9 (Or.inl (mj_w2 45 rfl rfl)) (Or.inl rfl))
   (mj_ac (mj_e_gf "Uncomputery$Circuit" (rfl : mj_cls[9]? = some mj_K9) (by decide) mj_u9 (Or.inl (mj_w2 45 rfl rfl)) (Or.inl rfl))
   (mj_ac (mj_e_gf "Uncomputery$Circuit" (rfl : mj_cls[9]? = some mj_K9) (by decide) mj_u9 (Or.inl (mj_w2 47 rfl rfl)) (Or.inl rfl))
   (mj_ac (mj_e_gf "Uncomputery$Circuit" (rfl : mj_cls[9]? = some mj_K9) (by decide) mj_u9 (Or.inl (mj_w2 47 rfl rfl)) (Or.inl rfl))
   (mj_ac (mj_e_pf "Uncomputery$Circuit" (rfl : mj_cls[9]? = some mj_K9) (by decide) mj_u9 (Or.inl (mj_w2 47 rfl rfl)) (Or.inl rfl) mj_pd9 mj_ds9 (Or.inl rfl))
   (mj_ac (mj_e_gf "Uncomputery$Circuit" (rfl : mj_cls[9]? = some mj_K9) (by decide) mj_u9 (Or.inl (mj_w2 44 rfl rfl)) (Or.inl rfl))
   (mj_ac (mj_e_gf "Uncomputery$Circuit" (rfl : mj_cls[9]? = some mj_K9) (by decide) mj_u9 (Or.inl (mj_w2 44 rfl rfl)) (Or.inl rfl))
   (mj_ac (mj_e_gf "Uncomputery$Circuit" (rfl : mj_cls[9]? = some mj_K9) (by decide) mj_u9 (Or.inl (mj_w2 44 rfl rfl)) (Or.inl rfl))
   (mj_ac (mj_e_st mj_M39 mj_nm39 mj_np39 (mj_w2 221 rfl rfl) (mj_w1 10 rfl rfl) mj_cd39 (mj_w2 220 rfl rfl))
   mj_an)))))))))))
theorem mj_ok40 : mj_okRow mj_Tw mj_Mm mj_r40 := ⟨by decide +kernel, by decide +kernel, (mj_w1 10 rfl rfl), by decide, Or.inl ⟨mj_cd40, rfl, rfl⟩, mj_wlE (by decide +kernel) mj_wl40⟩
theorem mj_wl41 : ∀ x ∈ ([(1, .getfield 322, 10, 0, 0), (8, .new 326, 10, 0, 0), (12, .invokespecial 328, 42, 1, 11), (15, .putfield 322, 10, 0, 0), (19, .getfield 322, 10, 0, 0), (23, .getfield 61, 9, 0, 0), (26, .invokevirtual 329, 43, 1, 10), (29, .invokevirtual 332, 44, 2, 11)] : List (Nat × mj_E)), mj_okW mj_Tw mj_Mm mj_m41 x.1 x.2 :=
  (mj_ac (mj_e_gf "Uncomputery" (rfl : mj_cls[0]? = some mj_K0) (by decide) mj_u0 (Or.inl (mj_w2 69 rfl rfl)) (Or.inl rfl))
   (mj_ac (mj_e_new mj_nw10 (mj_w2 231 rfl rfl))
   (mj_ac (mj_e_inN "Uncomputery" mj_M42 mj_nm42 mj_np42 (mj_w2 234 rfl rfl) mj_cd42 rfl rfl (mj_w2 233 rfl rfl))
   (mj_ac (mj_e_pf "Uncomputery" (rfl : mj_cls[0]? = some mj_K0) (by decide) mj_u0 (Or.inl (mj_w2 69 rfl rfl)) (Or.inl rfl) mj_pd0 mj_ds0 (Or.inl rfl))
   (mj_ac (mj_e_gf "Uncomputery" (rfl : mj_cls[0]? = some mj_K0) (by decide) mj_u0 (Or.inl (mj_w2 69 rfl rfl)) (Or.inl rfl))
   (mj_ac (mj_e_gf "Uncomputery" (rfl : mj_cls[0]? = some mj_K0) (by decide) mj_u0 (Or.inl (mj_w2 68 rfl rfl)) (Or.inl rfl))
   (mj_ac (mj_e_vi mj_M43 mj_nm43 mj_np43 (mj_w3 2 rfl rfl) (rfl : mj_cls[9]? = some mj_K9) (mj_w3 3 rfl rfl) (mj_w3 1 rfl rfl) mj_cd43)
   (mj_ac (mj_e_vi mj_M44 mj_nm44 mj_np44 (mj_w3 6 rfl rfl) (rfl : mj_cls[10]? = some mj_K10) (mj_w3 7 rfl rfl) (mj_w3 5 rfl rfl) mj_cd44)
   mj_an))))))))
theorem mj_ok41 : mj_okRow mj_Tw mj_Mm mj_r41 := ⟨by decide +kernel, by decide +kernel, (mj_w1 1 rfl rfl), by decide, Or.inl ⟨mj_cd41, rfl, rfl⟩, mj_wlE (by decide +kernel) mj_wl41⟩
theorem mj_wl42 : ∀ x ∈ ([(1, .invokespecial 3, 9003, 1, 0), (8, .newarray .int, 0, 0, 0), (10, .putfield 11, 0, 10, 0)] : List (Nat × mj_E)), mj_okW mj_Tw mj_Mm mj_m42 x.1 x.2 :=
  (mj_ac (mj_e_ob (mj_w2 236 rfl rfl) (mj_w1 54 rfl rfl) (mj_w1 55 rfl rfl))
   (mj_ac (mj_e_na rfl (by decide) (mj_w1 224 rfl rfl))
   (mj_ac (mj_e_pf "Uncomputery$GateSearch" (rfl : mj_cls[10]? = some mj_K10) (by decide) mj_u10 (Or.inl (mj_w2 237 rfl rfl)) (Or.inl rfl) mj_pd10 mj_ds10 (Or.inr ⟨rfl, rfl, rfl, (mj_w2 237 rfl rfl)⟩))
   mj_an)))
theorem mj_ok42 : mj_okRow mj_Tw mj_Mm mj_r42 := ⟨by decide +kernel, by decide +kernel, (mj_w1 46 rfl rfl), by decide, Or.inl ⟨mj_cd42, rfl, rfl⟩, mj_wlE (by decide +kernel) mj_wl42⟩
theorem mj_wl43 : ∀ x ∈ ([(13, .invokevirtual 53, 38, 2, 10)] : List (Nat × mj_E)), mj_okW mj_Tw mj_Mm mj_m43 x.1 x.2 :=
  (mj_ac (mj_e_vi mj_M38 mj_nm38 mj_np38 (mj_w2 217 rfl rfl) (rfl : mj_cls[9]? = some mj_K9) (mj_w2 218 rfl rfl) (mj_w2 216 rfl rfl) mj_cd38)
   mj_an)
theorem mj_ok43 : mj_okRow mj_Tw mj_Mm mj_r43 := ⟨by decide +kernel, by decide +kernel, (mj_w1 10 rfl rfl), by decide, Or.inl ⟨mj_cd43, rfl, rfl⟩, mj_wlE (by decide +kernel) mj_wl43⟩
theorem mj_wl44 : ∀ x ∈ ([(1, .ldc 15, 0, 16434824, 0), (3, .invokevirtual 16, 45, 2, 11), (10, .invokevirtual 20, 48, 1, 11), (15, .invokevirtual 16, 45, 2, 11), (38, .invokevirtual 23, 52, 3, 11)] : List (Nat × mj_E)), mj_okW mj_Tw mj_Mm mj_m44 x.1 x.2 :=
  (mj_ac (mj_e_l0 (mj_w3 9 rfl rfl))
   (mj_ac (mj_e_vi mj_M45 mj_nm45 mj_np45 (mj_w3 12 rfl rfl) (rfl : mj_cls[10]? = some mj_K10) (mj_wp 6 rfl rfl) (mj_w3 10 rfl rfl) mj_cd45)
   (mj_ac (mj_e_vi mj_M48 mj_nm48 mj_np48 (mj_w3 26 rfl rfl) (rfl : mj_cls[10]? = some mj_K10) (mj_wp 9 rfl rfl) (mj_w3 24 rfl rfl) mj_cd48)
   (mj_ac (mj_e_vi mj_M45 mj_nm45 mj_np45 (mj_w3 12 rfl rfl) (rfl : mj_cls[10]? = some mj_K10) (mj_wp 6 rfl rfl) (mj_w3 10 rfl rfl) mj_cd45)
   (mj_ac (mj_e_vi mj_M52 mj_nm52 mj_np52 (mj_w3 42 rfl rfl) (rfl : mj_cls[10]? = some mj_K10) (mj_wp 12 rfl rfl) (mj_w3 40 rfl rfl) mj_cd52)
   mj_an)))))
theorem mj_ok44 : mj_okRow mj_Tw mj_Mm mj_r44 := ⟨by decide +kernel, by decide +kernel, (mj_w1 46 rfl rfl), by decide, Or.inl ⟨mj_cd44, rfl, rfl⟩, mj_wlE (by decide +kernel) mj_wl44⟩
theorem mj_wl45 : ∀ x ∈ ([(3, .invokevirtual 44, 46, 2, 11), (6, .invokevirtual 47, 47, 2, 11)] : List (Nat × mj_E)), mj_okW mj_Tw mj_Mm mj_m45 x.1 x.2 :=
  (mj_ac (mj_e_vi mj_M46 mj_nm46 mj_np46 (mj_w3 16 rfl rfl) (rfl : mj_cls[10]? = some mj_K10) (mj_wp 7 rfl rfl) (mj_w3 14 rfl rfl) mj_cd46)
   (mj_ac (mj_e_vi mj_M47 mj_nm47 mj_np47 (mj_w3 21 rfl rfl) (rfl : mj_cls[10]? = some mj_K10) (mj_wp 8 rfl rfl) (mj_w3 19 rfl rfl) mj_cd47)
   mj_an))
theorem mj_ok45 : mj_okRow mj_Tw mj_Mm mj_r45 := ⟨by decide +kernel, by decide +kernel, (mj_w1 46 rfl rfl), by decide, Or.inl ⟨mj_cd45, rfl, rfl⟩, mj_wlE (by decide +kernel) mj_wl45⟩
theorem mj_wl46 : ∀ x ∈ ([(1, .ldc 50, 0, 2654435761, 0), (19, .invokevirtual 47, 47, 2, 11), (27, .invokevirtual 47, 47, 2, 11), (30, .ldc 31, 0, 16777215, 0)] : List (Nat × mj_E)), mj_okW mj_Tw mj_Mm mj_m46 x.1 x.2 :=
  (mj_ac (mj_e_l0 (mj_w3 18 rfl rfl))
   (mj_ac (mj_e_vi mj_M47 mj_nm47 mj_np47 (mj_w3 21 rfl rfl) (rfl : mj_cls[10]? = some mj_K10) (mj_wp 8 rfl rfl) (mj_w3 19 rfl rfl) mj_cd47)
   (mj_ac (mj_e_vi mj_M47 mj_nm47 mj_np47 (mj_w3 21 rfl rfl) (rfl : mj_cls[10]? = some mj_K10) (mj_wp 8 rfl rfl) (mj_w3 19 rfl rfl) mj_cd47)
   (mj_ac (mj_e_l0 (mj_w3 23 rfl rfl))
   mj_an))))
theorem mj_ok46 : mj_okRow mj_Tw mj_Mm mj_r46 := ⟨by decide +kernel, by decide +kernel, (mj_w1 46 rfl rfl), by decide, Or.inl ⟨mj_cd46, rfl, rfl⟩, mj_wlE (by decide +kernel) mj_wl46⟩
theorem mj_wl47 : ∀ x ∈ ([(6, .getfield 11, 0, 10, 0), (14, .getfield 11, 0, 10, 0)] : List (Nat × mj_E)), mj_okW mj_Tw mj_Mm mj_m47 x.1 x.2 :=
  (mj_ac (mj_e_gf "Uncomputery$GateSearch" (rfl : mj_cls[10]? = some mj_K10) (by decide) mj_u10 (Or.inl (mj_w2 237 rfl rfl)) (Or.inl rfl))
   (mj_ac (mj_e_gf "Uncomputery$GateSearch" (rfl : mj_cls[10]? = some mj_K10) (by decide) mj_u10 (Or.inl (mj_w2 237 rfl rfl)) (Or.inl rfl))
   mj_an))
theorem mj_ok47 : mj_okRow mj_Tw mj_Mm mj_r47 := ⟨by decide +kernel, by decide +kernel, (mj_w1 46 rfl rfl), by decide, Or.inl ⟨mj_cd47, rfl, rfl⟩, mj_wlE (by decide +kernel) mj_wl47⟩
