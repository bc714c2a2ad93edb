set_option maxHeartbeats 2000000 in
/-- THE START: what the Statement gives is the small machine's context, with nothing made yet -/
theorem mj_start {s : State} {args : Array Value} {b : Nat} (hts : ∀ w ∈ lw_tbl, w.before args s = true) (h : mj_gv args s) : ∃ (D : va_G) (cA ρ : Nat → Nat), mj_Y D cA ρ s.heap.size s ∧ ρ (2 * mj_CB + 2) = 1 ∧ ρ (2 * mj_CB + 3) = b := by
  have hA : ∀ a : Nat, a < s.heap.size → ¬ s.heap.size ≤ a := fun a ha => by omega
  have hTs := mj_Tw_hts hts
  obtain ⟨D, hD⟩ := mj_st_cls hTs mj_cls_in
  obtain ⟨cA, hcA⟩ := mj_st_arr hTs mj_arr_in
  obtain ⟨e0, he0, hT0⟩ := va_Tof (N := 0) (f := fun _ => .null) (A := fun q => s.heap.size ≤ q) (by decide) (mj_s_a1 h) (mj_eqv (mj_s_a3 h)) (fun j hj => absurd hj (Nat.not_lt_zero j)) hA
  have hO0 := va_Oof (A := fun q => s.heap.size ≤ q) (mj_s_a2 h) he0 hA
  obtain ⟨d1, hd1e, hd1⟩ := va_Tof (N := 100) (f := fun j => .int (mj_byt mj_dgO j)) (A := fun q => s.heap.size ≤ q) (by decide) (mj_s_DigitOnes1 h) (mj_eqv (mj_s_DigitOnes2 h)) (fun j hj => mj_eqv (mj_fl_DigitOnes h _ (List.mem_map.mpr ⟨j, List.mem_range.mpr hj, rfl⟩))) hA
  obtain ⟨d2, hd2e, hd2⟩ := va_Tof (N := 100) (f := fun j => .int (mj_byt mj_dgT j)) (A := fun q => s.heap.size ≤ q) (by decide) (mj_s_DigitTens1 h) (mj_eqv (mj_s_DigitTens2 h)) (fun j hj => mj_eqv (mj_fl_DigitTens h _ (List.mem_map.mpr ⟨j, List.mem_range.mpr hj, rfl⟩))) hA
  obtain ⟨ad, hC, hCe⟩ := vb_Cof (A := fun q => s.heap.size ≤ q) (st := .static "java/lang/Integer$IntegerCache" "cache" "[Ljava/lang/Integer;") rfl (mj_eqv (mj_s_c2 h)) (mj_s_c3 h) hA
  obtain ⟨c1, hc1e, hc1⟩ := va_Tof (N := 256) (f := fun j => .ref (ad j)) (A := fun q => s.heap.size ≤ q) (by decide) (mj_s_c1 h) (mj_eqv (mj_s_c2 h)) hCe hA
  obtain ⟨mi, hmi⟩ := va_Mi.of (mj_s_mi h)
  obtain ⟨kS, vS, hX⟩ := mj_st_TX (base := s.heap.size) h hA
  obtain ⟨x0, hx0⟩ := mj_zq (va_Zqof (A := fun q => s.heap.size ≤ q) (hts _ mj_ls9.1) (hts _ mj_ls9.2) (mj_s_r0 h) hA)
  obtain ⟨x2, hx2⟩ := mj_zq (va_Zqof (A := fun q => s.heap.size ≤ q) (hts _ mj_ls10.1) (hts _ mj_ls10.2) (mj_s_r1 h) hA)
  obtain ⟨x3, hx3⟩ := mj_zq (va_Zqof (A := fun q => s.heap.size ≤ q) (hts _ mj_ls11.1) (hts _ mj_ls11.2) (mj_s_r2 h) hA)
  have hρk : ∀ k, k < 1000000 → mj_rho s.heap.size (mj_rhoK e0 c1 d1 d2 mi ad kS vS) (mj_rhoO b x0 x2 x3) (mj_CB + k) = mj_rhoK e0 c1 d1 d2 mi ad kS vS k := fun k hk => mj_rho_k hk
  have hρ0 : mj_rho s.heap.size (mj_rhoK e0 c1 d1 d2 mi ad kS vS) (mj_rhoO b x0 x2 x3) mj_CB = e0 := hρk 0 (by decide)
  refine ⟨D, cA, mj_rho s.heap.size (mj_rhoK e0 c1 d1 d2 mi ad kS vS) (mj_rhoO b x0 x2 x3), ⟨⟨⟨hD, hcA⟩, fun i hi => mj_rho_lt hi, ?_, ?_, ?_, ?_⟩, mx_Zqof (hts _ mj_ls10.1) (hts _ mj_ls10.2) (mj_s_r1 h) hA, mx_Zqof (hts _ mj_ls11.1) (hts _ mj_ls11.2) (mj_s_r2 h) hA, mj_msgs hts h, mj_nc_all h, ?_, va_Dc.of (hts _ (by decide +kernel)), ?_⟩, mj_rho_g, mj_rho_g⟩
  · intro k c fs r hk hr
    rcases mj_cst_inr hk with ⟨h1, h2, rfl, rfl⟩ | ⟨h1, h2, h3, rfl, rfl⟩
    · cases hr
      rw [hρk k (by omega), mj_rhoK_i h1 h2]
      refine ⟨hC.1 (k - 10) (by omega), fun j v hj => ?_⟩
      match j, hj with
      | 0, hj => cases hj; exact hC.2 (k - 10) (by omega)
      | j + 1, hj => cases hj
    · cases hr
      obtain ⟨q, hq, -, -⟩ := mj_rep_at _ h3
      obtain ⟨g1, g2, g3, -, -⟩ := hX _ q hq
      rw [hρk k (by omega), mj_rhoK_s h1 h2]
      refine ⟨g1, fun j v hj => ?_⟩
      match j, hj with
      | 0, hj =>
        cases hj
        have e1 : mj_tv (mj_rho s.heap.size (mj_rhoK e0 c1 d1 d2 mi ad kS vS) (mj_rhoO b x0 x2 x3)) (.ref (mj_CB + k + 1)) = .ref (vS ((k - 300) / 2)) := by
          show Value.ref (mj_rho _ _ _ (mj_CB + k + 1)) = _
          rw [Nat.add_assoc, hρk (k + 1) (by omega), mj_rhoK_b (by omega) (by omega), show (k + 1 - 300) / 2 = (k - 300) / 2 by omega]
        rw [e1]
        exact g3
      | 1, hj => cases hj; exact g2
      | j + 2, hj => cases hj
  · intro k t x ty hk hty
    rcases mj_cst_inl hk with ⟨rfl, rfl, rfl⟩ | ⟨rfl, rfl, rfl⟩ | ⟨rfl, rfl, rfl⟩ | ⟨rfl, rfl, rfl⟩ | ⟨h1, h2, rfl, l, hl, rfl⟩
    · cases hty
      rw [hρk 0 (by decide)]
      exact va_T_cg hT0 (fun j hj => absurd hj (Nat.not_lt_zero j))
    · cases hty
      rw [hρk 1 (by decide)]
      refine va_T_cg hc1 (fun j hj => ?_)
      have hj' : j < 256 := hj
      show Value.ref (ad j) = .ref (mj_rho _ _ _ (mj_CB + 10 + j))
      rw [Nat.add_assoc, hρk (10 + j) (by omega), mj_rhoK_i (by omega) (by omega), Nat.add_sub_cancel_left]
    · cases hty
      rw [hρk 2 (by decide)]
      exact hd1
    · cases hty
      rw [hρk 3 (by decide)]
      exact hd2
    · cases hty
      have h3 : (k - 300) / 2 < 11 := (List.getElem?_eq_some_iff.mp hl).1
      obtain ⟨q, hq, hq2, -⟩ := mj_rep_at _ h3
      cases Option.some.inj (hl.symm.trans hq2)
      rw [hρk k (by omega), mj_rhoK_b h1 h2]
      exact (hX _ q hq).2.2.2.1
  · intro i v n hv hn
    match i, hv, hn with
    | 0, hv, hn =>
      cases hv; cases hn
      have e1 : mj_tv (mj_rho s.heap.size (mj_rhoK e0 c1 d1 d2 mi ad kS vS) (mj_rhoO b x0 x2 x3)) (.ref mj_CB) = .ref e0 := congrArg Value.ref hρ0
      rw [e1]
      exact mj_zof hts mj_ls0.1 mj_ls0.2 he0 hA
    | 1, hv, hn => cases hv; cases hn; exact mj_zof hts mj_ls1.1 mj_ls1.2 (mj_eqv (mj_s_i0 h)) hA
    | 2, hv, hn => cases hv; cases hn; exact mj_zof hts mj_ls2.1 mj_ls2.2 (mj_eqv (mj_s_i1 h)) hA
    | 3, hv, hn => cases hv; cases hn; exact mj_zof hts mj_ls3.1 mj_ls3.2 (mj_eqv (mj_s_i2 h)) hA
    | 4, hv, hn => cases hv; cases hn; exact mj_zof hts mj_ls4.1 mj_ls4.2 (mj_eqv (mj_s_i3 h)) hA
    | 5, hv, hn =>
      cases hv; cases hn
      have e1 : mj_tv (mj_rho s.heap.size (mj_rhoK e0 c1 d1 d2 mi ad kS vS) (mj_rhoO b x0 x2 x3)) (.ref (mj_CB + 2)) = .ref d1 := congrArg Value.ref (hρk 2 (by decide))
      rw [e1]
      exact mj_zof hts mj_ls5.1 mj_ls5.2 hd1e hA
    | 6, hv, hn =>
      cases hv; cases hn
      have e1 : mj_tv (mj_rho s.heap.size (mj_rhoK e0 c1 d1 d2 mi ad kS vS) (mj_rhoO b x0 x2 x3)) (.ref (mj_CB + 3)) = .ref d2 := congrArg Value.ref (hρk 3 (by decide))
      rw [e1]
      exact mj_zof hts mj_ls6.1 mj_ls6.2 hd2e hA
    | 7, hv, hn => cases hv; cases hn; exact mj_zof hts mj_ls7.1 mj_ls7.2 (mj_eqv (mj_s_i4 h)) hA
    | 8, hv, hn =>
      cases hv; cases hn
      have e1 : mj_tv (mj_rho s.heap.size (mj_rhoK e0 c1 d1 d2 mi ad kS vS) (mj_rhoO b x0 x2 x3)) (.ref (mj_CB + 1)) = .ref c1 := congrArg Value.ref (hρk 1 (by decide))
      rw [e1]
      exact mj_zof hts mj_ls8.1 mj_ls8.2 hc1e hA
    | 9, hv, hn =>
      cases hv; cases hn
      rw [mj_opq (x := x0) rfl rfl]
      exact hx0
    | 10, hv, hn =>
      cases hv; cases hn
      rw [mj_opq (x := x2) rfl rfl]
      exact hx2
    | 11, hv, hn =>
      cases hv; cases hn
      rw [mj_opq (x := x3) rfl rfl]
      exact hx3
    | i + 12, hv, hn => cases hv
  · intro q hq
    have h1 := mj_strs hts h hX q hq
    have h2 : ∀ q ∈ mj_str, q.2.2.1 < 11 := by decide
    rw [Nat.add_assoc, hρk (300 + 2 * q.2.2.1) (by have := h2 q hq; omega), mj_rhoK_s (by omega) (by omega), show (300 + 2 * q.2.2.1 - 300) / 2 = q.2.2.1 by omega]
    exact h1
  · rw [hρk 4 (by decide)]
    exact hmi
  · rw [hρ0]
    exact hO0
