section MJJ
variable {p : Program} {l : Launch} {e : Env} {R : Room} {s : State} {m : MethodId} {args : Array Value} {below : List Frame} {meth : Method} {c : Code} {H H1 : Heap} {locs : List Loc} {Q : State → Prop}
variable {D : va_G} {cA ρ : Nat → Nat} {base : Nat} {cc : ByteArray} {pc : Nat} {rs : Array Slot} {ls : mj_L} {st : List Value} {h hs : mj_H} {S : mj_S} {Ts : List Cond} {own : String} {E : mj_E}
theorem mj_nm_eq {cC : ClassId} {ty : FieldType} (h : va_RA s cC ty) : s.vm.findClass ("[" ++ ty.toString) = some cC := by
  cases ty with
  | object C =>
    obtain ⟨-, -, -, -, -, h⟩ := h
    exact h
  | _ => exact h
theorem mj_h_cc {idx : Nat} (hx : p.tables.exec = Jvm.exec) (hb : c.code = cc) (hts : ∀ w ∈ Ts, w.before args s = true) (hown : s.vm.findClass own = some m.cls) (hX : mj_X D cA ρ base s) (hd : decode cc pc = .ok (.checkcast idx, 3)) (hok : mj_okH Ts own (meth.name = "<init>") (.checkcast idx, E.2))
    (hlr : mj_lr ρ ls rs) (hP : va_P D mj_cls (mj_ws ρ cA base h) H) (hS : va_S (fun q => base ≤ q) s.heap H locs) (hs1 : mj_sh (.checkcast idx, E.2) pc ls st h = some S) (K : mj_KH p l e R s m args below meth c Q D cA ρ base hs S) :
    W p l e R s m args below meth c H locs (h.length - hs.length) (mj_sz h - mj_sz hs) Q (F0 m pc rs (st.map (mj_tv ρ))) := by
  dsimp only [mj_sh] at hs1
  obtain ⟨x, r, rfl, h1⟩ := mj_pA_of hs1
  cases x with
  | none =>
    cases h1
    exact lv_castN hx hb hd (K rs H locs hlr hP hS)
  | some a =>
    dsimp only at h1
    split at h1
    · rename_i h0
      split at h1
      · rename_i c1 fs hr
        split at h1
        · rename_i e1
          subst e1
          cases h1
          have K := K rs H locs hlr hP hS
          rcases hok with ⟨-, r1, hc, hlk⟩ | ⟨h9, -⟩
          · obtain ⟨r2, hc2, hcell⟩ := mj_ocl_of (v := a) (ci := E.2.1) hX hP hS (by unfold mj_ocl; rw [hr])
            cases Option.some.inj (hc.symm.trans hc2)
            exact va_castS (nm := r1.1) hx hb hown (hts _ hlk) (hX.1.1 _ _ hc).2 hcell hd K
          · exact absurd h0 h9
        · cases h1
      · cases h1
    · rename_i h0
      split at h1
      · rename_i ha
        split at h1
        · rename_i t x hr
          split at h1
          · rename_i e1
            subst e1
            cases h1
            have K := K rs H locs hlr hP hS
            rcases hok with ⟨h9, -⟩ | ⟨-, ty, hty, hlk⟩
            · exact absurd h9 h0
            · rcases mj_rdA_of hr with ⟨h3, h4⟩ | ⟨h3, h4⟩
              · rw [List.map_cons, show mj_tv ρ (va_rf (some a)) = .ref (base + a) by rw [← hX.2.1 a h3]; rfl]
                rw [List.map_cons, show mj_tv ρ (.ref a) = .ref (base + a) by rw [← hX.2.1 a h3]; rfl] at K
                exact va_castA hx hb hown (hts _ hlk) hP a (mj_ws_at h4) (mj_nm_eq (hX.1.2 _ _ (mj_tys_at hty (by have h8 := mj_rdA_10 hr h3; have h9 := mj_tyl_lt hty; dsimp only at h8 h9; show E.2.1 < 10; omega))).2) hd K
              · exact absurd ha h3
          · cases h1
        · cases h1
      · cases h1
theorem mj_h_gs {idx : Nat} (hx : p.tables.exec = Jvm.exec) (hb : c.code = cc) (hts : ∀ w ∈ Ts, w.before args s = true) (hown : s.vm.findClass own = some m.cls) (hX : mj_X D cA ρ base s) (hd : decode cc pc = .ok (.getstatic idx, 3)) (hok : mj_okH Ts own (meth.name = "<init>") (.getstatic idx, E.2))
    (hlr : mj_lr ρ ls rs) (hP : va_P D mj_cls (mj_ws ρ cA base h) H) (hS : va_S (fun q => base ≤ q) s.heap H locs) (hs1 : mj_sh (.getstatic idx, E.2) pc ls st h = some S) (K : mj_KH p l e R s m args below meth c Q D cA ρ base hs S) :
    W p l e R s m args below meth c H locs (h.length - hs.length) (mj_sz h - mj_sz hs) Q (F0 m pc rs (st.map (mj_tv ρ))) := by
  obtain ⟨n, ref, hn, hlk, hrf⟩ := hok
  dsimp only [mj_sh] at hs1
  split at hs1
  · rename_i v hv
    cases hs1
    have K := K rs H locs hlr hP hS
    refine va_gets hx hb (hX.2.2.2.2.1 _ _ _ hv hn) hS hown (hts _ hlk) (fun x hx1 => ?_) hd K
    rw [hrf]
    exact hx1
  · cases hs1
theorem mj_h_ldc {idx : Nat} (hM : va_Mi "[Ljava/lang/Object;" (ρ (mj_CB + 4)) s) (hx : p.tables.exec = Jvm.exec) (hb : c.code = cc) (hts : ∀ w ∈ Ts, w.before args s = true) (hown : s.vm.findClass own = some m.cls) (hX : mj_X D cA ρ base s) (hd : decode cc pc = .ok (.ldc idx, 2)) (hok : mj_okH Ts own (meth.name = "<init>") (.ldc idx, E.2))
    (hlr : mj_lr ρ ls rs) (hP : va_P D mj_cls (mj_ws ρ cA base h) H) (hS : va_S (fun q => base ≤ q) s.heap H locs) (hs1 : mj_sh (.ldc idx, E.2) pc ls st h = some S) (K : mj_KH p l e R s m args below meth c Q D cA ρ base hs S) :
    W p l e R s m args below meth c H locs (h.length - hs.length) (mj_sz h - mj_sz hs) Q (F0 m pc rs (st.map (mj_tv ρ))) := by
  dsimp only [mj_sh] at hs1
  dsimp only [mj_okH] at hok
  rcases hok with ⟨e0, hw⟩ | ⟨e0, q, hq, rfl, rfl, e2⟩ | ⟨e0, hw⟩ | ⟨e0, hw⟩
  · rw [e0] at hs1
    cases hs1
    exact lv_ldc hx hb hown (hts _ hw) hd (K rs H locs hlr hP hS)
  · rw [e0] at hs1
    cases hs1
    have K := K rs H locs hlr hP hS
    have hv := hX.2.2.2.2.2 q hq
    rw [List.map_cons, show mj_tv ρ (.ref (mj_CB + E.2.2.1)) = .ref (ρ (mj_CB + 300 + 2 * q.2.2.1)) by rw [e2, ← Nat.add_assoc]; rfl] at K
    exact va_ldcS hx hb hown hv hd K
  · rw [e0] at hs1
    cases hs1
    exact va_ldcM hx hb hown (hts _ hw) hM hd (K rs H locs hlr hP hS)
  · rw [e0] at hs1
    cases hs1
    exact lv_ldcf hx hb hown (hts _ hw) hd (K rs H locs hlr hP hS)
theorem mj_ldcwf {rest : List Value} {cells slots : Nat} (hexec : p.tables.exec = Jvm.exec) (hb : c.code = cc) {own : String} {index : Nat} {v : UInt32} (hown : s.vm.findClass own = some m.cls) (hconst : (Jvm.Cond.constantFloat own index v).before args s = true) (hdg : decode cc pc = .ok (.ldc_w index, 3)) (k : W p l e R s m args below meth c H locs cells slots Q (F0 m (pc + 3) rs (.float v :: rest))) : W p l e R s m args below meth c H locs cells slots Q (F0 m pc rs rest) := by
  intro T hT X
  obtain ⟨t, a, b⟩ := k T hT X
  obtain ⟨k0, cf, hk, hcf, hcp⟩ := Cond.constantFloat_spec hown hconst
  obtain ⟨k', hk', he⟩ := X.warmed.alike.2.2 _ _ hk
  have hdg' : decode c.code pc = .ok (.ldc_w index, 3) := by rw [hb]; exact hdg
  refine ⟨t, ?_, b⟩
  jvm_step X.here [hexec, hdg', ldc_w.wp_float (s := T) (f := F0 m pc rs rest) X.here.top hk' (by rw [he]; exact hcf) hcp]
  exact a
theorem mj_h_ldw {idx : Nat} (hx : p.tables.exec = Jvm.exec) (hb : c.code = cc) (hts : ∀ w ∈ Ts, w.before args s = true) (hown : s.vm.findClass own = some m.cls) (hd : decode cc pc = .ok (.ldc_w idx, 3)) (hok : mj_okH Ts own (meth.name = "<init>") (.ldc_w idx, E.2))
    (hlr : mj_lr ρ ls rs) (hP : va_P D mj_cls (mj_ws ρ cA base h) H) (hS : va_S (fun q => base ≤ q) s.heap H locs) (hs1 : mj_sh (.ldc_w idx, E.2) pc ls st h = some S) (K : mj_KH p l e R s m args below meth c Q D cA ρ base hs S) :
    W p l e R s m args below meth c H locs (h.length - hs.length) (mj_sz h - mj_sz hs) Q (F0 m pc rs (st.map (mj_tv ρ))) := by
  dsimp only [mj_sh] at hs1
  rcases hok with ⟨e0, hw⟩ | ⟨e0, hw⟩
  · dsimp only at e0
    rw [e0] at hs1
    cases hs1
    exact lv_ldcw hx hb hown (hts _ hw) hd (K rs H locs hlr hP hS)
  · dsimp only at e0
    rw [e0] at hs1
    cases hs1
    exact mj_ldcwf hx hb hown (hts _ hw) hd (K rs H locs hlr hP hS)
theorem mj_h_ld2 {idx : Nat} (hx : p.tables.exec = Jvm.exec) (hb : c.code = cc) (hts : ∀ w ∈ Ts, w.before args s = true) (hown : s.vm.findClass own = some m.cls) (hd : decode cc pc = .ok (.ldc2_w idx, 3)) (hok : mj_okH Ts own (meth.name = "<init>") (.ldc2_w idx, E.2))
    (hlr : mj_lr ρ ls rs) (hP : va_P D mj_cls (mj_ws ρ cA base h) H) (hS : va_S (fun q => base ≤ q) s.heap H locs) (hs1 : mj_sh (.ldc2_w idx, E.2) pc ls st h = some S) (K : mj_KH p l e R s m args below meth c Q D cA ρ base hs S) :
    W p l e R s m args below meth c H locs (h.length - hs.length) (mj_sz h - mj_sz hs) Q (F0 m pc rs (st.map (mj_tv ρ))) := by
  cases hs1
  exact lv_ldc2 hx hb hown (hts _ hok) hd (K rs H locs hlr hP hS)
set_option maxHeartbeats 4000000 in
/-- what touches cells -/
theorem mj_sh_ok (hM : va_Mi "[Ljava/lang/Object;" (ρ (mj_CB + 4)) s) (hx : p.tables.exec = Jvm.exec) (hb : c.code = cc) (hts : ∀ w ∈ Ts, w.before args s = true) (hown : s.vm.findClass own = some m.cls) (hX : mj_X D cA ρ base s) (hA : mj_asg Ts) (hd : decode cc pc = .ok (E.1, mj_len E.1)) (hok : mj_okH Ts own (meth.name = "<init>") E) (hsz : s.heap.size = base + hs.length) (hle : hs.length ≤ h.length) (hlz : mj_sz hs ≤ mj_sz h)
    (hroom : S.2.2.2.length ≤ mj_CB ∧ S.2.2.2.length - hs.length ≤ R.cells ∧ mj_sz S.2.2.2 - mj_sz hs ≤ R.slots)
    (hlr : mj_lr ρ ls rs) (hP : va_P D mj_cls (mj_ws ρ cA base h) H) (hS : va_S (fun q => base ≤ q) s.heap H locs) (hs1 : mj_sh E pc ls st h = some S) (K : mj_KH p l e R s m args below meth c Q D cA ρ base hs S) :
    W p l e R s m args below meth c H locs (h.length - hs.length) (mj_sz h - mj_sz hs) Q (F0 m pc rs (st.map (mj_tv ρ))) := by
  obtain ⟨ins, e2⟩ := E
  cases ins with
  | getfield i => exact mj_h_gf (E := (.getfield i, e2)) hx hb hts hown hX hd hok hlr hP hS hs1 K
  | putfield i => exact mj_h_pf (E := (.putfield i, e2)) hx hb hts hown hX hd hok hlr hP hS hs1 K
  | iaload => exact mj_h_al hx hb hX hd hlr hP hS hs1 K
  | baload => exact mj_h_al hx hb hX hd hlr hP hS hs1 K
  | caload => exact mj_h_al hx hb hX hd hlr hP hS hs1 K
  | laload => exact mj_h_al hx hb hX hd hlr hP hS hs1 K
  | daload => exact mj_h_al hx hb hX hd hlr hP hS hs1 K
  | aaload => exact mj_h_al hx hb hX hd hlr hP hS hs1 K
  | iastore => exact mj_h_ias hx hb hX hd hlr hP hS hs1 K
  | bastore => exact mj_h_bas hx hb hX hd hlr hP hS hs1 K
  | castore => exact mj_h_cas hx hb hX hd hlr hP hS hs1 K
  | lastore => exact mj_h_las hx hb hX hd hlr hP hS hs1 K
  | dastore => exact mj_h_das hx hb hX hd hlr hP hS hs1 K
  | aastore => exact mj_h_aas hx hb hts hX hA hd hlr hP hS hs1 K
  | arraylength => exact mj_h_alen (E := (.arraylength, e2)) hx hb hX hd hlr hP hS hs1 K
  | newarray a => exact mj_h_na (E := (.newarray a, e2)) hx hb hts hX hd hok hsz hle hlz hroom hlr hP hS hs1 K
  | anewarray i => exact mj_h_nq (E := (.anewarray i, e2)) hx hb hts hown hX hd hok hsz hle hlz hroom hlr hP hS hs1 K
  | new i => exact mj_h_new (E := (.new i, e2)) hx hb hts hown hX hd hok hsz hle hlz hroom hlr hP hS hs1 K
  | checkcast i => exact mj_h_cc (E := (.checkcast i, e2)) hx hb hts hown hX hd hok hlr hP hS hs1 K
  | getstatic i => exact mj_h_gs (E := (.getstatic i, e2)) hx hb hts hown hX hd hok hlr hP hS hs1 K
  | ldc i => exact mj_h_ldc (E := (.ldc i, e2)) hM hx hb hts hown hX hd hok hlr hP hS hs1 K
  | ldc_w i => exact mj_h_ldw (E := (.ldc_w i, e2)) hx hb hts hown hd hok hlr hP hS hs1 K
  | ldc2_w i => exact mj_h_ld2 (E := (.ldc2_w i, e2)) hx hb hts hown hd hok hlr hP hS hs1 K
  | _ => cases hs1
end MJJ
