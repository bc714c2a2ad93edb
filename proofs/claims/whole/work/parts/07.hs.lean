/-! What touches cells is done by the machine as by the small one. -/
def mj_lnk (Ts : List Cond) (own : String) (idx : Nat) (ref n d : String) : Prop := Cond.fieldLink own idx ref n d ∈ Ts ∨ ∃ host, Cond.fieldLinkNest own idx ref n d host ∈ Ts
def mj_fok (Ts : List Cond) (own : String) (idx k ci : Nat) (r : vw_C) (ref : String) : Prop :=
  mj_cls[ci]? = some r ∧ k < r.2.2 ∧ (∀ w ∈ u_ws r.1 r.2.1 r.2.2, w ∈ Ts) ∧ mj_lnk Ts own idx ref (r.2.1 k).2.1 (r.2.1 k).2.2.1 ∧ (ref = (r.2.1 k).1 ∨ Cond.sameField ref (r.2.1 k).1 (r.2.1 k).2.1 (r.2.1 k).2.2.1 ∈ Ts)
/-- what the tables must say of an instruction that touches cells -/
def mj_okH (Ts : List Cond) (own : String) (ini : Prop) (E : mj_E) : Prop := match E.1 with
  | .getfield idx => ∃ r ref, mj_fok Ts own idx E.2.1 E.2.2.1 r ref
  | .putfield idx => ∃ r ref, mj_fok Ts own idx E.2.1 E.2.2.1 r ref ∧ (∀ k, k < r.2.2 → parseFieldDescriptor (r.2.1 k).2.2.1 = some (mj_cty E.2.2.1 k)) ∧ (∀ a, a < r.2.2 → ∀ b, b < r.2.2 → a ≠ b → (r.2.1 a).2.1 ≠ (r.2.1 b).2.1) ∧
      ((r.2.1 E.2.1).2.2.2 = false ∨ ((r.2.1 E.2.1).2.2.2 = true ∧ ini ∧ (r.2.1 E.2.1).1 = own ∧ Cond.fieldLink own idx ref (r.2.1 E.2.1).2.1 (r.2.1 E.2.1).2.2.1 ∈ Ts))
  | .newarray a => mj_tyl[E.2.1]? = some (newarray.typeOf a) ∧ E.2.1 < 6 ∧ Cond.arrayClass (newarray.typeOf a) ∈ Ts
  | .anewarray idx => ∃ C, mj_tyl[E.2.1]? = some (.object C) ∧ (6 ≤ E.2.1 ∧ E.2.1 < 10) ∧ Cond.classLink own idx C ∈ Ts ∧ Cond.arrayOver (.object C) ∈ Ts
  | .new idx => ∃ r fs, mj_cls[E.2.1]? = some r ∧ mj_dfl[E.2.1]? = some fs ∧ mj_csl[E.2.1]? = some r.2.2 ∧ (∀ w ∈ u_ws r.1 r.2.1 r.2.2, w ∈ Ts) ∧ (∀ k, k < r.2.2 → parseFieldDescriptor (r.2.1 k).2.2.1 = some (mj_cty E.2.1 k)) ∧ Cond.classLink own idx r.1 ∈ Ts ∧ Cond.instantiable r.1 r.2.2 ∈ Ts ∧ Cond.initialized r.1 ∈ Ts ∧ (∀ j, j < r.2.2 → defaultValue (mj_cty E.2.1 j) = vp_V fs j) ∧ (∀ v ∈ fs, ∀ ρ, mj_tv ρ v = v)
  | .checkcast idx => (E.2.2.1 = 0 ∧ ∃ r, mj_cls[E.2.1]? = some r ∧ Cond.classLink own idx r.1 ∈ Ts) ∨ (E.2.2.1 ≠ 0 ∧ ∃ ty, mj_tyl[E.2.1]? = some ty ∧ Cond.classLink own idx ("[" ++ ty.toString) ∈ Ts)
  | .ldc idx => (E.2.1 = 0 ∧ Cond.constant own idx (nI E.2.2.1) ∈ Ts) ∨ (E.2.1 = 1 ∧ ∃ q ∈ mj_str, q.1 = own ∧ q.2.1 = idx ∧ E.2.2.1 = 300 + 2 * q.2.2.1) ∨ (E.2.1 = 2 ∧ Cond.classLink own idx "[Ljava/lang/Object;" ∈ Ts) ∨ (E.2.1 = 3 ∧ Cond.constantFloat own idx (UInt32.ofNat E.2.2.1) ∈ Ts)
  | .ldc_w idx => (E.2.1 = 0 ∧ Cond.constant own idx (nI E.2.2.1) ∈ Ts) ∨ (E.2.1 = 3 ∧ Cond.constantFloat own idx (UInt32.ofNat E.2.2.1) ∈ Ts)
  | .ldc2_w idx => Cond.constantLong own idx (lN E.2.1) ∈ Ts
  | .getstatic idx => ∃ n ref, mj_stn[E.2.1]? = some n ∧ Cond.fieldLink own idx ref n.2.1 n.2.2 ∈ Ts ∧ ref = n.1
  | _ => True
theorem mj_rdO_of {h : mj_H} {a : Nat} {x : Nat × List Value} (hr : mj_rdO h a = some x) : (a < mj_CB ∧ h[a]? = some (.inr x)) ∨ (¬ a < mj_CB ∧ mj_cst (a - mj_CB) = some (.inr x)) := by
  unfold mj_rdO mj_rd at hr
  by_cases c : a < mj_CB
  · rw [if_pos c] at hr
    cases ha : h[a]? with
    | none => rw [ha] at hr; cases hr
    | some y =>
      rw [ha] at hr
      cases y with
      | inl z => cases hr
      | inr z => cases hr; exact Or.inl ⟨c, rfl⟩
  · rw [if_neg c] at hr
    cases ha : mj_cst (a - mj_CB) with
    | none => rw [ha] at hr; cases hr
    | some y =>
      rw [ha] at hr
      cases y with
      | inl z => cases hr
      | inr z => cases hr; exact Or.inr ⟨c, rfl⟩
theorem mj_rdA_of {h : mj_H} {a : Nat} {x : Nat × vp_A} (hr : mj_rdA h a = some x) : (a < mj_CB ∧ h[a]? = some (.inl x)) ∨ (¬ a < mj_CB ∧ mj_cst (a - mj_CB) = some (.inl x)) := by
  unfold mj_rdA at hr
  split at hr
  · rename_i y hy
    split at hr
    · cases hr
    · cases hr
      unfold mj_rd at hy
      by_cases c : a < mj_CB
      · rw [if_pos c] at hy; exact Or.inl ⟨c, hy⟩
      · rw [if_neg c] at hy; exact Or.inr ⟨c, hy⟩
  · cases hr
theorem mj_rdA_10 {h : mj_H} {a : Nat} {x : Nat × vp_A} (hr : mj_rdA h a = some x) (ha : a < mj_CB) : x.1 ≠ 10 := by
  unfold mj_rdA at hr
  split at hr
  · split at hr
    · cases hr
    · rename_i hc
      cases hr
      exact fun q => hc ⟨ha, q⟩
  · cases hr
theorem mj_tyl_lt {t : Nat} {ty : FieldType} (h : mj_tyl[t]? = some ty) : t < 11 := (List.getElem?_eq_some_iff.mp h).1
theorem mj_cst_nd (k : Nat) (n : Nat) (f : Nat → UInt64) : mj_cst k ≠ some (.inl (5, (n, .inr (.inr (.inr (.inl f)))))) := by
  intro h
  unfold mj_cst at h
  split at h
  · cases h
  · cases h
  · cases h
  · cases h
  · split at h
    · cases h
    · split at h
      · split at h
        · split at h <;> cases h
        · cases h
      · cases h
theorem mj_tyl_obj {t : Nat} (h : 6 ≤ t) (h2 : t < 11) : ∃ C, mj_tyl[t]? = some (.object C) := by
  rcases (show t = 6 ∨ t = 7 ∨ t = 8 ∨ t = 9 ∨ t = 10 by omega) with rfl | rfl | rfl | rfl | rfl <;> exact ⟨_, rfl⟩
theorem mj_cst_cls {k c : Nat} {fs : List Value} (h : mj_cst k = some (.inr (c, fs))) : ∃ r, mj_cls[c]? = some r := by
  unfold mj_cst at h
  split at h
  · cases h
  · cases h
  · cases h
  · cases h
  · split at h
    · cases h; exact ⟨_, rfl⟩
    · split at h
      · split at h
        · split at h
          · cases h; exact ⟨_, rfl⟩
          · cases h
        · cases h
      · cases h
theorem mj_cb (a : Nat) (h : ¬ a < mj_CB) : mj_CB + (a - mj_CB) = a := by omega
section MJH
variable {p : Program} {l : Launch} {e : Env} {R : Room} {s : State} {m : MethodId} {args : Array Value} {below : List Frame} {meth : Method} {c : Code} {H H1 : Heap} {locs : List Loc} {Q : State → Prop}
variable {D : va_G} {cA ρ : Nat → Nat} {base : Nat} {cc : ByteArray} {pc : Nat} {rs : Array Slot} {ls : mj_L} {st : List Value} {h hs : mj_H} {S : mj_S} {Ts : List Cond} {own : String} {E : mj_E}
theorem mj_same {ref : String} {r : vw_C} {k : Nat} (hts : ∀ w ∈ Ts, w.before args s = true) (h : ref = (r.2.1 k).1 ∨ Cond.sameField ref (r.2.1 k).1 (r.2.1 k).2.1 (r.2.1 k).2.2.1 ∈ Ts) : ∀ x, s.fieldFound? (r.2.1 k).1 (r.2.1 k).2.1 (r.2.1 k).2.2.1 = some x → s.fieldFound? ref (r.2.1 k).2.1 (r.2.1 k).2.2.1 = some x := by
  intro x hx
  rcases h with h | h
  · rw [h]; exact hx
  · exact u_same (hts _ h) x hx
/-- one cell's world -/
theorem mj_one {i : Nat} {c0 : mj_C} (hP : va_P D mj_cls (mj_ws ρ cA base h) H) (hi : h[i]? = some c0) : va_P D mj_cls [(base + i, mj_cv ρ cA c0)] H := by
  intro k q hk
  cases k with
  | zero => cases hk; exact hP i _ (mj_ws_at hi)
  | succ k => simp at hk
theorem mj_h_gf {idx : Nat} (hx : p.tables.exec = Jvm.exec) (hb : c.code = cc) (hts : ∀ w ∈ Ts, w.before args s = true) (hown : s.vm.findClass own = some m.cls) (hX : mj_X D cA ρ base s) (hd : decode cc pc = .ok (.getfield idx, 3)) (hok : ∃ r ref, mj_fok Ts own idx E.2.1 E.2.2.1 r ref)
    (hlr : mj_lr ρ ls rs) (hP : va_P D mj_cls (mj_ws ρ cA base h) H) (hS : va_S (fun q => base ≤ q) s.heap H locs) (hs1 : mj_gf E pc ls st h = some S) (K : mj_KH p l e R s m args below meth c Q D cA ρ base hs S) :
    W p l e R s m args below meth c H locs (h.length - hs.length) (mj_sz h - mj_sz hs) Q (F0 m pc rs (st.map (mj_tv ρ))) := by
  obtain ⟨r, ref, hc, hk, hin, hlk, hsm⟩ := hok
  obtain ⟨a, st1, rfl, h2⟩ := mj_pR_of hs1
  split at h2
  · rename_i c1 fs hr
    split at h2
    · rename_i e1
      subst e1
      split at h2
      · rename_i v hv
        cases h2
        have K := K rs H locs hlr hP hS
        rcases mj_rdO_of hr with ⟨h3, h4⟩ | ⟨h3, h4⟩
        · have hP1 := mj_one hP h4
          rw [List.map_cons, show mj_tv ρ (.ref a) = .ref (base + a) by rw [← hX.2.1 a h3]; rfl]
          rcases hlk with hlk | ⟨host, hlk⟩
          · exact va_get (ci := E.2.2.1) (q0 := 0) hx hb hts hin hown hX.1 hP1 rfl hc E.2.1 hk (hts _ hlk) (mj_same hts hsm) (v := mj_tv ρ v) (by rw [List.getElem?_map, hv]; rfl) hd K
          · exact va_getN (ci := E.2.2.1) (q0 := 0) hx hb hts hin hown hX.1 hP1 rfl hc E.2.1 hk (hts _ hlk) (mj_same hts hsm) (v := mj_tv ρ v) (by rw [List.getElem?_map, hv]; rfl) hd K
        · obtain ⟨hO, hF⟩ := hX.2.2.1 _ _ _ _ h4 hc
          have hF := hF _ _ hv
          rw [mj_cb a h3] at hF
          rcases hlk with hlk | ⟨host, hlk⟩
          · exact vk_getf hx hb hF hS hown (hts _ hlk) (mj_same hts hsm) hd K
          · obtain ⟨cf, kf, fi, f, cell, h1, h2, h3, h4, h5, h6⟩ := hF.kept hS.2.1
            exact va_Wgetf hx hb hown (hts _ hlk) (mj_same hts hsm _ h1) h2 h3 h4 (v := mj_tv ρ v) h5 rfl rfl hd K
      · cases h2
    · cases h2
  · cases h2
theorem mj_fit_of {ty : FieldType} {v : Value} (h : mj_fit ty v = true) : narrow ty (mj_tv ρ v) = mj_tv ρ v ∧ fits ty (mj_tv ρ v) = true := by
  unfold mj_fit at h
  split at h
  · exact ⟨rfl, rfl⟩
  · exact ⟨rfl, rfl⟩
  · exact ⟨rfl, rfl⟩
  · exact ⟨rfl, rfl⟩
  · rename_i x
    rw [Bool.and_eq_true] at h
    exact ⟨congrArg Value.int (of_decide_eq_true h.1), h.2⟩
  · rename_i x
    rw [Bool.and_eq_true] at h
    exact ⟨congrArg Value.int (of_decide_eq_true h.1), h.2⟩
  · rename_i x
    rw [Bool.and_eq_true] at h
    exact ⟨congrArg Value.int (of_decide_eq_true h.1), h.2⟩
  · exact ⟨rfl, rfl⟩
  · exact ⟨rfl, rfl⟩
  · show narrow _ (va_rf _) = va_rf _ ∧ fits _ (va_rf _) = true
    split <;> exact ⟨rfl, rfl⟩
  · show narrow _ (va_rf _) = va_rf _ ∧ fits _ (va_rf _) = true
    split <;> exact ⟨rfl, rfl⟩
  · exact ⟨rfl, rfl⟩
  · exact ⟨rfl, rfl⟩
  · cases h
theorem mj_h_pf {idx : Nat} (hx : p.tables.exec = Jvm.exec) (hb : c.code = cc) (hts : ∀ w ∈ Ts, w.before args s = true) (hown : s.vm.findClass own = some m.cls) (hX : mj_X D cA ρ base s) (hd : decode cc pc = .ok (.putfield idx, 3)) (hok : mj_okH Ts own (meth.name = "<init>") (.putfield idx, E.2))
    (hlr : mj_lr ρ ls rs) (hP : va_P D mj_cls (mj_ws ρ cA base h) H) (hS : va_S (fun q => base ≤ q) s.heap H locs) (hs1 : mj_pf E pc ls st h = some S) (K : mj_KH p l e R s m args below meth c Q D cA ρ base hs S) :
    W p l e R s m args below meth c H locs (h.length - hs.length) (mj_sz h - mj_sz hs) Q (F0 m pc rs (st.map (mj_tv ρ))) := by
  obtain ⟨r, ref, ⟨hc, hk, hin, hlk, hsm⟩, hty, hnm, hfin⟩ := hok
  obtain ⟨v, st1, rfl, h1⟩ := mj_pV_of hs1
  obtain ⟨a, st2, rfl, h2⟩ := mj_pR_of h1
  split at h2
  · rename_i ha
    split at h2
    · rename_i c1 fs hr
      split at h2
      · rename_i e1
        obtain ⟨rfl, hkl, hft⟩ := e1
        cases h2
        obtain ⟨h3, h4⟩ : a < mj_CB ∧ h[a]? = some (.inr (E.2.2.1, fs)) := (mj_rdO_of hr).resolve_right (fun z => z.1 ha)
        obtain ⟨f1, f2⟩ := mj_fit_of (ρ := ρ) hft
        have hat := mj_ws_at (ρ := ρ) (cA := cA) (base := base) h4
        have hl : E.2.1 < (fs.map (mj_tv ρ)).length := by rw [List.length_map]; exact hkl
        have hset : mj_ws ρ cA base (h.set a (.inr (E.2.2.1, fs.set E.2.1 v))) = (mj_ws ρ cA base h).set a (base + a, .inr (E.2.2.1, (fs.map (mj_tv ρ)).set E.2.1 (mj_tv ρ v))) := by
          rw [mj_ws_set]
          show (mj_ws ρ cA base h).set a (base + a, Sum.inr (E.2.2.1, (fs.set E.2.1 v).map (mj_tv ρ))) = _
          rw [List.map_set]
        have hcs : mj_sz (h.set a (.inr (E.2.2.1, fs.set E.2.1 v))) = mj_sz h := mj_sz_set h a _ _ h4 rfl
        have kk : ∀ (H1 : Heap) (locs1 : List Loc), va_P D mj_cls ((mj_ws ρ cA base h).set a (base + a, .inr (E.2.2.1, (fs.map (mj_tv ρ)).set E.2.1 (mj_tv ρ v)))) H1 → va_S (fun q => base ≤ q) s.heap H1 locs1 → W p l e R s m args below meth c H1 locs1 (h.length - hs.length) (mj_sz h - mj_sz hs) Q (F0 m (pc + 3) rs (st2.map (mj_tv ρ))) := fun H1 locs1 hP1 hS1 => by
          have K := K rs H1 locs1 hlr (by show va_P D mj_cls (mj_ws ρ cA base (h.set a _)) H1; rw [hset]; exact hP1) hS1
          dsimp only at K
          rw [List.length_set, hcs] at K
          exact K
        rw [List.map_cons, List.map_cons, show mj_tv ρ (.ref a) = .ref (base + a) by rw [← hX.2.1 a h3]; rfl]
        rcases hfin with hf | ⟨hf, hi, hdc, hlk2⟩
        · rcases hlk with hlk | ⟨host, hlk⟩
          · exact va_put hx hb hts hin _ hty hnm hown hX.1 hP mj_D hS a hat hc E.2.1 hk (hts _ hlk) (mj_same hts hsm) hf (hty _ hk) f1 f2 hl hd (fun H1 locs1 hP1 _ hS1 => kk H1 locs1 hP1 hS1)
          · exact va_putN hx hb hts hin _ hty hnm hown hX.1 hP mj_D hS a hat hc E.2.1 hk (hts _ hlk) (mj_same hts hsm) hf (hty _ hk) f1 f2 hl hd (fun H1 locs1 hP1 _ hS1 => kk H1 locs1 hP1 hS1)
        · exact va_putF hx hb hts hin _ hty hnm hown hX.1 hP mj_D hS a hat hc E.2.1 hk (hts _ hlk2) (mj_same hts hsm) hf hi hdc (hty _ hk) f1 f2 hl hd (fun H1 locs1 hP1 _ hS1 => kk H1 locs1 hP1 hS1)
      · cases h2
    · cases h2
  · cases h2
/-- where an array lies: among the made ones, or among what stood before -/
theorem mj_arr {a t : Nat} {x : vp_A} (hX : mj_X D cA ρ base s) (hP : va_P D mj_cls (mj_ws ρ cA base h) H) (hr : mj_rdA h a = some (t, x)) :
    (a < mj_CB ∧ h[a]? = some (.inl (t, x)) ∧ ρ a = base + a ∧ (mj_ws ρ cA base h)[a]? = some (base + a, .inl (cA t, mj_av ρ x))) ∨ (∀ ty, mj_tyl[t]? = some ty → va_T ty (ρ a) x.1 (mj_el ρ x) (fun q => base ≤ q) s s.heap) := by
  rcases mj_rdA_of hr with ⟨h3, h4⟩ | ⟨h3, h4⟩
  · exact Or.inl ⟨h3, h4, hX.2.1 a h3, mj_ws_at h4⟩
  · refine Or.inr fun ty hty => ?_
    have := hX.2.2.2.1 _ _ _ ty h4 hty
    rw [mj_cb a h3] at this
    exact this
theorem mj_h_alen (hx : p.tables.exec = Jvm.exec) (hb : c.code = cc) (hX : mj_X D cA ρ base s) (hd : decode cc pc = .ok (.arraylength, 1))
    (hlr : mj_lr ρ ls rs) (hP : va_P D mj_cls (mj_ws ρ cA base h) H) (hS : va_S (fun q => base ≤ q) s.heap H locs) (hs1 : mj_sh (.arraylength, E.2) pc ls st h = some S) (K : mj_KH p l e R s m args below meth c Q D cA ρ base hs S) :
    W p l e R s m args below meth c H locs (h.length - hs.length) (mj_sz h - mj_sz hs) Q (F0 m pc rs (st.map (mj_tv ρ))) := by
  obtain ⟨a, st1, rfl, h2⟩ := mj_pR_of (show mj_pR st _ = _ from hs1)
  split at h2
  · rename_i t n x hr
    split at h2
    · rename_i ht
      cases h2
      have K := K rs H locs hlr hP hS
      obtain ⟨ty, hty⟩ : ∃ ty, mj_tyl[t]? = some ty := ⟨_, List.getElem?_eq_getElem ht⟩
      rcases mj_arr hX hP hr with ⟨h3, h4, h5, h6⟩ | hT
      · rw [List.map_cons, show mj_tv ρ (.ref a) = .ref (base + a) by rw [← h5]; rfl]
        exact va_alen hx hb hX.1 hP a t h6 (mj_tys_at hty (by have := mj_rdA_10 hr h3; dsimp only at this; omega)) rfl hd K
      · exact va_tlen hx hb (hT ty hty) hS rfl hd K
    · cases h2
  · cases h2
theorem mj_ald_ok {i : Int32} {x : vp_A} {v : Value} (h : mj_ald i x = some v) : vp_in i x.1 ∧ mj_tv ρ v = mj_el ρ x i.toNatClampNeg := by
  unfold mj_ald at h
  split at h
  · rename_i hi
    refine ⟨mj_inb_of hi, ?_⟩
    obtain ⟨n, x⟩ := x
    rcases x with f | f | f | f | f <;> cases h <;> rfl
  · cases h
theorem mj_h_al {ins : Instr} (hx : p.tables.exec = Jvm.exec) (hb : c.code = cc) (hX : mj_X D cA ρ base s) (hd : decode cc pc = .ok (ins, 1))
    (hlr : mj_lr ρ ls rs) (hP : va_P D mj_cls (mj_ws ρ cA base h) H) (hS : va_S (fun q => base ≤ q) s.heap H locs) (hs1 : mj_al ins pc ls st h = some S) (K : mj_KH p l e R s m args below meth c Q D cA ρ base hs S) :
    W p l e R s m args below meth c H locs (h.length - hs.length) (mj_sz h - mj_sz hs) Q (F0 m pc rs (st.map (mj_tv ρ))) := by
  obtain ⟨i, st1, rfl, h1⟩ := mj_pI_of hs1
  obtain ⟨a, st2, rfl, h2⟩ := mj_pR_of h1
  split at h2
  · rename_i t x hr
    split at h2
    · rename_i hk
      split at h2
      · rename_i v hv
        cases h2
        have K := K rs H locs hlr hP hS
        obtain ⟨hin, hel⟩ := mj_ald_ok (ρ := ρ) hv
        dsimp only at K
        rw [List.map_cons, hel] at K
        obtain ⟨n, x⟩ := x
        unfold mj_kld at hk
        split at hk
        · rename_i f e2
          dsimp only at e2
          subst e2
          obtain rfl := of_decide_eq_true hk
          rcases mj_arr hX hP hr with ⟨h3, h4, h5, h6⟩ | hT
          · rw [List.map_cons, List.map_cons, show mj_tv ρ (.ref a) = .ref (base + a) by rw [← h5]; rfl]
            exact va_iald hx hb hX.1 hP a 0 h6 (mj_tys_at rfl) hin hd K
          · exact va_ti hx hb (hT _ rfl) hS hin rfl hd K
        · rename_i f e2
          dsimp only at e2
          subst e2
          rcases of_decide_eq_true hk with rfl | rfl
          · rcases mj_arr hX hP hr with ⟨h3, h4, h5, h6⟩ | hT
            · rw [List.map_cons, List.map_cons, show mj_tv ρ (.ref a) = .ref (base + a) by rw [← h5]; rfl]
              exact va_bald hx hb hX.1 hP a 1 h6 (mj_tys_at rfl) hin hd K
            · exact va_tb hx hb (hT _ rfl) hS hin rfl hd K
          · rcases mj_arr hX hP hr with ⟨h3, h4, h5, h6⟩ | hT
            · rw [List.map_cons, List.map_cons, show mj_tv ρ (.ref a) = .ref (base + a) by rw [← h5]; rfl]
              exact va_zald hx hb hX.1 hP a 2 h6 (mj_tys_at rfl) hin hd K
            · exact va_tz hx hb (hT _ rfl) hS hin rfl hd K
        · rename_i f e2
          dsimp only at e2
          subst e2
          obtain rfl := of_decide_eq_true hk
          rcases mj_arr hX hP hr with ⟨h3, h4, h5, h6⟩ | hT
          · rw [List.map_cons, List.map_cons, show mj_tv ρ (.ref a) = .ref (base + a) by rw [← h5]; rfl]
            exact va_cald hx hb hX.1 hP a 3 h6 (mj_tys_at rfl) hin hd K
          · exact va_tc hx hb (hT _ rfl) hS hin rfl hd K
        · rename_i f e2
          dsimp only at e2
          subst e2
          obtain rfl := of_decide_eq_true hk
          rcases mj_arr hX hP hr with ⟨h3, h4, h5, h6⟩ | hT
          · rw [List.map_cons, List.map_cons, show mj_tv ρ (.ref a) = .ref (base + a) by rw [← h5]; rfl]
            exact va_lald hx hb hX.1 hP a 4 h6 (mj_tys_at rfl) hin hd K
          · exact va_tl hx hb (hT _ rfl) hS hin rfl hd K
        · rename_i f e2
          dsimp only at e2
          subst e2
          obtain rfl := of_decide_eq_true hk
          rcases mj_rdA_of hr with ⟨h3, h4⟩ | ⟨h3, h4⟩
          · rw [List.map_cons, List.map_cons, show mj_tv ρ (.ref a) = .ref (base + a) by rw [← hX.2.1 a h3]; rfl]
            exact va_dald hx hb hX.1 hP a 5 (mj_ws_at h4) (mj_tys_at rfl) hin hd K
          · exact absurd h4 (mj_cst_nd _ _ _)
        · rename_i f e2
          dsimp only at e2
          subst e2
          have h6' := of_decide_eq_true hk
          obtain ⟨C, hC⟩ : ∃ C, mj_tyl[t]? = some (.object C) := mj_tyl_obj h6'.1 h6'.2
          rcases mj_arr hX hP hr with ⟨h3, h4, h5, h6⟩ | hT
          · rw [List.map_cons, List.map_cons, show mj_tv ρ (.ref a) = .ref (base + a) by rw [← h5]; rfl]
            refine va_aldq hx hb hX.1 hP a t h6 (mj_tys_at hC (by have := mj_rdA_10 hr h3; dsimp only at this; omega)) hin hd ?_
            rw [show va_rf ((fun j => (f j).map ρ) i.toNatClampNeg) = mj_el ρ (n, .inr (.inr (.inr (.inr f)))) i.toNatClampNeg from (mj_tv_rf ρ _).symm]
            exact K
          · exact vb_tq hx hb (hT _ hC) hS hin rfl hd K
        · cases hk
      · cases h2
    · cases h2
  · cases h2
theorem mj_sto_of {a pc : Nat} {ls : mj_L} {r : List Value} {i : Int32} {k : Nat → Nat → (Nat → Int32) ⊕ (Nat → Int64) ⊕ (Nat → UInt32) ⊕ (Nat → UInt64) ⊕ (Nat → Option Nat) → Option vp_A} {S : mj_S} (h0 : mj_sto h a pc ls r i k = some S) :
    ∃ t n x y, a < mj_CB ∧ h[a]? = some (.inl (t, (n, x))) ∧ vp_in i n ∧ k t n x = some y ∧ S = (pc + 1, ls, r, h.set a (.inl (t, y))) := by
  unfold mj_sto at h0
  split at h0
  · rename_i ha
    split at h0
    · rename_i t n x hr
      split at h0
      · rename_i hi
        split at h0
        · rename_i y hy
          cases h0
          exact ⟨t, n, x, y, ha, ((mj_rdA_of hr).resolve_right (fun z => z.1 ha)).2, mj_inb_of hi, hy, rfl⟩
        · cases h0
      · cases h0
    · cases h0
  · cases h0
/-- behind a store into an array -/
theorem mj_sto_K {a t n : Nat} {x y : (Nat → Int32) ⊕ (Nat → Int64) ⊕ (Nat → UInt32) ⊕ (Nat → UInt64) ⊕ (Nat → Option Nat)} {r : List Value} {H1 : Heap} {locs1 : List Loc} (h4 : h[a]? = some (.inl (t, (n, x)))) (hlr : mj_lr ρ ls rs)
    (K : mj_KH p l e R s m args below meth c Q D cA ρ base hs (pc + 1, ls, r, h.set a (.inl (t, (n, y))))) (hP1 : va_P D mj_cls ((mj_ws ρ cA base h).set a (base + a, .inl (cA t, mj_av ρ (n, y)))) H1) (hS1 : va_S (fun q => base ≤ q) s.heap H1 locs1) :
    W p l e R s m args below meth c H1 locs1 (h.length - hs.length) (mj_sz h - mj_sz hs) Q (F0 m (pc + 1) rs (r.map (mj_tv ρ))) := by
  have hcs : mj_sz (h.set a (.inl (t, (n, y)))) = mj_sz h := mj_sz_set h a _ _ h4 rfl
  have K := K rs H1 locs1 hlr (by show va_P D mj_cls (mj_ws ρ cA base (h.set a _)) H1; rw [mj_ws_set]; exact hP1) hS1
  dsimp only at K
  rw [List.length_set, hcs] at K
  exact K
theorem mj_ocl_of {v ci : Nat} (hX : mj_X D cA ρ base s) (hP : va_P D mj_cls (mj_ws ρ cA base h) H) (hS : va_S (fun q => base ≤ q) s.heap H locs) (hr : mj_ocl h v = some ci) : ∃ r, mj_cls[ci]? = some r ∧ ∃ cellV : Cell, H[ρ v]? = some cellV ∧ cellV.vm.isStatics = false ∧ s.vm.findClass r.1 = some cellV.cls := by
  unfold mj_ocl at hr
  split at hr
  · rename_i c1 fs h1
    cases hr
    rcases mj_rdO_of h1 with ⟨h3, h4⟩ | ⟨h3, h4⟩
    · have h5 := hP _ _ (mj_ws_at h4)
      obtain ⟨r, hc, cell, q1, q2, q3, -⟩ := h5
      refine ⟨r, hc, cell, by rw [hX.2.1 v h3]; exact q1, by rw [q3]; rfl, ?_⟩
      have h6 := (hX.1.1 _ _ hc).2.1
      rw [q2]
      exact h6
    · obtain ⟨r, hc⟩ : ∃ r, mj_cls[ci]? = some r := mj_cst_cls h4
      obtain ⟨hO, -⟩ := hX.2.2.1 _ _ _ _ h4 hc
      rw [mj_cb v h3] at hO
      exact ⟨r, hc, va_Orecv hO hS⟩
  · cases hr
end MJH
