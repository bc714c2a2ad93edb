section MJI
variable {p : Program} {l : Launch} {e : Env} {R : Room} {s : State} {m : MethodId} {args : Array Value} {below : List Frame} {meth : Method} {c : Code} {H H1 : Heap} {locs : List Loc} {Q : State → Prop}
variable {D : va_G} {cA ρ : Nat → Nat} {base : Nat} {cc : ByteArray} {pc : Nat} {rs : Array Slot} {ls : mj_L} {st : List Value} {h hs : mj_H} {S : mj_S} {Ts : List Cond} {own : String} {E : mj_E}
theorem mj_h_ias (hx : p.tables.exec = Jvm.exec) (hb : c.code = cc) (hX : mj_X D cA ρ base s) (hd : decode cc pc = .ok (.iastore, 1))
    (hlr : mj_lr ρ ls rs) (hP : va_P D mj_cls (mj_ws ρ cA base h) H) (hS : va_S (fun q => base ≤ q) s.heap H locs) (hs1 : mj_as1 .iastore pc ls st h = some S) (K : mj_KH p l e R s m args below meth c Q D cA ρ base hs S) :
    W p l e R s m args below meth c H locs (h.length - hs.length) (mj_sz h - mj_sz hs) Q (F0 m pc rs (st.map (mj_tv ρ))) := by
  dsimp only [mj_as1] at hs1
  obtain ⟨v, st1, rfl, h1⟩ := mj_pI_of hs1
  obtain ⟨i, st2, rfl, h2⟩ := mj_pI_of h1
  obtain ⟨a, r, rfl, h3⟩ := mj_pR_of h2
  obtain ⟨t, n, x, y, ha, h4, hin, hy, rfl⟩ := mj_sto_of h3
  rw [List.map_cons, List.map_cons, List.map_cons, show mj_tv ρ (.ref a) = .ref (base + a) by rw [← hX.2.1 a ha]; rfl]
  split at hy
  · split at hy
    · rename_i ht
      subst ht
      cases hy
      exact va_iast hx hb hX.1 hP mj_D hS a 0 (mj_ws_at h4) (mj_tys_at rfl) hin hd (fun H1 locs1 hP1 _ hS1 => mj_sto_K h4 hlr K hP1 hS1)
    · cases hy
  · cases hy
theorem mj_h_bas (hx : p.tables.exec = Jvm.exec) (hb : c.code = cc) (hX : mj_X D cA ρ base s) (hd : decode cc pc = .ok (.bastore, 1))
    (hlr : mj_lr ρ ls rs) (hP : va_P D mj_cls (mj_ws ρ cA base h) H) (hS : va_S (fun q => base ≤ q) s.heap H locs) (hs1 : mj_as1 .bastore pc ls st h = some S) (K : mj_KH p l e R s m args below meth c Q D cA ρ base hs S) :
    W p l e R s m args below meth c H locs (h.length - hs.length) (mj_sz h - mj_sz hs) Q (F0 m pc rs (st.map (mj_tv ρ))) := by
  dsimp only [mj_as1] at hs1
  obtain ⟨v, st1, rfl, h1⟩ := mj_pI_of hs1
  obtain ⟨i, st2, rfl, h2⟩ := mj_pI_of h1
  obtain ⟨a, r, rfl, h3⟩ := mj_pR_of h2
  obtain ⟨t, n, x, y, ha, h4, hin, hy, rfl⟩ := mj_sto_of h3
  rw [List.map_cons, List.map_cons, List.map_cons, show mj_tv ρ (.ref a) = .ref (base + a) by rw [← hX.2.1 a ha]; rfl]
  split at hy
  · split at hy
    · rename_i ht
      subst ht
      cases hy
      exact va_bast hx hb hX.1 hP mj_D hS a 1 (mj_ws_at h4) (mj_tys_at rfl) hin hd (fun H1 locs1 hP1 _ hS1 => mj_sto_K h4 hlr K hP1 hS1)
    · split at hy
      · rename_i ht
        subst ht
        cases hy
        exact va_zast hx hb hX.1 hP mj_D hS a 2 (mj_ws_at h4) (mj_tys_at rfl) hin hd (fun H1 locs1 hP1 _ hS1 => mj_sto_K h4 hlr K hP1 hS1)
      · cases hy
  · cases hy
theorem mj_h_cas (hx : p.tables.exec = Jvm.exec) (hb : c.code = cc) (hX : mj_X D cA ρ base s) (hd : decode cc pc = .ok (.castore, 1))
    (hlr : mj_lr ρ ls rs) (hP : va_P D mj_cls (mj_ws ρ cA base h) H) (hS : va_S (fun q => base ≤ q) s.heap H locs) (hs1 : mj_as1 .castore pc ls st h = some S) (K : mj_KH p l e R s m args below meth c Q D cA ρ base hs S) :
    W p l e R s m args below meth c H locs (h.length - hs.length) (mj_sz h - mj_sz hs) Q (F0 m pc rs (st.map (mj_tv ρ))) := by
  dsimp only [mj_as1] at hs1
  obtain ⟨v, st1, rfl, h1⟩ := mj_pI_of hs1
  obtain ⟨i, st2, rfl, h2⟩ := mj_pI_of h1
  obtain ⟨a, r, rfl, h3⟩ := mj_pR_of h2
  obtain ⟨t, n, x, y, ha, h4, hin, hy, rfl⟩ := mj_sto_of h3
  rw [List.map_cons, List.map_cons, List.map_cons, show mj_tv ρ (.ref a) = .ref (base + a) by rw [← hX.2.1 a ha]; rfl]
  split at hy
  · split at hy
    · rename_i ht
      subst ht
      cases hy
      exact va_cast hx hb hX.1 hP mj_D hS a 3 (mj_ws_at h4) (mj_tys_at rfl) hin hd (fun H1 locs1 hP1 _ hS1 => mj_sto_K h4 hlr K hP1 hS1)
    · cases hy
  · cases hy
theorem mj_h_las (hx : p.tables.exec = Jvm.exec) (hb : c.code = cc) (hX : mj_X D cA ρ base s) (hd : decode cc pc = .ok (.lastore, 1))
    (hlr : mj_lr ρ ls rs) (hP : va_P D mj_cls (mj_ws ρ cA base h) H) (hS : va_S (fun q => base ≤ q) s.heap H locs) (hs1 : mj_as1 .lastore pc ls st h = some S) (K : mj_KH p l e R s m args below meth c Q D cA ρ base hs S) :
    W p l e R s m args below meth c H locs (h.length - hs.length) (mj_sz h - mj_sz hs) Q (F0 m pc rs (st.map (mj_tv ρ))) := by
  dsimp only [mj_as1] at hs1
  obtain ⟨v, st1, rfl, h1⟩ := mj_pL_of hs1
  obtain ⟨i, st2, rfl, h2⟩ := mj_pI_of h1
  obtain ⟨a, r, rfl, h3⟩ := mj_pR_of h2
  obtain ⟨t, n, x, y, ha, h4, hin, hy, rfl⟩ := mj_sto_of h3
  rw [List.map_cons, List.map_cons, List.map_cons, show mj_tv ρ (.ref a) = .ref (base + a) by rw [← hX.2.1 a ha]; rfl]
  split at hy
  · split at hy
    · rename_i ht
      subst ht
      cases hy
      exact va_last hx hb hX.1 hP mj_D hS a 4 (mj_ws_at h4) (mj_tys_at rfl) hin hd (fun H1 locs1 hP1 _ hS1 => mj_sto_K h4 hlr K hP1 hS1)
    · cases hy
  · cases hy
theorem mj_h_das (hx : p.tables.exec = Jvm.exec) (hb : c.code = cc) (hX : mj_X D cA ρ base s) (hd : decode cc pc = .ok (.dastore, 1))
    (hlr : mj_lr ρ ls rs) (hP : va_P D mj_cls (mj_ws ρ cA base h) H) (hS : va_S (fun q => base ≤ q) s.heap H locs) (hs1 : mj_as1 .dastore pc ls st h = some S) (K : mj_KH p l e R s m args below meth c Q D cA ρ base hs S) :
    W p l e R s m args below meth c H locs (h.length - hs.length) (mj_sz h - mj_sz hs) Q (F0 m pc rs (st.map (mj_tv ρ))) := by
  dsimp only [mj_as1] at hs1
  obtain ⟨v, st1, rfl, h1⟩ := mj_pD_of hs1
  obtain ⟨i, st2, rfl, h2⟩ := mj_pI_of h1
  obtain ⟨a, r, rfl, h3⟩ := mj_pR_of h2
  obtain ⟨t, n, x, y, ha, h4, hin, hy, rfl⟩ := mj_sto_of h3
  rw [List.map_cons, List.map_cons, List.map_cons, show mj_tv ρ (.ref a) = .ref (base + a) by rw [← hX.2.1 a ha]; rfl]
  split at hy
  · split at hy
    · rename_i ht
      subst ht
      cases hy
      exact va_dast hx hb hX.1 hP mj_D hS a 5 (mj_ws_at h4) (mj_tys_at rfl) hin hd (fun H1 locs1 hP1 _ hS1 => mj_sto_K h4 hlr K hP1 hS1)
    · cases hy
  · cases hy
/-- which classes the tables let into an array of references -/
def mj_asg (Ts : List Cond) : Prop := ∀ (t ci : Nat) (C : String) (r : vw_C), mj_aok t ci = true → mj_tyl[t]? = some (.object C) → mj_cls[ci]? = some r → r.1 = C ∨ Cond.castable r.1 C ∈ Ts
theorem mj_up_map (f : Nat → Option Nat) (k : Nat) (v : Option Nat) : (fun j => (va_up f k v j).map ρ) = va_up (fun j => (f j).map ρ) k (v.map ρ) := by
  funext j
  unfold va_up
  split <;> rfl
theorem mj_h_aas (hx : p.tables.exec = Jvm.exec) (hb : c.code = cc) (hts : ∀ w ∈ Ts, w.before args s = true) (hX : mj_X D cA ρ base s) (hA : mj_asg Ts) (hd : decode cc pc = .ok (.aastore, 1))
    (hlr : mj_lr ρ ls rs) (hP : va_P D mj_cls (mj_ws ρ cA base h) H) (hS : va_S (fun q => base ≤ q) s.heap H locs) (hs1 : mj_as1 .aastore pc ls st h = some S) (K : mj_KH p l e R s m args below meth c Q D cA ρ base hs S) :
    W p l e R s m args below meth c H locs (h.length - hs.length) (mj_sz h - mj_sz hs) Q (F0 m pc rs (st.map (mj_tv ρ))) := by
  dsimp only [mj_as1] at hs1
  obtain ⟨v, st1, rfl, h1⟩ := mj_pA_of hs1
  obtain ⟨i, st2, rfl, h2⟩ := mj_pI_of h1
  obtain ⟨a, r, rfl, h3⟩ := mj_pR_of h2
  obtain ⟨t, n, x, y, ha, h4, hin, hy, rfl⟩ := mj_sto_of h3
  rw [List.map_cons, List.map_cons, List.map_cons, show mj_tv ρ (.ref a) = .ref (base + a) by rw [← hX.2.1 a ha]; rfl, mj_tv_rf]
  split at hy
  · rename_i f
    split at hy
    · split at hy
      · rename_i ht
        cases hy
        obtain ⟨C, hC⟩ := mj_tyl_obj ht.1 (Nat.lt_succ_of_lt ht.2)
        refine va_astqN hx hb hX.1 hP mj_D hS a t (mj_ws_at h4) (mj_tys_at hC ht.2) hin hd (fun H1 locs1 hP1 _ hS1 => mj_sto_K h4 hlr K ?_ hS1)
        unfold mj_av
        dsimp only
        rw [mj_up_map]
        exact hP1
      · cases hy
    · rename_i q
      split at hy
      · rename_i ci hq
        split at hy
        · rename_i ht
          cases hy
          obtain ⟨C, hC⟩ := mj_tyl_obj ht.1.1 (Nat.lt_succ_of_lt ht.1.2)
          obtain ⟨rc, hrc, hcell⟩ := mj_ocl_of hX hP hS hq
          refine vb_astq (C := rc.1) hx hb hX.1 hP mj_D hS a t (mj_ws_at h4) (mj_tys_at hC ht.1.2) hcell (fun comp c0 g1 g2 => ?_) hin hd (fun H1 locs1 hP1 _ hS1 => mj_sto_K h4 hlr K ?_ hS1)
          · rcases hA t ci C rc ht.2 hC hrc with g | g
            · rw [g] at g2
              exact vb_asgS comp c0 g1 g2
            · exact vb_asgC (va_any (by rfl) (hts _ g)) comp c0 g1 g2
          · unfold mj_av
            dsimp only
            rw [mj_up_map]
            exact hP1
        · cases hy
      · cases hy
  · cases hy
/-- behind a new cell -/
theorem mj_new_K {q : Nat} {c0 : mj_C} {len : Nat} {r : List Value} {H1 : Heap} {locs1 : List Loc} {k1 n1 : Nat} (hX : mj_X D cA ρ base s) (hlr : mj_lr ρ ls rs) (hsz : s.heap.size = base + hs.length) (hle : hs.length ≤ h.length) (hlz : mj_sz hs ≤ mj_sz h) (hcb : h.length < mj_CB)
    (K : mj_KH p l e R s m args below meth c Q D cA ρ base hs (pc + len, ls, .ref h.length :: r, h ++ [c0])) (hk : k1 = h.length - hs.length + 1) (hn : n1 = mj_sz h - mj_sz hs + mj_cs c0)
    (hP1 : va_P D mj_cls (mj_ws ρ cA base h ++ [(q, mj_cv ρ cA c0)]) H1) (hD1 : va_D (fun q => base ≤ q) (mj_ws ρ cA base h ++ [(q, mj_cv ρ cA c0)])) (hS1 : va_S (fun q => base ≤ q) s.heap H1 locs1) :
    W p l e R s m args below meth c H1 locs1 k1 n1 Q (F0 m (pc + len) rs (.ref q :: r.map (mj_tv ρ))) := by
  intro T hT X
  subst hk; subst hn
  have hq : q = base + h.length := mj_new (hs := hs) (by rw [show h.length + 1 - hs.length = h.length - hs.length + 1 by omega]; exact X) hT hsz hle hP1 hD1
  subst hq
  rw [← mj_ws_push] at hP1
  have K := K rs H1 locs1 hlr hP1 hS1
  dsimp only at K
  rw [List.length_append, mj_sz_push, List.map_cons, show mj_tv ρ (.ref h.length) = .ref (base + h.length) by rw [← hX.2.1 _ hcb]; rfl] at K
  rw [show h.length + [c0].length - hs.length = h.length - hs.length + 1 by simp; omega, show mj_sz h + mj_cs c0 - mj_sz hs = mj_sz h - mj_sz hs + mj_cs c0 by omega] at K
  exact K T hT X
theorem mj_ty_eq {cB cC : ClassId} {ty : FieldType} (h1 : va_RA s cB ty) (h2 : va_RA s cC ty) : cB = cC := by
  cases ty with
  | object C =>
    obtain ⟨-, -, -, -, -, h1⟩ := h1
    obtain ⟨-, -, -, -, -, h2⟩ := h2
    exact Option.some.inj (h1.symm.trans h2)
  | _ =>
    exact Option.some.inj ((show s.vm.findClass _ = some cB from h1).symm.trans (show s.vm.findClass _ = some cC from h2))
theorem mj_av0 (t n : Nat) : mj_av ρ (mj_arr0 t n) = mj_arr0 t n := by
  unfold mj_arr0
  split <;> rfl
theorem mj_arr0_1 (t n : Nat) : (mj_arr0 t n).1 = n := by
  unfold mj_arr0
  split <;> rfl
theorem mj_na_of {t len : Nat} (h0 : mj_na t len pc ls st h = some S) : ∃ (n : Int32) (r : List Value), st = .int n :: r ∧ ¬ n < 0 ∧ n.toNatClampNeg ≤ 67108864 ∧ S = (pc + len, ls, .ref h.length :: r, h ++ [.inl (t, mj_arr0 t n.toNatClampNeg)]) := by
  obtain ⟨n, r, rfl, h1⟩ := mj_pI_of h0
  split at h1
  · rename_i hn
    cases h1
    exact ⟨n, r, rfl, hn.1, hn.2, rfl⟩
  · cases h1
theorem mj_h_na {at_ : ArrayType} (hx : p.tables.exec = Jvm.exec) (hb : c.code = cc) (hts : ∀ w ∈ Ts, w.before args s = true) (hX : mj_X D cA ρ base s) (hd : decode cc pc = .ok (.newarray at_, 2)) (hok : mj_okH Ts own (meth.name = "<init>") (.newarray at_, E.2)) (hsz : s.heap.size = base + hs.length) (hle : hs.length ≤ h.length) (hlz : mj_sz hs ≤ mj_sz h)
    (hroom : S.2.2.2.length ≤ mj_CB ∧ S.2.2.2.length - hs.length ≤ R.cells ∧ mj_sz S.2.2.2 - mj_sz hs ≤ R.slots)
    (hlr : mj_lr ρ ls rs) (hP : va_P D mj_cls (mj_ws ρ cA base h) H) (hS : va_S (fun q => base ≤ q) s.heap H locs) (hs1 : mj_na E.2.1 2 pc ls st h = some S) (K : mj_KH p l e R s m args below meth c Q D cA ρ base hs S) :
    W p l e R s m args below meth c H locs (h.length - hs.length) (mj_sz h - mj_sz hs) Q (F0 m pc rs (st.map (mj_tv ρ))) := by
  obtain ⟨hty, ht6, hw⟩ := hok
  dsimp only at hty ht6
  obtain ⟨n, r, rfl, hn, hn2, rfl⟩ := mj_na_of hs1
  dsimp only at hroom
  rw [List.length_append, mj_sz_push, show mj_cs (.inl (E.2.1, mj_arr0 E.2.1 n.toNatClampNeg)) = n.toNatClampNeg from mj_arr0_1 _ _] at hroom
  obtain ⟨hr1, hr2, hr3⟩ := hroom
  have hr1' : h.length + 1 ≤ mj_CB := hr1
  have hr2' : h.length + 1 - hs.length ≤ R.cells := hr2
  rw [List.map_cons]
  refine va_newa hx hb (hts _ hw) rfl hX.1 hP mj_D hS (fun q hq => by show base ≤ q; omega) (a0 := mj_arr0 E.2.1 n.toNatClampNeg) ?_ hn rfl ?_ (by omega) (by omega) hd (fun q cA' H1 hK1 hP1 hD1 hS1 => ?_)
  · intro cB
    generalize E.2.1 = t at hty ht6 ⊢
    rcases (show t = 0 ∨ t = 1 ∨ t = 2 ∨ t = 3 ∨ t = 4 ∨ t = 5 by omega) with rfl | rfl | rfl | rfl | rfl | rfl <;> cases at_ <;> first | rfl | cases hty
  · have : componentBytes (newarray.typeOf at_) ≤ 8 := by cases at_ <;> decide
    calc n.toNatClampNeg * componentBytes (newarray.typeOf at_) ≤ 67108864 * 8 := Nat.mul_le_mul hn2 this
      _ = 536870912 := rfl
  · have e1 : cA' = cA E.2.1 := by
      have g1 := (hK1.2 _ _ (show (mj_tys cA ++ [(cA', newarray.typeOf at_)])[(mj_tys cA).length]? = some (cA', newarray.typeOf at_) by rw [List.getElem?_append_right (Nat.le_refl _), Nat.sub_self]; rfl)).2
      exact mj_ty_eq g1 (hX.1.2 _ _ (mj_tys_at hty (by omega))).2
    subst e1
    exact mj_new_K hX hlr hsz hle hlz (by omega) K rfl (by rw [show mj_cs (.inl (E.2.1, mj_arr0 E.2.1 n.toNatClampNeg)) = n.toNatClampNeg from mj_arr0_1 _ _]) (by unfold mj_cv; dsimp only; rw [mj_av0]; exact hP1) (by unfold mj_cv; dsimp only; rw [mj_av0]; exact hD1) hS1
theorem mj_h_nq {idx : Nat} (hx : p.tables.exec = Jvm.exec) (hb : c.code = cc) (hts : ∀ w ∈ Ts, w.before args s = true) (hown : s.vm.findClass own = some m.cls) (hX : mj_X D cA ρ base s) (hd : decode cc pc = .ok (.anewarray idx, 3)) (hok : mj_okH Ts own (meth.name = "<init>") (.anewarray idx, E.2)) (hsz : s.heap.size = base + hs.length) (hle : hs.length ≤ h.length) (hlz : mj_sz hs ≤ mj_sz h)
    (hroom : S.2.2.2.length ≤ mj_CB ∧ S.2.2.2.length - hs.length ≤ R.cells ∧ mj_sz S.2.2.2 - mj_sz hs ≤ R.slots)
    (hlr : mj_lr ρ ls rs) (hP : va_P D mj_cls (mj_ws ρ cA base h) H) (hS : va_S (fun q => base ≤ q) s.heap H locs) (hs1 : mj_na E.2.1 3 pc ls st h = some S) (K : mj_KH p l e R s m args below meth c Q D cA ρ base hs S) :
    W p l e R s m args below meth c H locs (h.length - hs.length) (mj_sz h - mj_sz hs) Q (F0 m pc rs (st.map (mj_tv ρ))) := by
  obtain ⟨C, hty, ht6, hw, hw2⟩ := hok
  dsimp only at hty ht6
  obtain ⟨n, r, rfl, hn, hn2, rfl⟩ := mj_na_of hs1
  dsimp only at hroom
  rw [List.length_append, mj_sz_push, show mj_cs (.inl (E.2.1, mj_arr0 E.2.1 n.toNatClampNeg)) = n.toNatClampNeg from mj_arr0_1 _ _] at hroom
  obtain ⟨hr1, hr2, hr3⟩ := hroom
  have hr1' : h.length + 1 ≤ mj_CB := hr1
  have hr2' : h.length + 1 - hs.length ≤ R.cells := hr2
  have e0 : mj_arr0 E.2.1 n.toNatClampNeg = (n.toNatClampNeg, .inr (.inr (.inr (.inr fun _ => none)))) := by
    unfold mj_arr0
    split <;> first | rfl | omega
  rw [List.map_cons]
  refine va_newq hx hb hown (hts _ hw) (va_AO.of (hts _ hw2)) hX.1 hP mj_D hS (fun q hq => by show base ≤ q; omega) hn rfl (by omega) (by omega) (by omega) hd (fun q cA' H1 hK1 hP1 hD1 hS1 => ?_)
  have e1 : cA' = cA E.2.1 := by
    have g1 := (hK1.2 _ _ (show (mj_tys cA ++ [(cA', FieldType.object C)])[(mj_tys cA).length]? = some (cA', FieldType.object C) by rw [List.getElem?_append_right (Nat.le_refl _), Nat.sub_self]; rfl)).2
    exact mj_ty_eq g1 (hX.1.2 _ _ (mj_tys_at hty (by omega))).2
  subst e1
  exact mj_new_K hX hlr hsz hle hlz (by omega) K rfl (by rw [show mj_cs (.inl (E.2.1, mj_arr0 E.2.1 n.toNatClampNeg)) = n.toNatClampNeg from mj_arr0_1 _ _]) (by unfold mj_cv; dsimp only; rw [mj_av0, e0]; exact hP1) (by unfold mj_cv; dsimp only; rw [mj_av0, e0]; exact hD1) hS1
theorem mj_h_new {idx : Nat} (hx : p.tables.exec = Jvm.exec) (hb : c.code = cc) (hts : ∀ w ∈ Ts, w.before args s = true) (hown : s.vm.findClass own = some m.cls) (hX : mj_X D cA ρ base s) (hd : decode cc pc = .ok (.new idx, 3)) (hok : mj_okH Ts own (meth.name = "<init>") (.new idx, E.2)) (hsz : s.heap.size = base + hs.length) (hle : hs.length ≤ h.length) (hlz : mj_sz hs ≤ mj_sz h)
    (hroom : S.2.2.2.length ≤ mj_CB ∧ S.2.2.2.length - hs.length ≤ R.cells ∧ mj_sz S.2.2.2 - mj_sz hs ≤ R.slots)
    (hlr : mj_lr ρ ls rs) (hP : va_P D mj_cls (mj_ws ρ cA base h) H) (hS : va_S (fun q => base ≤ q) s.heap H locs) (hs1 : mj_sh (.new idx, E.2) pc ls st h = some S) (K : mj_KH p l e R s m args below meth c Q D cA ρ base hs S) :
    W p l e R s m args below meth c H locs (h.length - hs.length) (mj_sz h - mj_sz hs) Q (F0 m pc rs (st.map (mj_tv ρ))) := by
  obtain ⟨r, fs, hc, hf, hn, hin, hty, hw1, hw2, hw3, hdf, hnr⟩ := hok
  dsimp only at hc hf hn hty hdf
  dsimp only [mj_sh] at hs1
  rw [hf] at hs1
  cases hs1
  dsimp only at hroom
  have ecs : mj_cs (.inr (E.2.1, fs)) = r.2.2 := by
    show mj_csl[E.2.1]?.getD 0 = r.2.2
    rw [hn]
    rfl
  rw [List.length_append, mj_sz_push, ecs] at hroom
  obtain ⟨hr1, hr2, hr3⟩ := hroom
  have hr1' : h.length + 1 ≤ mj_CB := hr1
  have hr2' : h.length + 1 - hs.length ≤ R.cells := hr2
  have efs : fs.map (mj_tv ρ) = fs := by
    have : fs.map (mj_tv ρ) = fs.map id := List.map_congr_left fun v hv => hnr v hv ρ
    rw [this, List.map_id]
  refine va_new (ci := E.2.1) (fs := fs) hx hb hts hin _ hty hown (hts _ hw1) (hts _ hw2) (hts _ hw3) hX.1 hP mj_D hS (fun q hq => by show base ≤ q; omega) hc hdf (by omega) (by omega) hd (fun q H1 hP1 hD1 hS1 => ?_)
  exact mj_new_K hX hlr hsz hle hlz (by omega) K rfl (by rw [ecs]) (by unfold mj_cv; dsimp only; rw [efs]; exact hP1) (by unfold mj_cv; dsimp only; rw [efs]; exact hD1) hS1
end MJI
