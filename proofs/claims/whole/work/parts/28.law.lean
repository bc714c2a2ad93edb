/-! The law's own frame: its script stands before the run; the small machine reads it by two places of its own. -/
/-- one step in the law's frame: n steps and d calls for what it calls -/
def mj_lwC (G : mj_G) (n d : Nat) (E : mj_E) (pc : Nat) (ls : mj_L) (st : List Value) (h : mj_H) : Option mj_S :=
  if E.2.2.1 ≤ st.length ∧ ((st.drop E.2.2.1).map fun v => v.category).sum ≤ 8 then
    if 9000 ≤ E.2.1 then match mj_prim (E.2.1 - 9000) (st.take E.2.2.1).reverse h with
      | some (v, h') => some (pc + 3, ls, v.toList ++ st.drop E.2.2.1, h')
      | none => none
    else if mj_rcv E.2.2.2 (st.take E.2.2.1).reverse h = true ∧ (mj_ent (st.take E.2.2.1).reverse).length ≤ G.2.1 E.2.1 then match mj_ev G n d E.2.1 (0, mj_entry (G.2.1 E.2.1) (st.take E.2.2.1).reverse, [], h) with
      | some (.inl v, h') => some (pc + mj_ivl E.1, ls, v.toList ++ st.drop E.2.2.1, h')
      | _ => none
    else none
  else none
def mj_lwX (E : mj_E) (pc : Nat) (ls : mj_L) (st : List Value) (h : mj_H) : Option mj_S := match mj_sp E pc ls st with
  | some F => some (F.1, F.2.1, F.2.2, h)
  | none => mj_sh E pc ls st h
def mj_lwS (G : mj_G) (L : Nat) (xs : Nat → Int32) (n d : Nat) (E : mj_E) (pc : Nat) (ls : mj_L) (st : List Value) (h : mj_H) : Option mj_S := match E.1 with
  | .aload_n k => match mj_ld ls k with
    | some (.retAddr 1) => some (pc + 1, ls, .retAddr 1 :: st, h)
    | _ => mj_lwX E pc ls st h
  | .arraylength => match st with
    | .retAddr 1 :: r => some (pc + 1, ls, .int (Int32.ofNat L) :: r, h)
    | _ => mj_lwX E pc ls st h
  | .iaload => match st with
    | .int i :: .retAddr 1 :: r => if mj_inb i L = true then some (pc + 1, ls, .int (xs i.toNatClampNeg) :: r, h) else none
    | _ => mj_lwX E pc ls st h
  | .invokevirtual _ => mj_lwC G n d E pc ls st h
  | .invokespecial _ => mj_lwC G n d E pc ls st h
  | .invokestatic _ => mj_lwC G n d E pc ls st h
  | .invokeinterface _ _ => mj_lwC G n d E pc ls st h
  | _ => mj_lwX E pc ls st h
section MJW
variable {p : Program} {l : Launch} {e : Env} {R : Room} {s : State} {m : MethodId} {args : Array Value} {below : List Frame} {meth : Method} {c : Code} {T : State} {H H1 : Heap} {locs : List Loc} {cells slots : Nat} {Q : State → Prop}
variable {D : va_G} {cA ρ : Nat → Nat} {base : Nat} {G : mj_G} {Ts : List Cond} {M : mj_M} {pc : Nat} {E : mj_E} {ls : mj_L} {st : List Value} {h : mj_H} {rs : Array Slot} {S : mj_S} {row : mj_Row} {b L n d : Nat} {xs : Nat → Int32}
/-- what the law's frame knows -/
def mj_Lx (p : Program) (l : Launch) (R : Room) (s : State) (m : MethodId) (args : Array Value) (meth : Method) (c : Code) (D : va_G) (cA ρ : Nat → Nat) (base : Nat) (G : mj_G) (Ts : List Cond) (M : mj_M) (row : mj_Row) (b L : Nat) (xs : Nat → Int32) : Prop :=
  mj_good G Ts M ∧ l.stackTraces = false ∧ p.tables.exec = Jvm.exec ∧ c.code = row.1.2.1 ∧ c.maxLocals = row.1.2.2.1 ∧ s.vm.findClass row.1.1.cls = some m.cls ∧ (∀ w ∈ Ts, w.before args s = true) ∧ mj_Y D cA ρ base s ∧ s.heap.size = base ∧ (mj_ckM row = true ∧ ∀ x ∈ mj_wl row, mj_okW Ts M row.1 x.1 x.2) ∧ meth.name = row.1.1.name ∧
  va_X b L xs s s.heap ∧ b < s.heap.size ∧ ρ (2 * mj_CB + 2) = 1 ∧ ρ (2 * mj_CB + 3) = b
theorem mj_lwX_ok (F : mj_Lx p l R s m args meth c D cA ρ base G Ts M row b L xs) (hE : mj_get row.2.2 pc = some E) (hmk : mj_mk E = false) (hlen : ls.length = row.1.2.2.1) (hroom : S.2.2.2.length ≤ mj_CB ∧ S.2.2.2.length ≤ R.cells ∧ mj_sz S.2.2.2 ≤ R.slots)
    (hlr : mj_lr ρ ls rs) (hP : va_P D mj_cls (mj_ws ρ cA base h) H) (hS : va_S (fun q => base ≤ q) s.heap H locs) (h0 : mj_lwX E pc ls st h = some S) (K : mj_KH p l e R s m args below meth c Q D cA ρ base [] S) :
    W p l e R s m args below meth c H locs (h.length - 0) (mj_sz h - mj_sz []) Q (F0 m pc rs (st.map (mj_tv ρ))) := by
  obtain ⟨hgood, hl, hx, hb, hml, hown, hts, hY, hsz, ⟨hck, hwl⟩, hnm, hXs, hbl, hρ1, hρ2⟩ := F
  have hm := mj_get_of hE
  obtain ⟨ch, hc1, hc2⟩ := List.mem_flatten.mp hm
  obtain ⟨hdec, hokP, -⟩ := mj_ck1_ok (List.all_eq_true.mp (List.all_eq_true.mp hck ch hc1) _ hc2)
  have hokH : mj_okH Ts row.1.1.cls (row.1.1.name = "<init>") E := by
    have hw : mj_okW Ts M row.1 pc E := by
      cases hp : mj_pl E.1 with
      | true => exact mj_okW_pl hp
      | false => exact hwl (pc, E) (List.mem_filter.mpr ⟨hm, by rw [hp]; rfl⟩)
    exact hw.1 hmk
  have hconst : ¬ base ≤ ρ mj_CB := by
    obtain ⟨cell, -, -, -, h4⟩ := hY.2.2.2.2.2.2.2
    exact h4
  unfold mj_lwX at h0
  split at h0
  · rename_i F1 hF
    cases h0
    exact mj_sp_ok hx hb hdec hokP ⟨hY.1.2.1, hconst⟩ hlr hF fun rs' hlr' => K rs' H locs hlr' hP hS
  · have hd := mj_dec_of hdec (fun d lo hi o q => by
      obtain ⟨ins, e2⟩ := E
      cases q
      cases h0) (fun d o q => by
      obtain ⟨ins, e2⟩ := E
      cases q
      cases h0)
    exact mj_sh_ok (hs := []) hY.2.2.2.2.2.1 hx hb hts hown hY.1 hgood.1 hd (by rw [hnm]; exact hokH) hsz (Nat.zero_le _) (Nat.zero_le _) hroom hlr hP hS h0 K
theorem mj_lwC_ok (F : mj_Lx p l R s m args meth c D cA ρ base G Ts M row b L xs) (hE : mj_get row.2.2 pc = some E) (hI : mj_isI E.1 = true) (hRf : d + 1 + 20 ≤ R.frames) (hRl : 64 * (d + 1) + 600 ≤ R.locals) (hlen : ls.length = row.1.2.2.1) (hroom : S.2.2.2.length ≤ mj_CB ∧ S.2.2.2.length ≤ R.cells ∧ mj_sz S.2.2.2 ≤ R.slots)
    (hlr : mj_lr ρ ls rs) (hP : va_P D mj_cls (mj_ws ρ cA base h) H) (hS : va_S (fun q => base ≤ q) s.heap H locs) (h0 : mj_lwC G n d E pc ls st h = some S) (K : mj_KH p l e R s m args below meth c Q D cA ρ base [] S) :
    W p l e R s m args below meth c H locs (h.length - 0) (mj_sz h - mj_sz []) Q (F0 m pc rs (st.map (mj_tv ρ))) := by
  obtain ⟨hgood, hl, hx, hb, hml, hown, hts, hY, hsz, ⟨hck, hwl⟩, hnm, hXs, hbl, hρ1, hρ2⟩ := F
  have hm := mj_get_of hE
  obtain ⟨ch, hc1, hc2⟩ := List.mem_flatten.mp hm
  obtain ⟨hdec, hokP, -⟩ := mj_ck1_ok (List.all_eq_true.mp (List.all_eq_true.mp hck ch hc1) _ hc2)
  have hok : if 9000 ≤ E.2.1 then mj_okN Ts row.1.1.cls E else mj_okC Ts row.1.1.cls M E := by
    have hw : mj_okW Ts M row.1 pc E := by
      cases hp : mj_pl E.1 with
      | true => exact mj_okW_pl hp
      | false => exact hwl (pc, E) (List.mem_filter.mpr ⟨hm, by rw [hp]; rfl⟩)
    exact hw.2.2 hI
  have hd : decode row.1.2.1 pc = .ok (E.1, mj_ivl E.1) := by
    have h1 := mj_dec_of hdec (fun d lo hi o q => by rw [q] at hI; cases hI) (fun d o q => by rw [q] at hI; cases hI)
    obtain ⟨ins, e2⟩ := E
    cases ins with
    | invokevirtual i => exact h1
    | invokespecial i => exact h1
    | invokestatic i => exact h1
    | invokeinterface i k => exact h1
    | _ => cases hI
  unfold mj_lwC at h0
  split at h0
  rotate_left
  · cases h0
  rename_i hc
  obtain ⟨hc1', hcat⟩ := hc
  have hnn : (st.take E.2.2.1).reverse.length = E.2.2.1 := by
    rw [List.length_reverse, List.length_take]
    omega
  split at h0
  · rename_i h9
    rw [if_pos h9] at hok
    split at h0
    · rename_i v h1 hp
      cases h0
      have hd3 : decode row.1.2.1 pc = .ok (E.1, 3) := by
        obtain ⟨ins, e2⟩ := E
        cases ins with
        | invokestatic i => exact hd
        | invokevirtual i => exact hd
        | invokespecial i => exact hd
        | _ => exact hok.elim
      exact mj_prim_ok (hs := []) (as := (st.take E.2.2.1).reverse) (rest := st.drop E.2.2.1) hx hb (hml.trans (hlen.symm.trans hlr.1.symm)) hts hown hY hgood.1 (by omega) (by omega) hcat hsz (Nat.zero_le _) (Nat.zero_le _) hroom hok hd3 (mj_rev_take _ _) hnn hlr hP hS hp K
    · cases h0
  · rename_i h9
    rw [if_neg h9] at hok
    split at h0
    rotate_left
    · cases h0
    rename_i hrc
    split at h0
    · rename_i v h1 hev
      cases h0
      have hm1 := mj_ev_le G n _ _ _ _ hev
      obtain ⟨b', b1, b2, b3, b4⟩ := mj_Ct_of hgood hl (mj_main (D := D) (cA := cA) (ρ := ρ) (base := base) hgood hl n) hev hrc.2 hroom.1
      exact mj_callQ (hs := []) (as := (st.take E.2.2.1).reverse) (rest := st.drop E.2.2.1) (o1 := .inl v) (h1 := h1) hgood hx hb hml hown hts hY hsz b1 b2 b3 b4 hok hd hlen hRf hRl (Nat.zero_le _) (Nat.zero_le _) hm1 hroom.2.1 hroom.2.2 (mj_rev_take _ _) hnn hcat hrc.1 hlr hP hS rfl K
    · cases h0
set_option maxHeartbeats 1000000 in
/-- one step of the law -/
theorem mj_lwS_ok (F : mj_Lx p l R s m args meth c D cA ρ base G Ts M row b L xs) (hE : mj_get row.2.2 pc = some E) (hmk : mj_mk E = false) (hRf : d + 1 + 20 ≤ R.frames) (hRl : 64 * (d + 1) + 600 ≤ R.locals) (hlen : ls.length = row.1.2.2.1) (hroom : S.2.2.2.length ≤ mj_CB ∧ S.2.2.2.length ≤ R.cells ∧ mj_sz S.2.2.2 ≤ R.slots)
    (h0 : mj_lwS G L xs n d E pc ls st h = some S) (K : mj_KH p l e R s m args below meth c Q D cA ρ base [] S) : mj_KH p l e R s m args below meth c Q D cA ρ base [] (pc, ls, st, h) := by
  intro rs H locs hlr hP hS
  dsimp only at hlr hP ⊢
  have F0 := F
  obtain ⟨hgood, hl, hx, hb, hml, hown, hts, hY, hsz, ⟨hck, hwl⟩, hnm, hXs, hbl, hρ1, hρ2⟩ := F
  have hm := mj_get_of hE
  obtain ⟨ch, hc1, hc2⟩ := List.mem_flatten.mp hm
  obtain ⟨hdec, -, -⟩ := mj_ck1_ok (List.all_eq_true.mp (List.all_eq_true.mp hck ch hc1) _ hc2)
  have htv : mj_tv ρ (.retAddr 1) = .ref b := by
    show va_rf (if ρ (2 * mj_CB + 2) = 0 then none else some (ρ (2 * mj_CB + 3))) = _
    rw [hρ1, hρ2]
    rfl
  have hbA : ¬ (fun q : Nat => base ≤ q) b := by show ¬ base ≤ b; omega
  obtain ⟨ins, e2⟩ := E
  cases ins with
  | aload_n k =>
    dsimp only [mj_lwS] at h0
    split at h0
    · rename_i hld
      cases h0
      have hv := hlr.2.2 _ _ hld
      rw [htv] at hv
      have K := K rs H locs hlr hP hS
      dsimp only at K
      rw [List.map_cons, htv] at K
      exact lv_aload_n hx hb (mj_dec_of hdec (fun _ _ _ _ q => by cases q) (fun _ _ q => by cases q)) rfl hv K
    · exact mj_lwX_ok F0 hE hmk hlen hroom hlr hP hS h0 K
  | arraylength =>
    dsimp only [mj_lwS] at h0
    split at h0
    · cases h0
      have K := K rs H locs hlr hP hS
      dsimp only at K
      rw [List.map_cons, htv]
      exact va_slen (H0 := s.heap) hx hb hXs hbl hbA hS (mj_dec_of hdec (fun _ _ _ _ q => by cases q) (fun _ _ q => by cases q)) K
    · exact mj_lwX_ok F0 hE hmk hlen hroom hlr hP hS h0 K
  | iaload =>
    dsimp only [mj_lwS] at h0
    split at h0
    · split at h0
      · rename_i hin
        cases h0
        have K := K rs H locs hlr hP hS
        dsimp only at K
        rw [List.map_cons, List.map_cons, htv]
        exact va_sld (H0 := s.heap) hx hb hXs hbl hbA hS (mj_inb_of hin) (mj_dec_of hdec (fun _ _ _ _ q => by cases q) (fun _ _ q => by cases q)) K
      · cases h0
    · exact mj_lwX_ok F0 hE hmk hlen hroom hlr hP hS h0 K
  | invokevirtual i => exact mj_lwC_ok F0 hE rfl hRf hRl hlen hroom hlr hP hS h0 K
  | invokespecial i => exact mj_lwC_ok F0 hE rfl hRf hRl hlen hroom hlr hP hS h0 K
  | invokestatic i => exact mj_lwC_ok F0 hE rfl hRf hRl hlen hroom hlr hP hS h0 K
  | invokeinterface i k => exact mj_lwC_ok F0 hE rfl hRf hRl hlen hroom hlr hP hS h0 K
  | _ => exact mj_lwX_ok F0 hE hmk hlen hroom hlr hP hS h0 K
end MJW
