/-! 'throw new E(x, y)' of a class of exceptions of one's own. -/
section MFP
variable {p : Program} {l : Launch} {e : Env} {R : Room} {s : State} {m : MethodId} {args : Array Value} {below : List Frame} {meth : Method} {c : Code} {H H1 : Heap} {locs : List Loc} {cells slots : Nat} {Q : State → Prop}
variable {D : va_G} {cA ρ : Nat → Nat} {base : Nat} {cc : ByteArray} {Ts : List Cond} {own : String}
/-- a field is read, the cells as they are -/
theorem mf_gf {E : mj_E} {pc idx : Nat} {ls : mj_L} {rs : Array Slot} {st : List Value} {h : mj_H} {S : mj_S} (hx : p.tables.exec = Jvm.exec) (hb : c.code = cc) (hts : ∀ w ∈ Ts, w.before args s = true) (hown : s.vm.findClass own = some m.cls) (hX : mj_X D cA ρ base s) (hd : decode cc pc = .ok (.getfield idx, 3)) (hok : ∃ r ref, mj_fok Ts own idx E.2.1 E.2.2.1 r ref)
    (hP : va_P D mj_cls (mj_ws ρ cA base h) H) (hS : va_S (fun q => base ≤ q) s.heap H locs) (hs1 : mj_gf E pc ls st h = some S) (K : W p l e R s m args below meth c H locs cells slots Q (F0 m S.1 rs (S.2.2.1.map (mj_tv ρ)))) :
    W p l e R s m args below meth c H locs cells slots Q (F0 m pc rs (st.map (mj_tv ρ))) := by
  obtain ⟨r, ref, hc, hk, hin, hlk, hsm⟩ := hok
  obtain ⟨a, st1, rfl, h2⟩ := mj_pR_of hs1
  split at h2
  · rename_i c1 fs hr
    split at h2
    · rename_i e1
      subst e1
      split at h2
      · rename_i v hv
        cases h2
        rcases mj_rdO_of hr with ⟨h3, h4⟩ | ⟨h3, h4⟩
        · have hP1 := mj_one hP h4
          rw [List.map_cons, show mj_tv ρ (.ref a) = .ref (base + a) by rw [← hX.2.1 a h3]; rfl]
          rcases hlk with hlk | ⟨host, hlk⟩
          · exact va_get (ci := E.2.2.1) (q0 := 0) hx hb hts hin hown hX.1 hP1 rfl hc E.2.1 hk (hts _ hlk) (mj_same hts hsm) (v := mj_tv ρ v) (by rw [List.getElem?_map, hv]; rfl) hd K
          · exact va_getN (ci := E.2.2.1) (q0 := 0) hx hb hts hin hown hX.1 hP1 rfl hc E.2.1 hk (hts _ hlk) (mj_same hts hsm) (v := mj_tv ρ v) (by rw [List.getElem?_map, hv]; rfl) hd K
        · obtain ⟨hO, hF⟩ := hX.2.2.1 _ _ _ _ h4 hc
          have hF := hF _ _ hv
          rw [mj_cb a h3] at hF
          rcases hlk with hlk | ⟨host, hlk⟩
          · exact vk_getf hx hb hF hS hown (hts _ hlk) (mj_same hts hsm) hd K
          · obtain ⟨cf, kf, fi, f, cell, h1, h2, h3, h4, h5, h6⟩ := hF.kept hS.2.1
            exact va_Wgetf hx hb hown (hts _ hlk) (mj_same hts hsm _ h1) h2 h3 h4 (v := mj_tv ρ v) h5 rfl rfl hd K
      · cases h2
    · cases h2
  · cases h2
/-- the pushes -/
theorem mf_pu (hx : p.tables.exec = Jvm.exec) (hb : c.code = cc) (hts : ∀ w ∈ Ts, w.before args s = true) (hown : s.vm.findClass own = some m.cls) (hX : mj_X D cA ρ base s) (hconst : ¬ base ≤ ρ mj_CB) {h : mj_H} (hP : va_P D mj_cls (mj_ws ρ cA base h) H) (hS : va_S (fun q => base ≤ q) s.heap H locs) :
    ∀ (L : List mj_E) (pc : Nat) (ls : mj_L) (rs : Array Slot) (st st2 : List Value), mj_okU Ts own cc pc L → mj_lr ρ ls rs → mj_pu L pc ls st h = some st2 → (∀ rs' : Array Slot, rs'.size = rs.size → W p l e R s m args below meth c H locs cells slots Q (F0 m (mj_pe L pc) rs' (st2.map (mj_tv ρ)))) →
      W p l e R s m args below meth c H locs cells slots Q (F0 m pc rs (st.map (mj_tv ρ)))
  | [], pc, ls, rs, st, st2, _, _, h0, K => by
    cases h0
    exact K rs rfl
  | E :: r, pc, ls, rs, st, st2, ⟨hd, hok, hokH, hr⟩, hlr, h0, K => by
    unfold mj_pu at h0
    split at h0
    · rename_i idx he
      split at h0
      · rename_i S hS1
        split at h0
        · rename_i hpc
          have hd' : decode cc pc = .ok (.getfield idx, 3) := by rw [hd, he]; rfl
          have hokH' : ∃ r ref, mj_fok Ts own idx E.2.1 E.2.2.1 r ref := by
            unfold mj_okH at hokH
            rw [he] at hokH
            exact hokH
          refine mf_gf hx hb hts hown hX hd' hokH' hP hS hS1 ?_
          have hls : S.2.1 = ls := by
            obtain ⟨a, st1, rfl, h2⟩ := mj_pR_of hS1
            split at h2
            · split at h2
              · split at h2
                · cases h2; rfl
                · cases h2
              · cases h2
            · cases h2
          rw [hls] at h0
          rw [hpc] at h0 ⊢
          exact mf_pu hx hb hts hown hX hconst hP hS r _ ls rs _ st2 hr hlr h0 K
        · cases h0
      · cases h0
    · split at h0
      · rename_i F hF
        split at h0
        · rename_i hpc
          refine mj_sp_ok hx hb (Or.inl hd) hok ⟨hX.2.1, hconst⟩ hlr hF fun rs' hlr' => ?_
          rw [hpc] at h0 ⊢
          have e9 : rs'.size = rs.size := by rw [hlr'.1, hlr.1]; exact mj_sp_len hF
          exact mf_pu hx hb hts hown hX hconst hP hS r _ F.2.1 rs' _ st2 hr hlr' h0 (fun rs2 h2 => K rs2 (h2.trans e9))
        · cases h0
      · cases h0
end MFP
def mf_Pc (D : va_G) (cA ρ : Nat → Nat) (base : Nat) (r : vw_C) (x y : Int32) (h : mj_H) : Array Value → State → Prop := fun a U => a = #[.ref (base + h.length), .int x, .int y] ∧ mj_Y D cA ρ base U ∧ U.heap.size = base + h.length + 1 ∧ va_P D mj_cls (mj_ws ρ cA base h) U.heap ∧ ∃ (cX : ClassId) (kX : Class), U.vm.findClass r.1 = some cX ∧ U.vm.classes[cX]? = some kX ∧ U.heap[base + h.length]? = some (freshCell cX kX)
theorem mf_blind (D : va_G) (cA ρ : Nat → Nat) (base : Nat) (r : vw_C) (x y : Int32) (h : mj_H) : FrameBlind (mf_Pc D cA ρ base r x y h) := by
  intro a U g mk ⟨h1, h2, h3, h4, h5⟩
  exact ⟨h1, h2.go (U := U.calling g mk a) (State.WarmedH.refl U) (fun _ _ _ => rfl), h3, h4, h5⟩
abbrev mf_rm : Room := { frames := 8, cells := 0, slots := 0, locals := 200 }
theorem mf_pf {ci k i1 pc : Nat} {ls : mj_L} {v : Value} {fs : List Value} {st : List Value} {h : mj_H} {a : Nat} (ha : a < mj_CB) (hr : h[a]? = some (.inr (ci, fs))) (hk : k < fs.length) (hf : mj_fit (mj_cty ci k) v = true) : mj_pf (.putfield i1, k, ci, 0) pc ls (v :: .ref a :: st) h = some (pc + 3, ls, st, h.set a (.inr (ci, fs.set k v))) := by
  show (if a < mj_CB then match mj_rdO h a with
    | some (c, fs) => if c = ci ∧ k < fs.length ∧ mj_fit (mj_cty c k) v = true then some (pc + 3, ls, st, h.set a (.inr (c, fs.set k v))) else none
    | none => none
    else none) = _
  have e : mj_rdO h a = some (ci, fs) := by
    unfold mj_rdO mj_rd
    rw [if_pos ha, hr]
  rw [if_pos ha, e]
  dsimp only
  rw [if_pos ⟨rfl, hk, hf⟩]
set_option maxRecDepth 10000 in
set_option maxHeartbeats 2000000 in
/-- what the constructor does -/
theorem mf_met {l : Launch} {D : va_G} {cA ρ : Nat → Nat} {base ci : Nat} {Ts : List Cond} {r : vw_C} {x y : Int32} {h : mj_H} (hF0 : mj_okF0 Ts ci r) (hl : l.stackTraces = false) (hcb : h.length < mj_CB) (hy : mj_fit .char (.int y) = true) :
    ∃ cb : ByteArray, Cond.code ⟨r.1, "<init>", "(IC)V"⟩ cb 3 none ∈ Ts ∧ mx_Met l ⟨r.1, "<init>", "(IC)V"⟩ (mj_wsy true Ts (⟨r.1, "<init>", "(IC)V"⟩, cb, 3, none, [])) mf_rm (mf_Pc D cA ρ base r x y h) (mj_Qc D cA ρ base (.inl none) (h ++ [.inr (ci, [.int x, .int y])])) (mj_XC D cA ρ base (.inl none) (h ++ [.inr (ci, [.int x, .int y])])) 0 0 (fun q => base ≤ q) := by
  obtain ⟨iS, i1, i2, cb, hr, hr2, hsl, hpl, hini, hins, hinst, hcode, d0, d1, d4, d5, d6, d9, d10, d11, d14, hp1, hp2, hat, hot, hin, hty, ht0, ht1, hnm⟩ := hF0
  refine ⟨cb, hcode, mx_ofW (Bundle.fit_spec hpl).1 rfl fun p e s m args below meth c s₁ B hml ht ⟨hargs, hY, hsz, hP, cX, kX, hfc, hkX, hcell⟩ => ?_⟩
  have hts0 := atoms_spec (ws := mj_wsy true Ts (⟨r.1, "<init>", "(IC)V"⟩, cb, 3, none, [])) B.pre
  have hts : ∀ w ∈ Ts, w.before args s = true := fun w hw => hts0 w (List.mem_cons_of_mem _ hw)
  have hx := B.exec
  have hb : c.code = cb := B.bytes
  have hown : s.vm.findClass r.1 = some m.cls := findClass_of_methodNamed B.named
  have hret := B.returns
  have hlocks := B.notSynchronized
  have hnmi : meth.name = "<init>" := (name_of_methodNamed B.named B.method).1
  have hconst : ¬ base ≤ ρ mj_CB := by
    obtain ⟨cell, -, -, -, h4⟩ := hY.2.2.2.2.2.2.2
    exact h4
  have hρ : (∀ i, i < mj_CB → ρ i = base + i) ∧ ¬ base ≤ ρ mj_CB := ⟨hY.1.2.1, hconst⟩
  have hlr := mj_entry_lr (ρ := ρ) (as := [.ref h.length, .int x, .int y]) (n := 3) (Nat.le_refl 3)
  have hls : mj_entry 3 [.ref h.length, .int x, .int y] = [some (.ref h.length), some (.int x), some (.int y)] := rfl
  have has : ([.ref h.length, .int x, .int y] : List Value).map (mj_tv ρ) = [.ref (base + h.length), .int x, .int y] := by
    show [Value.ref (ρ h.length), .int x, .int y] = _
    rw [hY.1.2.1 _ hcb]
  rw [hls, has] at hlr
  rw [show args = ([.ref (base + h.length), .int x, .int y] : List Value).toArray from hargs, lg_entry_eq]
  rw [show args = ([.ref (base + h.length), .int x, .int y] : List Value).toArray from hargs] at hts hts0
  generalize (([.ref (base + h.length), .int x, .int y] : List Value).toArray) = args' at hts hts0 ⊢
  have hsz3 : c.maxLocals = 3 := hml
  generalize ((lg_sl ([.ref (base + h.length), .int x, .int y] : List Value) ++ List.replicate (3 - (lg_sl ([.ref (base + h.length), .int x, .int y] : List Value)).length) Slot.unset).toArray) = rs0 at hlr ⊢
  refine mj_sp_ok (E := (.aload_n 0, 0, 0, 0)) (st := []) hx hb (Or.inl d0) rfl hρ hlr (F := (1, _, [.ref h.length])) rfl fun rs1 hlr1 => ?_
  have etv : mj_tv ρ (.ref h.length) = .ref (base + h.length) := by
    show Value.ref (ρ h.length) = _
    rw [hY.1.2.1 _ hcb]
  dsimp only
  rw [List.map_cons, etv, List.map_nil]
  intro T hT X
  have htr : e.platform.stackTraces = false := (show e.platform.stackTraces = l.stackTraces by rw [X.admits.platform]).trans hl
  have hall : ∀ w ∈ mf_own r.1 iS 8 r.1 "java/lang/Exception" [], w.before args' s = true := mx_own (fun w hw => hts _ (hat w hw)) (mx_isRefq hY.2.1.1) (mx_isRefq hY.2.2.1.1) hY.2.1.2.word hY.2.2.1.2.word
  obtain ⟨V, ce, L, Z, hL, hlt, hVh, hcl9, hvm9, hslots, stp⟩ := mf_ctor X hx htr (own := r.1) (cls := r.1) (X0 := "java/lang/Exception") (names := []) (ic := iS) (n := 8) hown (by decide +kernel) (fun _ q => nomatch q) hall (fun x hx => nomatch hx) hfc hkX (a := base + h.length) (by rw [hT]; exact hcell)
    (g := F0 m 1 rs1 [.ref (base + h.length)]) rfl (hlr1.1.trans hsz3.symm) rfl (by rw [hb]; exact d1) (by show 0 + 3 < 8; decide) (by show 2 * 0 + 0 + (13 * (0 + 1) + 41) ≤ 200; decide)
  have hself : (V.setCell (base + h.length) ce).heap[base + h.length]? = some ce := heapAt_setCell_self (s := V) ce hlt
  obtain ⟨f1, f2⟩ := mx_frame Z.same
  have hlL : ∀ z ∈ ([] ++ L), z.base = base + h.length := fun z hz => hL z (by simpa using hz)
  have hKn := hY.1.1.1 ci r hr
  have hfr : t_OB (base + h.length) (D.1 ci) r.2.2 (D.2 ci) (V.setCell (base + h.length) ce).heap (vp_V [.int 0, .int 0]) := by
    have hcX : cX = D.1 ci := Option.some.inj (hfc.symm.trans hKn.2.1)
    refine ⟨ce, hself, by rw [hcl9, hcX], hvm9, fun k hk => ?_⟩
    obtain ⟨cf, kf, fi, fd, hi, he⟩ := hKn.1 k hk
    have hw := u_lays hts hin hk
    have hft := State.fieldFound?_type hi (hty k hk)
    rw [hr2] at hk
    obtain ⟨n1, n2, n3⟩ := hnm k hk
    have h3 := (u_facts hfc hkX hw hi).2.2
    rw [← he, hslots _ _ _ _ _ _ _ hi hw (by rw [hft.1]; exact n1) (by rw [hft.1]; exact n2) (by rw [hft.1]; exact n3)]
    rw [hft.2] at h3
    have h5 : (blank cX kX).slots[fd.slot]? = some (defaultValue (mj_cty ci k)) := k2_blank h3
    refine Eq.trans (show (freshCell cX kX).slots[fd.slot]? = _ from h5) ?_
    match k, hk with
    | 0, _ => rw [ht0]; rfl
    | 1, _ => rw [ht1]; rfl
  have hN : mj_ws ρ cA base (h ++ [.inr (ci, [.int 0, .int 0])]) = mj_ws ρ cA base h ++ [(base + h.length, .inr (ci, [.int 0, .int 0]))] := mj_ws_push
  have hP3 : va_P D mj_cls (mj_ws ρ cA base (h ++ [.inr (ci, [.int 0, .int 0])])) (V.setCell (base + h.length) ce).heap := by
    rw [hN]
    intro k q hk
    have hln : (mj_ws ρ cA base h).length = h.length := by unfold mj_ws; rw [List.length_mapIdx]
    by_cases hl2 : k < h.length
    · rw [List.getElem?_append_left (by omega)] at hk
      have hq := mj_ws_of hk
      exact (hP k q hk).kept (f2 _ (hP k q hk).lt (fun z hz e => by
        have h1 := hlL z hz
        have h2 := hq.2
        rw [h1] at e
        have e2 : @Eq Nat (base + h.length) q.1 := e
        omega))
    · rw [List.getElem?_append_right (by omega), hln] at hk
      have hz : k - h.length < 1 := (List.getElem?_eq_some_iff.mp hk).1
      rw [show k - h.length = 0 by omega] at hk
      cases hk
      exact ⟨r, hr, hfr⟩
  have hS3 : va_S (fun q => base ≤ q) s.heap (V.setCell (base + h.length) ce).heap ([] ++ L) := ⟨f1, fun q h1 h2 => f2 q h1 (fun z hz e => by
      have h3 : ¬ base ≤ q := h2
      rw [hlL z hz] at e
      have e2 : @Eq Nat (base + h.length) q := e
      omega), fun z hz => by
      show base ≤ z.base
      rw [hlL z hz]
      omega⟩
  have kk : W p l e mf_rm s m args' below meth c (V.setCell (base + h.length) ce).heap ([] ++ L) 0 0 (mx_MQ below (mj_Qc D cA ρ base (.inl none) (h ++ [.inr (ci, [.int x, .int y])])) (mj_XC D cA ρ base (.inl none) (h ++ [.inr (ci, [.int x, .int y])])) args' s 0 0 (fun q => base ≤ q)) (F0 m 4 rs1 (([] : List Value).map (mj_tv ρ))) := by
    refine mj_sp_ok (E := (.aload_n 0, 0, 0, 0)) (st := []) hx hb (Or.inl d4) rfl hρ hlr1 (F := (5, _, [.ref h.length])) rfl fun rs2 hlr2 => ?_
    refine mj_sp_ok (E := (.iload_n 1, 0, 0, 0)) hx hb (Or.inl d5) rfl hρ hlr2 (F := (6, _, [.int x, .ref h.length])) rfl fun rs3 hlr3 => ?_
    have hlen0 : (h ++ [(.inr (ci, [.int 0, .int 0]) : mj_C)])[h.length]? = some (.inr (ci, [.int 0, .int 0])) := by rw [List.getElem?_append_right (Nat.le_refl _), Nat.sub_self]; rfl
    have hsub0 : ∀ g : mj_H, g.length - g.length = 0 := fun g => Nat.sub_self _
    have hset : ∀ a b : mj_C, (h ++ [a]).set h.length b = h ++ [b] := fun a b => by rw [List.set_append_right _ _ (Nat.le_refl _), Nat.sub_self]; rfl
    have hszs : ∀ fs : List Value, mj_sz (h ++ [(.inr (ci, fs) : mj_C)]) = mj_sz h + 8 := fun fs => by
      rw [mj_sz_push]
      show mj_sz h + mj_csl[ci]?.getD 0 = _
      rw [hsl]
      rfl
    have k1 := mj_h_pf (E := (.putfield i1, 0, ci, 0)) (hs := h ++ [.inr (ci, [.int 0, .int 0])]) (pc := 6) (p := p) (l := l) (e := e) (R := mf_rm) (below := below) (Q := mx_MQ below (mj_Qc D cA ρ base (.inl none) (h ++ [.inr (ci, [.int x, .int y])])) (mj_XC D cA ρ base (.inl none) (h ++ [.inr (ci, [.int x, .int y])])) args' s 0 0 (fun q => base ≤ q)) (idx := i1) (c := c) (meth := meth) hx hb hts hown hY.1 d6 (by rw [hnmi]; exact hp1) hlr3 hP3 hS3 (mf_pf (v := .int x) (st := []) hcb hlen0 (by decide : 0 < 2) (by rw [ht0]; rfl)) ?_
    · rw [Nat.sub_self, Nat.sub_self] at k1
      exact k1
    intro rs4 H4 locs4 hlr4 hP4 hS4
    dsimp only at hlr4 hP4 ⊢
    rw [hset] at hP4 ⊢
    rw [show (h ++ [(.inr (ci, ([.int 0, .int 0] : List Value).set 0 (.int x)) : mj_C)]).length - (h ++ [(.inr (ci, [.int 0, .int 0]) : mj_C)]).length = 0 by simp, show mj_sz (h ++ [.inr (ci, ([.int 0, .int 0] : List Value).set 0 (.int x))]) - mj_sz (h ++ [.inr (ci, [.int 0, .int 0])]) = 0 by rw [hszs, hszs]; exact Nat.sub_self _]
    refine mj_sp_ok (E := (.aload_n 0, 0, 0, 0)) (st := []) hx hb (Or.inl d9) rfl hρ hlr4 (F := (10, _, [.ref h.length])) rfl fun rs5 hlr5 => ?_
    refine mj_sp_ok (E := (.iload_n 2, 0, 0, 0)) hx hb (Or.inl d10) rfl hρ hlr5 (F := (11, _, [.int y, .ref h.length])) rfl fun rs6 hlr6 => ?_
    have hlen1 : (h ++ [(.inr (ci, [.int x, .int 0]) : mj_C)])[h.length]? = some (.inr (ci, [.int x, .int 0])) := by rw [List.getElem?_append_right (Nat.le_refl _), Nat.sub_self]; rfl
    have k2 := mj_h_pf (E := (.putfield i2, 1, ci, 0)) (h := h ++ [.inr (ci, [.int x, .int 0])]) (hs := h ++ [.inr (ci, [.int x, .int 0])]) (pc := 11) (p := p) (l := l) (e := e) (R := mf_rm) (below := below) (Q := mx_MQ below (mj_Qc D cA ρ base (.inl none) (h ++ [.inr (ci, [.int x, .int y])])) (mj_XC D cA ρ base (.inl none) (h ++ [.inr (ci, [.int x, .int y])])) args' s 0 0 (fun q => base ≤ q)) (idx := i2) (c := c) (meth := meth) hx hb hts hown hY.1 d11 (by rw [hnmi]; exact hp2) hlr6 hP4 hS4 (mf_pf (v := .int y) (st := []) (fs := [.int x, .int 0]) (ci := ci) hcb hlen1 (by decide : 1 < 2) (by rw [ht1]; exact hy)) ?_
    · rw [Nat.sub_self, Nat.sub_self] at k2
      exact k2
    intro rs7 H7 locs7 hlr7 hP7 hS7
    dsimp only at hlr7 hP7 ⊢
    rw [hset] at hP7 ⊢
    rw [show (h ++ [(.inr (ci, ([.int x, .int 0] : List Value).set 1 (.int y)) : mj_C)]).length - (h ++ [(.inr (ci, [.int x, .int 0]) : mj_C)]).length = 0 by simp, show mj_sz (h ++ [.inr (ci, ([.int x, .int 0] : List Value).set 1 (.int y))]) - mj_sz (h ++ [.inr (ci, [.int x, .int 0])]) = 0 by rw [hszs, hszs]; exact Nat.sub_self _]
    exact mx_ret (W.vret hx hb hret (mj_end hP7 hS7 rfl) hS7.2.2 d14 hlocks)
  obtain ⟨t, a1, b1⟩ := kk _ rfl Z
  exact ⟨t, stp _ a1, b1⟩
section MFT
variable {p : Program} {l : Launch} {e : Env} {R : Room} {s : State} {m : MethodId} {args : Array Value} {below : List Frame} {meth : Method} {c : Code} {H H1 : Heap} {locs : List Loc} {cells slots : Nat} {Q : State → Prop}
variable {D : va_G} {cA ρ : Nat → Nat} {base : Nat} {G : mj_G} {Ts : List Cond} {M : mj_M} {mi pc : Nat} {E : mj_E} {ls : mj_L} {st : List Value} {h hs h' : mj_H} {rs : Array Slot} {o : mj_O}
set_option maxRecDepth 10000 in
set_option maxHeartbeats 2000000 in
theorem mj_flt_ok (hgood : mj_good G Ts M) (F : mj_Fx p l s m args meth c D cA ρ base G Ts M mi hs) {ik : Nat} (hE : E.1 = .new ik) (hd : decode (M mi).2.1 pc = .ok (.new ik, 3)) (hT : mj_okT Ts (M mi).1.cls (M mi).2.1 (M mi).2.2.2.2 pc E) (hE2 : 1 < E.2.2.2) (hlen : ls.length = G.2.1 mi)
    (hle : hs.length ≤ h.length) (hlz : mj_sz hs ≤ mj_sz h) (hcb : h'.length ≤ mj_CB) (hc1 : h'.length - hs.length ≤ R.cells) (hs1 : mj_sz h' - mj_sz hs ≤ R.slots) (hRf : 20 ≤ R.frames) (hRl : 300 ≤ R.locals)
    (hlr : mj_lr ρ ls rs) (hP : va_P D mj_cls (mj_ws ρ cA base h) H) (hS : va_S (fun q => base ≤ q) s.heap H locs) (hH : H.size = base + h.length) (h0 : mj_flt E pc ls st h = some (o, h')) :
    W p l e R s m args below meth c H locs (h.length - hs.length) (mj_sz h - mj_sz hs) (mj_MQ below D cA ρ base hs o h' args s) (F0 m pc rs (st.map (mj_tv ρ))) := by
  have F0' := F
  obtain ⟨hx, hb, hml, hown, hts, hret, hnm, hlocks, htab, hrel, hY, hsz, hl⟩ := F
  unfold mj_okT at hT
  rw [hE] at hT
  obtain ⟨r, ic, hF0, hh0, hw1, hw2, d3, hU, dI, dA⟩ := hT.1 hE2
  obtain ⟨hcat, hlt, x, y, hpu, hfit, ho⟩ := mj_flt_of h0
  cases ho
  obtain ⟨cb, hcode, hM⟩ := mf_met (l := l) (D := D) (cA := cA) (ρ := ρ) (base := base) (x := x) (y := y) (h := h) hF0 hl hlt hfit
  obtain ⟨iS, i1, i2, cb', hr, hr2, hsl, hpl, hini, hins, hinst, -⟩ := hF0
  have hconst : ¬ base ≤ ρ mj_CB := by
    obtain ⟨cell, -, -, -, h4⟩ := hY.2.2.2.2.2.2.2
    exact h4
  have etv : mj_tv ρ (.ref h.length) = .ref (base + h.length) := by
    show Value.ref (ρ h.length) = _
    rw [hY.1.2.1 _ hlt]
  have hsz8 : mj_sz (h ++ [(.inr (E.2.1, [.int x, .int y]) : mj_C)]) = mj_sz h + 8 := by
    rw [mj_sz_push]
    show mj_sz h + mj_csl[E.2.1]?.getD 0 = _
    rw [hsl]
    rfl
  have hln1 : (h ++ [(.inr (E.2.1, [.int x, .int y]) : mj_C)]).length = h.length + 1 := by rw [List.length_append]; rfl
  rw [hln1] at hc1 hcb
  rw [hsz8] at hs1
  have hfc : s.vm.findClass r.1 = some (D.1 E.2.1) := (hY.1.1.1 _ _ hr).2.1
  refine W.newcK (g := F0 m pc rs (st.map (mj_tv ρ))) hx hb hown (hts _ hw1) (hts _ hins) (hts _ hini) rfl hd (by omega) (by omega) hfc hH fun H' kC hkC e1 z1 o1 => ?_
  have hP' : va_P D mj_cls (mj_ws ρ cA base h) H' := hP.kept fun k q hk => o1 q.1 (by rw [← hH]; exact (hP k q hk).lt)
  have hS' : va_S (fun q => base ≤ q) s.heap H' locs := ⟨Nat.le_trans hS.1 (by omega), fun q h1 h2 => (o1 q (by rw [← hH]; exact Nat.lt_of_lt_of_le h1 hS.1)).trans (hS.2.1 q h1 h2), hS.2.2⟩
  show W p l e R s m args below meth c H' locs _ _ _ (F0 m (pc + 3) rs (.ref (base + h.length) :: st.map (mj_tv ρ)))
  refine lv_dup hx hb d3 rfl ?_
  have hst : (Value.ref (base + h.length) :: Value.ref (base + h.length) :: st.map (mj_tv ρ)) = (Value.ref h.length :: Value.ref h.length :: st).map (mj_tv ρ) := by rw [List.map_cons, List.map_cons, etv]
  rw [hst]
  refine mf_pu hx hb hts hown hY.1 hconst hP' hS' _ _ ls rs _ _ hU hlr hpu fun rs' hrs' => ?_
  have hst2 : ((.int y :: .int x :: .ref h.length :: .ref h.length :: st : List Value).map (mj_tv ρ)) = .int y :: .int x :: .ref (base + h.length) :: .ref (base + h.length) :: st.map (mj_tv ρ) := by
    rw [List.map_cons, List.map_cons, List.map_cons, List.map_cons, etv]
    rfl
  rw [hst2]
  intro T hT2 X
  have hws : ∀ w ∈ mj_wsy true Ts (⟨r.1, "<init>", "(IC)V"⟩, cb, 3, none, []), ∀ (a' : Array Value) (U : State), s.WarmedH U.vm → w.before a' U = true := fun w hw a' U hW => by
    rcases List.mem_cons.mp hw with rfl | hw
    · exact mj_gw_at hW (hgood.2.1 _ hcode) (hts _ hcode)
    · exact mj_gw_at hW (hgood.2.1 w hw) (hts w hw)
  have hinit : ∀ (a' : Array Value) (U : State), s.WarmedH U.vm → (Cond.initialized r.1).before a' U = true := fun a' U hW => mj_gw_at hW (hgood.2.1 _ hini) (hts _ hini)
  have hK := mx_back (R := R) (p := p) (e := e) (below := below) (s := s) (sargs := args) (len := 3) (W9 := 8) hM (mf_blind D cA ρ base r x y h) rfl rfl (by show 8 + 1 ≤ _; omega) (by show 8 + (3 + 11) + 200 ≤ _; omega) hws List.mem_cons_self hinit
  have hcatr : 2 * (F0 m (mj_pe (mj_fls E.2.2.1) (pc + 4)) rs' (.int y :: .int x :: .ref (base + h.length) :: .ref (base + h.length) :: st.map (mj_tv ρ))).monitorRoom + ((.ref (base + h.length) :: st.map (mj_tv ρ) : List Value).map fun v => v.category).sum ≤ 8 := by
    show 2 * 0 + ((Value.ref (base + h.length)).category :: (st.map (mj_tv ρ)).map fun v => v.category).sum ≤ 8
    rw [List.sum_cons, mj_cat_map]
    have : (Value.ref (base + h.length)).category = 1 := rfl
    omega
  have hout := mx_callI X hx (bytes := cb) (maxL := 3) hown rfl (hts _ hw2) (hts _ hinst) (hts _ hcode) (by
      have := (Bundle.fit_spec hpl).2
      exact this) hK (g := F0 m (mj_pe (mj_fls E.2.2.1) (pc + 4)) rs' (.int y :: .int x :: .ref (base + h.length) :: .ref (base + h.length) :: st.map (mj_tv ρ))) rfl (hrs'.trans (hlr.1.trans (hlen.trans hml.symm))) (a := base + h.length) (argsL := [.int x, .int y]) (rest := .ref (base + h.length) :: st.map (mj_tv ρ)) (fun sig hsg => by
      have : parseMethodDescriptor "(IC)V" = some sig := hsg
      have h9 : (parseMethodDescriptor "(IC)V").map (fun d => d.parameters.length) = some 2 := by decide +kernel
      rw [this] at h9
      exact (Option.some.inj h9).symm) rfl hcatr (by rw [hb]; exact dI)
    (fun vm₁ hW => ⟨by show h.length - hs.length + 1 + 0 ≤ _; omega, by show mj_sz h - mj_sz hs + 8 + 0 ≤ _; omega, rfl, hY.go (U := T.setVm vm₁) hW (fun a g1 g2 => by
        show T.heap[a]? = _
        rw [hT2]
        exact hS'.2.1 a g1 g2), by
        show T.heap.size = _
        rw [hT2, z1], by
        show va_P D mj_cls (mj_ws ρ cA base h) T.heap
        rw [hT2]
        exact hP', by
        obtain ⟨k', hk', he⟩ := hW.alike.2.2 _ _ hkC
        refine ⟨D.1 E.2.1, k', ?_, hk', ?_⟩
        · show vm₁.findClass r.1 = _
          rw [hW.alike.findClass]
          exact hfc
        · show T.heap[base + h.length]? = _
          rw [hT2, e1, he]
          rfl⟩)
  have hkeep : ∀ {t : State} {g : JFrame} {mk : MethodId} {a : Array Value} {vm₁ : Vm}, va_F (fun q => base ≤ q) ((T.setVm vm₁).calling g mk a) t → H'.size ≤ t.heap.size ∧ ∀ q : Nat, q < H'.size → ¬ base ≤ q → t.heap[q]? = H'[q]? := fun hF => by
    have hF' : va_F (fun q => base ≤ q) T _ := hF
    unfold va_F at hF'
    rw [hT2] at hF'
    exact hF'
  rcases hout with ⟨v, vm₁, ⟨U', l2, c2, s2⟩, hW₁, X', ⟨g', mk, t, L, e1', e2, ⟨⟨v', ho, hv⟩, hq2, hq3⟩, g1, hL, g2, g3⟩, st1⟩ | ⟨q, vm₁, ⟨U', l2, c2, s2⟩, hW₁, X', ⟨g', mk, t, L, En, ce, e1', e2, ⟨⟨i, ci, r, ho, hqi, hoc, hr, hrE⟩, hq2, hq3⟩, hce, hcv, hcl, g1, hL, g2, g3⟩, st1⟩
  rotate_left
  · cases ho
  dsimp only [Pt.U, Pt.locs, Pt.cells, Pt.slots] at X' e1' e2 g1 g2 g3 st1
  subst g1; subst g2; subst g3
  have hv2 : v = v'.map (mj_tv ρ) := Outcome.returned.inj hv
  cases ho
  subst hv2
  obtain ⟨k1, k2⟩ := hkeep hq3
  have hSn : va_S (fun q => base ≤ q) s.heap t.heap (locs ++ L) := ⟨Nat.le_trans hS'.1 k1, fun q q1 q2 => by
      rw [k2 q (Nat.lt_of_lt_of_le q1 hS'.1) q2]
      exact hS'.2.1 q q1 q2, fun q hq => by
      rcases List.mem_append.mp hq with hq | hq
      · exact hS'.2.2 q hq
      · exact hL q hq⟩
  have hoc : mj_ocl (h ++ [(.inr (E.2.1, [.int x, .int y]) : mj_C)]) h.length = some E.2.1 := by
    unfold mj_ocl mj_rdO mj_rd
    rw [if_pos hlt, List.getElem?_append_right (Nat.le_refl _), Nat.sub_self]
    rfl
  obtain ⟨ce, q1, q2, q3⟩ := mj_exc_cell hY.1 hq2 hlt hoc hr
  have hcov : ∀ z ∈ c.exceptionTable.toList, covers z (mj_pe (mj_fls E.2.2.1) (pc + 4) + 3) = false ∨ (z.catchType ≠ 0 ∧ ∃ nm : String, (Cond.classLink (M mi).1.cls z.catchType nm).before args s = true ∧ va_Nc r.1 nm s) := fun z hz => by
    rw [htab, hh0] at hz
    exact nomatch hz
  have kx : W p l e R s m args below meth c t.heap (locs ++ L) (h.length - hs.length + 1 + 0) (mj_sz h - mj_sz hs + 8 + 0) (mj_MQ below D cA ρ base hs (.inr h.length) (h ++ [.inr (E.2.1, [.int x, .int y])]) args s) (F0 m (mj_pe (mj_fls E.2.2.1) (pc + 4) + 3) rs' (.ref (ρ h.length) :: st.map (mj_tv ρ))) := by
    refine mx_athrow hx hb dA ?_
    exact mx_outP hown hlocks hcov q1 q2 q3 (fun t2 ht2 hv => ⟨⟨h.length, E.2.1, r, rfl, rfl, hoc, hr, rfl⟩, by rw [ht2]; exact hq2, hSn.F ht2⟩) hSn.2.2 (by rw [hln1]; omega) (by rw [hsz8]; omega)
  obtain ⟨t2, a1, b1⟩ := kx U' e1' X'
  refine ⟨t2, st1 _ ?_, b1⟩
  rw [hY.1.2.1 _ hlt] at a1
  exact a1
end MFT
