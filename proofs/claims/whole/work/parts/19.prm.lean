section MJP
variable {p : Program} {l : Launch} {e : Env} {R : Room} {s : State} {m : MethodId} {args : Array Value} {below : List Frame} {meth : Method} {c : Code} {T : State} {H H1 : Heap} {locs : List Loc} {cells slots : Nat} {Q : State → Prop}
variable {D : va_G} {cA ρ : Nat → Nat} {base : Nat} {Ts : List Cond} {own : String} {pc : Nat} {E : mj_E} {ls : mj_L} {h hs h1 : mj_H} {rs : Array Slot} {cc : ByteArray} {rest as st : List Value} {v : Option Value}
theorem mj_gc_ok {idx a : Nat} {x : vp_A} (hx : p.tables.exec = Jvm.exec) (hb : c.code = cc) (hml : c.maxLocals = rs.size) (hts : ∀ w ∈ Ts, w.before args s = true) (hown : s.vm.findClass own = some m.cls) (hX : mj_Y D cA ρ base s) (hRf : 1 ≤ R.frames) (hRl : 100 ≤ R.locals) (hcat : (rest.map fun v => v.category).sum ≤ 8)
    (hw1 : Cond.methodLink own idx ⟨"java/lang/Object", "getClass", "()Ljava/lang/Class;"⟩ ∈ Ts) (hw2 : Cond.selects "[Ljava/lang/Object;" ⟨"java/lang/Object", "getClass", "()Ljava/lang/Class;"⟩ ⟨"java/lang/Object", "getClass", "()Ljava/lang/Class;"⟩ ∈ Ts) (hw3 : Cond.instanceMethod ⟨"java/lang/Object", "getClass", "()Ljava/lang/Class;"⟩ ∈ Ts) (hw4 : Cond.native ⟨"java/lang/Object", "getClass", "()Ljava/lang/Class;"⟩ ∈ Ts) (hd : decode cc pc = .ok (.invokevirtual idx, 3))
    (hlr : mj_lr ρ ls rs) (hP : va_P D mj_cls (mj_ws ρ cA base h) H) (hS : va_S (fun q => base ≤ q) s.heap H locs) (h0 : mj_rdA h a = some (6, x)) (K : mj_KH p l e R s m args below meth c Q D cA ρ base hs (pc + 3, ls, .ref (mj_CB + 4) :: rest, h)) :
    W p l e R s m args below meth c H locs (h.length - hs.length) (mj_sz h - mj_sz hs) Q (F0 m pc rs (.ref (ρ a) :: rest.map (mj_tv ρ))) := by
  have hr : ∃ cell : Cell, H[ρ a]? = some cell ∧ cell.vm.isStatics = false ∧ s.vm.findClass "[Ljava/lang/Object;" = some cell.cls := by
    rcases mj_rdA_of h0 with ⟨ha, g1⟩ | ⟨ha, g1⟩
    · rw [hX.1.2.1 a ha]
      refine ⟨_, hP _ _ (mj_ws_at g1), ?_, ?_⟩
      · obtain ⟨n, f | f | f | f | f⟩ := x <;> rfl
      · have h1 := mj_nm_eq (hX.1.1.2 _ _ (mj_tys_at (cA := cA) (rfl : mj_tyl[6]? = some (.object "java/lang/Object")))).2
        rw [show "[" ++ (FieldType.object "java/lang/Object").toString = "[Ljava/lang/Object;" from by decide +kernel] at h1
        rw [h1]
        obtain ⟨n, f | f | f | f | f⟩ := x <;> rfl
    · have : a - mj_CB = 0 := by
        generalize a - mj_CB = k at g1
        unfold mj_cst at g1
        split at g1
        · rfl
        · cases g1
        · cases g1
        · cases g1
        · split at g1
          · cases g1
          · split at g1
            · split at g1
              · split at g1 <;> cases g1
              · cases g1
            · cases g1
      rw [show a = mj_CB by omega]
      exact va_Orecv hX.2.2.2.2.2.2.2 hS
  exact va_getC hx hb hml hown (hts _ hw1) hX.2.2.2.2.2.2.1.use (hts _ hw2) (hts _ hw3) (hts _ hw4) hX.2.2.2.2.2.1 hr hRf (by rw [mj_cat_map]; omega) hd (K rs H locs hlr hP hS)
theorem mj_cl_ok {idx a n : Nat} {f : Nat → Int32} (hx : p.tables.exec = Jvm.exec) (hb : c.code = cc) (hml : c.maxLocals = rs.size) (hts : ∀ w ∈ Ts, w.before args s = true) (hown : s.vm.findClass own = some m.cls) (hX : mj_X D cA ρ base s) (hRf : 1 ≤ R.frames) (hRl : 100 ≤ R.locals) (hcat : (rest.map fun v => v.category).sum ≤ 8) (hsz : s.heap.size = base + hs.length) (hle : hs.length ≤ h.length) (hlz : mj_sz hs ≤ mj_sz h)
    (hroom : h.length + 1 ≤ mj_CB ∧ h.length + 1 - hs.length ≤ R.cells ∧ mj_sz h + n - mj_sz hs ≤ R.slots)
    (hw1 : Cond.methodLink own idx ⟨"[B", "clone", "()Ljava/lang/Object;"⟩ ∈ Ts) (hw2 : Cond.sameMethod "[B" "java/lang/Object" "clone" "()Ljava/lang/Object;" ∈ Ts) (hw3 : Cond.native ⟨"java/lang/Object", "clone", "()Ljava/lang/Object;"⟩ ∈ Ts) (hw4 : Cond.instanceMethod ⟨"java/lang/Object", "clone", "()Ljava/lang/Object;"⟩ ∈ Ts) (hw5 : Cond.selects "[B" ⟨"[B", "clone", "()Ljava/lang/Object;"⟩ ⟨"java/lang/Object", "clone", "()Ljava/lang/Object;"⟩ ∈ Ts) (hw6 : Cond.castable "[B" "java/lang/Cloneable" ∈ Ts) (hd : decode cc pc = .ok (.invokevirtual idx, 3))
    (hlr : mj_lr ρ ls rs) (hP : va_P D mj_cls (mj_ws ρ cA base h) H) (hS : va_S (fun q => base ≤ q) s.heap H locs) (ha : a < mj_CB) (h0 : mj_rdA h a = some (1, (n, .inl f))) (hf : mj_cpr f 0 n = true) (K : mj_KH p l e R s m args below meth c Q D cA ρ base hs (pc + 3, ls, .ref h.length :: rest, h ++ [.inl (1, (n, .inl f))])) :
    W p l e R s m args below meth c H locs (h.length - hs.length) (mj_sz h - mj_sz hs) Q (F0 m pc rs (.ref (ρ a) :: rest.map (mj_tv ρ))) := by
  have g1 := ((mj_rdA_of h0).resolve_right (fun z => z.1 ha)).2
  rw [hX.2.1 a ha]
  refine va_clone (x := (n, .inl f)) hx hb hml hown (hts _ hw1) (hts _ hw2) (hts _ hw3) (hts _ hw4) (hts _ hw5) (va_Nw.of rfl (hts _ hw6)) hX.1 hP mj_D hS (fun q hq => by show base ≤ q; omega) a 1 (mj_ws_at g1) (mj_tys_at rfl) (va_nm_byte (hX.1.2 _ _ (mj_tys_at (cA := cA) (rfl : mj_tyl[1]? = some .byte))).2) (fun i v hv => ?_) hRf (by rw [mj_cat_map]; omega) (by omega) (show _ + n ≤ _ by omega) hd (fun q H1 hK1 hP1 hD1 hS1 => ?_)
  · exact va_fit (F := fun j => .int (f j)) (fun i hi => by have := mj_cpr_of hf i hi; rw [Nat.zero_add] at this; exact this) i v hv
  · exact mj_new_K (c0 := .inl (1, (n, .inl f))) hX hlr hsz hle hlz (by omega) K rfl rfl hP1 hD1 hS1
set_option maxHeartbeats 1000000 in
/-- a call of a method without code -/
theorem mj_prim_ok (hx : p.tables.exec = Jvm.exec) (hb : c.code = cc) (hml : c.maxLocals = rs.size) (hts : ∀ w ∈ Ts, w.before args s = true) (hown : s.vm.findClass own = some m.cls) (hX : mj_Y D cA ρ base s) (hA : mj_asg Ts) (hRf : 1 ≤ R.frames) (hRl : 100 ≤ R.locals) (hcat : (rest.map fun v => v.category).sum ≤ 8) (hsz : s.heap.size = base + hs.length) (hle : hs.length ≤ h.length) (hlz : mj_sz hs ≤ mj_sz h)
    (hroom : h1.length ≤ mj_CB ∧ h1.length - hs.length ≤ R.cells ∧ mj_sz h1 - mj_sz hs ≤ R.slots) (hok : mj_okN Ts own E) (hd : decode cc pc = .ok (E.1, 3)) (hst : st = as.reverse ++ rest) (hnn : as.length = E.2.2.1)
    (hlr : mj_lr ρ ls rs) (hP : va_P D mj_cls (mj_ws ρ cA base h) H) (hS : va_S (fun q => base ≤ q) s.heap H locs) (h0 : mj_prim (E.2.1 - 9000) as h = some (v, h1)) (K : mj_KH p l e R s m args below meth c Q D cA ρ base hs (pc + 3, ls, v.toList ++ rest, h1)) :
    W p l e R s m args below meth c H locs (h.length - hs.length) (mj_sz h - mj_sz hs) Q (F0 m pc rs (st.map (mj_tv ρ))) := by
  obtain ⟨ins, y, nargs, k0⟩ := E
  unfold mj_okN at hok
  subst hst
  dsimp only at hok h0 hd
  split at hok
  · rename_i idx
    obtain ⟨rfl, hn, hw1, hw2, hw3⟩ := hok
    unfold mj_prim at h0
    split at h0
    · rename_i hk; cases hk
    · rename_i hk; cases hk
    · rename_i hk; cases hk
    · rename_i a _
      cases h0
      exact W.objInit (g := F0 m pc rs (.ref (ρ a) :: rest.map (mj_tv ρ))) hx hb hown (hts _ hw1) (hts _ hw2) (hts _ hw3) rfl hml.symm rfl hd hRf (by show 2 * 0 + _ + 12 ≤ _; rw [mj_cat_map]; omega) (K rs H locs hlr hP hS)
    · rename_i hk; cases hk
    · rename_i hk; cases hk
    · cases h0
  · rename_i idx
    rcases hok with ⟨rfl, hn, hw1, hw2, hw3, hw4⟩ | ⟨rfl, hn, hw1, hw2, hw3, hw4⟩ | ⟨rfl, hn, hw1, hw2, hw3, hw4⟩
    · unfold mj_prim at h0
      split at h0
      · rename_i a sp b dp n _
        split at h0
        · rename_i h2 he
          cases h0
          exact mj_copy_ok hx hb hml hts hown hX.1 hA hRf hRl hcat hw1 hw2 hw3 hw4 hd hlr hP hS he K
        · cases h0
      · rename_i hk; cases hk
      · rename_i hk; cases hk
      · rename_i hk; cases hk
      · rename_i hk; cases hk
      · rename_i hk; cases hk
      · cases h0
    · unfold mj_prim at h0
      split at h0
      · rename_i hk; cases hk
      · rename_i hk; cases hk
      · rename_i hk; cases hk
      · rename_i hk; cases hk
      · rename_i x y _
        cases h0
        exact va_mmax (rest := rest.map (mj_tv ρ)) hx hb hml hown (hts _ hw1) (hts _ hw2) (hts _ hw3) (hts _ hw4) hRf (by rw [mj_cat_map]; omega) (by omega) (by omega) hd (K rs H locs hlr hP hS)
      · rename_i hk; cases hk
      · cases h0
    · unfold mj_prim at h0
      split at h0
      · rename_i hk; cases hk
      · rename_i hk; cases hk
      · rename_i hk; cases hk
      · rename_i hk; cases hk
      · rename_i hk; cases hk
      · rename_i x y _
        cases h0
        exact va_mmin (rest := rest.map (mj_tv ρ)) hx hb hml hown (hts _ hw1) (hts _ hw2) (hts _ hw3) (hts _ hw4) hRf (by rw [mj_cat_map]; omega) (by omega) (by omega) hd (K rs H locs hlr hP hS)
      · cases h0
  · rename_i idx
    obtain ⟨hn, ⟨rfl, hw1, hw2, hw3, hw4⟩ | ⟨rfl, hw1, hw2, hw3, hw4, hw5, hw6⟩⟩ := hok
    · unfold mj_prim at h0
      split at h0
      · rename_i hk; cases hk
      · rename_i a _
        split at h0
        · rename_i x he
          cases h0
          exact mj_gc_ok hx hb hml hts hown hX hRf hRl hcat hw1 hw2 hw3 hw4 hd hlr hP hS he K
        · cases h0
      · rename_i hk; cases hk
      · rename_i hk; cases hk
      · rename_i hk; cases hk
      · rename_i hk; cases hk
      · cases h0
    · unfold mj_prim at h0
      split at h0
      · rename_i hk; cases hk
      · rename_i hk; cases hk
      · rename_i a _
        split at h0
        · rename_i ha
          split at h0
          · rename_i n f he
            split at h0
            · rename_i hf
              cases h0
              rw [List.length_append, mj_sz_push] at hroom
              exact mj_cl_ok hx hb hml hts hown hX.1 hRf hRl hcat hsz hle hlz hroom hw1 hw2 hw3 hw4 hw5 hw6 hd hlr hP hS ha he hf K
            · cases h0
          · cases h0
        · cases h0
      · rename_i hk; cases hk
      · rename_i hk; cases hk
      · rename_i hk; cases hk
      · cases h0
  · exact hok.elim
end MJP
