section MJS
variable {p : Program} {l : Launch} {e : Env} {R : Room} {s : State} {m : MethodId} {args : Array Value} {below : List Frame} {meth : Method} {c : Code} {T : State} {H H1 : Heap} {locs : List Loc} {cells slots : Nat} {Q : State → Prop}
variable {D : va_G} {cA ρ : Nat → Nat} {base : Nat} {G : mj_G} {Ts : List Cond} {M : mj_M} {mi pc : Nat} {E : mj_E} {ls : mj_L} {st : List Value} {h hs h' : mj_H} {rs : Array Slot} {o : mj_O}
/-- what a frame of a method knows -/
def mj_Fx (p : Program) (l : Launch) (s : State) (m : MethodId) (args : Array Value) (meth : Method) (c : Code) (D : va_G) (cA ρ : Nat → Nat) (base : Nat) (G : mj_G) (Ts : List Cond) (M : mj_M) (mi : Nat) (hs : mj_H) : Prop :=
  p.tables.exec = Jvm.exec ∧ c.code = (M mi).2.1 ∧ c.maxLocals = G.2.1 mi ∧ s.vm.findClass (M mi).1.cls = some m.cls ∧ (∀ w ∈ Ts, w.before args s = true) ∧ meth.sig.returnType = (M mi).2.2.2.1 ∧ meth.name = (M mi).1.name ∧ meth.locks = false ∧ c.exceptionTable.toList = tableOf (M mi).2.2.2.2 ∧ mj_hrel Ts (M mi).1.cls (M mi).2.2.2.2 (G.2.2 mi) ∧ mj_Y D cA ρ base s ∧ s.heap.size = base + hs.length ∧ l.stackTraces = false
/-- the end of a method that gives o and leaves h' -/
def mj_MQ (below : List Frame) (D : va_G) (cA ρ : Nat → Nat) (base : Nat) (hs : mj_H) (o : mj_O) (h' : mj_H) (args : Array Value) (s : State) : State → Prop := mx_MQ below (mj_Qc D cA ρ base o h') (mj_XC D cA ρ base o h') args s (h'.length - hs.length) (mj_sz h' - mj_sz hs) (fun q => base ≤ q)
/-- the machine follows the small one from a frame on -/
def mj_Run (p : Program) (l : Launch) (e : Env) (R : Room) (s : State) (m : MethodId) (args : Array Value) (below : List Frame) (meth : Method) (c : Code) (D : va_G) (cA ρ : Nat → Nat) (base : Nat) (hs : mj_H) (o : mj_O) (h' : mj_H) (S : mj_S) : Prop :=
  mj_KH p l e R s m args below meth c (mj_MQ below D cA ρ base hs o h' args s) D cA ρ base hs S
theorem mj_inj_of (hX : ∀ i, i < mj_CB → ρ i = base + i) : True := trivial
/-- an answer -/
theorem mj_end (hP : va_P D mj_cls (mj_ws ρ cA base h) H) (hS : va_S (fun q => base ≤ q) s.heap H locs) {v : Option Value} (ho : o = .inl v) : ∀ t : State, t.heap = H → s.WarmedH t.vm → mj_Qc D cA ρ base o h args s (.returned (v.map (mj_tv ρ))) t := by
  intro t ht hW
  exact ⟨⟨v, ho, rfl⟩, by rw [ht]; exact hP, hS.F ht⟩
theorem mj_zr {ty : FieldType} {k : Nat} {x : Int32} (h : mj_nar k x = true) (hk : (k = 1 ∧ ty = .boolean) ∨ (k = 2 ∧ ty = .char) ∨ (k = 3 ∧ ty = .byte)) : narrow ty (.int x) = .int x := by
  rcases hk with ⟨rfl, rfl⟩ | ⟨rfl, rfl⟩ | ⟨rfl, rfl⟩
  · exact congrArg Value.int (of_decide_eq_true (show decide (vp_nar .boolean x = x) = true from h))
  · exact congrArg Value.int (of_decide_eq_true (show decide (vp_nar .char x = x) = true from h))
  · exact congrArg Value.int (of_decide_eq_true (show decide (vp_nar .byte x = x) = true from h))
theorem mj_rt_ok (F : mj_Fx p l s m args meth c D cA ρ base G Ts M mi hs) (hd : decode (M mi).2.1 pc = .ok (E.1, mj_len E.1)) (hr : mj_okR (M mi).2.2.2.1 E) (hP : va_P D mj_cls (mj_ws ρ cA base h) H) (hS : va_S (fun q => base ≤ q) s.heap H locs) {rec : Nat → Nat → mj_S → Option (mj_O × mj_H)} {d : Nat}
    (hE : E.1 = .ireturn ∨ E.1 = .lreturn ∨ E.1 = .freturn ∨ E.1 = .dreturn ∨ E.1 = .areturn ∨ E.1 = .return_) (h0 : mj_evI G rec d mi E pc ls st h = some (o, h')) :
    W p l e R s m args below meth c H locs (h.length - hs.length) (mj_sz h - mj_sz hs) (mj_MQ below D cA ρ base hs o h' args s) (F0 m pc rs (st.map (mj_tv ρ))) := by
  obtain ⟨hx, hb, -, -, -, hret, -, hlocks, -, -, -, -, -⟩ := F
  obtain ⟨ins, e1, e2, e3⟩ := E
  dsimp only at hE hd
  rcases hE with rfl | rfl | rfl | rfl | rfl | rfl
  · obtain ⟨x, r, rfl, h1⟩ := mj_pI_of (show mj_pI st _ = _ from h0)
    split at h1
    · rename_i hc
      obtain ⟨rfl, hn⟩ := hc
      cases h1
      refine mx_ret ?_
      dsimp only at hn
      rcases hr with ⟨k0, hr⟩ | hr
      · exact W.iret hx hb (hret.trans hr) (mj_end hP hS rfl) hS.2.2 hd hlocks
      · rcases hr with ⟨k0, hr⟩ | ⟨k0, hr⟩ | ⟨k0, hr⟩
        · exact W.zret hx hb (hret.trans hr) (mj_zr hn (Or.inl ⟨k0, rfl⟩)) (mj_end hP hS rfl) hS.2.2 hd hlocks
        · exact W.zret hx hb (hret.trans hr) (mj_zr hn (Or.inr (Or.inl ⟨k0, rfl⟩))) (mj_end hP hS rfl) hS.2.2 hd hlocks
        · exact W.zret hx hb (hret.trans hr) (mj_zr hn (Or.inr (Or.inr ⟨k0, rfl⟩))) (mj_end hP hS rfl) hS.2.2 hd hlocks
    · cases h1
  · obtain ⟨x, r, rfl, h1⟩ := mj_pL_of (show mj_pL st _ = _ from h0)
    split at h1
    · rename_i hc
      subst hc
      cases h1
      exact mx_ret (W.lret hx hb (hret.trans hr) (mj_end hP hS rfl) hS.2.2 hd hlocks)
    · cases h1
  · obtain ⟨x, r, rfl, h1⟩ := mj_pF_of (show mj_pF st _ = _ from h0)
    split at h1
    · rename_i hc
      subst hc
      cases h1
      exact mx_ret (W.fret hx hb (hret.trans hr) (mj_end hP hS rfl) hS.2.2 hd hlocks)
    · cases h1
  · obtain ⟨x, r, rfl, h1⟩ := mj_pD_of (show mj_pD st _ = _ from h0)
    split at h1
    · rename_i hc
      subst hc
      cases h1
      exact mx_ret (W.dret hx hb (hret.trans hr) (mj_end hP hS rfl) hS.2.2 hd hlocks)
    · cases h1
  · dsimp only [mj_evI] at h0
    obtain ⟨x, r, rfl, h1⟩ := mj_pA_of h0
    split at h1
    · rename_i hc
      subst hc
      cases h1
      refine mx_ret ?_
      rw [List.map_cons, mj_tv_rf, List.map_nil]
      obtain ⟨rt, hrt, hq⟩ : ∃ rt, (M mi).2.2.2.1 = some rt ∧ ((∃ n, rt = .object n) ∨ ∃ t, rt = .array t) := by
        rcases hr with ⟨n, h9⟩ | ⟨t, h9⟩
        · exact ⟨_, h9, Or.inl ⟨n, rfl⟩⟩
        · exact ⟨_, h9, Or.inr ⟨t, rfl⟩⟩
      refine W.aret hx hb (hret.trans hrt) hq (by cases x <;> simp [va_rf]) (fun t ht hW => ?_) hS.2.2 hd hlocks
      rw [← mj_tv_rf]
      exact mj_end hP hS (v := some (va_rf x)) rfl t ht hW
    · cases h1
  · dsimp only [mj_evI] at h0
    split at h0
    · rename_i hc
      subst hc
      cases h0
      exact mx_ret (W.vret hx hb (hret.trans hr) (mj_end hP hS rfl) hS.2.2 hd hlocks)
    · cases h0
/-- the cell that is thrown -/
theorem mj_exc_cell {q ci : Nat} {r : vw_C} (hX : mj_X D cA ρ base s) (hP : va_P D mj_cls (mj_ws ρ cA base h) H) (hq : q < mj_CB) (ho : mj_ocl h q = some ci) (hr : mj_cls[ci]? = some r) : ∃ ce : Cell, H[ρ q]? = some ce ∧ ce.vm = .none ∧ s.vm.findClass r.1 = some ce.cls := by
  unfold mj_ocl at ho
  split at ho
  · rename_i c1 fs h1
    cases ho
    rcases mj_rdO_of h1 with ⟨h3, h4⟩ | ⟨h3, h4⟩
    · obtain ⟨r2, hc, cell, q1, q2, q3, -⟩ := hP _ _ (mj_ws_at h4)
      cases Option.some.inj (hr.symm.trans hc)
      refine ⟨cell, by rw [hX.2.1 q h3]; exact q1, q3, ?_⟩
      rw [q2]
      exact (hX.1.1 _ _ hc).2.1
    · exact absurd hq h3
  · cases ho
theorem mj_pass_ok (F : mj_Fx p l s m args meth c D cA ρ base G Ts M mi hs) {ci : Nat} {r : vw_C} (hr : mj_cls[ci]? = some r) {z : ExceptionTableEntry} (hz : mj_pass Ts (M mi).1.cls pc ci z) : covers z pc = false ∨ (z.catchType ≠ 0 ∧ ∃ nm : String, (Cond.classLink (M mi).1.cls z.catchType nm).before args s = true ∧ va_Nc r.1 nm s) := by
  obtain ⟨hx, hb, hml, hown, hts, hret, hnm, hlocks, htab, hrel, hY, hsz, hl⟩ := F
  rcases hz with h | ⟨h0, cz, k, e1, e2, e3, hk, hw⟩
  · exact Or.inl h
  · exact Or.inr ⟨h0, k.1, hts _ hw, hY.2.2.2.2.1 ci cz r k e1 e2 e3 hr hk⟩
/-- a throw: to a handler, or out of the method -/
theorem mj_thr_ok (F : mj_Fx p l s m args meth c D cA ρ base G Ts M mi hs) {rec : Nat → Nat → mj_S → Option (mj_O × mj_H)} {d q : Nat} {rest : List Value}
    (IH : ∀ (S : mj_S) (o : mj_O) (h' : mj_H), S.2.1.length = G.2.1 mi → hs.length ≤ S.2.2.2.length → mj_sz hs ≤ mj_sz S.2.2.2 → h'.length ≤ mj_CB → h'.length - hs.length ≤ R.cells → mj_sz h' - mj_sz hs ≤ R.slots → rec d mi S = some (o, h') → mj_Run p l e R s m args below meth c D cA ρ base hs o h' S)
    (hlen : ls.length = G.2.1 mi) (hle : hs.length ≤ h.length) (hlz : mj_sz hs ≤ mj_sz h) (hcb : h'.length ≤ mj_CB) (hc1 : h'.length - hs.length ≤ R.cells) (hs1 : mj_sz h' - mj_sz hs ≤ R.slots)
    (hlr : mj_lr ρ ls rs) (hP : va_P D mj_cls (mj_ws ρ cA base h) H) (hS : va_S (fun q => base ≤ q) s.heap H locs) (h0 : mj_thr G rec d mi pc ls q h = some (o, h')) :
    mx_W p l e R s m args below meth c H locs (h.length - hs.length) (mj_sz h - mj_sz hs) (mj_MQ below D cA ρ base hs o h' args s) (F0 m pc rs rest) (ρ q) := by
  have F0' := F
  obtain ⟨hx, hb, hml, hown, hts, hret, hnm, hlocks, htab, hrel, hY, hsz, hl⟩ := F
  unfold mj_thr at h0
  split at h0
  rotate_left
  · cases h0
  rename_i hq
  split at h0
  · rename_i ci hci
    obtain ⟨r, hr, -⟩ := mj_ocl_of hY.1 hP hS hci
    obtain ⟨ce, g1, g2, g3⟩ := mj_exc_cell hY.1 hP hq hci hr
    split at h0
    · rename_i hp hf
      obtain ⟨pre, x, suf, e1, e2, e3, e4, ⟨k, hk, hw, hcast⟩, e5⟩ := mj_find_some _ _ hrel hf
      cases Option.some.inj (hr.symm.trans hk)
      refine mx_catch hown pre x suf (htab.trans e1) (fun z hz => mj_pass_ok F0' hr (e2 z hz)) e3 e4 (hts _ hw) (hts _ hcast) g1 g2 g3 ?_
      rw [e5]
      exact IH _ _ _ hlen hle hlz hcb hc1 hs1 h0 rs H locs hlr hP hS
    · rename_i hf
      cases h0
      exact mx_outP hown hlocks (fun z hz => mj_pass_ok F0' hr (mj_find_none _ _ hrel hf z (by rw [← htab]; exact hz))) g1 g2 g3 (fun t ht hv => ⟨⟨q, ci, r, rfl, rfl, hci, hr, rfl⟩, by rw [ht]; exact hP, hS.F ht⟩) hS.2.2 (Nat.le_refl _) (Nat.le_refl _)
    · cases h0
  · cases h0
/-- a throw of a new exception -/
theorem mj_mk_ok (F : mj_Fx p l s m args meth c D cA ρ base G Ts M mi hs) {ik : Nat} (hE : E.1 = .new ik) (hd : decode (M mi).2.1 pc = .ok (.new ik, 3)) (hT : mj_okT Ts (M mi).1.cls (M mi).2.1 (M mi).2.2.2.2 pc E) (hE2 : E.2.2.2 = 1) (hlen : ls.length = G.2.1 mi)
    (hle : hs.length ≤ h.length) (hlz : mj_sz hs ≤ mj_sz h) (hcb : h.length + 1 ≤ mj_CB) (hc1 : h.length + 1 - hs.length ≤ R.cells) (hs1 : mj_sz h + 6 - mj_sz hs ≤ R.slots) (hRf : 20 ≤ R.frames) (hRl : 200 ≤ R.locals) (hcat : (st.map fun v => v.category).sum ≤ 8)
    (hlr : mj_lr ρ ls rs) (hP : va_P D mj_cls (mj_ws ρ cA base h) H) (hS : va_S (fun q => base ≤ q) s.heap H locs) (hH : H.size = base + h.length) :
    W p l e R s m args below meth c H locs (h.length - hs.length) (mj_sz h - mj_sz hs) (mj_MQ below D cA ρ base hs (.inr h.length) (h ++ [.inr (E.2.1, [])]) args s) (F0 m pc rs (st.map (mj_tv ρ))) := by
  obtain ⟨hx, hb, hml, hown, hts, hret, hnm, hlocks, htab, hrel, hY, hsz, hl⟩ := F
  unfold mj_okT at hT
  rw [hE] at hT
  obtain ⟨is, ic, r, names, text, ix, rx, ⟨x0, x1, x2, x5⟩, hr, hr0, hr6, hh0, hfit, hnf, hnl, hw1, hw2, hmsg, hat, hgood, d3, hdd⟩ := hT.2 hE2
  obtain ⟨sa, hstr⟩ := hY.2.2.2.1 _ hmsg
  have hrs : rs.size = c.maxLocals := hlr.1.trans (hlen.trans hml.symm)
  have hcat2 : ((st.map (mj_tv ρ)).map fun v => v.category).sum ≤ 8 := by
    rw [List.map_map, show ((fun v : Value => v.category) ∘ mj_tv ρ) = fun v => v.category from funext fun v => mj_tv_cat ρ v]
    exact hcat
  have ecs : mj_cs (.inr (E.2.1, [])) = 6 := by
    show mj_csl[E.2.1]?.getD 0 = 6
    rw [hr6]
    rfl
  have hout : ∀ k, ∀ x ∈ c.exceptionTable.toList, covers x k = false := fun k x hx1 => by
    rw [htab, hh0] at hx1
    exact nomatch hx1
  have hroom : h.length - hs.length + 1 ≤ R.cells ∧ mj_sz h - mj_sz hs + 6 ≤ R.slots ∧ h.length - hs.length + 1 ≤ (h ++ [(.inr (E.2.1, []) : mj_C)]).length - hs.length ∧ mj_sz h - mj_sz hs + 6 ≤ mj_sz (h ++ [.inr (E.2.1, [])]) - mj_sz hs := by
    rw [List.length_append, mj_sz_push, ecs]
    refine ⟨by omega, by omega, ?_, by omega⟩
    show h.length - hs.length + 1 ≤ h.length + 1 - hs.length
    omega
  have hxc : ∀ t : State, s.vm.Alike t.vm → H.size ≤ t.heap.size → (∀ q : Nat, q < H.size → t.heap[q]? = H[q]?) → (∃ ce : Cell, t.heap[H.size]? = some ce ∧ ce.vm = .none ∧ s.vm.findClass r.1 = some ce.cls) → mj_XC D cA ρ base (.inr h.length) (h ++ [.inr (E.2.1, [])]) H.size r.1 s t := by
    intro t hv h1 h2 ⟨ce, c1, c2, c3⟩
    refine ⟨⟨h.length, E.2.1, r, rfl, by rw [hY.1.2.1 _ (by omega)]; exact hH, ?_, hr, rfl⟩, ?_, ?_⟩
    · unfold mj_ocl mj_rdO mj_rd
      rw [if_pos (by omega), List.getElem?_append_right (Nat.le_refl _), Nat.sub_self]
      rfl
    · rw [mj_ws_push]
      intro k q hk
      by_cases hl2 : k < h.length
      · rw [List.getElem?_append_left (by unfold mj_ws; rw [List.length_mapIdx]; exact hl2)] at hk
        exact (hP k q hk).kept (h2 _ (hP k q hk).lt)
      · have hln : (mj_ws ρ cA base h).length = h.length := by unfold mj_ws; rw [List.length_mapIdx]
        rw [List.getElem?_append_right (by omega), hln] at hk
        have hz : k - h.length < 1 := (List.getElem?_eq_some_iff.mp hk).1
        rw [show k - h.length = 0 by omega] at hk
        cases hk
        refine ⟨r, hr, ce, by rw [← hH]; exact c1, ?_, c2, fun k hk => ?_⟩
        · have := (hY.1.1.1 _ _ hr).2.1
          rw [c3] at this
          exact (Option.some.inj this)
        · rw [hr0] at hk
          exact absurd hk (Nat.not_lt_zero _)
    · refine ⟨Nat.le_trans hS.1 h1, fun q q1 q2 => ?_⟩
      rw [h2 q (Nat.lt_of_lt_of_le q1 hS.1)]
      exact hS.2.1 q q1 q2
  rcases hdd with ⟨d4, d6, d9⟩ | ⟨d4, d7, d10⟩
  · exact mx_throwSX hx hb hl x0 x1 x2 x5 hown hfit hnf (hts _ hw1) (hts _ hw2) hstr (fun w hw => hts _ (hat w hw)) hgood hY.2.1 hY.2.2.1 hS hrs hd d3 d4 d6 d9 (hout _) (by omega) (by omega) hroom.1 hroom.2.1 hlocks hxc hS.2.2 hroom.2.2.1 hroom.2.2.2
  · exact mx_throwSWX hx hb hl x0 x1 x2 x5 hown hfit hnf (hts _ hw1) (hts _ hw2) hstr (fun w hw => hts _ (hat w hw)) hgood hY.2.1 hY.2.2.1 hS hrs hd d3 d4 d7 d10 (hout _) (by omega) (by omega) hroom.1 hroom.2.1 hlocks hxc hS.2.2 hroom.2.2.1 hroom.2.2.2
end MJS
