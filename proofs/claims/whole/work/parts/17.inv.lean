section MJT
variable {p : Program} {l : Launch} {e : Env} {R : Room} {s : State} {m : MethodId} {args : Array Value} {below : List Frame} {meth : Method} {c : Code} {T : State} {H H1 : Heap} {locs : List Loc} {cells slots : Nat} {Q : State → Prop}
variable {D : va_G} {cA ρ : Nat → Nat} {base : Nat} {G : mj_G} {Ts : List Cond} {M : mj_M} {mi pc : Nat} {E : mj_E} {ls : mj_L} {st : List Value} {h hs h' : mj_H} {rs : Array Slot} {o : mj_O}
def mj_wsy (b : Bool) (Ts : List Cond) (x : MethodName × ByteArray × Nat × Option FieldType × List (Nat × Nat × Nat × Nat)) : List Cond := (match b with
  | true => Cond.code x.1 x.2.1 x.2.2.1 x.2.2.2.1
  | false => Cond.codeWith x.1 x.2.1 x.2.2.1 x.2.2.2.1 x.2.2.2.2) :: Ts
/-- the contract of a call that gives o and leaves h' -/
def mj_Ct (l : Launch) (D : va_G) (cA ρ : Nat → Nat) (base : Nat) (Ts : List Cond) (x : MethodName × ByteArray × Nat × Option FieldType × List (Nat × Nat × Nat × Nat)) (b : Bool) (d : Nat) (as : List Value) (h : mj_H) (o : mj_O) (h' : mj_H) : Prop :=
  mx_Met l x.1 (mj_wsy b Ts x) (mj_rm d (h'.length - h.length) (mj_sz h' - mj_sz h)) (mj_Pc D cA ρ base as h) (mj_Qc D cA ρ base o h') (mj_XC D cA ρ base o h') (h'.length - h.length) (mj_sz h' - mj_sz h) (fun q => base ≤ q)
theorem mj_size (X : Stand p l e R s m args below meth c T locs (h.length - hs.length) slots) (hT : T.heap = H) (hsz : s.heap.size = base + hs.length) (hle : hs.length ≤ h.length) (hP : va_P D mj_cls (mj_ws ρ cA base h) H) (hS : va_S (fun q => base ≤ q) s.heap H locs) : H.size = base + h.length := by
  have h1 := X.heapSize
  rw [hT] at h1
  rcases Nat.eq_zero_or_pos h.length with h0 | h0
  · have := hS.1
    omega
  · obtain ⟨c0, hc0⟩ : ∃ c0, h[h.length - 1]? = some c0 := ⟨_, List.getElem?_eq_getElem (by omega)⟩
    have := (hP _ _ (mj_ws_at (ρ := ρ) (cA := cA) (base := base) hc0)).lt
    dsimp only at this
    omega
theorem mj_map_toList (v : Option Value) (r : List Value) : (v.map (mj_tv ρ)).toList ++ r.map (mj_tv ρ) = (v.toList ++ r).map (mj_tv ρ) := by
  cases v <;> simp
theorem mj_cat_map (r : List Value) : ((r.map (mj_tv ρ)).map fun v => v.category) = r.map fun v => v.category := by
  rw [List.map_map, show ((fun v : Value => v.category) ∘ mj_tv ρ) = fun v => v.category from funext fun v => mj_tv_cat ρ v]
theorem mj_rcv_of {k : Nat} {as : List Value} (h0 : mj_rcv (k + 1) as h = true) : ∃ a r0, as = .ref a :: r0 ∧ mj_ocl h a = some k := by
  unfold mj_rcv at h0
  dsimp only at h0
  split at h0
  · exact ⟨_, _, rfl, of_decide_eq_true h0⟩
  · cases h0
set_option maxRecDepth 10000 in
set_option maxHeartbeats 1000000 in
/-- a call of a method that has code -/
theorem mj_call_ok (hgood : mj_good G Ts M) (F : mj_Fx p l s m args meth c D cA ρ base G Ts M mi hs) {rec : Nat → Nat → mj_S → Option (mj_O × mj_H)} {d d' : Nat} {h1 : mj_H} {o1 : mj_O} {as rest : List Value}
    (IH : ∀ (S : mj_S) (o : mj_O) (h' : mj_H), S.2.1.length = G.2.1 mi → hs.length ≤ S.2.2.2.length → mj_sz hs ≤ mj_sz S.2.2.2 → h'.length ≤ mj_CB → h'.length - hs.length ≤ R.cells → mj_sz h' - mj_sz hs ≤ R.slots → rec d mi S = some (o, h') → mj_Run p l e R s m args below meth c D cA ρ base hs o h' S)
    {b : Bool} (hb0 : if b = true then mj_cw Ts (M E.2.1) else mj_cwW Ts (M E.2.1)) (hini : Cond.initialized (M E.2.1).1.cls ∈ Ts) (hml45 : (M E.2.1).2.2.1 ≤ 45) (hC : mj_Ct l D cA ρ base Ts (M E.2.1) b d' as h o1 h1) (hdd : d = d' + 1)
    (hok : mj_okC Ts (M mi).1.cls M E) (hd : decode (M mi).2.1 pc = .ok (E.1, mj_ivl E.1)) (hlen : ls.length = G.2.1 mi) (hRf : d + 20 ≤ R.frames) (hRl : 64 * d + 600 ≤ R.locals)
    (hle : hs.length ≤ h.length) (hlz : mj_sz hs ≤ mj_sz h) (hl1 : mj_le h h1) (hl2 : mj_le h1 h') (hcb : h'.length ≤ mj_CB) (hc1 : h'.length - hs.length ≤ R.cells) (hs1 : mj_sz h' - mj_sz hs ≤ R.slots)
    (hst : st = as.reverse ++ rest) (hnn : as.length = E.2.2.1) (hcat : (rest.map fun v => v.category).sum ≤ 8) (hrc : mj_rcv E.2.2.2 as h = true)
    (hlr : mj_lr ρ ls rs) (hP : va_P D mj_cls (mj_ws ρ cA base h) H) (hS : va_S (fun q => base ≤ q) s.heap H locs)
    (hgo : ∀ v, o1 = .inl v → rec d mi (pc + mj_ivl E.1, ls, v.toList ++ rest, h1) = some (o, h')) (hth : ∀ q, o1 = .inr q → mj_thr G rec d mi pc ls q h1 = some (o, h')) :
    W p l e R s m args below meth c H locs (h.length - hs.length) (mj_sz h - mj_sz hs) (mj_MQ below D cA ρ base hs o h' args s) (F0 m pc rs (st.map (mj_tv ρ))) := by
  have F0' := F
  obtain ⟨hx, hb, hml, hown, hts, hret, hnm, hlocks, htab, hrel, hY, hsz, hl⟩ := F
  intro T hT X
  have hsize := mj_size X hT hsz hle hP hS
  have hcode : ∀ w ∈ mj_wsy b Ts (M E.2.1), w ∈ Ts := fun w hw => by
    rcases List.mem_cons.mp hw with rfl | hw
    · cases b
      · exact hb0
      · exact hb0
    · exact hw
  have hws : ∀ w ∈ mj_wsy b Ts (M E.2.1), ∀ (a' : Array Value) (U : State), s.WarmedH U.vm → w.before a' U = true := fun w hw a' U hW => mj_gw_at hW (hgood.2.1 w (hcode w hw)) (hts w (hcode w hw))
  have hinit : ∀ (a' : Array Value) (U : State), s.WarmedH U.vm → (Cond.initialized (M E.2.1).1.cls).before a' U = true := fun a' U hW => mj_gw_at hW (hgood.2.1 _ hini) (hts _ hini)
  have hK : mx_Back l R p e below s args (M E.2.1).1 (mj_ivl E.1) 8 (PreOf R (h1.length - h.length) (mj_sz h1 - mj_sz h) (mj_Pc D cA ρ base as h)) (PostOf (mj_Qc D cA ρ base o1 h1) (h1.length - h.length) (mj_sz h1 - mj_sz h) (fun q => base ≤ q)) (mx_Post (mj_XC D cA ρ base o1 h1) (h1.length - h.length) (mj_sz h1 - mj_sz h) (fun q => base ≤ q)) := by
    have hfr : (mj_rm d' (h1.length - h.length) (mj_sz h1 - mj_sz h)).frames + 1 ≤ R.frames := by show d' + 20 + 1 ≤ _; omega
    have hlo : 8 + ((M E.2.1).2.2.1 + 11) + (mj_rm d' (h1.length - h.length) (mj_sz h1 - mj_sz h)).locals ≤ R.locals := by show 8 + ((M E.2.1).2.2.1 + 11) + (64 * d' + 600) ≤ _; omega
    cases b
    · exact mx_backW hC (mj_blind D cA ρ base as h) rfl rfl hfr hlo hws List.mem_cons_self hinit
    · exact mx_back hC (mj_blind D cA ρ base as h) rfl rfl hfr hlo hws List.mem_cons_self hinit
  have hpre : ∀ vm₁, s.WarmedH vm₁ → PreOf R (h1.length - h.length) (mj_sz h1 - mj_sz h) (mj_Pc D cA ρ base as h) ⟨T.setVm vm₁, locs, h.length - hs.length, mj_sz h - mj_sz hs⟩ (as.map (mj_tv ρ)).toArray := fun vm₁ hW => by
    refine ⟨?_, ?_, rfl, hY.go (U := T.setVm vm₁) hW (fun a g1 g2 => ?_), ?_, ?_⟩
    · have := hl1.1; have := hl2.1
      show h.length - hs.length + (h1.length - h.length) ≤ _
      omega
    · have := hl1.2; have := hl2.2
      show mj_sz h - mj_sz hs + (mj_sz h1 - mj_sz h) ≤ _
      omega
    · show T.heap[a]? = _
      rw [hT]
      exact hS.2.1 a g1 g2
    · show T.heap.size = _
      rw [hT]
      exact hsize
    · show va_P D mj_cls (mj_ws ρ cA base h) T.heap
      rw [hT]
      exact hP
  have hrcv : ∀ k, E.2.2.2 = k + 1 → ∃ (b : Nat) (As : List Value) (r : vw_C) (cell : Cell), as.map (mj_tv ρ) = .ref b :: As ∧ mj_cls[k]? = some r ∧ T.heap[b]? = some cell ∧ cell.vm.isStatics = false ∧ s.vm.findClass r.1 = some cell.cls ∧ ∃ kB, s.vm.classes[cell.cls]? = some kB := fun k hk => by
    rw [hk] at hrc
    obtain ⟨a, r0, e0, hoc⟩ := mj_rcv_of hrc
    obtain ⟨r, hr, cell, g1, g2, g3⟩ := mj_ocl_of hY.1 hP hS hoc
    refine ⟨ρ a, r0.map (mj_tv ρ), r, cell, by rw [e0]; rfl, hr, by rw [hT]; exact g1, g2, g3, ?_⟩
    obtain ⟨k9, h9, -⟩ := Vm.findClass_spec g3
    exact ⟨k9, h9⟩
  have hout := mj_disp X hx hown hts hok (by rw [hb]; exact hd) (hlr.1.trans (hlen.trans hml.symm)) (as := as.map (mj_tv ρ)) (rest := rest.map (mj_tv ρ)) (st := st.map (mj_tv ρ)) (by rw [List.length_map]; exact hnn) (by rw [hst, List.map_append, List.map_reverse]) (by rw [mj_cat_map]; exact hcat) hK hrcv hpre
  have hkeep : ∀ {t : State} {g : JFrame} {mk : MethodId} {a : Array Value} {vm₁ : Vm}, va_F (fun q => base ≤ q) ((T.setVm vm₁).calling g mk a) t → H.size ≤ t.heap.size ∧ ∀ q : Nat, q < H.size → ¬ base ≤ q → t.heap[q]? = H[q]? := fun hF => by
    have hF' : va_F (fun q => base ≤ q) T _ := hF
    unfold va_F at hF'
    rw [hT] at hF'
    exact hF'
  have hSn : ∀ {t : State} {L : List Loc}, (H.size ≤ t.heap.size ∧ ∀ q : Nat, q < H.size → ¬ base ≤ q → t.heap[q]? = H[q]?) → (∀ q ∈ L, base ≤ q.base) → va_S (fun q => base ≤ q) s.heap t.heap (locs ++ L) := fun ⟨k1, k2⟩ hL => by
    refine ⟨Nat.le_trans hS.1 k1, fun q q1 q2 => ?_, fun q hq => ?_⟩
    · rw [k2 q (Nat.lt_of_lt_of_le q1 hS.1) q2]
      exact hS.2.1 q q1 q2
    · rcases List.mem_append.mp hq with hq | hq
      · exact hS.2.2 q hq
      · exact hL q hq
  have ek : h.length - hs.length + (h1.length - h.length) = h1.length - hs.length := by have := hl1.1; omega
  have es : mj_sz h - mj_sz hs + (mj_sz h1 - mj_sz h) = mj_sz h1 - mj_sz hs := by have := hl1.2; omega
  have hle1 : hs.length ≤ h1.length := Nat.le_trans hle hl1.1
  have hlz1 : mj_sz hs ≤ mj_sz h1 := Nat.le_trans hlz hl1.2
  rcases hout with ⟨v, vm₁, ⟨U', l2, c2, s2⟩, hW₁, X', ⟨g', mk, t, L, e1, e2, ⟨⟨v', ho, hv⟩, hq2, hq3⟩, g1, hL, g2, g3⟩, st1⟩ | ⟨q, vm₁, ⟨U', l2, c2, s2⟩, hW₁, X', ⟨g', mk, t, L, En, ce, e1, e2, ⟨⟨i, ci, r, ho, hqi, hoc, hr, hrE⟩, hq2, hq3⟩, hce, hcv, hcl, g1, hL, g2, g3⟩, st1⟩
  · dsimp only [Pt.U, Pt.locs, Pt.cells, Pt.slots] at X' e1 e2 g1 g2 g3 st1
    subst g1; subst g2; subst g3
    rw [ek, es] at X'
    have hv2 : v = v'.map (mj_tv ρ) := Outcome.returned.inj hv
    subst hv2
    obtain ⟨t2, a1, b1⟩ := IH _ o h' hlen hle1 hlz1 hcb hc1 hs1 (hgo v' ho) rs t.heap (locs ++ L) hlr hq2 (hSn (hkeep hq3) hL) U' e1 X'
    refine ⟨t2, st1 _ ?_, b1⟩
    dsimp only at a1
    rw [← mj_map_toList] at a1
    exact a1
  · dsimp only [Pt.U, Pt.locs, Pt.cells, Pt.slots] at X' e1 e2 g1 g2 g3 st1
    subst g1; subst g2; subst g3
    rw [ek, es] at X'
    have k2 := mj_thr_ok (pc := pc) (rest := rest.map (mj_tv ρ)) F0' (rec := rec) (d := d) (q := i) (ls := ls) (rs := rs) (h := h1) (h' := h') (o := o) (R := R) (below := below) IH hlen hle1 hlz1 hcb hc1 hs1 hlr hq2 (hSn (hkeep hq3) hL) (hth i ho)
    obtain ⟨t2, a1, b1⟩ := k2 U' e1 X'
    rw [hqi] at st1
    exact ⟨t2, st1.trans a1, b1⟩
end MJT
