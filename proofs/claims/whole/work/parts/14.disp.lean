/-- what the tables say of methods: name, bytes, locals, answer, handlers -/
abbrev mj_M : Type := Nat → MethodName × ByteArray × Nat × Option FieldType × List (Nat × Nat × Nat × Nat)
def mj_np (y : MethodName) (n : Nat) : Prop := (parseMethodDescriptor y.desc).map (fun d => d.parameters.length) = some n
def mj_noMH (y : MethodName) : Prop := y.cls ≠ "java/lang/invoke/MethodHandle" ∧ y.cls ≠ "java/lang/invoke/VarHandle"
def mj_cw (Ts : List Cond) (x : MethodName × ByteArray × Nat × Option FieldType × List (Nat × Nat × Nat × Nat)) : Prop := Cond.code x.1 x.2.1 x.2.2.1 x.2.2.2.1 ∈ Ts
def mj_cwW (Ts : List Cond) (x : MethodName × ByteArray × Nat × Option FieldType × List (Nat × Nat × Nat × Nat)) : Prop := Cond.codeWith x.1 x.2.1 x.2.2.1 x.2.2.2.1 x.2.2.2.2 ∈ Ts
/-- what the tables must say of a call -/
def mj_okC (Ts : List Cond) (own : String) (M : mj_M) (E : mj_E) : Prop := mj_noMH (M E.2.1).1 ∧ match E.1 with
  | .invokestatic idx => E.2.2.2 = 0 ∧ mj_np (M E.2.1).1 E.2.2.1 ∧ Cond.static (M E.2.1).1 ∈ Ts ∧ Cond.initialized (M E.2.1).1.cls ∈ Ts ∧
      ((mj_cwW Ts (M E.2.1) ∧ Cond.methodLink own idx (M E.2.1).1 ∈ Ts) ∨ (mj_cw Ts (M E.2.1) ∧ (Cond.methodLink own idx (M E.2.1).1 ∈ Ts ∨ ∃ host, Cond.methodLinkNest own idx (M E.2.1).1 host ∈ Ts)))
  | .invokespecial idx => ∃ k, E.2.2.2 = k + 1 ∧ ∃ n, E.2.2.1 = n + 1 ∧ mj_np (M E.2.1).1 n ∧ Cond.instanceMethod (M E.2.1).1 ∈ Ts ∧ mj_cw Ts (M E.2.1) ∧
      (((M E.2.1).1.name = "<init>" ∧ (M E.2.1).2.2.2.1 = none ∧ (Cond.methodLink own idx (M E.2.1).1 ∈ Ts ∨ ∃ host, Cond.methodLinkNest own idx (M E.2.1).1 host ∈ Ts)) ∨
       ((M E.2.1).1.name ≠ "<init>" ∧ Cond.methodLink own idx (M E.2.1).1 ∈ Ts ∧ Cond.sameMethod (M E.2.1).1.cls (M E.2.1).1.cls (M E.2.1).1.name (M E.2.1).1.desc ∈ Ts ∧ Cond.superclass own (M E.2.1).1.cls ∈ Ts))
  | .invokevirtual idx => ∃ k, E.2.2.2 = k + 1 ∧ ∃ n, E.2.2.1 = n + 1 ∧ Cond.instanceMethod (M E.2.1).1 ∈ Ts ∧
      ((mj_np (M E.2.1).1 n ∧ (∀ r, mj_cls[k]? = some r → Cond.selects r.1 (M E.2.1).1 (M E.2.1).1 ∈ Ts) ∧ Cond.methodLink own idx (M E.2.1).1 ∈ Ts ∧ (mj_cw Ts (M E.2.1) ∨ mj_cwW Ts (M E.2.1))) ∨
       (mj_cw Ts (M E.2.1) ∧ ∃ (x : MethodName) (owner : String) (b0 : ByteArray) (m0 : Nat) (r0 : Option FieldType), mj_np x n ∧ (owner ≠ "java/lang/invoke/MethodHandle" ∧ owner ≠ "java/lang/invoke/VarHandle") ∧ Cond.methodLink own idx x ∈ Ts ∧ Cond.sameMethod x.cls owner x.name x.desc ∈ Ts ∧ Cond.instanceMethod ⟨owner, x.name, x.desc⟩ ∈ Ts ∧ Cond.code ⟨owner, x.name, x.desc⟩ b0 m0 r0 ∈ Ts ∧ ∀ r, mj_cls[k]? = some r → Cond.selects r.1 x (M E.2.1).1 ∈ Ts))
  | .invokeinterface idx _ => ∃ k, E.2.2.2 = k + 1 ∧ ∃ n, E.2.2.1 = n + 1 ∧ Cond.instanceMethod (M E.2.1).1 ∈ Ts ∧ mj_cw Ts (M E.2.1) ∧ Cond.publicMethod (M E.2.1).1 ∈ Ts ∧ ∃ x : MethodName, mj_np x n ∧ mj_noMH x ∧ Cond.methodLink own idx x ∈ Ts ∧ Cond.declares x ∈ Ts ∧ Cond.interfaceMethod x.cls x.cls x.name x.desc ∈ Ts ∧
      ∀ r, mj_cls[k]? = some r → Cond.selects r.1 x (M E.2.1).1 ∈ Ts ∧ Cond.unhidden r.1 x.name x.desc ∈ Ts ∧ Cond.castable r.1 x.cls ∈ Ts
  | _ => False
theorem mj_np_len {y : MethodName} {n : Nat} (h : mj_np y n) {as : List Value} (hl : as.length = n) : ∀ sig, parseMethodDescriptor y.desc = some sig → as.length = sig.parameters.length := by
  intro sig hs
  unfold mj_np at h
  rw [hs] at h
  rw [hl]
  exact (Option.some.inj h).symm
section MJL
variable {p : Program} {l : Launch} {e : Env} {R : Room} {s : State} {m : MethodId} {args : Array Value} {below : List Frame} {meth : Method} {c : Code} {T : State} {H H1 : Heap} {locs : List Loc} {cells slots : Nat} {Q : State → Prop}
variable {D : va_G} {cA ρ : Nat → Nat} {base : Nat} {Ts : List Cond} {own : String} {M : mj_M} {E : mj_E} {pc : Nat} {rs : Array Slot} {st rest as : List Value} {Pre : Pt → Array Value → Prop} {Post : Pt → Array Value → Option Value → Pt → Prop} {PostX : Pt → Array Value → Addr → Pt → Prop}
set_option maxHeartbeats 1000000 in
theorem mj_disp (X : Stand p l e R s m args below meth c T locs cells slots) (hx : p.tables.exec = Jvm.exec) (hown : s.vm.findClass own = some m.cls) (hts : ∀ w ∈ Ts, w.before args s = true) (hok : mj_okC Ts own M E) (hd : decode c.code pc = .ok (E.1, mj_ivl E.1)) (hsize : rs.size = c.maxLocals)
    (hlen : as.length = E.2.2.1) (hstack : st = as.reverse ++ rest) (hcat : (rest.map fun v => v.category).sum ≤ 8) (hK : mx_Back l R p e below s args (M E.2.1).1 (mj_ivl E.1) 8 Pre Post PostX)
    (hrcv : ∀ k, E.2.2.2 = k + 1 → ∃ (b : Nat) (As : List Value) (r : vw_C) (cell : Cell), as = .ref b :: As ∧ mj_cls[k]? = some r ∧ T.heap[b]? = some cell ∧ cell.vm.isStatics = false ∧ s.vm.findClass r.1 = some cell.cls ∧ ∃ kB, s.vm.classes[cell.cls]? = some kB)
    (hpre : ∀ vm₁, s.WarmedH vm₁ → Pre ⟨T.setVm vm₁, locs, cells, slots⟩ as.toArray) : mj_Out p l e R s m args below meth c T locs cells slots (F0 m pc rs st) (mj_ivl E.1) rest Post PostX as.toArray := by
  obtain ⟨hmh, hok⟩ := hok
  have hW : 2 * (F0 m pc rs st).monitorRoom + (rest.map fun v => v.category).sum ≤ 8 := by show 2 * 0 + _ ≤ 8; omega
  obtain ⟨ins, y, nargs, k0⟩ := E
  dsimp only at hmh hlen hK hrcv
  cases ins with
  | invokestatic idx =>
    obtain ⟨-, hnp, hst, hini, hok⟩ := hok
    dsimp only at hnp hst hini hok
    rcases hok with ⟨hc, hlk⟩ | ⟨hc, hlk | ⟨host, hlk⟩⟩
    · exact mx_callSX X hx hown (hts _ hlk) (hts _ hst) (hts _ hini) (hts _ hc) hmh hK rfl hsize (mj_np_len hnp hlen) hstack hW hd hpre
    · exact mx_callS X hx hown (hts _ hlk) (hts _ hst) (hts _ hini) (hts _ hc) hmh hK rfl hsize (mj_np_len hnp hlen) hstack hW hd hpre
    · exact mx_callSN X hx hown (hts _ hlk) (hts _ hst) (hts _ hini) (hts _ hc) hmh hK rfl hsize (mj_np_len hnp hlen) hstack hW hd hpre
  | invokespecial idx =>
    obtain ⟨k, hk, n, hn, hnp, hin, hc, hok⟩ := hok
    dsimp only at hk hn hnp hin hc hok
    obtain ⟨b, As, r, cell, rfl, hr, h1, h2, h3, kB, h4⟩ := hrcv k hk
    have hAs : As.length = n := by simp at hlen; omega
    have hstk : st = As.reverse ++ .ref b :: rest := by rw [hstack]; simp
    rcases hok with ⟨hnm, hrt, hlk | ⟨host, hlk⟩⟩ | ⟨hnm, hlk, hsm, hsu⟩
    · exact mx_callI X hx hown hnm (hts _ hlk) (hts _ hin) (by rw [← hrt]; exact hts _ hc) hmh hK rfl hsize (mj_np_len hnp hAs) hstk hW hd hpre
    · exact mx_callIN X hx hown hnm (hts _ hlk) (hts _ hin) (by rw [← hrt]; exact hts _ hc) hmh hK rfl hsize (mj_np_len hnp hAs) hstk hW hd hpre
    · exact mx_callSU X hx hown (hts _ hlk) (hts _ hsm) (hts _ hsu) (hts _ hin) (hts _ hc) hnm hK h1 h2 h4 rfl hsize (mj_np_len hnp hAs) hstk hW hd hpre
  | invokevirtual idx =>
    obtain ⟨k, hk, n, hn, hin, hok⟩ := hok
    dsimp only at hk hn hin hok
    obtain ⟨b, As, r, cell, rfl, hr, h1, h2, h3, kB, h4⟩ := hrcv k hk
    have hAs : As.length = n := by simp at hlen; omega
    have hstk : st = As.reverse ++ .ref b :: rest := by rw [hstack]; simp
    rcases hok with ⟨hnp, hsel, hlk, hc | hc⟩ | ⟨hc, x, owner, b0, m0, r0, hnp, how, hlk, hsm, hin0, hc0, hsel⟩
    · exact mx_callV X hx hown (hts _ hlk) (hts _ hin) (hts _ (hsel r hr)) (hts _ hc) hmh hK h1 h2 h3 rfl hsize (mj_np_len hnp hAs) hstk hW hd hpre
    · exact mx_callVX X hx hown (hts _ hlk) (hts _ hin) (hts _ (hsel r hr)) (hts _ hc) hmh hK h1 h2 h3 rfl hsize (mj_np_len hnp hAs) hstk hW hd hpre
    · exact mx_callVU X hx hown (hts _ hlk) (hts _ hsm) (va_Decl.of (hts _ hin0) (hts _ hc0)) how (hts _ (hsel r hr)) (hts _ hin) (hts _ hc) hK h1 h2 h3 rfl hsize (mj_np_len hnp hAs) hstk hW hd hpre
  | invokeinterface idx cnt =>
    obtain ⟨k, hk, n, hn, hin, hc, hpub, x, hnp, hmx, hlk, hdc, hif, hsel⟩ := hok
    dsimp only at hk hn hin hc hpub
    obtain ⟨b, As, r, cell, rfl, hr, h1, h2, h3, kB, h4⟩ := hrcv k hk
    have hAs : As.length = n := by simp at hlen; omega
    have hstk : st = As.reverse ++ .ref b :: rest := by rw [hstack]; simp
    obtain ⟨s1, s2, s3⟩ := hsel r hr
    exact mx_callIF X hx hown (hts _ hlk) (hts _ hdc) (hts _ hif) (hts _ s1) (hts _ hin) (hts _ hpub) (hts _ s2) (hts _ s3) (hts _ hc) hmx hK h1 h2 h3 h4 rfl hsize (mj_np_len hnp hAs) hstk hW hd hpre
  | _ => cases hok
end MJL
