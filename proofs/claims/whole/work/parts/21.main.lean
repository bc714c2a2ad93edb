/-! The machine follows the small one. -/
section MJU
variable {p : Program} {l : Launch} {e : Env} {R : Room} {s : State} {m : MethodId} {args : Array Value} {below : List Frame} {meth : Method} {c : Code} {T : State} {H H1 : Heap} {locs : List Loc} {cells slots : Nat} {Q : State → Prop}
variable {D : va_G} {cA ρ : Nat → Nat} {base : Nat} {G : mj_G} {Ts : List Cond} {M : mj_M} {mi pc : Nat} {E : mj_E} {ls : mj_L} {st : List Value} {h hs h' : mj_H} {rs : Array Slot} {o : mj_O}
/-- what is known of n steps -/
def mj_IH (l : Launch) (D : va_G) (cA ρ : Nat → Nat) (base : Nat) (G : mj_G) (Ts : List Cond) (M : mj_M) (n : Nat) : Prop :=
  ∀ (d mi : Nat) (S : mj_S) (o : mj_O) (h' : mj_H), mj_ev G n d mi S = some (o, h') → h'.length ≤ mj_CB → ∀ (p : Program) (e : Env) (R : Room) (s : State) (m : MethodId) (args : Array Value) (below : List Frame) (meth : Method) (c : Code) (hs : mj_H), mj_Fx p l s m args meth c D cA ρ base G Ts M mi hs → d + 20 ≤ R.frames → 64 * d + 600 ≤ R.locals → S.2.1.length = G.2.1 mi → hs.length ≤ S.2.2.2.length → mj_sz hs ≤ mj_sz S.2.2.2 → h'.length - hs.length ≤ R.cells → mj_sz h' - mj_sz hs ≤ R.slots → mj_Run p l e R s m args below meth c D cA ρ base hs o h' S
/-- a call's contract -/
theorem mj_Ct_of {n d y : Nat} {as : List Value} (hgood : mj_good G Ts M) (hl : l.stackTraces = false) (IH : mj_IH l D cA ρ base G Ts M n) (hev : mj_ev G n d y (0, mj_entry (G.2.1 y) as, [], h) = some (o, h')) (hlen : (mj_ent as).length ≤ G.2.1 y) (hcb : h'.length ≤ mj_CB) :
    ∃ b, (if b = true then mj_cw Ts (M y) else mj_cwW Ts (M y)) ∧ Cond.initialized (M y).1.cls ∈ Ts ∧ (M y).2.2.1 ≤ 45 ∧ mj_Ct l D cA ρ base Ts (M y) b d as h o h' := by
  have hG : ∃ E0, G.1 y 0 = some E0 := by
    cases n with
    | zero => cases hev
    | succ n =>
      unfold mj_ev at hev
      dsimp only at hev
      cases hq : G.1 y 0 with
      | none => rw [hq] at hev; cases hev
      | some E0 => exact ⟨E0, rfl⟩
  obtain ⟨E0, hG⟩ := hG
  obtain ⟨g1, g2, g3, g4, g5, -⟩ := hgood.2.2 y 0 E0 hG
  have hmono := mj_ev_le G n d y _ _ hev
  have body : ∀ (b : Bool) (p : Program) (e : Env) (s : State) (m : MethodId) (args : Array Value) (below : List Frame) (meth : Method) (c : Code) (s₁ : State), BodyLoose p l (M y).1 (headSpec (mj_wsy b Ts (M y)) (mj_rm d (h'.length - h.length) (mj_sz h' - mj_sz h))) (M y).2.1 (M y).2.2.1 (M y).2.2.2.1 e s m args below meth c s₁ → c.maxLocals = (M y).2.2.1 → c.exceptionTable.toList = tableOf (M y).2.2.2.2 → mj_hrel Ts (M y).1.cls (M y).2.2.2.2 (G.2.2 y) → mj_Pc D cA ρ base as h args s →
      W p l e (mj_rm d (h'.length - h.length) (mj_sz h' - mj_sz h)) s m args below meth c s.heap [] 0 0 (mj_MQ below D cA ρ base h o h' args s) (entryFrame m args (M y).2.2.1) := by
    intro b p e s m args below meth c s₁ B hml htab hrel ⟨hargs, hY, hsz, hP⟩
    have hts := atoms_spec (ws := mj_wsy b Ts (M y)) B.pre
    have F : mj_Fx p l s m args meth c D cA ρ base G Ts M y h := ⟨B.exec, B.bytes, hml.trans g3, findClass_of_methodNamed B.named, fun w hw => hts w (List.mem_cons_of_mem _ hw), B.returns, (name_of_methodNamed B.named B.method).1, B.notSynchronized, htab, hrel, hY, hsz, hl⟩
    have hrun := IH d y _ o h' hev hcb p e (mj_rm d (h'.length - h.length) (mj_sz h' - mj_sz h)) s m args below meth c h F (Nat.le_refl _) (Nat.le_refl _) (mj_entry_len hlen) (Nat.le_refl _) (Nat.le_refl _) (Nat.le_refl _) (Nat.le_refl _)
    have hw := hrun _ s.heap [] (mj_entry_lr hlen) hP ⟨Nat.le_refl _, fun _ _ _ => rfl, fun q hq => (nomatch hq)⟩
    dsimp only at hw
    rw [Nat.sub_self, Nat.sub_self] at hw
    rw [hargs, lg_entry_eq, g3]
    rw [hargs] at hw
    exact hw
  rcases g5 with ⟨k1, k2, k3⟩ | ⟨k1, k2⟩
  · refine ⟨true, k1, g2, by rw [g3]; exact g4, mx_ofW g1 rfl fun p e s m args below meth c s₁ B hml ht hP => ?_⟩
    refine body true p e s m args below meth c s₁ B hml ?_ ?_ hP
    · rw [k2]
      exact List.eq_nil_iff_forall_not_mem.mpr fun x hx => ht x hx
    · rw [k2, k3]
      trivial
  · refine ⟨false, k1, g2, by rw [g3]; exact g4, mx_ofWH g1 rfl fun p e s m args below meth c s₁ B hml hP => ?_⟩
    exact body false p e s m args below meth c s₁ B hml (mx_table (x := (M y).1) B (atoms_spec (ws := mj_wsy false Ts (M y)) B.pre _ List.mem_cons_self)) k2 hP
theorem mj_dec_of {cc : ByteArray} (h : mj_dec cc pc E) (h1 : ∀ d lo hi o, E.1 ≠ .tableswitch d lo hi o) (h2 : ∀ d o, E.1 ≠ .lookupswitch d o) : decode cc pc = .ok (E.1, mj_len E.1) := by
  rcases h with h | ⟨-, ⟨d, lo, hi, o, h⟩ | ⟨d, o, h⟩⟩
  · exact h
  · exact absurd h (h1 d lo hi o)
  · exact absurd h (h2 d o)
theorem mj_rev_take (st : List Value) (n : Nat) : st = (st.take n).reverse.reverse ++ st.drop n := by
  rw [List.reverse_reverse, List.take_append_drop]
set_option maxHeartbeats 1000000 in
/-- a call -/
theorem mj_inv_ok {n d : Nat} (hgood : mj_good G Ts M) (hl : l.stackTraces = false) (IH : mj_IH l D cA ρ base G Ts M n) (F : mj_Fx p l s m args meth c D cA ρ base G Ts M mi hs) (hE : mj_isI E.1 = true) (hdec : mj_dec (M mi).2.1 pc E) (hok : mj_isI E.1 = true → if 9000 ≤ E.2.1 then mj_okN Ts (M mi).1.cls E else mj_okC Ts (M mi).1.cls M E)
    (hRf : d + 20 ≤ R.frames) (hRl : 64 * d + 600 ≤ R.locals) (hlen : ls.length = G.2.1 mi) (hle : hs.length ≤ h.length) (hlz : mj_sz hs ≤ mj_sz h) (hcb : h'.length ≤ mj_CB) (hc1 : h'.length - hs.length ≤ R.cells) (hs1 : mj_sz h' - mj_sz hs ≤ R.slots)
    (hlr : mj_lr ρ ls rs) (hP : va_P D mj_cls (mj_ws ρ cA base h) H) (hS : va_S (fun q => base ≤ q) s.heap H locs) (h0 : mj_inv G (mj_ev G n) d mi E pc ls st h = some (o, h')) :
    W p l e R s m args below meth c H locs (h.length - hs.length) (mj_sz h - mj_sz hs) (mj_MQ below D cA ρ base hs o h' args s) (F0 m pc rs (st.map (mj_tv ρ))) := by
  have F0' := F
  obtain ⟨hx, hb, hml, hown, hts, hret, hnm, hlocks, htab, hrel, hY, hsz, -⟩ := F
  have hd : decode (M mi).2.1 pc = .ok (E.1, mj_ivl E.1) := by
    have h1 := mj_dec_of hdec (fun d lo hi o q => by rw [q] at hE; cases hE) (fun d o q => by rw [q] at hE; cases hE)
    obtain ⟨ins, e2⟩ := E
    cases ins with
    | invokevirtual i => exact h1
    | invokespecial i => exact h1
    | invokestatic i => exact h1
    | invokeinterface i k => exact h1
    | _ => cases hE
  have hok := hok hE
  unfold mj_inv at h0
  split at h0
  rotate_left
  · cases h0
  rename_i hc
  obtain ⟨hc1', hcat⟩ := hc
  have hnn : (st.take E.2.2.1).reverse.length = E.2.2.1 := by
    rw [List.length_reverse, List.length_take]
    omega
  split at h0
  · rename_i h9
    rw [if_pos h9] at hok
    split at h0
    · rename_i v h1 hp
      have hm := mj_ev_le G n d mi _ _ h0
      have hm1 := hm.1
      have hm2 := hm.2
      dsimp only at hm1 hm2
      have hp1 := mj_prim_le hp
      have hp11 := hp1.1
      have hp12 := hp1.2
      dsimp only at hp11 hp12
      have hd3 : decode (M mi).2.1 pc = .ok (E.1, 3) := by
        obtain ⟨ins, e2⟩ := E
        cases ins with
        | invokestatic i => exact hd
        | invokevirtual i => exact hd
        | invokespecial i => exact hd
        | _ => exact hok.elim
      exact mj_prim_ok (as := (st.take E.2.2.1).reverse) (rest := st.drop E.2.2.1) hx hb (hml.trans (hlen.symm.trans hlr.1.symm)) hts hown hY hgood.1 (by omega) (by omega) hcat hsz hle hlz (by omega) hok hd3 (mj_rev_take _ _) hnn hlr hP hS hp
        (IH d mi _ o h' h0 hcb p e R s m args below meth c hs F0' hRf hRl hlen (by dsimp only; omega) (by dsimp only; omega) hc1 hs1)
    · cases h0
  · rename_i h9
    rw [if_neg h9] at hok
    split at h0
    rotate_left
    · cases h0
    rename_i hrc
    split at h0
    · cases h0
    · rename_i d'
      split at h0
      rotate_left
      · cases h0
      rename_i hel
      have IH' : ∀ (S : mj_S) (o : mj_O) (h' : mj_H), S.2.1.length = G.2.1 mi → hs.length ≤ S.2.2.2.length → mj_sz hs ≤ mj_sz S.2.2.2 → h'.length ≤ mj_CB → h'.length - hs.length ≤ R.cells → mj_sz h' - mj_sz hs ≤ R.slots → mj_ev G n (d' + 1) mi S = some (o, h') → mj_Run p l e R s m args below meth c D cA ρ base hs o h' S :=
        fun S o h' a1 a2 a3 a4 a5 a6 a7 => IH (d' + 1) mi S o h' a7 a4 p e R s m args below meth c hs F0' hRf hRl a1 a2 a3 a5 a6
      split at h0
      · rename_i v h1 hev
        have hm := mj_ev_le G n _ mi _ _ h0
        have hm1 := mj_ev_le G n _ _ _ _ hev
        obtain ⟨b, b1, b2, b3, b4⟩ := mj_Ct_of hgood hl IH hev hel (Nat.le_trans hm.1 hcb)
        exact mj_call_ok (rec := mj_ev G n) (d := d' + 1) (as := (st.take E.2.2.1).reverse) (rest := st.drop E.2.2.1) (o1 := .inl v) (h1 := h1) hgood F0' IH' b1 b2 b3 b4 rfl hok hd hlen hRf hRl hle hlz hm1 hm hcb hc1 hs1 (mj_rev_take _ _) hnn hcat hrc hlr hP hS
          (fun w hw => by cases hw; exact h0) (fun q hq => by cases hq)
      · rename_i q h1 hev
        have hm : mj_le h1 h' := mj_thr_le (fun d mi S o hh => mj_ev_le G n d mi S o hh) h0
        have hm1 := mj_ev_le G n _ _ _ _ hev
        obtain ⟨b, b1, b2, b3, b4⟩ := mj_Ct_of hgood hl IH hev hel (Nat.le_trans hm.1 hcb)
        exact mj_call_ok (rec := mj_ev G n) (d := d' + 1) (as := (st.take E.2.2.1).reverse) (rest := st.drop E.2.2.1) (o1 := .inr q) (h1 := h1) hgood F0' IH' b1 b2 b3 b4 rfl hok hd hlen hRf hRl hle hlz hm1 hm hcb hc1 hs1 (mj_rev_take _ _) hnn hcat hrc hlr hP hS
          (fun w hw => by cases hw) (fun z hz => by cases hz; exact h0)
      · cases h0
/-- no call, no throw, no end -/
theorem mj_nx_ok {n d : Nat} (hgood : mj_good G Ts M) (IH : mj_IH l D cA ρ base G Ts M n) (F : mj_Fx p l s m args meth c D cA ρ base G Ts M mi hs) (hdec : mj_dec (M mi).2.1 pc E) (hokP : mj_okP E pc = true) (hokH : mj_okH Ts (M mi).1.cls ((M mi).1.name = "<init>") E)
    (hRf : d + 20 ≤ R.frames) (hRl : 64 * d + 600 ≤ R.locals) (hlen : ls.length = G.2.1 mi) (hle : hs.length ≤ h.length) (hlz : mj_sz hs ≤ mj_sz h) (hcb : h'.length ≤ mj_CB) (hc1 : h'.length - hs.length ≤ R.cells) (hs1 : mj_sz h' - mj_sz hs ≤ R.slots)
    (hlr : mj_lr ρ ls rs) (hP : va_P D mj_cls (mj_ws ρ cA base h) H) (hS : va_S (fun q => base ≤ q) s.heap H locs) (h0 : mj_nx (mj_ev G n) d mi E pc ls st h = some (o, h')) :
    W p l e R s m args below meth c H locs (h.length - hs.length) (mj_sz h - mj_sz hs) (mj_MQ below D cA ρ base hs o h' args s) (F0 m pc rs (st.map (mj_tv ρ))) := by
  have F0' := F
  obtain ⟨hx, hb, hml, hown, hts, hret, hnm, hlocks, htab, hrel, hY, hsz, -⟩ := F
  have hconst : ¬ base ≤ ρ mj_CB := by
    obtain ⟨cell, -, -, -, h4⟩ := hY.2.2.2.2.2.2.2
    exact h4
  unfold mj_nx at h0
  split at h0
  · rename_i F1 hF
    refine mj_sp_ok hx hb hdec hokP ⟨hY.1.2.1, hconst⟩ hlr hF fun rs' hlr' => ?_
    exact IH d mi _ o h' h0 hcb p e R s m args below meth c hs F0' hRf hRl ((mj_sp_len hF).trans hlen) hle hlz hc1 hs1 rs' H locs hlr' hP hS
  · split at h0
    · rename_i S hSh
      have hm := mj_ev_le G n d mi _ _ h0
      have hm1 := hm.1
      have hm2 := hm.2
      have hq := mj_sh_le hSh
      have hq1 := hq.1
      have hq2 := hq.2
      dsimp only at hm1 hm2
      have hd := mj_dec_of hdec (fun d lo hi o q => by
        obtain ⟨ins, e2⟩ := E
        cases q
        cases hSh) (fun d o q => by
        obtain ⟨ins, e2⟩ := E
        cases q
        cases hSh)
      refine mj_sh_ok hY.2.2.2.2.2.1 hx hb hts hown hY.1 hgood.1 hd (by rw [hnm]; exact hokH) hsz hle hlz ⟨by omega, by omega, by omega⟩ hlr hP hS hSh ?_
      exact IH d mi _ o h' h0 hcb p e R s m args below meth c hs F0' hRf hRl (by rw [mj_sh_ls hSh]; exact hlen) (by omega) (by omega) hc1 hs1
    · cases h0
set_option maxHeartbeats 1000000 in
theorem mj_step {n : Nat} (hgood : mj_good G Ts M) (hl : l.stackTraces = false) (IH : mj_IH l D cA ρ base G Ts M n) : mj_IH l D cA ρ base G Ts M (n + 1) := by
  intro d mi S o h' hev hcb p e R s m args below meth c hs F hRf hRl hlen hle hlz hc1 hs1 rs H locs hlr hP hS
  obtain ⟨pc, ls, st, h⟩ := S
  dsimp only at hlen hle hlz hlr hP ⊢
  unfold mj_ev at hev
  dsimp only at hev
  split at hev
  rotate_left
  · cases hev
  rename_i E hE
  obtain ⟨-, -, -, -, -, hdec, hokP, hokH, hokR, hokT, hokI⟩ := hgood.2.2 mi pc E hE
  have F0' := F
  obtain ⟨hx, hb, hml, hown, hts, hret, hnm, hlocks, htab, hrel, hY, hsz, -⟩ := F
  obtain ⟨ins, e2⟩ := E
  cases ins with
  | ireturn => exact mj_rt_ok F0' (mj_dec_of hdec (fun _ _ _ _ q => by cases q) (fun _ _ q => by cases q)) hokR hP hS (Or.inl rfl) hev
  | lreturn => exact mj_rt_ok F0' (mj_dec_of hdec (fun _ _ _ _ q => by cases q) (fun _ _ q => by cases q)) hokR hP hS (Or.inr (Or.inl rfl)) hev
  | freturn => exact mj_rt_ok F0' (mj_dec_of hdec (fun _ _ _ _ q => by cases q) (fun _ _ q => by cases q)) hokR hP hS (Or.inr (Or.inr (Or.inl rfl))) hev
  | dreturn => exact mj_rt_ok F0' (mj_dec_of hdec (fun _ _ _ _ q => by cases q) (fun _ _ q => by cases q)) hokR hP hS (Or.inr (Or.inr (Or.inr (Or.inl rfl)))) hev
  | areturn => exact mj_rt_ok F0' (mj_dec_of hdec (fun _ _ _ _ q => by cases q) (fun _ _ q => by cases q)) hokR hP hS (Or.inr (Or.inr (Or.inr (Or.inr (Or.inl rfl))))) hev
  | return_ => exact mj_rt_ok F0' (mj_dec_of hdec (fun _ _ _ _ q => by cases q) (fun _ _ q => by cases q)) hokR hP hS (Or.inr (Or.inr (Or.inr (Or.inr (Or.inr rfl))))) hev
  | athrow =>
    dsimp only [mj_evI] at hev
    obtain ⟨q, r, rfl, h1⟩ := mj_pR_of hev
    refine mx_athrow hx hb (mj_dec_of hdec (fun _ _ _ _ q => by cases q) (fun _ _ q => by cases q)) ?_
    exact mj_thr_ok F0' (rec := mj_ev G n) (d := d) (fun S o h' a1 a2 a3 a4 a5 a6 a7 => IH d mi S o h' a7 a4 p e R s m args below meth c hs F0' hRf hRl a1 a2 a3 a5 a6) hlen hle hlz hcb hc1 hs1 hlr hP hS h1
  | invokevirtual i => exact mj_inv_ok hgood hl IH F0' rfl hdec hokI hRf hRl hlen hle hlz hcb hc1 hs1 hlr hP hS hev
  | invokespecial i => exact mj_inv_ok hgood hl IH F0' rfl hdec hokI hRf hRl hlen hle hlz hcb hc1 hs1 hlr hP hS hev
  | invokestatic i => exact mj_inv_ok hgood hl IH F0' rfl hdec hokI hRf hRl hlen hle hlz hcb hc1 hs1 hlr hP hS hev
  | invokeinterface i k => exact mj_inv_ok hgood hl IH F0' rfl hdec hokI hRf hRl hlen hle hlz hcb hc1 hs1 hlr hP hS hev
  | new i =>
    dsimp only [mj_evI] at hev
    split at hev
    · rename_i h2
      exact mj_nx_ok hgood IH F0' hdec hokP (hokH (decide_eq_false (fun z => z h2))) hRf hRl hlen hle hlz hcb hc1 hs1 hlr hP hS (by unfold mj_nx; exact hev)
    · rename_i h2
      split at hev
      · rename_i h3
        split at hev
        · rename_i hcat
          cases hev
          have ecs : mj_sz (h ++ [(.inr (e2.1, []) : mj_C)]) = mj_sz h + 6 := by
            obtain ⟨is, ic, r, names, text, ix, rx, hdx, hr, hr0, hr6, -⟩ := hokT.2 h3
            rw [mj_sz_push]
            show mj_sz h + mj_csl[e2.1]?.getD 0 = _
            dsimp only at hr6
            rw [hr6]
            rfl
          rw [ecs] at hs1
          rw [List.length_append] at hc1 hcb
          have hc1' : h.length + 1 - hs.length ≤ R.cells := hc1
          have hcb' : h.length + 1 ≤ mj_CB := hcb
          intro T hT X
          exact mj_mk_ok F0' (E := (.new i, e2)) rfl (mj_dec_of hdec (fun _ _ _ _ q => by cases q) (fun _ _ q => by cases q)) hokT h3 hlen hle hlz hcb' hc1' (by omega) (by omega) (by omega) hcat hlr hP hS (mj_size X hT hsz hle hP hS) T hT X
        · cases hev
      · rename_i h3
        have h4 : 1 < e2.2.2 := by
          omega
        intro T hT X
        exact mj_flt_ok hgood F0' (E := (.new i, e2)) rfl (mj_dec_of hdec (fun _ _ _ _ q => by cases q) (fun _ _ q => by cases q)) hokT h4 hlen hle hlz hcb hc1 hs1 (by omega) (by omega) hlr hP hS (mj_size X hT hsz hle hP hS) hev T hT X
  | _ => exact mj_nx_ok hgood IH F0' hdec hokP (hokH rfl) hRf hRl hlen hle hlz hcb hc1 hs1 hlr hP hS hev
/-- THE MACHINE FOLLOWS THE SMALL ONE -/
theorem mj_main (hgood : mj_good G Ts M) (hl : l.stackTraces = false) : ∀ n, mj_IH l D cA ρ base G Ts M n
  | 0 => fun d mi S o h' hev => by cases hev
  | n + 1 => mj_step hgood hl (mj_main hgood hl n)
end MJU
