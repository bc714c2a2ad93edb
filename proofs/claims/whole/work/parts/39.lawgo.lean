/-- the law's run to its end with true: k steps of its own, n steps and d calls for each that it calls -/
def mj_lwE (G : mj_G) (L : Nat) (xs : Nat → Int32) (n d : Nat) : Nat → mj_S → Option mj_H
  | 0, _ => none
  | k + 1, S => match mj_get mj_rL.2.2 S.1 with
    | some E => if S.2.1.length = 10 ∧ mj_mk E = false then match E.1 with
        | .ireturn => match S.2.2.1 with
          | [.int v] => if v = 1 then some S.2.2.2 else none
          | _ => none
        | _ => match mj_lwS G L xs n d E S.1 S.2.1 S.2.2.1 S.2.2.2 with
          | some S' => mj_lwE G L xs n d k S'
          | none => none
      else none
    | none => none
theorem mj_lwX_le {E : mj_E} {pc : Nat} {ls : mj_L} {st : List Value} {h : mj_H} {S : mj_S} (h0 : mj_lwX E pc ls st h = some S) : mj_le h S.2.2.2 := by
  unfold mj_lwX at h0
  split at h0
  · cases h0; exact mj_le.rf _
  · exact mj_sh_le h0
theorem mj_lwC_le {G : mj_G} {n d : Nat} {E : mj_E} {pc : Nat} {ls : mj_L} {st : List Value} {h : mj_H} {S : mj_S} (h0 : mj_lwC G n d E pc ls st h = some S) : mj_le h S.2.2.2 := by
  unfold mj_lwC at h0
  split at h0
  · split at h0
    · split at h0
      · rename_i v h1 hp
        cases h0
        exact mj_prim_le hp
      · cases h0
    · split at h0
      · split at h0
        · rename_i v h1 hev
          cases h0
          exact mj_ev_le _ _ _ _ _ _ hev
        · cases h0
      · cases h0
  · cases h0
theorem mj_lwS_le {G : mj_G} {L : Nat} {xs : Nat → Int32} {n d : Nat} {E : mj_E} {pc : Nat} {ls : mj_L} {st : List Value} {h : mj_H} {S : mj_S} (h0 : mj_lwS G L xs n d E pc ls st h = some S) : mj_le h S.2.2.2 := by
  unfold mj_lwS at h0
  split at h0
  · split at h0
    · cases h0; exact mj_le.rf _
    · exact mj_lwX_le h0
  · split at h0
    · cases h0; exact mj_le.rf _
    · exact mj_lwX_le h0
  · split at h0
    · split at h0
      · cases h0; exact mj_le.rf _
      · cases h0
    · exact mj_lwX_le h0
  · exact mj_lwC_le h0
  · exact mj_lwC_le h0
  · exact mj_lwC_le h0
  · exact mj_lwC_le h0
  · exact mj_lwX_le h0
theorem mj_lwE_le {G : mj_G} {L : Nat} {xs : Nat → Int32} {n d : Nat} : ∀ (k : Nat) (S : mj_S) (h' : mj_H), mj_lwE G L xs n d k S = some h' → mj_le S.2.2.2 h'
  | 0, S, h', h0 => by cases h0
  | k + 1, S, h', h0 => by
    unfold mj_lwE at h0
    split at h0
    · split at h0
      · split at h0
        · split at h0
          · split at h0
            · cases h0; exact mj_le.rf _
            · cases h0
          · cases h0
        · split at h0
          · rename_i S' hS'
            exact (mj_lwS_le hS').tr (mj_lwE_le k S' h' h0)
          · cases h0
      · cases h0
    · cases h0
section MJX
variable {p : Program} {l : Launch} {e : Env} {R : Room} {s : State} {m : MethodId} {args : Array Value} {below : List Frame} {meth : Method} {c : Code} {T : State} {H H1 : Heap} {locs : List Loc} {cells slots : Nat} {Q : State → Prop}
variable {D : va_G} {cA ρ : Nat → Nat} {base : Nat} {G : mj_G} {Ts : List Cond} {M : mj_M} {b L n d : Nat} {xs : Nat → Int32}
theorem mj_lwE_ok {row : mj_Row} (hrow : row.2.2 = mj_cL) (hrc : row.1.2.1 = code) (hrm : row.1.2.2.1 = 10) (F : mj_Lx p l R s m args meth c D cA ρ base G Ts M row b L xs) (hRf : d + 1 + 20 ≤ R.frames) (hRl : 64 * (d + 1) + 600 ≤ R.locals)
    (hend : ∀ (pc : Nat) (rs : Array Slot) (H : Heap) (locs : List Loc) (k1 n1 : Nat), decode code pc = .ok (.ireturn, 1) → k1 ≤ R.cells → n1 ≤ R.slots → va_S (fun q => base ≤ q) s.heap H locs → W p l e R s m args below meth c H locs k1 n1 Q (F0 m pc rs [.int 1])) :
    ∀ (k : Nat) (S : mj_S) (h' : mj_H), mj_lwE G L xs n d k S = some h' → h'.length ≤ mj_CB → h'.length ≤ R.cells → mj_sz h' ≤ R.slots → mj_KH p l e R s m args below meth c Q D cA ρ base [] S
  | 0, S, h', h0, _, _, _ => by cases h0
  | k + 1, S, h', h0, hcb, hc1, hs1 => by
    have hle := mj_lwE_le (k + 1) S h' h0
    unfold mj_lwE at h0
    split at h0
    · rename_i E hE
      split at h0
      · rename_i hlm
        split at h0
        · rename_i hret
          split at h0
          · rename_i v hst
            split at h0
            · rename_i hv
              cases h0
              intro rs H locs hlr hP hS
              rw [hst, hv]
              have hE' : mj_get row.2.2 S.1 = some E := by rw [hrow]; exact hE
              have hm := mj_get_of hE'
              obtain ⟨ch, hch1, hch2⟩ := List.mem_flatten.mp hm
              obtain ⟨hdec, -, -⟩ := mj_ck1_ok (List.all_eq_true.mp (List.all_eq_true.mp F.2.2.2.2.2.2.2.2.2.1.1 ch hch1) _ hch2)
              have hd := mj_dec_of hdec (fun _ _ _ _ q => by rw [hret] at q; cases q) (fun _ _ q => by rw [hret] at q; cases q)
              rw [hret, hrc] at hd
              exact hend S.1 rs H locs _ _ hd (by have := hc1; show S.2.2.2.length - 0 ≤ _; omega) (by show mj_sz S.2.2.2 - mj_sz [] ≤ _; omega) hS
            · cases h0
          · cases h0
        · split at h0
          · rename_i S' hS'
            have hle2 := mj_lwE_le k S' h' h0
            have q1 := hle2.1
            have q2 := hle2.2
            exact mj_lwS_ok F (by rw [hrow]; exact hE) hlm.2 hRf hRl (hlm.1.trans hrm.symm) ⟨by omega, by omega, by omega⟩ hS' (mj_lwE_ok hrow hrc hrm F hRf hRl hend k S' h' h0 hcb hc1 hs1)
          · cases h0
      · cases h0
    · cases h0
end MJX
/-- of a method that is no constructor the name does not matter -/
theorem mj_okH_nm {Ts : List Cond} {own : String} {i1 i2 : Prop} (hi : i1 → i2) {E : mj_E} (h : mj_okH Ts own i1 E) : mj_okH Ts own i2 E := by
  obtain ⟨ins, e2⟩ := E
  cases ins with
  | putfield idx =>
    obtain ⟨r, ref, h1, h2, h3, h4⟩ := h
    refine ⟨r, ref, h1, h2, h3, ?_⟩
    rcases h4 with h4 | ⟨g1, g2, g3⟩
    · exact Or.inl h4
    · exact Or.inr ⟨g1, hi g2, g3⟩
  | _ => exact h
theorem mj_okW_nm {Ts : List Cond} {M : mj_M} {y : mj_Mx} {nm : String} {pc : Nat} {E : mj_E} (hn : y.1.name ≠ "<init>") (h : mj_okW Ts M y pc E) : mj_okW Ts M (⟨y.1.cls, nm, y.1.desc⟩, y.2) pc E :=
  ⟨fun q => mj_okH_nm (fun z => absurd z hn) (h.1 q), h.2.1, h.2.2⟩
/-- WHAT IS LEFT: the law of the small machine comes to its end with true, for every script -/
theorem mj_whole {p : Program} {e : Env} {s : State} {m : MethodId} {below : List Frame} {meth : Method} {c : Code} (l : Launch) (hflags : l.flags = flags0) {b L : Nat} {xs : Nat → Int32} {n d k : Nat} {h' : mj_H} (hd : d ≤ 1000) (h0 : mj_lwE mj_Gg L xs n d k (0, mj_entry 10 [.retAddr 1], [], []) = some h') (hc1 : h'.length ≤ 601024) (hs1 : mj_sz h' ≤ 7293034) (C0 : lw_At p s m meth c b L xs) : W p l e room_1 s m #[Value.ref b] below meth c s.heap [] 0 0 (lw_Z below #[Value.ref b] s) (entryFrame m ([Value.ref b] : List Value).toArray 10) := by
  obtain ⟨hx, hb, hr, hml, hown, hts, hX, hbl, hlocks, hgv⟩ := C0
  obtain ⟨D, cA, ρ, hY, hρ1, hρ2⟩ := mj_start (b := b) hts hgv
  have hl : l.stackTraces = false := by
    unfold Launch.stackTraces
    rw [hflags]
    decide +kernel
  have F : mj_Lx p l room_1 s m #[Value.ref b] meth c D cA ρ s.heap.size mj_Gg mj_Tw mj_Mm ((⟨mj_mL.1.cls, meth.name, mj_mL.1.desc⟩, mj_mL.2), [], mj_cL) b L xs :=
    ⟨mj_good_ok, hl, hx, hb, hml, hown, mj_Tw_hts hts, hY, rfl, ⟨mj_ckL, fun y hy => mj_okW_nm (by decide) (mj_wlL y hy)⟩, rfl, hX, hbl, hρ1, hρ2⟩
  have hK := mj_lwE_ok (Q := lw_Z below #[Value.ref b] s) (R := room_1) (below := below) (e := e) rfl rfl rfl F (n := n) (d := d) (by show d + 1 + 20 ≤ 2048; omega) (by show 64 * (d + 1) + 600 ≤ 84000; omega)
    (fun pc rs H locs k1 n1 hd hk hn hS => va_forget (fun q hq => hS.2.2 q hq) (W.widen hk hn (lw_ret (d0 := s.drawn) (Drawn.sameBut.refl s.drawn lw_cs) hx hb hr hlocks hd)))
    k _ h' h0 (Nat.le_trans hc1 (by decide)) hc1 hs1
  have hent : (mj_ent [.retAddr 1]).length ≤ 10 := by decide
  have htv : mj_tv ρ (.retAddr 1) = .ref b := by
    show va_rf (if ρ (2 * mj_CB + 2) = 0 then none else some (ρ (2 * mj_CB + 3))) = _
    rw [hρ1, hρ2]
    rfl
  have hlr := mj_entry_lr (ρ := ρ) hent
  have hw := hK _ s.heap [] hlr (fun k q hk => by cases hk) ⟨Nat.le_refl _, fun _ _ _ => rfl, fun q hq => (nomatch hq)⟩
  rw [lg_entry_eq]
  simp only [List.map_cons, List.map_nil, htv] at hw
  exact hw
