/-- the law's run to its end with true: k steps of its own, n steps and d calls for each that it calls -/
def mj_lwE (G : mj_G) (L : Nat) (xs : Nat → Int32) (n d : Nat) : Nat → mj_S → Option mj_H
  | 0, _ => none
  | k + 1, S => match mj_get mj_rL.2.2 S.1 with
    | some E => if S.2.1.length = 10 ∧ mj_mk E = false then match E.1 with
        | .ireturn => match S.2.2.1 with
          | [.int v] => if v = 1 then some S.2.2.2 else none
          | _ => none
        | _ => match mj_lwS G L xs n d E S.1 S.2.1 S.2.2.1 S.2.2.2 with
          | some S' => mj_lwE G L xs n d k S'
          | none => none
      else none
    | none => none
theorem mj_lwX_le {E : mj_E} {pc : Nat} {ls : mj_L} {st : List Value} {h : mj_H} {S : mj_S} (h0 : mj_lwX E pc ls st h = some S) : mj_le h S.2.2.2 := by
  unfold mj_lwX at h0
  split at h0
  · cases h0; exact mj_le.rf _
  · exact mj_sh_le h0
theorem mj_lwC_le {G : mj_G} {n d : Nat} {E : mj_E} {pc : Nat} {ls : mj_L} {st : List Value} {h : mj_H} {S : mj_S} (h0 : mj_lwC G n d E pc ls st h = some S) : mj_le h S.2.2.2 := by
  unfold mj_lwC at h0
  split at h0
  · split at h0
    · split at h0
      · rename_i v h1 hp
        cases h0
        exact mj_prim_le hp
      · cases h0
    · split at h0
      · split at h0
        · rename_i v h1 hev
          cases h0
          exact mj_ev_le _ _ _ _ _ _ hev
        · cases h0
      · cases h0
  · cases h0
theorem mj_lwS_le {G : mj_G} {L : Nat} {xs : Nat → Int32} {n d : Nat} {E : mj_E} {pc : Nat} {ls : mj_L} {st : List Value} {h : mj_H} {S : mj_S} (h0 : mj_lwS G L xs n d E pc ls st h = some S) : mj_le h S.2.2.2 := by
  unfold mj_lwS at h0
  split at h0
  · split at h0
    · cases h0; exact mj_le.rf _
    · exact mj_lwX_le h0
  · split at h0
    · cases h0; exact mj_le.rf _
    · exact mj_lwX_le h0
  · split at h0
    · split at h0
      · cases h0; exact mj_le.rf _
      · cases h0
    · exact mj_lwX_le h0
  · exact mj_lwC_le h0
  · exact mj_lwC_le h0
  · exact mj_lwC_le h0
  · exact mj_lwC_le h0
  · exact mj_lwX_le h0
theorem mj_lwE_le {G : mj_G} {L : Nat} {xs : Nat → Int32} {n d : Nat} : ∀ (k : Nat) (S : mj_S) (h' : mj_H), mj_lwE G L xs n d k S = some h' → mj_le S.2.2.2 h'
  | 0, S, h', h0 => by cases h0
  | k + 1, S, h', h0 => by
    unfold mj_lwE at h0
    split at h0
    · split at h0
      · split at h0
        · split at h0
          · split at h0
            · cases h0; exact mj_le.rf _
            · cases h0
          · cases h0
        · split at h0
          · rename_i S' hS'
            exact (mj_lwS_le hS').tr (mj_lwE_le k S' h' h0)
          · cases h0
      · cases h0
    · cases h0
section MJX
variable {p : Program} {l : Launch} {e : Env} {R : Room} {s : State} {m : MethodId} {args : Array Value} {below : List Frame} {meth : Method} {c : Code} {T : State} {H H1 : Heap} {locs : List Loc} {cells slots : Nat} {Q : State → Prop}
variable {D : va_G} {cA ρ : Nat → Nat} {base : Nat} {G : mj_G} {Ts : List Cond} {M : mj_M} {b L n d : Nat} {xs : Nat → Int32}
theorem mj_lwE_ok (F : mj_Lx p l R s m args meth c D cA ρ base G Ts M mj_rL b L xs) (hRf : d + 1 + 20 ≤ R.frames) (hRl : 64 * (d + 1) + 600 ≤ R.locals)
    (hend : ∀ (pc : Nat) (rs : Array Slot) (H : Heap) (locs : List Loc) (k1 n1 : Nat), decode code pc = .ok (.ireturn, 1) → k1 ≤ R.cells → n1 ≤ R.slots → va_S (fun q => base ≤ q) s.heap H locs → W p l e R s m args below meth c H locs k1 n1 Q (F0 m pc rs [.int 1])) :
    ∀ (k : Nat) (S : mj_S) (h' : mj_H), mj_lwE G L xs n d k S = some h' → h'.length ≤ mj_CB → h'.length ≤ R.cells → mj_sz h' ≤ R.slots → mj_KH p l e R s m args below meth c Q D cA ρ base [] S
  | 0, S, h', h0, _, _, _ => by cases h0
  | k + 1, S, h', h0, hcb, hc1, hs1 => by
    have hle := mj_lwE_le (k + 1) S h' h0
    unfold mj_lwE at h0
    split at h0
    · rename_i E hE
      split at h0
      · rename_i hlm
        split at h0
        · rename_i hret
          split at h0
          · rename_i v hst
            split at h0
            · rename_i hv
              cases h0
              intro rs H locs hlr hP hS
              rw [hst, hv]
              have hm := mj_get_of hE
              obtain ⟨ch, hch1, hch2⟩ := List.mem_flatten.mp hm
              obtain ⟨hdec, -, -⟩ := mj_ck1_ok (List.all_eq_true.mp (List.all_eq_true.mp F.2.2.2.2.2.2.2.2.2.1.1 ch hch1) _ hch2)
              have hd := mj_dec_of hdec (fun _ _ _ _ q => by rw [hret] at q; cases q) (fun _ _ q => by rw [hret] at q; cases q)
              rw [hret] at hd
              exact hend S.1 rs H locs _ _ hd (by have := hc1; show S.2.2.2.length - 0 ≤ _; omega) (by show mj_sz S.2.2.2 - mj_sz [] ≤ _; omega) hS
            · cases h0
          · cases h0
        · split at h0
          · rename_i S' hS'
            have hle2 := mj_lwE_le k S' h' h0
            have q1 := hle2.1
            have q2 := hle2.2
            exact mj_lwS_ok F hE hlm.2 hRf hRl hlm.1 ⟨by omega, by omega, by omega⟩ hS' (mj_lwE_ok F hRf hRl hend k S' h' h0 hcb hc1 hs1)
          · cases h0
      · cases h0
    · cases h0
end MJX
/-- WHAT IS LEFT: the law of the small machine comes to its end with true, for every script -/
theorem mj_whole {p : Program} {e : Env} {s : State} {m : MethodId} {below : List Frame} {meth : Method} {c : Code} (l : Launch) (hflags : l.flags = flags0) {b L : Nat} {xs : Nat → Int32} {n d k : Nat} {h' : mj_H} (hd : d ≤ 1000) (h0 : mj_lwE mj_Gg L xs n d k (0, mj_entry 10 [.retAddr 1], [], []) = some h') (hc1 : h'.length ≤ 600002) (hs1 : mj_sz h' ≤ 7302232) (C0 : lw_At p s m meth c b L xs) : W p l e room_1 s m #[Value.ref b] below meth c s.heap [] 0 0 (lw_Z below #[Value.ref b] s) (entryFrame m ([Value.ref b] : List Value).toArray 10) := by
  sorry
