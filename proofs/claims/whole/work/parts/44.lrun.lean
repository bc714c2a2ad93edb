/-! Runs of the law's own frame, step by step. -/
def mj_lrun (L : Nat) (xs : Nat → Int32) (S : mj_S) (P : mj_H → Prop) : Prop := ∃ n k h', P h' ∧ ∀ d, 300 ≤ d → mj_lwE mj_Gg L xs n d k S = some h'
theorem mj_lwC_f {G : mj_G} {n d pc : Nat} {E : mj_E} {ls : mj_L} {st : List Value} {h : mj_H} {S : mj_S} (h0 : mj_lwC G n d E pc ls st h = some S) : mj_lwC G (n + 1) d E pc ls st h = some S := by
  unfold mj_lwC at h0 ⊢
  split at h0
  · rename_i hc
    rw [if_pos hc]
    split at h0
    · rename_i h9
      rw [if_pos h9]
      exact h0
    · rename_i h9
      rw [if_neg h9]
      split at h0
      · rename_i hv
        rw [if_pos hv]
        split at h0
        · rename_i v h1 he
          rw [mj_ev_fuel he 1]
          exact h0
        · cases h0
      · cases h0
  · cases h0
set_option maxRecDepth 10000 in
theorem mj_lwS_f {G : mj_G} {L n d pc : Nat} {xs : Nat → Int32} {E : mj_E} {ls : mj_L} {st : List Value} {h : mj_H} {S : mj_S} (h0 : mj_lwS G L xs n d E pc ls st h = some S) : mj_lwS G L xs (n + 1) d E pc ls st h = some S := by
  obtain ⟨ins, e2⟩ := E
  cases ins with
  | invokevirtual i =>
    have h1 : mj_lwC G n d (.invokevirtual i, e2) pc ls st h = some S := h0
    show mj_lwC G (n + 1) d (.invokevirtual i, e2) pc ls st h = some S
    exact mj_lwC_f h1
  | invokespecial i =>
    have h1 : mj_lwC G n d (.invokespecial i, e2) pc ls st h = some S := h0
    show mj_lwC G (n + 1) d (.invokespecial i, e2) pc ls st h = some S
    exact mj_lwC_f h1
  | invokestatic i =>
    have h1 : mj_lwC G n d (.invokestatic i, e2) pc ls st h = some S := h0
    show mj_lwC G (n + 1) d (.invokestatic i, e2) pc ls st h = some S
    exact mj_lwC_f h1
  | invokeinterface i k =>
    have h1 : mj_lwC G n d (.invokeinterface i k, e2) pc ls st h = some S := h0
    show mj_lwC G (n + 1) d (.invokeinterface i k, e2) pc ls st h = some S
    exact mj_lwC_f h1
  | _ => exact h0
theorem mj_lwE_f {G : mj_G} {L n d : Nat} {xs : Nat → Int32} {h' : mj_H} : ∀ (k : Nat) (S : mj_S), mj_lwE G L xs n d k S = some h' → mj_lwE G L xs (n + 1) d k S = some h'
  | 0, S, h0 => by cases h0
  | k + 1, S, h0 => by
    unfold mj_lwE at h0 ⊢
    split at h0
    · rename_i E hE
      try rw [hE]
      try dsimp only
      split at h0
      · rename_i hl
        rw [if_pos hl]
        split at h0
        · rename_i hr
          try rw [hr]
          exact h0
        · rename_i hr
          split at h0
          · rename_i S' hS
            have h2 := mj_lwE_f k S' h0
            split
            · rename_i S2 hS2
              rw [mj_lwS_f hS] at hS2
              cases hS2
              exact h2
            · rename_i hS2
              rw [mj_lwS_f hS] at hS2
              cases hS2
          · cases h0
      · cases h0
    · cases h0
theorem mj_lwE_fk {G : mj_G} {L n d k : Nat} {xs : Nat → Int32} {h' : mj_H} {S : mj_S} (h : mj_lwE G L xs n d k S = some h') : ∀ j, mj_lwE G L xs (n + j) d k S = some h'
  | 0 => h
  | j + 1 => mj_lwE_f k S (mj_lwE_fk h j)
def mj_isirt (i : Instr) : Bool := match i with
  | .ireturn => true
  | _ => false
section MJLR
variable {L pc p' : Nat} {xs : Nat → Int32} {ls ls' : mj_L} {st st' : List Value} {h h1 : mj_H} {P : mj_H → Prop} {i : Instr} {e : Nat × Nat × Nat}
theorem l_go {n0 : Nat} {S' : mj_S} (hE : mj_get mj_rL.2.2 pc = some (i, e)) (hl : ls.length = 10) (hm : (mj_mk (i, e) || mj_isirt i) = false) (hS : ∀ d, 300 ≤ d → mj_lwS mj_Gg L xs n0 d (i, e) pc ls st h = some S') (hn : mj_lrun L xs S' P) : mj_lrun L xs (pc, ls, st, h) P := by
  rw [Bool.or_eq_false_iff] at hm
  obtain ⟨n, k, h', hP0, hn⟩ := hn
  refine ⟨n0 + n, k + 1, h', hP0, fun d hd => ?_⟩
  unfold mj_lwE
  rw [hE]
  dsimp only
  rw [if_pos ⟨hl, hm.1⟩]
  have h1 : mj_lwS mj_Gg L xs (n0 + n) d (i, e) pc ls st h = some S' := by
    clear hn hE hl hm
    induction n with
    | zero => exact hS d hd
    | succ n ih => exact mj_lwS_f ih
  have h2 := mj_lwE_fk (hn d hd) n0
  rw [Nat.add_comm n n0] at h2
  split
  · cases hm.2
  · rw [h1]
    exact h2
/-- those that the law's frame does as any other -/
def mj_lwp (i : Instr) : Bool := match i with
  | .aload_n _ | .arraylength | .iaload | .invokevirtual _ | .invokespecial _ | .invokestatic _ | .invokeinterface _ _ => false
  | _ => true
theorem mj_lwS_p {G : mj_G} {n d : Nat} (hp : mj_lwp i = true) : mj_lwS G L xs n d (i, e) pc ls st h = mj_lwX (i, e) pc ls st h := by
  cases i <;> first | rfl | cases hp
theorem l_sp (hE : mj_get mj_rL.2.2 pc = some (i, e)) (hl : ls.length = 10) (hm : (mj_mk (i, e) || mj_isirt i) = false) (hp : mj_lwp i = true) (hs : mj_sp (i, e) pc ls st = some (p', ls', st')) (hn : mj_lrun L xs (p', ls', st', h) P) : mj_lrun L xs (pc, ls, st, h) P :=
  l_go (n0 := 0) hE hl hm (fun d _ => by rw [mj_lwS_p hp]; unfold mj_lwX; rw [hs]) hn
theorem l_sh (hE : mj_get mj_rL.2.2 pc = some (i, e)) (hl : ls.length = 10) (hm : (mj_mk (i, e) || mj_isirt i) = false) (hp : mj_lwp i = true) (hs0 : mj_sp (i, e) pc ls st = none) (hs : mj_sh (i, e) pc ls st h = some (p', ls', st', h1)) (hn : mj_lrun L xs (p', ls', st', h1) P) : mj_lrun L xs (pc, ls, st, h) P :=
  l_go (n0 := 0) hE hl hm (fun d _ => by rw [mj_lwS_p hp]; unfold mj_lwX; rw [hs0]; exact hs) hn
theorem l_con {v y z : Nat} {c : Int} (hE : mj_get mj_rL.2.2 pc = some (.iconst c, v, y, z)) (hl : ls.length = 10) (hp : pc + 1 = p') (hn : mj_lrun L xs (p', ls, .int (nI v) :: st, h) P) : mj_lrun L xs (pc, ls, st, h) P := l_sp (st' := .int (nI v) :: st) (ls' := ls) hE hl rfl rfl (hp ▸ rfl) hn
theorem l_bip {v y z : Nat} {c : Int} (hE : mj_get mj_rL.2.2 pc = some (.bipush c, v, y, z)) (hl : ls.length = 10) (hp : pc + 2 = p') (hn : mj_lrun L xs (p', ls, .int (nI v) :: st, h) P) : mj_lrun L xs (pc, ls, st, h) P := l_sp (st' := .int (nI v) :: st) (ls' := ls) hE hl rfl rfl (hp ▸ rfl) hn
theorem l_ild {j : Nat} {x : Int32} (hE : mj_get mj_rL.2.2 pc = some (.iload j, e)) (hl : ls.length = 10) (hx : mj_ld ls j = some (.int x)) (hp : pc + 2 = p') (hn : mj_lrun L xs (p', ls, .int x :: st, h) P) : mj_lrun L xs (pc, ls, st, h) P := l_sp (st' := .int x :: st) (ls' := ls) hE hl rfl rfl (by rw [← hp]; exact mj_ldI_is hx) hn
theorem l_ald {j x : Nat} (hE : mj_get mj_rL.2.2 pc = some (.aload j, e)) (hl : ls.length = 10) (hx : mj_ld ls j = some (.ref x)) (hp : pc + 2 = p') (hn : mj_lrun L xs (p', ls, .ref x :: st, h) P) : mj_lrun L xs (pc, ls, st, h) P := l_sp (st' := .ref x :: st) (ls' := ls) hE hl rfl rfl (by rw [← hp]; exact mj_ldA_is hx) hn
theorem l_aldn {j : Fin 4} {x : Nat} (hE : mj_get mj_rL.2.2 pc = some (.aload_n j, e)) (hl : ls.length = 10) (hx : mj_ld ls j = some (.ref x)) (hp : pc + 1 = p') (hn : mj_lrun L xs (p', ls, .ref x :: st, h) P) : mj_lrun L xs (pc, ls, st, h) P :=
  l_go (n0 := 0) hE hl rfl (fun d _ => by
    show (match mj_ld ls j with | some (.retAddr 1) => some (pc + 1, ls, .retAddr 1 :: st, h) | _ => mj_lwX (.aload_n j, e) pc ls st h) = some (p', ls, .ref x :: st, h)
    rw [hx]
    dsimp only
    unfold mj_lwX
    have : mj_sp (.aload_n j, e) pc ls st = some (p', ls, .ref x :: st) := by rw [← hp]; exact mj_ldA_is hx
    rw [this]) hn
/-- the script -/
theorem l_alds {j : Fin 4} (hE : mj_get mj_rL.2.2 pc = some (.aload_n j, e)) (hl : ls.length = 10) (hx : mj_ld ls j = some (.retAddr 1)) (hp : pc + 1 = p') (hn : mj_lrun L xs (p', ls, .retAddr 1 :: st, h) P) : mj_lrun L xs (pc, ls, st, h) P :=
  l_go (n0 := 0) hE hl rfl (fun d _ => by
    show (match mj_ld ls j with | some (.retAddr 1) => some (pc + 1, ls, .retAddr 1 :: st, h) | _ => mj_lwX (.aload_n j, e) pc ls st h) = some (p', ls, .retAddr 1 :: st, h)
    rw [hx, ← hp]
    rfl) hn
theorem l_lens (hE : mj_get mj_rL.2.2 pc = some (.arraylength, e)) (hl : ls.length = 10) (hp : pc + 1 = p') (hn : mj_lrun L xs (p', ls, .int (nI L) :: st, h) P) : mj_lrun L xs (pc, ls, .retAddr 1 :: st, h) P :=
  l_go (n0 := 0) hE hl rfl (fun d _ => by rw [← hp]; rfl) hn
theorem l_ials {j : Int32} (hE : mj_get mj_rL.2.2 pc = some (.iaload, e)) (hl : ls.length = 10) (hj : mj_inb j L = true) (hp : pc + 1 = p') (hn : mj_lrun L xs (p', ls, .int (xs j.toNatClampNeg) :: st, h) P) : mj_lrun L xs (pc, ls, .int j :: .retAddr 1 :: st, h) P :=
  l_go (n0 := 0) hE hl rfl (fun d _ => by
    show (if mj_inb j L = true then some (pc + 1, ls, .int (xs j.toNatClampNeg) :: st, h) else none) = _
    rw [if_pos hj, hp]) hn
theorem l_if {c : ClassFile.Cond} {off : Int} {x : Int32} (b : Bool) (hE : mj_get mj_rL.2.2 pc = some (.ifCond c off, e)) (hl : ls.length = 10) (hb : mj_ci c x 0 = b) (hp : mj_to b pc off = p') (hn : mj_lrun L xs (p', ls, st, h) P) : mj_lrun L xs (pc, ls, .int x :: st, h) P := by
  refine l_sp (p' := p') (ls' := ls) (st' := st) hE hl rfl rfl ?_ hn
  show mj_br (mj_ci c x 0) pc off ls st = _
  rw [hb, mj_br_eq, hp]
theorem l_icmp {c : ClassFile.Cond} {off : Int} {x y : Int32} (b : Bool) (hE : mj_get mj_rL.2.2 pc = some (.if_icmp c off, e)) (hl : ls.length = 10) (hb : mj_ci c x y = b) (hp : mj_to b pc off = p') (hn : mj_lrun L xs (p', ls, st, h) P) : mj_lrun L xs (pc, ls, .int y :: .int x :: st, h) P := by
  refine l_sp (p' := p') (ls' := ls) (st' := st) hE hl rfl rfl ?_ hn
  show mj_br (mj_ci c x y) pc off ls st = _
  rw [hb, mj_br_eq, hp]
theorem l_ist {j : Nat} {x : Int32} (hE : mj_get mj_rL.2.2 pc = some (.istore j, e)) (hl : ls.length = 10) (hi : Nat.blt j ls.length = true) (hs : mj_st1 ls j (.int x) = ls') (hp : pc + 2 = p') (hn : mj_lrun L xs (p', ls', st, h) P) : mj_lrun L xs (pc, ls, .int x :: st, h) P := l_sp (st' := st) (ls' := ls') hE hl rfl rfl (by
  show (if j < ls.length then some (pc + 2, mj_st1 ls j (.int x), st) else none) = _
  rw [if_pos (Nat.blt_eq.mp hi), hs, hp]) hn
theorem l_astn {j : Fin 4} {x : Nat} (hE : mj_get mj_rL.2.2 pc = some (.astore_n j, e)) (hl : ls.length = 10) (hi : Nat.blt j ls.length = true) (hs : mj_st1 ls j (.ref x) = ls') (hp : pc + 1 = p') (hn : mj_lrun L xs (p', ls', st, h) P) : mj_lrun L xs (pc, ls, .ref x :: st, h) P := l_sp (st' := st) (ls' := ls') hE hl rfl rfl (by
  show (if j < ls.length then some (pc + 1, mj_st1 ls j (.ref x), st) else none) = _
  rw [if_pos (Nat.blt_eq.mp hi), hs, hp]) hn
theorem l_ast {j x : Nat} (hE : mj_get mj_rL.2.2 pc = some (.astore j, e)) (hl : ls.length = 10) (hi : Nat.blt j ls.length = true) (hs : mj_st1 ls j (.ref x) = ls') (hp : pc + 2 = p') (hn : mj_lrun L xs (p', ls', st, h) P) : mj_lrun L xs (pc, ls, .ref x :: st, h) P := l_sp (st' := st) (ls' := ls') hE hl rfl rfl (by
  show (if j < ls.length then some (pc + 2, mj_st1 ls j (.ref x), st) else none) = _
  rw [if_pos (Nat.blt_eq.mp hi), hs, hp]) hn
theorem l_inc {j v y z : Nat} {x : Int32} {c : Int} (hE : mj_get mj_rL.2.2 pc = some (.iinc j c, v, y, z)) (hl : ls.length = 10) (hx : mj_ld ls j = some (.int x)) (hi : Nat.blt j ls.length = true) (hs : mj_st1 ls j (.int (x + nI v)) = ls') (hp : pc + 3 = p') (hn : mj_lrun L xs (p', ls', st, h) P) : mj_lrun L xs (pc, ls, st, h) P := l_sp (st' := st) (ls' := ls') hE hl rfl rfl (by
  show (match mj_ld ls j with | some (.int x) => if j < ls.length then some (pc + 3, mj_st1 ls j (.int (x + nI v)), st) else none | _ => none) = _
  rw [hx]
  dsimp only
  rw [if_pos (Nat.blt_eq.mp hi), hs, hp]) hn
theorem l_goto {off : Int} (hE : mj_get mj_rL.2.2 pc = some (.goto off, e)) (hl : ls.length = 10) (hp : mj_jmp pc off = p') (hn : mj_lrun L xs (p', ls, st, h) P) : mj_lrun L xs (pc, ls, st, h) P := l_sp (st' := st) (ls' := ls) hE hl rfl rfl (hp ▸ rfl) hn
theorem l_lal {a n : Nat} {f : Nat → Int64} {j : Int32} (hE : mj_get mj_rL.2.2 pc = some (.laload, e)) (hl : ls.length = 10) (hr : mj_rd h a = some (.inl (4, (n, .inr (.inl f))))) (hj : mj_inb j n = true) (hp : pc + 1 = p') (hn : mj_lrun L xs (p', ls, .long (f j.toNatClampNeg) :: st, h) P) : mj_lrun L xs (pc, ls, .int j :: .ref a :: st, h) P := by
  refine l_sh (p' := p') (ls' := ls) (st' := .long (f j.toNatClampNeg) :: st) (h1 := h) hE hl rfl rfl rfl ?_ hn
  show (match mj_rdA h a with | some (t, x) => if mj_kld .laload t x = true then match mj_ald j x with | some v => some (pc + 1, ls, v :: st, h) | none => none else none | none => none) = _
  rw [mj_rdA_is hr (by decide)]
  dsimp only
  rw [if_pos (show mj_kld .laload 4 (n, Sum.inr (Sum.inl f)) = true from rfl)]
  unfold mj_ald
  rw [if_pos hj, hp]
theorem l_dal {a n : Nat} {f : Nat → UInt64} {j : Int32} (hE : mj_get mj_rL.2.2 pc = some (.daload, e)) (hl : ls.length = 10) (hr : mj_rd h a = some (.inl (5, (n, .inr (.inr (.inr (.inl f))))))) (hj : mj_inb j n = true) (hp : pc + 1 = p') (hn : mj_lrun L xs (p', ls, .double (f j.toNatClampNeg) :: st, h) P) : mj_lrun L xs (pc, ls, .int j :: .ref a :: st, h) P := by
  refine l_sh (p' := p') (ls' := ls) (st' := .double (f j.toNatClampNeg) :: st) (h1 := h) hE hl rfl rfl rfl ?_ hn
  show (match mj_rdA h a with | some (t, x) => if mj_kld .daload t x = true then match mj_ald j x with | some v => some (pc + 1, ls, v :: st, h) | none => none else none | none => none) = _
  rw [mj_rdA_is hr (by decide)]
  dsimp only
  rw [if_pos (show mj_kld .daload 5 (n, Sum.inr (Sum.inr (Sum.inr (Sum.inl f)))) = true from rfl)]
  unfold mj_ald
  rw [if_pos hj, hp]
theorem l_new {j c y : Nat} {fs : List Value} (hE : mj_get mj_rL.2.2 pc = some (.new j, c, y, 0)) (hl : ls.length = 10) (hd : mj_dfl[c]? = some fs) (hp : pc + 3 = p') (hn : mj_lrun L xs (p', ls, .ref h.length :: st, h ++ [.inr (c, fs)]) P) : mj_lrun L xs (pc, ls, st, h) P := by
  refine l_sh (p' := p') (ls' := ls) (st' := .ref h.length :: st) (h1 := h ++ [.inr (c, fs)]) hE hl rfl rfl rfl ?_ hn
  show ((match mj_dfl[c]? with | some fs => some (pc + 3, ls, .ref h.length :: st, h ++ [.inr (c, fs)]) | none => none) : Option mj_S) = _
  rw [hd, hp]
theorem l_na {j : ArrayType} {t y z : Nat} {n : Int32} (hE : mj_get mj_rL.2.2 pc = some (.newarray j, t, y, z)) (hl : ls.length = 10) (hn0 : ¬ n < 0 ∧ n.toNatClampNeg ≤ 67108864) (hp : pc + 2 = p') (hn : mj_lrun L xs (p', ls, .ref h.length :: st, h ++ [.inl (t, mj_arr0 t n.toNatClampNeg)]) P) : mj_lrun L xs (pc, ls, .int n :: st, h) P := by
  refine l_sh (p' := p') (ls' := ls) (st' := .ref h.length :: st) (h1 := h ++ [.inl (t, mj_arr0 t n.toNatClampNeg)]) hE hl rfl rfl rfl ?_ hn
  rw [← hp]
  exact mj_na_is hn0
theorem l_dupr {x : Nat} (hE : mj_get mj_rL.2.2 pc = some (.dup, e)) (hl : ls.length = 10) (hp : pc + 1 = p') (hn : mj_lrun L xs (p', ls, .ref x :: .ref x :: st, h) P) : mj_lrun L xs (pc, ls, .ref x :: st, h) P := l_sp (st' := .ref x :: .ref x :: st) (ls' := ls) hE hl rfl rfl (hp ▸ rfl) hn
theorem mj_lwS_c {G : mj_G} {n d : Nat} (hx : mj_isiv i = true) : mj_lwS G L xs n d (i, e) pc ls st h = mj_lwC G n d (i, e) pc ls st h := by
  cases i <;> first | rfl | cases hx
theorem l_callG {m na z kc : Nat} {as r : List Value} {ls0 : mj_L} {v : Option Value} (hE : mj_get mj_rL.2.2 pc = some (i, m, na, z)) (hl : ls.length = 10) (hx : mj_isiv i = true) (hb : mj_cbb m na st = true) (ha : (st.take na).reverse = as) (hr : st.drop na = r) (hv : mj_rcv z as h = true) (hls : mj_entry (mj_Gg.2.1 m) as = ls0) (hcall : mj_run kc m (0, ls0, [], h) (.inl v, h1)) (hk : kc ≤ 300) (hq : pc + mj_ivl i = p') (hn : mj_lrun L xs (p', ls, v.toList ++ r, h1) P) : mj_lrun L xs (pc, ls, st, h) P := by
  obtain ⟨hlc, h9, hen⟩ := mj_cbb_of hb
  obtain ⟨n1, o1, ho1, hcall⟩ := hcall
  subst ho1
  refine l_go (n0 := n1) (S' := (p', ls, v.toList ++ r, h1)) hE hl (by cases i <;> first | rfl | cases hx) (fun d hd => ?_) hn
  rw [mj_lwS_c hx]
  unfold mj_lwC
  rw [if_pos hlc, if_neg h9]
  dsimp only
  rw [ha, hls]
  rw [ha] at hen
  rw [if_pos ⟨hv, hen⟩, hcall d (by omega), hr]
  dsimp only
  rw [hq]
theorem l_callV {m na z kc : Nat} {as r : List Value} {ls0 : mj_L} {v : Value} (hE : mj_get mj_rL.2.2 pc = some (i, m, na, z)) (hl : ls.length = 10) (hx : mj_isiv i = true) (hb : mj_cbb m na st = true) (ha : (st.take na).reverse = as) (hr : st.drop na = r) (hv : mj_rcv z as h = true) (hls : mj_entry (mj_Gg.2.1 m) as = ls0) (hcall : mj_run kc m (0, ls0, [], h) (.inl (some v), h1)) (hk : kc ≤ 300) (hq : pc + mj_ivl i = p') (hn : mj_lrun L xs (p', ls, v :: r, h1) P) : mj_lrun L xs (pc, ls, st, h) P := l_callG hE hl hx hb ha hr hv hls hcall hk hq hn
theorem l_callN {m na z kc : Nat} {as r : List Value} {ls0 : mj_L} (hE : mj_get mj_rL.2.2 pc = some (i, m, na, z)) (hl : ls.length = 10) (hx : mj_isiv i = true) (hb : mj_cbb m na st = true) (ha : (st.take na).reverse = as) (hr : st.drop na = r) (hv : mj_rcv z as h = true) (hls : mj_entry (mj_Gg.2.1 m) as = ls0) (hcall : mj_run kc m (0, ls0, [], h) (.inl none, h1)) (hk : kc ≤ 300) (hq : pc + mj_ivl i = p') (hn : mj_lrun L xs (p', ls, r, h1) P) : mj_lrun L xs (pc, ls, st, h) P := l_callG hE hl hx hb ha hr hv hls hcall hk hq hn
theorem l_end (hE : mj_get mj_rL.2.2 pc = some (.ireturn, e)) (hl : ls.length = 10) (hP : P h) : mj_lrun L xs (pc, ls, [.int (nI 1)], h) P := by
  refine ⟨0, 1, h, hP, fun d _ => ?_⟩
  unfold mj_lwE
  rw [hE]
  dsimp only
  rw [if_pos ⟨hl, rfl⟩, if_pos (show nI 1 = 1 from rfl)]
/-- the law goes on when a call ends -/
def mz_KL (L : Nat) (xs : Nat → Int32) (p' : Nat) (ls : mj_L) (r : List Value) (P : mj_H → Prop) (o : mj_O × mj_H) : Prop := match o.1 with
  | .inl v => mj_lrun L xs (p', ls, v.toList ++ r, o.2) P
  | .inr _ => False
theorem l_call {m na z kc : Nat} {as r : List Value} {ls0 : mj_L} (hE : mj_get mj_rL.2.2 pc = some (i, m, na, z)) (hl : ls.length = 10) (hx : mj_isiv i = true) (hb : mj_cbb m na st = true) (ha : (st.take na).reverse = as) (hr : st.drop na = r) (hv : mj_rcv z as h = true) (hls : mj_entry (mj_Gg.2.1 m) as = ls0) (hk : Nat.ble kc 300 = true) (hq : pc + mj_ivl i = p') (hcall : mj_Wp kc m (0, ls0, [], h) (mz_KL L xs p' ls r P)) : mj_lrun L xs (pc, ls, st, h) P := by
  obtain ⟨n1, ⟨o1, h1⟩, hK, hcall⟩ := hcall
  cases o1 with
  | inl v => exact l_callG hE hl hx hb ha hr hv hls ⟨n1, _, rfl, hcall⟩ (Nat.ble_eq.mp hk) hq hK
  | inr q => cases hK
section MJLK
variable {k mi p0 : Nat} {ls0 : mj_L} {r0 : List Value}
theorem k_iret {x : Int32} {r y z : Nat} (hE : mj_Gg.1 mi pc = some (.ireturn, r, y, z)) (hx : mj_nar r x = true) (hn : mj_lrun L xs (p0, ls0, .int x :: r0, h) P) : mj_Wp k mi (pc, ls, [.int x], h) (mz_KL L xs p0 ls0 r0 P) := s_iret hE hx hn
theorem k_lret {x : Int64} (hE : mj_Gg.1 mi pc = some (.lreturn, e)) (hn : mj_lrun L xs (p0, ls0, .long x :: r0, h) P) : mj_Wp k mi (pc, ls, [.long x], h) (mz_KL L xs p0 ls0 r0 P) := s_lret hE hn
theorem k_dret {x : UInt64} (hE : mj_Gg.1 mi pc = some (.dreturn, e)) (hn : mj_lrun L xs (p0, ls0, .double x :: r0, h) P) : mj_Wp k mi (pc, ls, [.double x], h) (mz_KL L xs p0 ls0 r0 P) := s_dret hE hn
theorem k_fret {x : UInt32} (hE : mj_Gg.1 mi pc = some (.freturn, e)) (hn : mj_lrun L xs (p0, ls0, .float x :: r0, h) P) : mj_Wp k mi (pc, ls, [.float x], h) (mz_KL L xs p0 ls0 r0 P) := s_fret hE hn
theorem k_ret (hE : mj_Gg.1 mi pc = some (.return_, e)) (hn : mj_lrun L xs (p0, ls0, r0, h) P) : mj_Wp k mi (pc, ls, [], h) (mz_KL L xs p0 ls0 r0 P) := s_ret hE hn
end MJLK
end MJLR
