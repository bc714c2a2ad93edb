/-! Runs of the small machine, step by step: k calls deep at most. -/
def mj_Wp (k mi : Nat) (S : mj_S) (Q : mj_O × mj_H → Prop) : Prop := ∃ n o, Q o ∧ ∀ d, k ≤ d → mj_ev mj_Gg n d mi S = some o
abbrev mj_run (k mi : Nat) (S : mj_S) (o : mj_O × mj_H) : Prop := mj_Wp k mi S (fun x => x = o)
theorem mj_Wp.mono {k k' mi : Nat} {S : mj_S} {Q : mj_O × mj_H → Prop} (h : mj_Wp k mi S Q) (hk : k ≤ k') : mj_Wp k' mi S Q := by
  obtain ⟨n, o, hq, h⟩ := h
  exact ⟨n, o, hq, fun d hd => h d (Nat.le_trans hk hd)⟩
theorem mj_Wp.imp {k mi : Nat} {S : mj_S} {Q Q' : mj_O × mj_H → Prop} (h : mj_Wp k mi S Q) (hi : ∀ o, Q o → Q' o) : mj_Wp k mi S Q' := by
  obtain ⟨n, o, hq, h⟩ := h
  exact ⟨n, o, hi o hq, h⟩
theorem mj_run.eq {k mi : Nat} {S : mj_S} {o o' : mj_O × mj_H} (h : mj_run k mi S o) (ho : o = o') : mj_run k mi S o' := ho ▸ h
theorem mj_ev_suc {G : mj_G} {n d mi pc : Nat} {ls : mj_L} {st : List Value} {h : mj_H} {E : mj_E} (hE : G.1 mi pc = some E) : mj_ev G (n + 1) d mi (pc, ls, st, h) = mj_evI G (mj_ev G n) d mi E pc ls st h := by
  show (match G.1 mi pc with | some E => mj_evI G (mj_ev G n) d mi E pc ls st h | none => none) = _
  rw [hE]
/-- neither call nor end nor throw -/
def mj_isnx (i : Instr) : Bool := match i with
  | .ireturn | .lreturn | .freturn | .dreturn | .areturn | .return_ | .athrow | .invokevirtual _ | .invokespecial _ | .invokestatic _ | .invokeinterface _ _ | .new _ => false
  | _ => true
set_option maxRecDepth 10000 in
theorem mj_evI_nx {G : mj_G} {rec : Nat → Nat → mj_S → Option (mj_O × mj_H)} {d mi pc : Nat} {ls : mj_L} {st : List Value} {h : mj_H} {i : Instr} {e : Nat × Nat × Nat} (hx : mj_isnx i = true) : mj_evI G rec d mi (i, e) pc ls st h = mj_nx rec d mi (i, e) pc ls st h := by
  cases i <;> first | rfl | cases hx
section MJST
variable {k k' mi pc p' : Nat} {ls ls' : mj_L} {st st' : List Value} {h h' : mj_H} {Q : mj_O × mj_H → Prop} {i : Instr} {e : Nat × Nat × Nat}
theorem s_sp (hE : mj_Gg.1 mi pc = some (i, e)) (hx : mj_isnx i = true) (hs : mj_sp (i, e) pc ls st = some (p', ls', st')) (hn : mj_Wp k mi (p', ls', st', h) Q) : mj_Wp k mi (pc, ls, st, h) Q := by
  obtain ⟨n, o, hq0, hn⟩ := hn
  refine ⟨n + 1, o, hq0, fun d hd => ?_⟩
  rw [mj_ev_suc hE, mj_evI_nx hx]
  unfold mj_nx
  rw [hs]
  exact hn d hd
theorem s_sh (hE : mj_Gg.1 mi pc = some (i, e)) (hx : mj_isnx i = true) (hs0 : mj_sp (i, e) pc ls st = none) (hs : mj_sh (i, e) pc ls st h = some (p', ls', st', h')) (hn : mj_Wp k mi (p', ls', st', h') Q) : mj_Wp k mi (pc, ls, st, h) Q := by
  obtain ⟨n, o, hq0, hn⟩ := hn
  refine ⟨n + 1, o, hq0, fun d hd => ?_⟩
  rw [mj_ev_suc hE, mj_evI_nx hx]
  unfold mj_nx
  rw [hs0]
  show (match mj_sh (i, e) pc ls st h with | some S => mj_ev mj_Gg n d mi S | none => none) = _
  rw [hs]
  exact hn d hd
/-- a branch -/
def mj_to (b : Bool) (pc : Nat) (off : Int) : Nat := match b with
  | true => mj_jmp pc off
  | false => pc + 3
theorem mj_br_eq (b : Bool) (pc : Nat) (off : Int) (ls : mj_L) (st : List Value) : mj_br b pc off ls st = some (mj_to b pc off, ls, st) := by cases b <;> rfl
theorem s_if {c : ClassFile.Cond} {off : Int} {x : Int32} (b : Bool) (hE : mj_Gg.1 mi pc = some (.ifCond c off, e)) (hb : mj_ci c x 0 = b) (hp : mj_to b pc off = p') (hn : mj_Wp k mi (p', ls, st, h) Q) : mj_Wp k mi (pc, ls, .int x :: st, h) Q := by
  refine s_sp (p' := p') (ls' := ls) (st' := st) hE rfl ?_ hn
  show mj_br (mj_ci c x 0) pc off ls st = _
  rw [hb, mj_br_eq, hp]
theorem s_icmp {c : ClassFile.Cond} {off : Int} {x y : Int32} (b : Bool) (hE : mj_Gg.1 mi pc = some (.if_icmp c off, e)) (hb : mj_ci c x y = b) (hp : mj_to b pc off = p') (hn : mj_Wp k mi (p', ls, st, h) Q) : mj_Wp k mi (pc, ls, .int y :: .int x :: st, h) Q := by
  refine s_sp (p' := p') (ls' := ls) (st' := st) hE rfl ?_ hn
  show mj_br (mj_ci c x y) pc off ls st = _
  rw [hb, mj_br_eq, hp]
theorem s_null {off : Int} {x : Option Nat} (b : Bool) (hE : mj_Gg.1 mi pc = some (.ifnull off, e)) (hb : decide (x = none) = b) (hp : mj_to b pc off = p') (hn : mj_Wp k mi (p', ls, st, h) Q) : mj_Wp k mi (pc, ls, va_rf x :: st, h) Q := by
  refine s_sp (p' := p') (ls' := ls) (st' := st) hE rfl ?_ hn
  cases x with
  | none => show mj_br (decide ((none : Option Nat) = none)) pc off ls st = _; rw [hb, mj_br_eq, hp]
  | some a => show mj_br (decide (some a = none)) pc off ls st = _; rw [hb, mj_br_eq, hp]
theorem s_nonnull {off : Int} {x : Option Nat} (b : Bool) (hE : mj_Gg.1 mi pc = some (.ifnonnull off, e)) (hb : decide (¬ x = none) = b) (hp : mj_to b pc off = p') (hn : mj_Wp k mi (p', ls, st, h) Q) : mj_Wp k mi (pc, ls, va_rf x :: st, h) Q := by
  refine s_sp (p' := p') (ls' := ls) (st' := st) hE rfl ?_ hn
  cases x with
  | none => show mj_br (decide (¬ (none : Option Nat) = none)) pc off ls st = _; rw [hb, mj_br_eq, hp]
  | some a => show mj_br (decide (¬ some a = none)) pc off ls st = _; rw [hb, mj_br_eq, hp]
/-! simple ones -/
theorem s_con {v y z : Nat} {c : Int} (hE : mj_Gg.1 mi pc = some (.iconst c, v, y, z)) (hp : pc + 1 = p') (hn : mj_Wp k mi (p', ls, .int (nI v) :: st, h) Q) : mj_Wp k mi (pc, ls, st, h) Q := s_sp (st' := .int (nI v) :: st) (ls' := ls) hE rfl (hp ▸ rfl) hn
theorem s_bip {v y z : Nat} {c : Int} (hE : mj_Gg.1 mi pc = some (.bipush c, v, y, z)) (hp : pc + 2 = p') (hn : mj_Wp k mi (p', ls, .int (nI v) :: st, h) Q) : mj_Wp k mi (pc, ls, st, h) Q := s_sp (st' := .int (nI v) :: st) (ls' := ls) hE rfl (hp ▸ rfl) hn
theorem s_sip {v y z : Nat} {c : Int} (hE : mj_Gg.1 mi pc = some (.sipush c, v, y, z)) (hp : pc + 3 = p') (hn : mj_Wp k mi (p', ls, .int (nI v) :: st, h) Q) : mj_Wp k mi (pc, ls, st, h) Q := s_sp (st' := .int (nI v) :: st) (ls' := ls) hE rfl (hp ▸ rfl) hn
theorem mj_ldI_is {j n : Nat} {x : Int32} (hl : mj_ld ls j = some (.int x)) : mj_ldI j n pc ls st = some (pc + n, ls, .int x :: st) := by unfold mj_ldI; rw [hl]
theorem mj_ldL_is {j n : Nat} {x : Int64} (hl : mj_ld ls j = some (.long x)) : mj_ldL j n pc ls st = some (pc + n, ls, .long x :: st) := by unfold mj_ldL; rw [hl]
theorem mj_ldA_is {j n : Nat} {x : Nat} (hl : mj_ld ls j = some (.ref x)) : mj_ldA j n pc ls st = some (pc + n, ls, .ref x :: st) := by unfold mj_ldA; rw [hl]
theorem mj_ldA_nul {j n : Nat} (hl : mj_ld ls j = some .null) : mj_ldA j n pc ls st = some (pc + n, ls, .null :: st) := by unfold mj_ldA; rw [hl]
theorem s_ildn {j : Fin 4} {x : Int32} (hE : mj_Gg.1 mi pc = some (.iload_n j, e)) (hl : mj_ld ls j = some (.int x)) (hp : pc + 1 = p') (hn : mj_Wp k mi (p', ls, .int x :: st, h) Q) : mj_Wp k mi (pc, ls, st, h) Q := s_sp (st' := .int x :: st) (ls' := ls) hE rfl (by rw [← hp]; exact mj_ldI_is hl) hn
theorem s_ild {j : Nat} {x : Int32} (hE : mj_Gg.1 mi pc = some (.iload j, e)) (hl : mj_ld ls j = some (.int x)) (hp : pc + 2 = p') (hn : mj_Wp k mi (p', ls, .int x :: st, h) Q) : mj_Wp k mi (pc, ls, st, h) Q := s_sp (st' := .int x :: st) (ls' := ls) hE rfl (by rw [← hp]; exact mj_ldI_is hl) hn
theorem s_lldn {j : Fin 4} {x : Int64} (hE : mj_Gg.1 mi pc = some (.lload_n j, e)) (hl : mj_ld ls j = some (.long x)) (hp : pc + 1 = p') (hn : mj_Wp k mi (p', ls, .long x :: st, h) Q) : mj_Wp k mi (pc, ls, st, h) Q := s_sp (st' := .long x :: st) (ls' := ls) hE rfl (by rw [← hp]; exact mj_ldL_is hl) hn
theorem s_aldn {j : Fin 4} {x : Nat} (hE : mj_Gg.1 mi pc = some (.aload_n j, e)) (hl : mj_ld ls j = some (.ref x)) (hp : pc + 1 = p') (hn : mj_Wp k mi (p', ls, .ref x :: st, h) Q) : mj_Wp k mi (pc, ls, st, h) Q := s_sp (st' := .ref x :: st) (ls' := ls) hE rfl (by rw [← hp]; exact mj_ldA_is hl) hn
theorem s_ald {j x : Nat} (hE : mj_Gg.1 mi pc = some (.aload j, e)) (hl : mj_ld ls j = some (.ref x)) (hp : pc + 2 = p') (hn : mj_Wp k mi (p', ls, .ref x :: st, h) Q) : mj_Wp k mi (pc, ls, st, h) Q := s_sp (st' := .ref x :: st) (ls' := ls) hE rfl (by rw [← hp]; exact mj_ldA_is hl) hn
theorem s_aldnN {j : Fin 4} (hE : mj_Gg.1 mi pc = some (.aload_n j, e)) (hl : mj_ld ls j = some .null) (hp : pc + 1 = p') (hn : mj_Wp k mi (p', ls, .null :: st, h) Q) : mj_Wp k mi (pc, ls, st, h) Q := s_sp (st' := .null :: st) (ls' := ls) hE rfl (by rw [← hp]; exact mj_ldA_nul hl) hn
theorem s_aldN {j : Nat} (hE : mj_Gg.1 mi pc = some (.aload j, e)) (hl : mj_ld ls j = some .null) (hp : pc + 2 = p') (hn : mj_Wp k mi (p', ls, .null :: st, h) Q) : mj_Wp k mi (pc, ls, st, h) Q := s_sp (st' := .null :: st) (ls' := ls) hE rfl (by rw [← hp]; exact mj_ldA_nul hl) hn
theorem s_istn {j : Fin 4} {x : Int32} (hE : mj_Gg.1 mi pc = some (.istore_n j, e)) (hi : Nat.blt j ls.length = true) (hs : mj_st1 ls j (.int x) = ls') (hp : pc + 1 = p') (hn : mj_Wp k mi (p', ls', st, h) Q) : mj_Wp k mi (pc, ls, .int x :: st, h) Q := s_sp (st' := st) (ls' := ls') hE rfl (by
  show (if j < ls.length then some (pc + 1, mj_st1 ls j (.int x), st) else none) = _
  rw [if_pos (Nat.blt_eq.mp hi), hs, hp]) hn
theorem s_ist {j : Nat} {x : Int32} (hE : mj_Gg.1 mi pc = some (.istore j, e)) (hi : Nat.blt j ls.length = true) (hs : mj_st1 ls j (.int x) = ls') (hp : pc + 2 = p') (hn : mj_Wp k mi (p', ls', st, h) Q) : mj_Wp k mi (pc, ls, .int x :: st, h) Q := s_sp (st' := st) (ls' := ls') hE rfl (by
  show (if j < ls.length then some (pc + 2, mj_st1 ls j (.int x), st) else none) = _
  rw [if_pos (Nat.blt_eq.mp hi), hs, hp]) hn
theorem s_astn {j : Fin 4} {x : Nat} (hE : mj_Gg.1 mi pc = some (.astore_n j, e)) (hi : Nat.blt j ls.length = true) (hs : mj_st1 ls j (.ref x) = ls') (hp : pc + 1 = p') (hn : mj_Wp k mi (p', ls', st, h) Q) : mj_Wp k mi (pc, ls, .ref x :: st, h) Q := s_sp (st' := st) (ls' := ls') hE rfl (by
  show (if j < ls.length then some (pc + 1, mj_st1 ls j (.ref x), st) else none) = _
  rw [if_pos (Nat.blt_eq.mp hi), hs, hp]) hn
theorem s_ast {j x : Nat} (hE : mj_Gg.1 mi pc = some (.astore j, e)) (hi : Nat.blt j ls.length = true) (hs : mj_st1 ls j (.ref x) = ls') (hp : pc + 2 = p') (hn : mj_Wp k mi (p', ls', st, h) Q) : mj_Wp k mi (pc, ls, .ref x :: st, h) Q := s_sp (st' := st) (ls' := ls') hE rfl (by
  show (if j < ls.length then some (pc + 2, mj_st1 ls j (.ref x), st) else none) = _
  rw [if_pos (Nat.blt_eq.mp hi), hs, hp]) hn
theorem s_astnN {j : Fin 4} (hE : mj_Gg.1 mi pc = some (.astore_n j, e)) (hi : Nat.blt j ls.length = true) (hs : mj_st1 ls j .null = ls') (hp : pc + 1 = p') (hn : mj_Wp k mi (p', ls', st, h) Q) : mj_Wp k mi (pc, ls, .null :: st, h) Q := s_sp (st' := st) (ls' := ls') hE rfl (by
  show (if j < ls.length then some (pc + 1, mj_st1 ls j .null, st) else none) = _
  rw [if_pos (Nat.blt_eq.mp hi), hs, hp]) hn
theorem s_inc {j v y z : Nat} {x : Int32} {c : Int} (hE : mj_Gg.1 mi pc = some (.iinc j c, v, y, z)) (hl : mj_ld ls j = some (.int x)) (hi : Nat.blt j ls.length = true) (hs : mj_st1 ls j (.int (x + nI v)) = ls') (hp : pc + 3 = p') (hn : mj_Wp k mi (p', ls', st, h) Q) : mj_Wp k mi (pc, ls, st, h) Q := s_sp (st' := st) (ls' := ls') hE rfl (by
  show (match mj_ld ls j with | some (.int x) => if j < ls.length then some (pc + 3, mj_st1 ls j (.int (x + nI v)), st) else none | _ => none) = _
  rw [hl]
  dsimp only
  rw [if_pos (Nat.blt_eq.mp hi), hs, hp]) hn
theorem s_goto {off : Int} (hE : mj_Gg.1 mi pc = some (.goto off, e)) (hp : mj_jmp pc off = p') (hn : mj_Wp k mi (p', ls, st, h) Q) : mj_Wp k mi (pc, ls, st, h) Q := s_sp (st' := st) (ls' := ls) hE rfl (hp ▸ rfl) hn
theorem s_dupr {x : Nat} (hE : mj_Gg.1 mi pc = some (.dup, e)) (hp : pc + 1 = p') (hn : mj_Wp k mi (p', ls, .ref x :: .ref x :: st, h) Q) : mj_Wp k mi (pc, ls, .ref x :: st, h) Q := s_sp (st' := .ref x :: .ref x :: st) (ls' := ls) hE rfl (hp ▸ rfl) hn
/-! fields -/
theorem s_gf {a c f : Nat} {fs : List Value} {v : Value} {j : Nat} {z : Nat} (hE : mj_Gg.1 mi pc = some (.getfield j, f, c, z)) (hr : mj_rd h a = some (.inr (c, fs))) (hf : fs[f]? = some v) (hp : pc + 3 = p') (hn : mj_Wp k mi (p', ls, v :: st, h) Q) : mj_Wp k mi (pc, ls, .ref a :: st, h) Q := by
  refine s_sh (p' := p') (ls' := ls) (st' := v :: st) (h' := h) hE rfl rfl ?_ hn
  show mj_gf (.getfield j, f, c, z) pc ls (.ref a :: st) h = _
  unfold mj_gf
  show (match mj_rdO h a with | some (c', fs) => if c' = c then match fs[f]? with | some v => some (pc + 3, ls, v :: st, h) | none => none else none | none => none) = _
  have : mj_rdO h a = some (c, fs) := by unfold mj_rdO; rw [hr]
  rw [this]
  dsimp only
  rw [if_pos rfl, hf, hp]
theorem s_pf {a c f : Nat} {fs fs' : List Value} {v : Value} {j : Nat} {z : Nat} (hE : mj_Gg.1 mi pc = some (.putfield j, f, c, z)) (ha : a < mj_CB) (hr : mj_rd h a = some (.inr (c, fs))) (hf : f < fs.length) (hv : mj_fit (mj_cty c f) v = true) (hs : fs.set f v = fs') (hp : pc + 3 = p') (hn : mj_Wp k mi (p', ls, st, h.set a (.inr (c, fs'))) Q) : mj_Wp k mi (pc, ls, v :: .ref a :: st, h) Q := by
  refine s_sh (p' := p') (ls' := ls) (st' := st) (h' := h.set a (.inr (c, fs'))) hE rfl rfl ?_ hn
  show mj_pf (.putfield j, f, c, z) pc ls (v :: .ref a :: st) h = _
  unfold mj_pf
  show (if a < mj_CB then match mj_rdO h a with | some (c', fs) => if c' = c ∧ f < fs.length ∧ mj_fit (mj_cty c' f) v = true then some (pc + 3, ls, st, h.set a (.inr (c', fs.set f v))) else none | none => none else none) = _
  have : mj_rdO h a = some (c, fs) := by unfold mj_rdO; rw [hr]
  rw [this, if_pos ha]
  dsimp only
  rw [if_pos ⟨rfl, hf, hv⟩, hs, hp]
/-! arrays -/
theorem mj_rdA_is {a t : Nat} {x : vp_A} (hr : mj_rd h a = some (.inl (t, x))) (ht : t ≠ 10) : mj_rdA h a = some (t, x) := by
  unfold mj_rdA
  rw [hr]
  dsimp only
  rw [if_neg (fun q => ht q.2)]
theorem mj_rdA_cst {a t : Nat} {x : vp_A} (hr : mj_rd h a = some (.inl (t, x))) (ha : ¬ a < mj_CB) : mj_rdA h a = some (t, x) := by
  unfold mj_rdA
  rw [hr]
  dsimp only
  rw [if_neg (fun q => ha q.1)]
theorem s_al {a t : Nat} {x : vp_A} {j : Int32} {v : Value} (hE : mj_Gg.1 mi pc = some (i, e)) (hx : mj_isnx i = true) (hs0 : mj_sp (i, e) pc ls (.int j :: .ref a :: st) = none) (hi : mj_sh (i, e) pc ls (.int j :: .ref a :: st) h = mj_al i pc ls (.int j :: .ref a :: st) h) (hr : mj_rdA h a = some (t, x)) (hk : mj_kld i t x = true) (hv : mj_ald j x = some v) (hp : pc + 1 = p') (hn : mj_Wp k mi (p', ls, v :: st, h) Q) : mj_Wp k mi (pc, ls, .int j :: .ref a :: st, h) Q := by
  refine s_sh (p' := p') (ls' := ls) (st' := v :: st) (h' := h) hE hx hs0 ?_ hn
  rw [hi]
  show (match mj_rdA h a with | some (t, x) => if mj_kld i t x = true then match mj_ald j x with | some v => some (pc + 1, ls, v :: st, h) | none => none else none | none => none) = _
  rw [hr]
  dsimp only
  rw [if_pos hk, hv, hp]
theorem s_ial {a n : Nat} {f : Nat → Int32} {j : Int32} (hE : mj_Gg.1 mi pc = some (.iaload, e)) (hr : mj_rd h a = some (.inl (0, (n, .inl f)))) (hj : mj_inb j n = true) (hp : pc + 1 = p') (hn : mj_Wp k mi (p', ls, .int (f j.toNatClampNeg) :: st, h) Q) : mj_Wp k mi (pc, ls, .int j :: .ref a :: st, h) Q :=
  s_al (v := .int (f j.toNatClampNeg)) hE rfl rfl rfl (mj_rdA_is hr (by decide)) rfl (by unfold mj_ald; rw [if_pos hj]) hp hn
theorem s_bal1 {a n : Nat} {f : Nat → Int32} {j : Int32} (hE : mj_Gg.1 mi pc = some (.baload, e)) (hr : mj_rd h a = some (.inl (1, (n, .inl f)))) (hj : mj_inb j n = true) (hp : pc + 1 = p') (hn : mj_Wp k mi (p', ls, .int (f j.toNatClampNeg) :: st, h) Q) : mj_Wp k mi (pc, ls, .int j :: .ref a :: st, h) Q :=
  s_al (v := .int (f j.toNatClampNeg)) hE rfl rfl rfl (mj_rdA_is hr (by decide)) rfl (by unfold mj_ald; rw [if_pos hj]) hp hn
theorem s_bal2 {a n : Nat} {f : Nat → Int32} {j : Int32} (hE : mj_Gg.1 mi pc = some (.baload, e)) (hr : mj_rd h a = some (.inl (2, (n, .inl f)))) (hj : mj_inb j n = true) (hp : pc + 1 = p') (hn : mj_Wp k mi (p', ls, .int (f j.toNatClampNeg) :: st, h) Q) : mj_Wp k mi (pc, ls, .int j :: .ref a :: st, h) Q :=
  s_al (v := .int (f j.toNatClampNeg)) hE rfl rfl rfl (mj_rdA_is hr (by decide)) rfl (by unfold mj_ald; rw [if_pos hj]) hp hn
theorem s_cal {a n : Nat} {f : Nat → Int32} {j : Int32} (hE : mj_Gg.1 mi pc = some (.caload, e)) (hr : mj_rd h a = some (.inl (3, (n, .inl f)))) (hj : mj_inb j n = true) (hp : pc + 1 = p') (hn : mj_Wp k mi (p', ls, .int (f j.toNatClampNeg) :: st, h) Q) : mj_Wp k mi (pc, ls, .int j :: .ref a :: st, h) Q :=
  s_al (v := .int (f j.toNatClampNeg)) hE rfl rfl rfl (mj_rdA_is hr (by decide)) rfl (by unfold mj_ald; rw [if_pos hj]) hp hn
theorem s_lal {a n : Nat} {f : Nat → Int64} {j : Int32} (hE : mj_Gg.1 mi pc = some (.laload, e)) (hr : mj_rd h a = some (.inl (4, (n, .inr (.inl f))))) (hj : mj_inb j n = true) (hp : pc + 1 = p') (hn : mj_Wp k mi (p', ls, .long (f j.toNatClampNeg) :: st, h) Q) : mj_Wp k mi (pc, ls, .int j :: .ref a :: st, h) Q :=
  s_al (v := .long (f j.toNatClampNeg)) hE rfl rfl rfl (mj_rdA_is hr (by decide)) rfl (by unfold mj_ald; rw [if_pos hj]) hp hn
theorem s_aal {a t n : Nat} {f : Nat → Option Nat} {j : Int32} (hE : mj_Gg.1 mi pc = some (.aaload, e)) (hr : mj_rdA h a = some (t, (n, .inr (.inr (.inr (.inr f)))))) (ht : 6 ≤ t ∧ t < 11) (hj : mj_inb j n = true) (hp : pc + 1 = p') (hn : mj_Wp k mi (p', ls, va_rf (f j.toNatClampNeg) :: st, h) Q) : mj_Wp k mi (pc, ls, .int j :: .ref a :: st, h) Q :=
  s_al (v := va_rf (f j.toNatClampNeg)) hE rfl rfl rfl hr (decide_eq_true ht) (by unfold mj_ald; rw [if_pos hj]) hp hn
theorem s_len {a t : Nat} {n : Nat} {x : (Nat → Int32) ⊕ (Nat → Int64) ⊕ (Nat → UInt32) ⊕ (Nat → UInt64) ⊕ (Nat → Option Nat)} (hE : mj_Gg.1 mi pc = some (.arraylength, e)) (hr : mj_rdA h a = some (t, (n, x))) (ht : t < 11) (hp : pc + 1 = p') (hn : mj_Wp k mi (p', ls, .int (nI n) :: st, h) Q) : mj_Wp k mi (pc, ls, .ref a :: st, h) Q := by
  refine s_sh (p' := p') (ls' := ls) (st' := .int (nI n) :: st) (h' := h) hE rfl rfl ?_ hn
  show ((match mj_rdA h a with | some (t, (n, _)) => if t < 11 then some (pc + 1, ls, .int (nI n) :: st, h) else none | none => none) : Option mj_S) = _
  rw [hr]
  dsimp only
  rw [if_pos ht, hp]
theorem mj_sto_is {a t n : Nat} {x y : (Nat → Int32) ⊕ (Nat → Int64) ⊕ (Nat → UInt32) ⊕ (Nat → UInt64) ⊕ (Nat → Option Nat)} {j : Int32} {K : Nat → Nat → (Nat → Int32) ⊕ (Nat → Int64) ⊕ (Nat → UInt32) ⊕ (Nat → UInt64) ⊕ (Nat → Option Nat) → Option vp_A} (ha : a < mj_CB) (hr : mj_rdA h a = some (t, (n, x))) (hj : mj_inb j n = true) (hK : K t n x = some (n, y)) : mj_sto h a pc ls st j K = some (pc + 1, ls, st, h.set a (.inl (t, (n, y)))) := by
  unfold mj_sto
  rw [if_pos ha, hr]
  dsimp only
  rw [if_pos hj, hK]
theorem s_ias {a n : Nat} {f : Nat → Int32} {j v : Int32} (hE : mj_Gg.1 mi pc = some (.iastore, e)) (ha : a < mj_CB) (hr : mj_rd h a = some (.inl (0, (n, .inl f)))) (hj : mj_inb j n = true) (hp : pc + 1 = p') (hn : mj_Wp k mi (p', ls, st, h.set a (.inl (0, (n, .inl (upd f j.toNatClampNeg v))))) Q) : mj_Wp k mi (pc, ls, .int v :: .int j :: .ref a :: st, h) Q := by
  refine s_sh (p' := p') (ls' := ls) (st' := st) (h' := h.set a (.inl (0, (n, .inl (upd f j.toNatClampNeg v))))) hE rfl rfl ?_ hn
  rw [← hp]
  exact mj_sto_is ha (mj_rdA_is hr (by decide)) hj rfl
theorem s_bas1 {a n : Nat} {f : Nat → Int32} {j v : Int32} (hE : mj_Gg.1 mi pc = some (.bastore, e)) (ha : a < mj_CB) (hr : mj_rd h a = some (.inl (1, (n, .inl f)))) (hj : mj_inb j n = true) (hp : pc + 1 = p') (hn : mj_Wp k mi (p', ls, st, h.set a (.inl (1, (n, .inl (upd f j.toNatClampNeg (vp_nar .byte v)))))) Q) : mj_Wp k mi (pc, ls, .int v :: .int j :: .ref a :: st, h) Q := by
  refine s_sh (p' := p') (ls' := ls) (st' := st) (h' := h.set a (.inl (1, (n, .inl (upd f j.toNatClampNeg (vp_nar .byte v)))))) hE rfl rfl ?_ hn
  rw [← hp]
  exact mj_sto_is ha (mj_rdA_is hr (by decide)) hj rfl
theorem s_bas2 {a n : Nat} {f : Nat → Int32} {j v : Int32} (hE : mj_Gg.1 mi pc = some (.bastore, e)) (ha : a < mj_CB) (hr : mj_rd h a = some (.inl (2, (n, .inl f)))) (hj : mj_inb j n = true) (hp : pc + 1 = p') (hn : mj_Wp k mi (p', ls, st, h.set a (.inl (2, (n, .inl (upd f j.toNatClampNeg (vp_nar .boolean v)))))) Q) : mj_Wp k mi (pc, ls, .int v :: .int j :: .ref a :: st, h) Q := by
  refine s_sh (p' := p') (ls' := ls) (st' := st) (h' := h.set a (.inl (2, (n, .inl (upd f j.toNatClampNeg (vp_nar .boolean v)))))) hE rfl rfl ?_ hn
  rw [← hp]
  exact mj_sto_is ha (mj_rdA_is hr (by decide)) hj rfl
theorem s_cas {a n : Nat} {f : Nat → Int32} {j v : Int32} (hE : mj_Gg.1 mi pc = some (.castore, e)) (ha : a < mj_CB) (hr : mj_rd h a = some (.inl (3, (n, .inl f)))) (hj : mj_inb j n = true) (hp : pc + 1 = p') (hn : mj_Wp k mi (p', ls, st, h.set a (.inl (3, (n, .inl (upd f j.toNatClampNeg (vp_nar .char v)))))) Q) : mj_Wp k mi (pc, ls, .int v :: .int j :: .ref a :: st, h) Q := by
  refine s_sh (p' := p') (ls' := ls) (st' := st) (h' := h.set a (.inl (3, (n, .inl (upd f j.toNatClampNeg (vp_nar .char v)))))) hE rfl rfl ?_ hn
  rw [← hp]
  exact mj_sto_is ha (mj_rdA_is hr (by decide)) hj rfl
theorem s_las {a n : Nat} {f : Nat → Int64} {j : Int32} {v : Int64} (hE : mj_Gg.1 mi pc = some (.lastore, e)) (ha : a < mj_CB) (hr : mj_rd h a = some (.inl (4, (n, .inr (.inl f))))) (hj : mj_inb j n = true) (hp : pc + 1 = p') (hn : mj_Wp k mi (p', ls, st, h.set a (.inl (4, (n, .inr (.inl (vp_updL f j.toNatClampNeg v)))))) Q) : mj_Wp k mi (pc, ls, .long v :: .int j :: .ref a :: st, h) Q := by
  refine s_sh (p' := p') (ls' := ls) (st' := st) (h' := h.set a (.inl (4, (n, .inr (.inl (vp_updL f j.toNatClampNeg v)))))) hE rfl rfl ?_ hn
  rw [← hp]
  exact mj_sto_is ha (mj_rdA_is hr (by decide)) hj rfl
theorem s_aas {a t n q c : Nat} {fs : List Value} {f : Nat → Option Nat} {j : Int32} (hE : mj_Gg.1 mi pc = some (.aastore, e)) (ha : a < mj_CB) (hr : mj_rd h a = some (.inl (t, (n, .inr (.inr (.inr (.inr f))))))) (ht : 6 ≤ t ∧ t < 10) (hj : mj_inb j n = true) (hq : mj_rd h q = some (.inr (c, fs))) (hc : mj_aok t c = true) (hp : pc + 1 = p') (hn : mj_Wp k mi (p', ls, st, h.set a (.inl (t, (n, .inr (.inr (.inr (.inr (va_up f j.toNatClampNeg (some q)))))))) ) Q) : mj_Wp k mi (pc, ls, .ref q :: .int j :: .ref a :: st, h) Q := by
  refine s_sh (p' := p') (ls' := ls) (st' := st) (h' := h.set a (.inl (t, (n, .inr (.inr (.inr (.inr (va_up f j.toNatClampNeg (some q))))))))) hE rfl rfl ?_ hn
  rw [← hp]
  refine mj_sto_is ha (mj_rdA_is hr (by omega)) hj ?_
  have : mj_ocl h q = some c := by unfold mj_ocl mj_rdO; rw [hq]
  dsimp only
  rw [this]
  dsimp only
  rw [if_pos ⟨ht, hc⟩]
theorem s_aasN {a t n : Nat} {f : Nat → Option Nat} {j : Int32} (hE : mj_Gg.1 mi pc = some (.aastore, e)) (ha : a < mj_CB) (hr : mj_rd h a = some (.inl (t, (n, .inr (.inr (.inr (.inr f))))))) (ht : 6 ≤ t ∧ t < 10) (hj : mj_inb j n = true) (hp : pc + 1 = p') (hn : mj_Wp k mi (p', ls, st, h.set a (.inl (t, (n, .inr (.inr (.inr (.inr (va_up f j.toNatClampNeg none))))))) ) Q) : mj_Wp k mi (pc, ls, .null :: .int j :: .ref a :: st, h) Q := by
  refine s_sh (p' := p') (ls' := ls) (st' := st) (h' := h.set a (.inl (t, (n, .inr (.inr (.inr (.inr (va_up f j.toNatClampNeg none)))))))) hE rfl rfl ?_ hn
  rw [← hp]
  refine mj_sto_is ha (mj_rdA_is hr (by omega)) hj ?_
  dsimp only
  rw [if_pos ht]
/-! new cells -/
theorem mj_na_is {t len : Nat} {n : Int32} (hn : ¬ n < 0 ∧ n.toNatClampNeg ≤ 67108864) : mj_na t len pc ls (.int n :: st) h = some (pc + len, ls, .ref h.length :: st, h ++ [.inl (t, mj_arr0 t n.toNatClampNeg)]) := by
  show (if ¬ n < 0 ∧ n.toNatClampNeg ≤ 67108864 then _ else _) = _
  rw [if_pos hn]
theorem s_na {j : ArrayType} {t y z : Nat} {n : Int32} (hE : mj_Gg.1 mi pc = some (.newarray j, t, y, z)) (hl : ¬ n < 0 ∧ n.toNatClampNeg ≤ 67108864) (hp : pc + 2 = p') (hn : mj_Wp k mi (p', ls, .ref h.length :: st, h ++ [.inl (t, mj_arr0 t n.toNatClampNeg)]) Q) : mj_Wp k mi (pc, ls, .int n :: st, h) Q := by
  refine s_sh (p' := p') (ls' := ls) (st' := .ref h.length :: st) (h' := h ++ [.inl (t, mj_arr0 t n.toNatClampNeg)]) hE rfl rfl ?_ hn
  rw [← hp]
  exact mj_na_is hl
theorem s_ana {j : Nat} {t y z : Nat} {n : Int32} (hE : mj_Gg.1 mi pc = some (.anewarray j, t, y, z)) (hl : ¬ n < 0 ∧ n.toNatClampNeg ≤ 67108864) (hp : pc + 3 = p') (hn : mj_Wp k mi (p', ls, .ref h.length :: st, h ++ [.inl (t, mj_arr0 t n.toNatClampNeg)]) Q) : mj_Wp k mi (pc, ls, .int n :: st, h) Q := by
  refine s_sh (p' := p') (ls' := ls) (st' := .ref h.length :: st) (h' := h ++ [.inl (t, mj_arr0 t n.toNatClampNeg)]) hE rfl rfl ?_ hn
  rw [← hp]
  exact mj_na_is hl
theorem s_new {j c y : Nat} {fs : List Value} (hE : mj_Gg.1 mi pc = some (.new j, c, y, 0)) (hd : mj_dfl[c]? = some fs) (hp : pc + 3 = p') (hn : mj_Wp k mi (p', ls, .ref h.length :: st, h ++ [.inr (c, fs)]) Q) : mj_Wp k mi (pc, ls, st, h) Q := by
  obtain ⟨n, o, hq0, hn⟩ := hn
  refine ⟨n + 1, o, hq0, fun d hd' => ?_⟩
  rw [mj_ev_suc hE]
  have : mj_sh (.new j, c, y, 0) pc ls st h = some (pc + 3, ls, .ref h.length :: st, h ++ [.inr (c, fs)]) := by
    show ((match mj_dfl[c]? with | some fs => some (pc + 3, ls, .ref h.length :: st, h ++ [.inr (c, fs)]) | none => none) : Option mj_S) = _
    rw [hd]
  show (if (0 : Nat) = 0 then (match mj_sh (.new j, c, y, 0) pc ls st h with | some S => mj_ev mj_Gg n d mi S | none => none) else (if (st.map fun v => v.category).sum ≤ 8 then some (.inr h.length, h ++ [.inr (c, [])]) else none : Option (mj_O × mj_H))) = some o
  rw [if_pos rfl, this, hp]
  exact hn d hd'
/-- throw new E("text") -/
theorem s_thr {j c y : Nat} (hE : mj_Gg.1 mi pc = some (.new j, c, y, 1)) (hs : (st.map fun v => v.category).sum ≤ 8) (hq : Q (.inr h.length, h ++ [.inr (c, [])])) : mj_Wp k mi (pc, ls, st, h) Q := by
  refine ⟨1, _, hq, fun d hd' => ?_⟩
  rw [mj_ev_suc hE]
  show (if 1 = 0 then (match mj_sh (.new j, c, y, 1) pc ls st h with | some S => mj_ev mj_Gg 0 d mi S | none => none) else if 1 = 1 then (if (st.map fun v => v.category).sum ≤ 8 then some (.inr h.length, h ++ [.inr (c, [])]) else none) else mj_flt (.new j, c, y, 1) pc ls st h : Option (mj_O × mj_H)) = _
  rw [if_neg (by omega), if_pos rfl, if_pos hs]
theorem s_flt {j c y z : Nat} {o : mj_O × mj_H} (hE : mj_Gg.1 mi pc = some (.new j, c, y, z + 2)) (hf : mj_flt (.new j, c, y, z + 2) pc ls st h = some o) (hq : Q o) : mj_Wp k mi (pc, ls, st, h) Q := by
  refine ⟨1, _, hq, fun d hd' => ?_⟩
  rw [mj_ev_suc hE]
  show (if z + 2 = 0 then (match mj_sh (.new j, c, y, z + 2) pc ls st h with | some S => mj_ev mj_Gg 0 d mi S | none => none) else if z + 2 = 1 then (if (st.map fun v => v.category).sum ≤ 8 then some (.inr h.length, h ++ [.inr (c, [])]) else none) else mj_flt (.new j, c, y, z + 2) pc ls st h : Option (mj_O × mj_H)) = _
  rw [if_neg (by omega), if_neg (by omega), hf]
theorem s_ccn {j t y z : Nat} (hE : mj_Gg.1 mi pc = some (.checkcast j, t, y, z)) (hp : pc + 3 = p') (hn : mj_Wp k mi (p', ls, .null :: st, h) Q) : mj_Wp k mi (pc, ls, .null :: st, h) Q :=
  s_sh (p' := p') (ls' := ls) (st' := .null :: st) (h' := h) hE rfl rfl (hp ▸ rfl) hn
theorem s_cco {j c z a : Nat} {fs : List Value} (hE : mj_Gg.1 mi pc = some (.checkcast j, c, 0, z)) (hr : mj_rd h a = some (.inr (c, fs))) (hp : pc + 3 = p') (hn : mj_Wp k mi (p', ls, .ref a :: st, h) Q) : mj_Wp k mi (pc, ls, .ref a :: st, h) Q := by
  refine s_sh (p' := p') (ls' := ls) (st' := .ref a :: st) (h' := h) hE rfl rfl ?_ hn
  show ((if (0 : Nat) = 0 then (match mj_rdO h a with | some (c', _) => if c' = c then some (pc + 3, ls, .ref a :: st, h) else none | none => none) else (if a < mj_CB then (match mj_rdA h a with | some (t, _) => if t = c then some (pc + 3, ls, .ref a :: st, h) else none | none => none) else none)) : Option mj_S) = _
  have : mj_rdO h a = some (c, fs) := by unfold mj_rdO; rw [hr]
  rw [if_pos rfl, this]
  dsimp only
  rw [if_pos rfl, hp]
/-! ends -/
theorem s_iret {x : Int32} {r y z : Nat} (hE : mj_Gg.1 mi pc = some (.ireturn, r, y, z)) (hx : mj_nar r x = true) (hq : Q (.inl (some (.int x)), h)) : mj_Wp k mi (pc, ls, [.int x], h) Q := by
  refine ⟨1, _, hq, fun d _ => ?_⟩
  rw [mj_ev_suc hE]
  show ((if ([] : List Value) = [] ∧ mj_nar r x = true then some (.inl (some (.int x)), h) else none) : Option (mj_O × mj_H)) = _
  rw [if_pos ⟨rfl, hx⟩]
theorem s_lret {x : Int64} (hE : mj_Gg.1 mi pc = some (.lreturn, e)) (hq : Q (.inl (some (.long x)), h)) : mj_Wp k mi (pc, ls, [.long x], h) Q := ⟨1, _, hq, fun d _ => by rw [mj_ev_suc hE]; rfl⟩
theorem s_dret {x : UInt64} (hE : mj_Gg.1 mi pc = some (.dreturn, e)) (hq : Q (.inl (some (.double x)), h)) : mj_Wp k mi (pc, ls, [.double x], h) Q := ⟨1, _, hq, fun d _ => by rw [mj_ev_suc hE]; rfl⟩
theorem s_fret {x : UInt32} (hE : mj_Gg.1 mi pc = some (.freturn, e)) (hq : Q (.inl (some (.float x)), h)) : mj_Wp k mi (pc, ls, [.float x], h) Q := ⟨1, _, hq, fun d _ => by rw [mj_ev_suc hE]; rfl⟩
theorem s_aret {a : Nat} (hE : mj_Gg.1 mi pc = some (.areturn, e)) (hq : Q (.inl (some (.ref a)), h)) : mj_Wp k mi (pc, ls, [.ref a], h) Q := ⟨1, _, hq, fun d _ => by rw [mj_ev_suc hE]; rfl⟩
theorem s_aretN (hE : mj_Gg.1 mi pc = some (.areturn, e)) (hq : Q (.inl (some .null), h)) : mj_Wp k mi (pc, ls, [.null], h) Q := ⟨1, _, hq, fun d _ => by rw [mj_ev_suc hE]; rfl⟩
theorem s_ret (hE : mj_Gg.1 mi pc = some (.return_, e)) (hq : Q (.inl none, h)) : mj_Wp k mi (pc, ls, [], h) Q := ⟨1, _, hq, fun d _ => by rw [mj_ev_suc hE]; rfl⟩
/-! calls -/
def mj_isiv (i : Instr) : Bool := match i with
  | .invokevirtual _ | .invokespecial _ | .invokestatic _ | .invokeinterface _ _ => true
  | _ => false
theorem mj_evI_iv {G : mj_G} {rec : Nat → Nat → mj_S → Option (mj_O × mj_H)} {d : Nat} (hx : mj_isiv i = true) : mj_evI G rec d mi (i, e) pc ls st h = mj_inv G rec d mi (i, e) pc ls st h := by
  cases i <;> first | rfl | cases hx
theorem mj_inv_prim {G : mj_G} {rec : Nat → Nat → mj_S → Option (mj_O × mj_H)} {d q : Nat} {E : mj_E} {v : Option Value} (h1 : E.2.2.1 ≤ st.length ∧ ((st.drop E.2.2.1).map fun v => v.category).sum ≤ 8) (h2 : 9000 ≤ E.2.1) (hq : E.2.1 - 9000 = q) (hp : mj_prim q (st.take E.2.2.1).reverse h = some (v, h')) : mj_inv G rec d mi E pc ls st h = rec d mi (pc + 3, ls, v.toList ++ st.drop E.2.2.1, h') := by
  unfold mj_inv
  rw [if_pos h1, if_pos h2, hq, hp]
theorem s_primE {E : mj_E} {q : Nat} {as r : List Value} {v : Option Value} (hE : mj_Gg.1 mi pc = some E) (h2 : 9000 ≤ E.2.1) (hx : mj_isiv E.1 = true) (h1 : E.2.2.1 ≤ st.length ∧ ((st.drop E.2.2.1).map fun v => v.category).sum ≤ 8) (ha : (st.take E.2.2.1).reverse = as) (hr : st.drop E.2.2.1 = r) (hq9 : E.2.1 - 9000 = q) (hp : mj_prim q as h = some (v, h')) (hq : pc + 3 = p') (hn : mj_Wp k mi (p', ls, v.toList ++ r, h') Q) : mj_Wp k mi (pc, ls, st, h) Q := by
  obtain ⟨n, o, hq0, hn⟩ := hn
  refine ⟨n + 1, o, hq0, fun d hd => ?_⟩
  rw [mj_ev_suc hE]
  have h3 : mj_evI mj_Gg (mj_ev mj_Gg n) d mi E pc ls st h = mj_inv mj_Gg (mj_ev mj_Gg n) d mi E pc ls st h := by
    obtain ⟨ins, e2⟩ := E
    cases ins <;> first | rfl | cases hx
  rw [h3, mj_inv_prim h1 h2 hq9 (ha.symm ▸ hp), hr, hq]
  exact hn d hd
theorem s_primG {m na z q : Nat} {as r : List Value} {v : Option Value} (hE : mj_Gg.1 mi pc = some (i, m, na, z)) (hm : Nat.beq (q + 9000) m = true) (hx : mj_isiv i = true) (hb : (Nat.ble na st.length && Nat.ble ((st.drop na).map fun v => v.category).sum 8) = true) (ha : (st.take na).reverse = as) (hr : st.drop na = r) (hp : mj_prim q as h = some (v, h')) (hq : pc + 3 = p') (hn : mj_Wp k mi (p', ls, v.toList ++ r, h') Q) : mj_Wp k mi (pc, ls, st, h) Q := by
  rw [Bool.and_eq_true, Nat.ble_eq, Nat.ble_eq] at hb
  have hm := Nat.eq_of_beq_eq_true hm
  have h9 : 9000 ≤ m := by omega
  have h8 : m - 9000 = q := by omega
  exact s_primE hE h9 hx hb ha hr h8 hp hq hn
/-- a method without code, which gives a value -/
theorem s_primV {m na z q : Nat} {as r : List Value} {v : Value} (hE : mj_Gg.1 mi pc = some (i, m, na, z)) (hm : Nat.beq (q + 9000) m = true) (hx : mj_isiv i = true) (hb : (Nat.ble na st.length && Nat.ble ((st.drop na).map fun v => v.category).sum 8) = true) (ha : (st.take na).reverse = as) (hr : st.drop na = r) (hp : mj_prim q as h = some (some v, h')) (hq : pc + 3 = p') (hn : mj_Wp k mi (p', ls, v :: r, h') Q) : mj_Wp k mi (pc, ls, st, h) Q := s_primG hE hm hx hb ha hr hp hq hn
theorem s_primN {m na z q : Nat} {as r : List Value} (hE : mj_Gg.1 mi pc = some (i, m, na, z)) (hm : Nat.beq (q + 9000) m = true) (hx : mj_isiv i = true) (hb : (Nat.ble na st.length && Nat.ble ((st.drop na).map fun v => v.category).sum 8) = true) (ha : (st.take na).reverse = as) (hr : st.drop na = r) (hp : mj_prim q as h = some (none, h')) (hq : pc + 3 = p') (hn : mj_Wp k mi (p', ls, r, h') Q) : mj_Wp k mi (pc, ls, st, h) Q := s_primG hE hm hx hb ha hr hp hq hn
/-- what a call must have: the arguments, the method is one with code, its locals -/
def mj_cbb (m na : Nat) (st : List Value) : Bool := Nat.ble na st.length && Nat.ble ((st.drop na).map fun v => v.category).sum 8 && Nat.blt m 9000 && Nat.ble (mj_ent (st.take na).reverse).length (mj_Gg.2.1 m)
theorem mj_cbb_of {m na : Nat} (hb : mj_cbb m na st = true) : (na ≤ st.length ∧ ((st.drop na).map fun v => v.category).sum ≤ 8) ∧ ¬ 9000 ≤ m ∧ (mj_ent (st.take na).reverse).length ≤ mj_Gg.2.1 m := by
  unfold mj_cbb at hb
  rw [Bool.and_eq_true, Bool.and_eq_true, Bool.and_eq_true, Nat.ble_eq, Nat.ble_eq, Nat.blt_eq, Nat.ble_eq] at hb
  exact ⟨hb.1.1, by omega, hb.2⟩
theorem s_callG {m na z kc : Nat} {as r : List Value} {ls0 : mj_L} {v : Option Value} (hE : mj_Gg.1 mi pc = some (i, m, na, z)) (hx : mj_isiv i = true) (hb : mj_cbb m na st = true) (ha : (st.take na).reverse = as) (hr : st.drop na = r) (hv : mj_rcv z as h = true) (hls : mj_entry (mj_Gg.2.1 m) as = ls0) (hcall : mj_run kc m (0, ls0, [], h) (.inl v, h')) (hk : kc + 1 ≤ k) (hq : pc + mj_ivl i = p') (hn : mj_Wp k mi (p', ls, v.toList ++ r, h') Q) : mj_Wp k mi (pc, ls, st, h) Q := by
  obtain ⟨hlc, h9, hen⟩ := mj_cbb_of hb
  obtain ⟨n1, o1, ho1, hcall⟩ := hcall
  subst ho1
  obtain ⟨n2, o, hq0, hn⟩ := hn
  refine ⟨n1 + n2 + 1, o, hq0, fun d hd => ?_⟩
  rw [mj_ev_suc hE, mj_evI_iv hx]
  unfold mj_inv
  rw [if_pos hlc, if_neg h9]
  dsimp only
  rw [ha, if_pos hv]
  rw [ha] at hen
  cases d with
  | zero => omega
  | succ d' =>
    dsimp only
    rw [if_pos hen, hls, mj_ev_fuel (hcall d' (by omega)) n2, hr]
    dsimp only
    rw [hq, Nat.add_comm n1 n2]
    exact mj_ev_fuel (hn (d' + 1) hd) n1
theorem s_callV {m na z kc : Nat} {as r : List Value} {ls0 : mj_L} {v : Value} (hE : mj_Gg.1 mi pc = some (i, m, na, z)) (hx : mj_isiv i = true) (hb : mj_cbb m na st = true) (ha : (st.take na).reverse = as) (hr : st.drop na = r) (hv : mj_rcv z as h = true) (hls : mj_entry (mj_Gg.2.1 m) as = ls0) (hcall : mj_run kc m (0, ls0, [], h) (.inl (some v), h')) (hk : kc + 1 ≤ k) (hq : pc + mj_ivl i = p') (hn : mj_Wp k mi (p', ls, v :: r, h') Q) : mj_Wp k mi (pc, ls, st, h) Q := s_callG hE hx hb ha hr hv hls hcall hk hq hn
theorem s_callN {m na z kc : Nat} {as r : List Value} {ls0 : mj_L} (hE : mj_Gg.1 mi pc = some (i, m, na, z)) (hx : mj_isiv i = true) (hb : mj_cbb m na st = true) (ha : (st.take na).reverse = as) (hr : st.drop na = r) (hv : mj_rcv z as h = true) (hls : mj_entry (mj_Gg.2.1 m) as = ls0) (hcall : mj_run kc m (0, ls0, [], h) (.inl none, h')) (hk : kc + 1 ≤ k) (hq : pc + mj_ivl i = p') (hn : mj_Wp k mi (p', ls, r, h') Q) : mj_Wp k mi (pc, ls, st, h) Q := s_callG hE hx hb ha hr hv hls hcall hk hq hn
theorem mj_ocl_is {a c : Nat} {fs : List Value} (hr : mj_rd h a = some (.inr (c, fs))) : mj_ocl h a = some c := by unfold mj_ocl mj_rdO; rw [hr]
theorem mj_rcv_is {a c : Nat} {fs as : List Value} (hr : mj_rd h a = some (.inr (c, fs))) : mj_rcv (c + 1) (.ref a :: as) h = true := by
  show decide (mj_ocl h a = some c) = true
  rw [mj_ocl_is hr]
  exact decide_eq_true rfl
/-- a call that throws, and is not caught here -/
theorem s_callU {m na z kc q ci : Nat} {as : List Value} {ls0 : mj_L} (hE : mj_Gg.1 mi pc = some (i, m, na, z)) (hx : mj_isiv i = true) (hb : mj_cbb m na st = true) (ha : (st.take na).reverse = as) (hv : mj_rcv z as h = true) (hls : mj_entry (mj_Gg.2.1 m) as = ls0) (hcall : mj_run kc m (0, ls0, [], h) (.inr q, h')) (hk : kc + 1 ≤ k) (hq : q < mj_CB) (hci : mj_ocl h' q = some ci) (hf : mj_find (mj_Gg.2.2 mi) pc ci = some none) (hq0 : Q (.inr q, h')) : mj_Wp k mi (pc, ls, st, h) Q := by
  obtain ⟨hlc, h9, hen⟩ := mj_cbb_of hb
  rw [ha] at hen
  obtain ⟨n1, o1, ho1, hcall⟩ := hcall
  subst ho1
  refine ⟨n1 + 1, _, hq0, fun d hd => ?_⟩
  rw [mj_ev_suc hE, mj_evI_iv hx]
  unfold mj_inv
  rw [if_pos hlc, if_neg h9]
  dsimp only
  rw [ha, if_pos hv]
  cases d with
  | zero => omega
  | succ d' =>
    dsimp only
    rw [if_pos hen, hls, hcall d' (by omega)]
    dsimp only
    unfold mj_thr
    rw [if_pos hq, hci]
    dsimp only
    rw [hf]
/-- a call that throws, and is caught here -/
theorem s_callC {m na z kc q ci : Nat} {as : List Value} {ls0 : mj_L} (hE : mj_Gg.1 mi pc = some (i, m, na, z)) (hx : mj_isiv i = true) (hb : mj_cbb m na st = true) (ha : (st.take na).reverse = as) (hv : mj_rcv z as h = true) (hls : mj_entry (mj_Gg.2.1 m) as = ls0) (hcall : mj_run kc m (0, ls0, [], h) (.inr q, h')) (hk : kc + 1 ≤ k) (hq : q < mj_CB) (hci : mj_ocl h' q = some ci) (hf : mj_find (mj_Gg.2.2 mi) pc ci = some (some p')) (hn : mj_Wp k mi (p', ls, [.ref q], h') Q) : mj_Wp k mi (pc, ls, st, h) Q := by
  obtain ⟨hlc, h9, hen⟩ := mj_cbb_of hb
  rw [ha] at hen
  obtain ⟨n1, o1, ho1, hcall⟩ := hcall
  subst ho1
  obtain ⟨n2, o, hq0, hn⟩ := hn
  refine ⟨n1 + n2 + 1, o, hq0, fun d hd => ?_⟩
  rw [mj_ev_suc hE, mj_evI_iv hx]
  unfold mj_inv
  rw [if_pos hlc, if_neg h9]
  dsimp only
  rw [ha, if_pos hv]
  cases d with
  | zero => omega
  | succ d' =>
    dsimp only
    rw [if_pos hen, hls, mj_ev_fuel (hcall d' (by omega)) n2]
    dsimp only
    unfold mj_thr
    rw [if_pos hq, hci]
    dsimp only
    rw [hf]
    dsimp only
    rw [Nat.add_comm n1 n2]
    exact mj_ev_fuel (hn (d' + 1) hd) n1
/-! what is to be done when a call ends: the caller goes on -/
def mz_K (k mi pc p' : Nat) (ls : mj_L) (r : List Value) (Q : mj_O × mj_H → Prop) (o : mj_O × mj_H) : Prop := match o.1 with
  | .inl v => mj_Wp k mi (p', ls, v.toList ++ r, o.2) Q
  | .inr q => q < mj_CB ∧ ∃ ci, mj_ocl o.2 q = some ci ∧ match mj_find (mj_Gg.2.2 mi) pc ci with
    | some (some hp) => mj_Wp k mi (hp, ls, [.ref q], o.2) Q
    | some none => Q (.inr q, o.2)
    | none => False
theorem c_call {m na z kc : Nat} {as r : List Value} {ls0 : mj_L} (hE : mj_Gg.1 mi pc = some (i, m, na, z)) (hx : mj_isiv i = true) (hb : mj_cbb m na st = true) (ha : (st.take na).reverse = as) (hr : st.drop na = r) (hv : mj_rcv z as h = true) (hls : mj_entry (mj_Gg.2.1 m) as = ls0) (hk : Nat.ble (kc + 1) k = true) (hq : pc + mj_ivl i = p') (hcall : mj_Wp kc m (0, ls0, [], h) (mz_K k mi pc p' ls r Q)) : mj_Wp k mi (pc, ls, st, h) Q := by
  obtain ⟨n1, ⟨o1, h1⟩, hK, hcall⟩ := hcall
  have hk := Nat.ble_eq.mp hk
  cases o1 with
  | inl v => exact s_callG hE hx hb ha hr hv hls ⟨n1, _, rfl, hcall⟩ hk hq hK
  | inr q =>
    obtain ⟨hq1, ci, hci, hK⟩ := hK
    split at hK
    · rename_i hp hf
      exact s_callC hE hx hb ha hv hls ⟨n1, _, rfl, hcall⟩ hk hq1 hci hf hK
    · rename_i hf
      exact s_callU hE hx hb ha hv hls ⟨n1, _, rfl, hcall⟩ hk hq1 hci hf hK
    · cases hK
section MJK
variable {k0 m pc0 p0 : Nat} {ls0 : mj_L} {r0 : List Value}
/-- a throw reaches a caller, and is caught there -/
theorem K_c {q ci hp : Nat} (hq : Nat.blt q mj_CB = true) (hci : mj_ocl h q = some ci) (hf : mj_find (mj_Gg.2.2 m) pc0 ci = some (some hp)) (hn : mj_Wp k0 m (hp, ls0, [.ref q], h) Q) : mz_K k0 m pc0 p0 ls0 r0 Q (.inr q, h) := ⟨Nat.blt_eq.mp hq, ci, hci, by dsimp only; rw [hf]; exact hn⟩
theorem K_u {q ci : Nat} (hq : Nat.blt q mj_CB = true) (hci : mj_ocl h q = some ci) (hf : mj_find (mj_Gg.2.2 m) pc0 ci = some none) (hn : Q (.inr q, h)) : mz_K k0 m pc0 p0 ls0 r0 Q (.inr q, h) := ⟨Nat.blt_eq.mp hq, ci, hci, by dsimp only; rw [hf]; exact hn⟩
/-- ends that go on in the caller -/
theorem c_iret {x : Int32} {r y z : Nat} (hE : mj_Gg.1 mi pc = some (.ireturn, r, y, z)) (hx : mj_nar r x = true) (hn : mj_Wp k0 m (p0, ls0, .int x :: r0, h) Q) : mj_Wp k mi (pc, ls, [.int x], h) (mz_K k0 m pc0 p0 ls0 r0 Q) := s_iret hE hx hn
theorem c_lret {x : Int64} (hE : mj_Gg.1 mi pc = some (.lreturn, e)) (hn : mj_Wp k0 m (p0, ls0, .long x :: r0, h) Q) : mj_Wp k mi (pc, ls, [.long x], h) (mz_K k0 m pc0 p0 ls0 r0 Q) := s_lret hE hn
theorem c_dret {x : UInt64} (hE : mj_Gg.1 mi pc = some (.dreturn, e)) (hn : mj_Wp k0 m (p0, ls0, .double x :: r0, h) Q) : mj_Wp k mi (pc, ls, [.double x], h) (mz_K k0 m pc0 p0 ls0 r0 Q) := s_dret hE hn
theorem c_fret {x : UInt32} (hE : mj_Gg.1 mi pc = some (.freturn, e)) (hn : mj_Wp k0 m (p0, ls0, .float x :: r0, h) Q) : mj_Wp k mi (pc, ls, [.float x], h) (mz_K k0 m pc0 p0 ls0 r0 Q) := s_fret hE hn
theorem c_aret {a : Nat} (hE : mj_Gg.1 mi pc = some (.areturn, e)) (hn : mj_Wp k0 m (p0, ls0, .ref a :: r0, h) Q) : mj_Wp k mi (pc, ls, [.ref a], h) (mz_K k0 m pc0 p0 ls0 r0 Q) := s_aret hE hn
theorem c_aretN (hE : mj_Gg.1 mi pc = some (.areturn, e)) (hn : mj_Wp k0 m (p0, ls0, .null :: r0, h) Q) : mj_Wp k mi (pc, ls, [.null], h) (mz_K k0 m pc0 p0 ls0 r0 Q) := s_aretN hE hn
theorem c_ret (hE : mj_Gg.1 mi pc = some (.return_, e)) (hn : mj_Wp k0 m (p0, ls0, r0, h) Q) : mj_Wp k mi (pc, ls, [], h) (mz_K k0 m pc0 p0 ls0 r0 Q) := s_ret hE hn
end MJK
end MJST
