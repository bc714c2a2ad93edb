/-! Steps with their values told. -/
section MJCO
variable {k k' mi pc p' : Nat} {ls ls' : mj_L} {st st' : List Value} {h h' : mj_H} {Q : mj_O × mj_H → Prop} {i : Instr} {e : Nat × Nat × Nat}
theorem s_bz {w z : Int32} (hE : mj_Gg.1 mi pc = some (i, e)) (hx : mj_isnx i = true) (hs : mj_sp (i, e) pc ls st = some (p', ls, .int w :: st')) (hz : w = z) (hn : mj_Wp k mi (p', ls, .int z :: st', h) Q) : mj_Wp k mi (pc, ls, st, h) Q := s_sp hE hx hs (hz ▸ hn)
theorem s_bzL {w z : Int64} (hE : mj_Gg.1 mi pc = some (i, e)) (hx : mj_isnx i = true) (hs : mj_sp (i, e) pc ls st = some (p', ls, .long w :: st')) (hz : w = z) (hn : mj_Wp k mi (p', ls, .long z :: st', h) Q) : mj_Wp k mi (pc, ls, st, h) Q := s_sp hE hx hs (hz ▸ hn)
theorem s_bzF {w z : UInt32} (hE : mj_Gg.1 mi pc = some (i, e)) (hx : mj_isnx i = true) (hs : mj_sp (i, e) pc ls st = some (p', ls, .float w :: st')) (hz : w = z) (hn : mj_Wp k mi (p', ls, .float z :: st', h) Q) : mj_Wp k mi (pc, ls, st, h) Q := s_sp hE hx hs (hz ▸ hn)
theorem s_bzD {w z : UInt64} (hE : mj_Gg.1 mi pc = some (i, e)) (hx : mj_isnx i = true) (hs : mj_sp (i, e) pc ls st = some (p', ls, .double w :: st')) (hz : w = z) (hn : mj_Wp k mi (p', ls, .double z :: st', h) Q) : mj_Wp k mi (pc, ls, st, h) Q := s_sp hE hx hs (hz ▸ hn)
theorem s_incz {j v y z : Nat} {x w : Int32} {c : Int} (hE : mj_Gg.1 mi pc = some (.iinc j c, v, y, z)) (hl : mj_ld ls j = some (.int x)) (hi : Nat.blt j ls.length = true) (hw : x + nI v = w) (hs : mj_st1 ls j (.int w) = ls') (hp : pc + 3 = p') (hn : mj_Wp k mi (p', ls', st, h) Q) : mj_Wp k mi (pc, ls, st, h) Q := s_inc hE hl hi (hw ▸ hs) hp hn
theorem s_ialz {a n m : Nat} {f : Nat → Int32} {j v : Int32} (hE : mj_Gg.1 mi pc = some (.iaload, e)) (hr : mj_rd h a = some (.inl (0, (n, .inl f)))) (hj : mj_inb j n = true) (hm : j.toNatClampNeg = m) (hv : f m = v) (hp : pc + 1 = p') (hn : mj_Wp k mi (p', ls, .int v :: st, h) Q) : mj_Wp k mi (pc, ls, .int j :: .ref a :: st, h) Q := s_ial hE hr hj hp (by rw [hm, hv]; exact hn)
theorem s_bal1z {a n m : Nat} {f : Nat → Int32} {j v : Int32} (hE : mj_Gg.1 mi pc = some (.baload, e)) (hr : mj_rd h a = some (.inl (1, (n, .inl f)))) (hj : mj_inb j n = true) (hm : j.toNatClampNeg = m) (hv : f m = v) (hp : pc + 1 = p') (hn : mj_Wp k mi (p', ls, .int v :: st, h) Q) : mj_Wp k mi (pc, ls, .int j :: .ref a :: st, h) Q := s_bal1 hE hr hj hp (by rw [hm, hv]; exact hn)
theorem s_bal2z {a n m : Nat} {f : Nat → Int32} {j v : Int32} (hE : mj_Gg.1 mi pc = some (.baload, e)) (hr : mj_rd h a = some (.inl (2, (n, .inl f)))) (hj : mj_inb j n = true) (hm : j.toNatClampNeg = m) (hv : f m = v) (hp : pc + 1 = p') (hn : mj_Wp k mi (p', ls, .int v :: st, h) Q) : mj_Wp k mi (pc, ls, .int j :: .ref a :: st, h) Q := s_bal2 hE hr hj hp (by rw [hm, hv]; exact hn)
theorem s_calz {a n m : Nat} {f : Nat → Int32} {j v : Int32} (hE : mj_Gg.1 mi pc = some (.caload, e)) (hr : mj_rd h a = some (.inl (3, (n, .inl f)))) (hj : mj_inb j n = true) (hm : j.toNatClampNeg = m) (hv : f m = v) (hp : pc + 1 = p') (hn : mj_Wp k mi (p', ls, .int v :: st, h) Q) : mj_Wp k mi (pc, ls, .int j :: .ref a :: st, h) Q := s_cal hE hr hj hp (by rw [hm, hv]; exact hn)
theorem s_aalz {a t n m : Nat} {q : Option Nat} {v : Value} {f : Nat → Option Nat} {j : Int32} (hE : mj_Gg.1 mi pc = some (.aaload, e)) (hr : mj_rdA h a = some (t, (n, .inr (.inr (.inr (.inr f)))))) (ht : (Nat.ble 6 t && Nat.blt t 11) = true) (hj : mj_inb j n = true) (hm : j.toNatClampNeg = m) (hq : f m = q) (hv : va_rf q = v) (hp : pc + 1 = p') (hn : mj_Wp k mi (p', ls, v :: st, h) Q) : mj_Wp k mi (pc, ls, .int j :: .ref a :: st, h) Q := by
  rw [Bool.and_eq_true, Nat.ble_eq, Nat.blt_eq] at ht
  exact s_aal hE hr ht hj hp (by rw [hm, hq, hv]; exact hn)
theorem s_lenz {a t : Nat} {n : Nat} {x : (Nat → Int32) ⊕ (Nat → Int64) ⊕ (Nat → UInt32) ⊕ (Nat → UInt64) ⊕ (Nat → Option Nat)} (hE : mj_Gg.1 mi pc = some (.arraylength, e)) (hr : mj_rdA h a = some (t, (n, x))) (ht : Nat.blt t 11 = true) (hp : pc + 1 = p') (hn : mj_Wp k mi (p', ls, .int (nI n) :: st, h) Q) : mj_Wp k mi (pc, ls, .ref a :: st, h) Q := s_len hE hr (Nat.blt_eq.mp ht) hp hn
/-- an array's cell, written: the new contents told -/
theorem s_iasz {a n m : Nat} {f g : Nat → Int32} {j v : Int32} (hE : mj_Gg.1 mi pc = some (.iastore, e)) (ha : Nat.blt a mj_CB = true) (hr : mj_rd h a = some (.inl (0, (n, .inl f)))) (hj : mj_inb j n = true) (hm : j.toNatClampNeg = m) (hg : upd f m v = g) (hp : pc + 1 = p') (hn : mj_Wp k mi (p', ls, st, h.set a (.inl (0, (n, .inl g)))) Q) : mj_Wp k mi (pc, ls, .int v :: .int j :: .ref a :: st, h) Q := s_ias hE (Nat.blt_eq.mp ha) hr hj hp (by rw [hm, hg]; exact hn)
theorem s_bas1z {a n m : Nat} {f g : Nat → Int32} {j v w : Int32} (hE : mj_Gg.1 mi pc = some (.bastore, e)) (ha : Nat.blt a mj_CB = true) (hr : mj_rd h a = some (.inl (1, (n, .inl f)))) (hj : mj_inb j n = true) (hm : j.toNatClampNeg = m) (hw : vp_nar .byte v = w) (hg : upd f m w = g) (hp : pc + 1 = p') (hn : mj_Wp k mi (p', ls, st, h.set a (.inl (1, (n, .inl g)))) Q) : mj_Wp k mi (pc, ls, .int v :: .int j :: .ref a :: st, h) Q := s_bas1 hE (Nat.blt_eq.mp ha) hr hj hp (by rw [hm, hw, hg]; exact hn)
theorem s_bas2z {a n m : Nat} {f g : Nat → Int32} {j v w : Int32} (hE : mj_Gg.1 mi pc = some (.bastore, e)) (ha : Nat.blt a mj_CB = true) (hr : mj_rd h a = some (.inl (2, (n, .inl f)))) (hj : mj_inb j n = true) (hm : j.toNatClampNeg = m) (hw : vp_nar .boolean v = w) (hg : upd f m w = g) (hp : pc + 1 = p') (hn : mj_Wp k mi (p', ls, st, h.set a (.inl (2, (n, .inl g)))) Q) : mj_Wp k mi (pc, ls, .int v :: .int j :: .ref a :: st, h) Q := s_bas2 hE (Nat.blt_eq.mp ha) hr hj hp (by rw [hm, hw, hg]; exact hn)
theorem s_casz {a n m : Nat} {f g : Nat → Int32} {j v w : Int32} (hE : mj_Gg.1 mi pc = some (.castore, e)) (ha : Nat.blt a mj_CB = true) (hr : mj_rd h a = some (.inl (3, (n, .inl f)))) (hj : mj_inb j n = true) (hm : j.toNatClampNeg = m) (hw : vp_nar .char v = w) (hg : upd f m w = g) (hp : pc + 1 = p') (hn : mj_Wp k mi (p', ls, st, h.set a (.inl (3, (n, .inl g)))) Q) : mj_Wp k mi (pc, ls, .int v :: .int j :: .ref a :: st, h) Q := s_cas hE (Nat.blt_eq.mp ha) hr hj hp (by rw [hm, hw, hg]; exact hn)
theorem s_lasz {a n m : Nat} {f g : Nat → Int64} {j : Int32} {v : Int64} (hE : mj_Gg.1 mi pc = some (.lastore, e)) (ha : Nat.blt a mj_CB = true) (hr : mj_rd h a = some (.inl (4, (n, .inr (.inl f))))) (hj : mj_inb j n = true) (hm : j.toNatClampNeg = m) (hg : vp_updL f m v = g) (hp : pc + 1 = p') (hn : mj_Wp k mi (p', ls, st, h.set a (.inl (4, (n, .inr (.inl g))))) Q) : mj_Wp k mi (pc, ls, .long v :: .int j :: .ref a :: st, h) Q := s_las hE (Nat.blt_eq.mp ha) hr hj hp (by rw [hm, hg]; exact hn)
theorem s_dasz {a n m : Nat} {f g : Nat → UInt64} {j : Int32} {v : UInt64} (hE : mj_Gg.1 mi pc = some (.dastore, e)) (ha : Nat.blt a mj_CB = true) (hr : mj_rd h a = some (.inl (5, (n, .inr (.inr (.inr (.inl f))))))) (hj : mj_inb j n = true) (hm : j.toNatClampNeg = m) (hg : vf_upd f m v = g) (hp : pc + 1 = p') (hn : mj_Wp k mi (p', ls, st, h.set a (.inl (5, (n, .inr (.inr (.inr (.inl g))))))) Q) : mj_Wp k mi (pc, ls, .double v :: .int j :: .ref a :: st, h) Q := by
  refine s_sh (p' := p') (ls' := ls) (st' := st) (h' := h.set a (.inl (5, (n, .inr (.inr (.inr (.inl g))))))) hE rfl rfl ?_ hn
  rw [← hp, ← hg, ← hm]
  exact mj_sto_is (Nat.blt_eq.mp ha) (mj_rdA_is hr (by decide)) hj rfl
theorem s_aasz {a t n q c m : Nat} {fs : List Value} {f g : Nat → Option Nat} {j : Int32} (hE : mj_Gg.1 mi pc = some (.aastore, e)) (ha : Nat.blt a mj_CB = true) (hr : mj_rd h a = some (.inl (t, (n, .inr (.inr (.inr (.inr f))))))) (ht : (Nat.ble 6 t && Nat.blt t 10 && mj_aok t c) = true) (hj : mj_inb j n = true) (hm : j.toNatClampNeg = m) (hq : mj_rd h q = some (.inr (c, fs))) (hg : va_up f m (some q) = g) (hp : pc + 1 = p') (hn : mj_Wp k mi (p', ls, st, h.set a (.inl (t, (n, .inr (.inr (.inr (.inr g))))))) Q) : mj_Wp k mi (pc, ls, .ref q :: .int j :: .ref a :: st, h) Q := by
  rw [Bool.and_eq_true, Bool.and_eq_true, Nat.ble_eq, Nat.blt_eq] at ht
  exact s_aas hE (Nat.blt_eq.mp ha) hr ht.1 hj hq ht.2 hp (by rw [hm, hg]; exact hn)
theorem s_aasNz {a t n m : Nat} {f g : Nat → Option Nat} {j : Int32} (hE : mj_Gg.1 mi pc = some (.aastore, e)) (ha : Nat.blt a mj_CB = true) (hr : mj_rd h a = some (.inl (t, (n, .inr (.inr (.inr (.inr f))))))) (ht : (Nat.ble 6 t && Nat.blt t 10) = true) (hj : mj_inb j n = true) (hm : j.toNatClampNeg = m) (hg : va_up f m none = g) (hp : pc + 1 = p') (hn : mj_Wp k mi (p', ls, st, h.set a (.inl (t, (n, .inr (.inr (.inr (.inr g))))))) Q) : mj_Wp k mi (pc, ls, .null :: .int j :: .ref a :: st, h) Q := by
  rw [Bool.and_eq_true, Nat.ble_eq, Nat.blt_eq] at ht
  exact s_aasN hE (Nat.blt_eq.mp ha) hr ht hj hp (by rw [hm, hg]; exact hn)
theorem s_newz {j c y a : Nat} {fs : List Value} (hE : mj_Gg.1 mi pc = some (.new j, c, y, 0)) (hl : h.length = a) (hd : mj_dfl[c]? = some fs) (hp : pc + 3 = p') (hn : mj_Wp k mi (p', ls, .ref a :: st, h ++ [.inr (c, fs)]) Q) : mj_Wp k mi (pc, ls, st, h) Q := s_new hE hd hp (hl ▸ hn)
theorem s_naz {j : ArrayType} {t y z a n : Nat} (hE : mj_Gg.1 mi pc = some (.newarray j, t, y, z)) (hl : h.length = a) (hc : Nat.ble n 67108864 = true) (hp : pc + 2 = p') (hn : mj_Wp k mi (p', ls, .ref a :: st, h ++ [.inl (t, mj_arr0 t n)]) Q) : mj_Wp k mi (pc, ls, .int (nI n) :: st, h) Q := by
  have hc := Nat.ble_eq.mp hc
  exact s_na hE (lenok hc) hp (by rw [mI_cl (by omega), hl]; exact hn)
theorem s_anaz {j : Nat} {t y z a n : Nat} (hE : mj_Gg.1 mi pc = some (.anewarray j, t, y, z)) (hl : h.length = a) (hc : Nat.ble n 67108864 = true) (hp : pc + 3 = p') (hn : mj_Wp k mi (p', ls, .ref a :: st, h ++ [.inl (t, mj_arr0 t n)]) Q) : mj_Wp k mi (pc, ls, .int (nI n) :: st, h) Q := by
  have hc := Nat.ble_eq.mp hc
  exact s_ana hE (lenok hc) hp (by rw [mI_cl (by omega), hl]; exact hn)
theorem s_thrz {j c y z q : Nat} (hE : mj_Gg.1 mi pc = some (.new j, c, y, z + 1)) (hl : h.length = q) (hs : Nat.ble (st.map fun v => v.category).sum 8 = true) (hq : Q (.inr q, h ++ [.inr (c, [])])) : mj_Wp k mi (pc, ls, st, h) Q := s_thr hE (Nat.ble_eq.mp hs) (hl.symm ▸ hq)
theorem s_pfz {a c f : Nat} {fs fs' : List Value} {v : Value} {j : Nat} {z : Nat} (hE : mj_Gg.1 mi pc = some (.putfield j, f, c, z)) (ha : Nat.blt a mj_CB = true) (hr : mj_rd h a = some (.inr (c, fs))) (hf : Nat.blt f fs.length = true) (hv : mj_fit (mj_cty c f) v = true) (hs : fs.set f v = fs') (hp : pc + 3 = p') (hn : mj_Wp k mi (p', ls, st, h.set a (.inr (c, fs'))) Q) : mj_Wp k mi (pc, ls, v :: .ref a :: st, h) Q := s_pf hE (Nat.blt_eq.mp ha) hr (Nat.blt_eq.mp hf) hv hs hp hn
theorem s_cca {j t z a : Nat} {w : Nat} {x : vp_A} (hE : mj_Gg.1 mi pc = some (.checkcast j, t, w + 1, z)) (ha : Nat.blt a mj_CB = true) (hr : mj_rd h a = some (.inl (t, x))) (ht : (t == 10) = false) (hp : pc + 3 = p') (hn : mj_Wp k mi (p', ls, .ref a :: st, h) Q) : mj_Wp k mi (pc, ls, .ref a :: st, h) Q := by
  refine s_sh (p' := p') (ls' := ls) (st' := .ref a :: st) (h' := h) hE rfl rfl ?_ hn
  show ((if w + 1 = 0 then (match mj_rdO h a with | some (c', _) => if c' = t then some (pc + 3, ls, .ref a :: st, h) else none | none => none) else (if a < mj_CB then (match mj_rdA h a with | some (t', _) => if t' = t then some (pc + 3, ls, .ref a :: st, h) else none | none => none) else none)) : Option mj_S) = _
  rw [if_neg (by omega), if_pos (Nat.blt_eq.mp ha), mj_rdA_is hr (by rw [beq_eq_false_iff_ne] at ht; exact ht)]
  dsimp only
  rw [if_pos rfl, hp]
end MJCO
theorem rd_sn {h : mj_H} {a b : Nat} {c d : mj_C} (hn : (b == a) = false) (hr : mj_rd h a = some d) : mj_rd (h.set b c) a = some d := by
  rw [rd_setn (by rw [beq_eq_false_iff_ne] at hn; exact hn)]
  exact hr
theorem rd_ss {h : mj_H} {a : Nat} {c d : mj_C} (ha : Nat.blt a mj_CB = true) (hr : mj_rd h a = some d) : mj_rd (h.set a c) a = some c := rd_set (Nat.blt_eq.mp ha) hr
theorem rd_nw {h : mj_H} {a : Nat} {c : mj_C} (ha : Nat.blt a mj_CB = true) (hl : h.length = a) : mj_rd (h ++ [c]) a = some c := by
  subst hl
  exact rd_new (Nat.blt_eq.mp ha)
theorem len_s {h : mj_H} {a n : Nat} {c : mj_C} (hl : h.length = n) : (h.set a c).length = n := by rw [List.length_set, hl]
theorem len_a {h : mj_H} {n m : Nat} {c : mj_C} (hl : h.length = n) (hm : n + 1 = m) : (h ++ [c]).length = m := by rw [List.length_append, hl]; exact hm
section MJCL
variable {L pc p' : Nat} {xs : Nat → Int32} {ls ls' : mj_L} {st st' : List Value} {h h1 : mj_H} {P : mj_H → Prop} {i : Instr} {e : Nat × Nat × Nat}
theorem l_bz {w z : Int32} (hE : mj_get mj_rL.2.2 pc = some (i, e)) (hl : ls.length = 10) (hm : (mj_mk (i, e) || mj_isirt i) = false) (hp : mj_lwp i = true) (hs : mj_sp (i, e) pc ls st = some (p', ls, .int w :: st')) (hz : w = z) (hn : mj_lrun L xs (p', ls, .int z :: st', h) P) : mj_lrun L xs (pc, ls, st, h) P := l_sp hE hl hm hp hs (hz ▸ hn)
theorem l_bzL {w z : Int64} (hE : mj_get mj_rL.2.2 pc = some (i, e)) (hl : ls.length = 10) (hm : (mj_mk (i, e) || mj_isirt i) = false) (hp : mj_lwp i = true) (hs : mj_sp (i, e) pc ls st = some (p', ls, .long w :: st')) (hz : w = z) (hn : mj_lrun L xs (p', ls, .long z :: st', h) P) : mj_lrun L xs (pc, ls, st, h) P := l_sp hE hl hm hp hs (hz ▸ hn)
theorem l_bzD {w z : UInt64} (hE : mj_get mj_rL.2.2 pc = some (i, e)) (hl : ls.length = 10) (hm : (mj_mk (i, e) || mj_isirt i) = false) (hp : mj_lwp i = true) (hs : mj_sp (i, e) pc ls st = some (p', ls, .double w :: st')) (hz : w = z) (hn : mj_lrun L xs (p', ls, .double z :: st', h) P) : mj_lrun L xs (pc, ls, st, h) P := l_sp hE hl hm hp hs (hz ▸ hn)
theorem l_incz {j v y z : Nat} {x w : Int32} {c : Int} (hE : mj_get mj_rL.2.2 pc = some (.iinc j c, v, y, z)) (hl : ls.length = 10) (hx : mj_ld ls j = some (.int x)) (hi : Nat.blt j ls.length = true) (hw : x + nI v = w) (hs : mj_st1 ls j (.int w) = ls') (hp : pc + 3 = p') (hn : mj_lrun L xs (p', ls', st, h) P) : mj_lrun L xs (pc, ls, st, h) P := l_inc hE hl hx hi (hw ▸ hs) hp hn
theorem l_ialz {j z : Int32} {m : Nat} (hE : mj_get mj_rL.2.2 pc = some (.iaload, e)) (hl : ls.length = 10) (hj : mj_inb j L = true) (hm : j.toNatClampNeg = m) (hz : xs m = z) (hp : pc + 1 = p') (hn : mj_lrun L xs (p', ls, .int z :: st, h) P) : mj_lrun L xs (pc, ls, .int j :: .retAddr 1 :: st, h) P := l_ials hE hl hj hp (by rw [hm, hz]; exact hn)
theorem l_lalz {a n m : Nat} {f : Nat → Int64} {j : Int32} {v : Int64} (hE : mj_get mj_rL.2.2 pc = some (.laload, e)) (hl : ls.length = 10) (hr : mj_rd h a = some (.inl (4, (n, .inr (.inl f))))) (hj : mj_inb j n = true) (hm : j.toNatClampNeg = m) (hv : f m = v) (hp : pc + 1 = p') (hn : mj_lrun L xs (p', ls, .long v :: st, h) P) : mj_lrun L xs (pc, ls, .int j :: .ref a :: st, h) P := l_lal hE hl hr hj hp (by rw [hm, hv]; exact hn)
theorem l_dalz {a n m : Nat} {f : Nat → UInt64} {j : Int32} {v : UInt64} (hE : mj_get mj_rL.2.2 pc = some (.daload, e)) (hl : ls.length = 10) (hr : mj_rd h a = some (.inl (5, (n, .inr (.inr (.inr (.inl f))))))) (hj : mj_inb j n = true) (hm : j.toNatClampNeg = m) (hv : f m = v) (hp : pc + 1 = p') (hn : mj_lrun L xs (p', ls, .double v :: st, h) P) : mj_lrun L xs (pc, ls, .int j :: .ref a :: st, h) P := l_dal hE hl hr hj hp (by rw [hm, hv]; exact hn)
end MJCL
theorem lcmp_self (x : Int64) : lg_cmp x x = nI 0 := by
  unfold lg_cmp
  simp
  rfl
theorem sz_s {h : mj_H} {a n : Nat} {c d : mj_C} (ha : Nat.blt a mj_CB = true) (hr : mj_rd h a = some d) (hc : mj_cs c = mj_cs d) (hz : mj_sz h ≤ n) : mj_sz (h.set a c) ≤ n := by
  rw [rd_lt (Nat.blt_eq.mp ha)] at hr
  rw [mj_sz_set h a c d hr hc]
  exact hz
theorem sz_a {h : mj_H} {n m : Nat} {c : mj_C} (hz : mj_sz h ≤ n) (hm : n + mj_cs c = m) : mj_sz (h ++ [c]) ≤ m := by
  rw [mj_sz_push]
  omega
/-- WHAT A CALL'S ROUND SAYS (a script of four): from the head of the law's loop on fresh objects -/
def mj_fin (xs : Nat → Int32) (h : mj_H) : Prop := mj_lrun 4 xs (28, [some (.retAddr 1), some (.ref 0), some (.ref 400), some (.ref 412), some (.ref 413), some (.int (nI 0)), none, none, none, none], [], h) (fun h' => h'.length ≤ 5000 ∧ mj_sz h' ≤ 400000)
/-! a told int against another -/
theorem cs_lt {x : Int32} {v : Nat} (hv : v < 2147483648) : mj_ci .lt x (nI v) = decide (x.toInt < v) := decide_eq_decide.mpr (by rw [Int32.lt_iff_toInt_lt, mI_ti hv])
theorem cs_ge {x : Int32} {v : Nat} (hv : v < 2147483648) : mj_ci .ge x (nI v) = decide ((v : Int) ≤ x.toInt) := decide_eq_decide.mpr (by rw [Int32.le_iff_toInt_le, mI_ti hv])
theorem cs_gt {x : Int32} {v : Nat} (hv : v < 2147483648) : mj_ci .gt x (nI v) = decide ((v : Int) < x.toInt) := decide_eq_decide.mpr (by rw [Int32.lt_iff_toInt_lt, mI_ti hv])
theorem cs_le {x : Int32} {v : Nat} (hv : v < 2147483648) : mj_ci .le x (nI v) = decide (x.toInt ≤ v) := decide_eq_decide.mpr (by rw [Int32.le_iff_toInt_le, mI_ti hv])
theorem cs_eq {x : Int32} {v : Nat} (hv : v < 2147483648) : mj_ci .eq x (nI v) = decide (x.toInt = v) := decide_eq_decide.mpr (by rw [← mI_ti hv]; exact Int32.toInt_inj.symm)
theorem cs_ne {x : Int32} {v : Nat} (hv : v < 2147483648) : mj_ci .ne x (nI v) = decide (¬ x.toInt = v) := decide_eq_decide.mpr (not_congr (by rw [← mI_ti hv]; exact Int32.toInt_inj.symm))
theorem cm_lt {x : Int32} {v : Nat} (hv : v < 2147483648) : mj_ci .lt (nI v) x = decide ((v : Int) < x.toInt) := cs_gt hv
theorem cm_ge {x : Int32} {v : Nat} (hv : v < 2147483648) : mj_ci .ge (nI v) x = decide (x.toInt ≤ v) := cs_le hv
theorem cm_gt {x : Int32} {v : Nat} (hv : v < 2147483648) : mj_ci .gt (nI v) x = decide (x.toInt < v) := cs_lt hv
theorem cm_le {x : Int32} {v : Nat} (hv : v < 2147483648) : mj_ci .le (nI v) x = decide ((v : Int) ≤ x.toInt) := cs_ge hv
