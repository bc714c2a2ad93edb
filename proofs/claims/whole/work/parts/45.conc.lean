/-! Steps with their values told. -/
section MJCO
variable {k k' mi pc p' : Nat} {ls ls' : mj_L} {st st' : List Value} {h h' : mj_H} {Q : mj_O × mj_H → Prop} {i : Instr} {e : Nat × Nat × Nat}
theorem s_bz {w z : Int32} (hE : mj_Gg.1 mi pc = some (i, e)) (hx : mj_isnx i = true) (hs : mj_sp (i, e) pc ls st = some (p', ls, .int w :: st')) (hz : w = z) (hn : mj_Wp k mi (p', ls, .int z :: st', h) Q) : mj_Wp k mi (pc, ls, st, h) Q := s_sp hE hx hs (hz ▸ hn)
theorem s_bzL {w z : Int64} (hE : mj_Gg.1 mi pc = some (i, e)) (hx : mj_isnx i = true) (hs : mj_sp (i, e) pc ls st = some (p', ls, .long w :: st')) (hz : w = z) (hn : mj_Wp k mi (p', ls, .long z :: st', h) Q) : mj_Wp k mi (pc, ls, st, h) Q := s_sp hE hx hs (hz ▸ hn)
theorem s_bzF {w z : UInt32} (hE : mj_Gg.1 mi pc = some (i, e)) (hx : mj_isnx i = true) (hs : mj_sp (i, e) pc ls st = some (p', ls, .float w :: st')) (hz : w = z) (hn : mj_Wp k mi (p', ls, .float z :: st', h) Q) : mj_Wp k mi (pc, ls, st, h) Q := s_sp hE hx hs (hz ▸ hn)
theorem s_bzD {w z : UInt64} (hE : mj_Gg.1 mi pc = some (i, e)) (hx : mj_isnx i = true) (hs : mj_sp (i, e) pc ls st = some (p', ls, .double w :: st')) (hz : w = z) (hn : mj_Wp k mi (p', ls, .double z :: st', h) Q) : mj_Wp k mi (pc, ls, st, h) Q := s_sp hE hx hs (hz ▸ hn)
theorem s_incz {j v y z : Nat} {x w : Int32} {c : Int} (hE : mj_Gg.1 mi pc = some (.iinc j c, v, y, z)) (hl : mj_ld ls j = some (.int x)) (hi : Nat.blt j ls.length = true) (hw : x + nI v = w) (hs : mj_st1 ls j (.int w) = ls') (hp : pc + 3 = p') (hn : mj_Wp k mi (p', ls', st, h) Q) : mj_Wp k mi (pc, ls, st, h) Q := s_inc hE hl hi (hw ▸ hs) hp hn
theorem s_ialz {a n m : Nat} {f : Nat → Int32} {j v : Int32} (hE : mj_Gg.1 mi pc = some (.iaload, e)) (hr : mj_rd h a = some (.inl (0, (n, .inl f)))) (hj : mj_inb j n = true) (hm : j.toNatClampNeg = m) (hv : f m = v) (hp : pc + 1 = p') (hn : mj_Wp k mi (p', ls, .int v :: st, h) Q) : mj_Wp k mi (pc, ls, .int j :: .ref a :: st, h) Q := s_ial hE hr hj hp (by rw [hm, hv]; exact hn)
theorem s_bal1z {a n m : Nat} {f : Nat → Int32} {j v : Int32} (hE : mj_Gg.1 mi pc = some (.baload, e)) (hr : mj_rd h a = some (.inl (1, (n, .inl f)))) (hj : mj_inb j n = true) (hm : j.toNatClampNeg = m) (hv : f m = v) (hp : pc + 1 = p') (hn : mj_Wp k mi (p', ls, .int v :: st, h) Q) : mj_Wp k mi (pc, ls, .int j :: .ref a :: st, h) Q := s_bal1 hE hr hj hp (by rw [hm, hv]; exact hn)
theorem s_bal2z {a n m : Nat} {f : Nat → Int32} {j v : Int32} (hE : mj_Gg.1 mi pc = some (.baload, e)) (hr : mj_rd h a = some (.inl (2, (n, .inl f)))) (hj : mj_inb j n = true) (hm : j.toNatClampNeg = m) (hv : f m = v) (hp : pc + 1 = p') (hn : mj_Wp k mi (p', ls, .int v :: st, h) Q) : mj_Wp k mi (pc, ls, .int j :: .ref a :: st, h) Q := s_bal2 hE hr hj hp (by rw [hm, hv]; exact hn)
theorem s_calz {a n m : Nat} {f : Nat → Int32} {j v : Int32} (hE : mj_Gg.1 mi pc = some (.caload, e)) (hr : mj_rd h a = some (.inl (3, (n, .inl f)))) (hj : mj_inb j n = true) (hm : j.toNatClampNeg = m) (hv : f m = v) (hp : pc + 1 = p') (hn : mj_Wp k mi (p', ls, .int v :: st, h) Q) : mj_Wp k mi (pc, ls, .int j :: .ref a :: st, h) Q := s_cal hE hr hj hp (by rw [hm, hv]; exact hn)
theorem s_aalz {a t n m : Nat} {q : Option Nat} {v : Value} {f : Nat → Option Nat} {j : Int32} (hE : mj_Gg.1 mi pc = some (.aaload, e)) (hr : mj_rdA h a = some (t, (n, .inr (.inr (.inr (.inr f)))))) (ht : (Nat.ble 6 t && Nat.blt t 11) = true) (hj : mj_inb j n = true) (hm : j.toNatClampNeg = m) (hq : f m = q) (hv : va_rf q = v) (hp : pc + 1 = p') (hn : mj_Wp k mi (p', ls, v :: st, h) Q) : mj_Wp k mi (pc, ls, .int j :: .ref a :: st, h) Q := by
  rw [Bool.and_eq_true, Nat.ble_eq, Nat.blt_eq] at ht
  exact s_aal hE hr ht hj hp (by rw [hm, hq, hv]; exact hn)
theorem s_lenz {a t : Nat} {n : Nat} {x : (Nat → Int32) ⊕ (Nat → Int64) ⊕ (Nat → UInt32) ⊕ (Nat → UInt64) ⊕ (Nat → Option Nat)} (hE : mj_Gg.1 mi pc = some (.arraylength, e)) (hr : mj_rdA h a = some (t, (n, x))) (ht : Nat.blt t 11 = true) (hp : pc + 1 = p') (hn : mj_Wp k mi (p', ls, .int (nI n) :: st, h) Q) : mj_Wp k mi (pc, ls, .ref a :: st, h) Q := s_len hE hr (Nat.blt_eq.mp ht) hp hn
/-- an array's cell, written: the new contents told -/
theorem s_iasz {a n m : Nat} {f g : Nat → Int32} {j v : Int32} (hE : mj_Gg.1 mi pc = some (.iastore, e)) (ha : Nat.blt a mj_CB = true) (hr : mj_rd h a = some (.inl (0, (n, .inl f)))) (hj : mj_inb j n = true) (hm : j.toNatClampNeg = m) (hg : upd f m v = g) (hp : pc + 1 = p') (hn : mj_Wp k mi (p', ls, st, h.set a (.inl (0, (n, .inl g)))) Q) : mj_Wp k mi (pc, ls, .int v :: .int j :: .ref a :: st, h) Q := s_ias hE (Nat.blt_eq.mp ha) hr hj hp (by rw [hm, hg]; exact hn)
theorem s_bas1z {a n m : Nat} {f g : Nat → Int32} {j v w : Int32} (hE : mj_Gg.1 mi pc = some (.bastore, e)) (ha : Nat.blt a mj_CB = true) (hr : mj_rd h a = some (.inl (1, (n, .inl f)))) (hj : mj_inb j n = true) (hm : j.toNatClampNeg = m) (hw : vp_nar .byte v = w) (hg : upd f m w = g) (hp : pc + 1 = p') (hn : mj_Wp k mi (p', ls, st, h.set a (.inl (1, (n, .inl g)))) Q) : mj_Wp k mi (pc, ls, .int v :: .int j :: .ref a :: st, h) Q := s_bas1 hE (Nat.blt_eq.mp ha) hr hj hp (by rw [hm, hw, hg]; exact hn)
theorem s_bas2z {a n m : Nat} {f g : Nat → Int32} {j v w : Int32} (hE : mj_Gg.1 mi pc = some (.bastore, e)) (ha : Nat.blt a mj_CB = true) (hr : mj_rd h a = some (.inl (2, (n, .inl f)))) (hj : mj_inb j n = true) (hm : j.toNatClampNeg = m) (hw : vp_nar .boolean v = w) (hg : upd f m w = g) (hp : pc + 1 = p') (hn : mj_Wp k mi (p', ls, st, h.set a (.inl (2, (n, .inl g)))) Q) : mj_Wp k mi (pc, ls, .int v :: .int j :: .ref a :: st, h) Q := s_bas2 hE (Nat.blt_eq.mp ha) hr hj hp (by rw [hm, hw, hg]; exact hn)
theorem s_casz {a n m : Nat} {f g : Nat → Int32} {j v w : Int32} (hE : mj_Gg.1 mi pc = some (.castore, e)) (ha : Nat.blt a mj_CB = true) (hr : mj_rd h a = some (.inl (3, (n, .inl f)))) (hj : mj_inb j n = true) (hm : j.toNatClampNeg = m) (hw : vp_nar .char v = w) (hg : upd f m w = g) (hp : pc + 1 = p') (hn : mj_Wp k mi (p', ls, st, h.set a (.inl (3, (n, .inl g)))) Q) : mj_Wp k mi (pc, ls, .int v :: .int j :: .ref a :: st, h) Q := s_cas hE (Nat.blt_eq.mp ha) hr hj hp (by rw [hm, hw, hg]; exact hn)
theorem s_lasz {a n m : Nat} {f g : Nat → Int64} {j : Int32} {v : Int64} (hE : mj_Gg.1 mi pc = some (.lastore, e)) (ha : Nat.blt a mj_CB = true) (hr : mj_rd h a = some (.inl (4, (n, .inr (.inl f))))) (hj : mj_inb j n = true) (hm : j.toNatClampNeg = m) (hg : vp_updL f m v = g) (hp : pc + 1 = p') (hn : mj_Wp k mi (p', ls, st, h.set a (.inl (4, (n, .inr (.inl g))))) Q) : mj_Wp k mi (pc, ls, .long v :: .int j :: .ref a :: st, h) Q := s_las hE (Nat.blt_eq.mp ha) hr hj hp (by rw [hm, hg]; exact hn)
theorem s_dasz {a n m : Nat} {f g : Nat → UInt64} {j : Int32} {v : UInt64} (hE : mj_Gg.1 mi pc = some (.dastore, e)) (ha : Nat.blt a mj_CB = true) (hr : mj_rd h a = some (.inl (5, (n, .inr (.inr (.inr (.inl f))))))) (hj : mj_inb j n = true) (hm : j.toNatClampNeg = m) (hg : vf_upd f m v = g) (hp : pc + 1 = p') (hn : mj_Wp k mi (p', ls, st, h.set a (.inl (5, (n, .inr (.inr (.inr (.inl g))))))) Q) : mj_Wp k mi (pc, ls, .double v :: .int j :: .ref a :: st, h) Q := by
  refine s_sh (p' := p') (ls' := ls) (st' := st) (h' := h.set a (.inl (5, (n, .inr (.inr (.inr (.inl g))))))) hE rfl rfl ?_ hn
  rw [← hp, ← hg, ← hm]
  exact mj_sto_is (Nat.blt_eq.mp ha) (mj_rdA_is hr (by decide)) hj rfl
theorem s_aasz {a t n q c m : Nat} {fs : List Value} {f g : Nat → Option Nat} {j : Int32} (hE : mj_Gg.1 mi pc = some (.aastore, e)) (ha : Nat.blt a mj_CB = true) (hr : mj_rd h a = some (.inl (t, (n, .inr (.inr (.inr (.inr f))))))) (ht : (Nat.ble 6 t && Nat.blt t 10 && mj_aok t c) = true) (hj : mj_inb j n = true) (hm : j.toNatClampNeg = m) (hq : mj_rd h q = some (.inr (c, fs))) (hg : va_up f m (some q) = g) (hp : pc + 1 = p') (hn : mj_Wp k mi (p', ls, st, h.set a (.inl (t, (n, .inr (.inr (.inr (.inr g))))))) Q) : mj_Wp k mi (pc, ls, .ref q :: .int j :: .ref a :: st, h) Q := by
  rw [Bool.and_eq_true, Bool.and_eq_true, Nat.ble_eq, Nat.blt_eq] at ht
  exact s_aas hE (Nat.blt_eq.mp ha) hr ht.1 hj hq ht.2 hp (by rw [hm, hg]; exact hn)
theorem s_aasNz {a t n m : Nat} {f g : Nat → Option Nat} {j : Int32} (hE : mj_Gg.1 mi pc = some (.aastore, e)) (ha : Nat.blt a mj_CB = true) (hr : mj_rd h a = some (.inl (t, (n, .inr (.inr (.inr (.inr f))))))) (ht : (Nat.ble 6 t && Nat.blt t 10) = true) (hj : mj_inb j n = true) (hm : j.toNatClampNeg = m) (hg : va_up f m none = g) (hp : pc + 1 = p') (hn : mj_Wp k mi (p', ls, st, h.set a (.inl (t, (n, .inr (.inr (.inr (.inr g))))))) Q) : mj_Wp k mi (pc, ls, .null :: .int j :: .ref a :: st, h) Q := by
  rw [Bool.and_eq_true, Nat.ble_eq, Nat.blt_eq] at ht
  exact s_aasN hE (Nat.blt_eq.mp ha) hr ht hj hp (by rw [hm, hg]; exact hn)
theorem s_newz {j c y a : Nat} {fs : List Value} (hE : mj_Gg.1 mi pc = some (.new j, c, y, 0)) (hl : h.length = a) (hd : mj_dfl[c]? = some fs) (hp : pc + 3 = p') (hn : mj_Wp k mi (p', ls, .ref a :: st, h ++ [.inr (c, fs)]) Q) : mj_Wp k mi (pc, ls, st, h) Q := s_new hE hd hp (hl ▸ hn)
theorem s_naz {j : ArrayType} {t y z a n : Nat} (hE : mj_Gg.1 mi pc = some (.newarray j, t, y, z)) (hl : h.length = a) (hc : Nat.ble n 67108864 = true) (hp : pc + 2 = p') (hn : mj_Wp k mi (p', ls, .ref a :: st, h ++ [.inl (t, mj_arr0 t n)]) Q) : mj_Wp k mi (pc, ls, .int (nI n) :: st, h) Q := by
  have hc := Nat.ble_eq.mp hc
  exact s_na hE (lenok hc) hp (by rw [mI_cl (by omega), hl]; exact hn)
theorem s_anaz {j : Nat} {t y z a n : Nat} (hE : mj_Gg.1 mi pc = some (.anewarray j, t, y, z)) (hl : h.length = a) (hc : Nat.ble n 67108864 = true) (hp : pc + 3 = p') (hn : mj_Wp k mi (p', ls, .ref a :: st, h ++ [.inl (t, mj_arr0 t n)]) Q) : mj_Wp k mi (pc, ls, .int (nI n) :: st, h) Q := by
  have hc := Nat.ble_eq.mp hc
  exact s_ana hE (lenok hc) hp (by rw [mI_cl (by omega), hl]; exact hn)
theorem s_thrz {j c y q : Nat} (hE : mj_Gg.1 mi pc = some (.new j, c, y, 1)) (hl : h.length = q) (hs : Nat.ble (st.map fun v => v.category).sum 8 = true) (hq : Q (.inr q, h ++ [.inr (c, [])])) : mj_Wp k mi (pc, ls, st, h) Q := s_thr hE (Nat.ble_eq.mp hs) (hl.symm ▸ hq)
theorem s_pfz {a c f : Nat} {fs fs' : List Value} {v : Value} {j : Nat} {z : Nat} (hE : mj_Gg.1 mi pc = some (.putfield j, f, c, z)) (ha : Nat.blt a mj_CB = true) (hr : mj_rd h a = some (.inr (c, fs))) (hf : Nat.blt f fs.length = true) (hv : mj_fit (mj_cty c f) v = true) (hs : fs.set f v = fs') (hp : pc + 3 = p') (hn : mj_Wp k mi (p', ls, st, h.set a (.inr (c, fs'))) Q) : mj_Wp k mi (pc, ls, v :: .ref a :: st, h) Q := s_pf hE (Nat.blt_eq.mp ha) hr (Nat.blt_eq.mp hf) hv hs hp hn
theorem s_cca {j t z a : Nat} {w : Nat} {x : vp_A} (hE : mj_Gg.1 mi pc = some (.checkcast j, t, w + 1, z)) (ha : Nat.blt a mj_CB = true) (hr : mj_rd h a = some (.inl (t, x))) (ht : (t == 10) = false) (hp : pc + 3 = p') (hn : mj_Wp k mi (p', ls, .ref a :: st, h) Q) : mj_Wp k mi (pc, ls, .ref a :: st, h) Q := by
  refine s_sh (p' := p') (ls' := ls) (st' := .ref a :: st) (h' := h) hE rfl rfl ?_ hn
  show ((if w + 1 = 0 then (match mj_rdO h a with | some (c', _) => if c' = t then some (pc + 3, ls, .ref a :: st, h) else none | none => none) else (if a < mj_CB then (match mj_rdA h a with | some (t', _) => if t' = t then some (pc + 3, ls, .ref a :: st, h) else none | none => none) else none)) : Option mj_S) = _
  rw [if_neg (by omega), if_pos (Nat.blt_eq.mp ha), mj_rdA_is hr (by rw [beq_eq_false_iff_ne] at ht; exact ht)]
  dsimp only
  rw [if_pos rfl, hp]
end MJCO
theorem rd_sn {h : mj_H} {a b : Nat} {c d : mj_C} (hn : (b == a) = false) (hr : mj_rd h a = some d) : mj_rd (h.set b c) a = some d := by
  rw [rd_setn (by rw [beq_eq_false_iff_ne] at hn; exact hn)]
  exact hr
theorem rd_ss {h : mj_H} {a : Nat} {c d : mj_C} (ha : Nat.blt a mj_CB = true) (hr : mj_rd h a = some d) : mj_rd (h.set a c) a = some c := rd_set (Nat.blt_eq.mp ha) hr
theorem rd_nw {h : mj_H} {a : Nat} {c : mj_C} (ha : Nat.blt a mj_CB = true) (hl : h.length = a) : mj_rd (h ++ [c]) a = some c := by
  subst hl
  exact rd_new (Nat.blt_eq.mp ha)
theorem len_s {h : mj_H} {a n : Nat} {c : mj_C} (hl : h.length = n) : (h.set a c).length = n := by rw [List.length_set, hl]
theorem len_a {h : mj_H} {n m : Nat} {c : mj_C} (hl : h.length = n) (hm : n + 1 = m) : (h ++ [c]).length = m := by rw [List.length_append, hl]; exact hm
section MJCL
variable {L pc p' : Nat} {xs : Nat → Int32} {ls ls' : mj_L} {st st' : List Value} {h h1 : mj_H} {P : mj_H → Prop} {i : Instr} {e : Nat × Nat × Nat}
theorem l_bz {w z : Int32} (hE : mj_get mj_rL.2.2 pc = some (i, e)) (hl : ls.length = 10) (hm : (mj_mk (i, e) || mj_isirt i) = false) (hp : mj_lwp i = true) (hs : mj_sp (i, e) pc ls st = some (p', ls, .int w :: st')) (hz : w = z) (hn : mj_lrun L xs (p', ls, .int z :: st', h) P) : mj_lrun L xs (pc, ls, st, h) P := l_sp hE hl hm hp hs (hz ▸ hn)
theorem l_bzL {w z : Int64} (hE : mj_get mj_rL.2.2 pc = some (i, e)) (hl : ls.length = 10) (hm : (mj_mk (i, e) || mj_isirt i) = false) (hp : mj_lwp i = true) (hs : mj_sp (i, e) pc ls st = some (p', ls, .long w :: st')) (hz : w = z) (hn : mj_lrun L xs (p', ls, .long z :: st', h) P) : mj_lrun L xs (pc, ls, st, h) P := l_sp hE hl hm hp hs (hz ▸ hn)
theorem l_bzD {w z : UInt64} (hE : mj_get mj_rL.2.2 pc = some (i, e)) (hl : ls.length = 10) (hm : (mj_mk (i, e) || mj_isirt i) = false) (hp : mj_lwp i = true) (hs : mj_sp (i, e) pc ls st = some (p', ls, .double w :: st')) (hz : w = z) (hn : mj_lrun L xs (p', ls, .double z :: st', h) P) : mj_lrun L xs (pc, ls, st, h) P := l_sp hE hl hm hp hs (hz ▸ hn)
theorem l_incz {j v y z : Nat} {x w : Int32} {c : Int} (hE : mj_get mj_rL.2.2 pc = some (.iinc j c, v, y, z)) (hl : ls.length = 10) (hx : mj_ld ls j = some (.int x)) (hi : Nat.blt j ls.length = true) (hw : x + nI v = w) (hs : mj_st1 ls j (.int w) = ls') (hp : pc + 3 = p') (hn : mj_lrun L xs (p', ls', st, h) P) : mj_lrun L xs (pc, ls, st, h) P := l_inc hE hl hx hi (hw ▸ hs) hp hn
theorem l_ialz {j z : Int32} {m : Nat} (hE : mj_get mj_rL.2.2 pc = some (.iaload, e)) (hl : ls.length = 10) (hj : mj_inb j L = true) (hm : j.toNatClampNeg = m) (hz : xs m = z) (hp : pc + 1 = p') (hn : mj_lrun L xs (p', ls, .int z :: st, h) P) : mj_lrun L xs (pc, ls, .int j :: .retAddr 1 :: st, h) P := l_ials hE hl hj hp (by rw [hm, hz]; exact hn)
theorem l_lalz {a n m : Nat} {f : Nat → Int64} {j : Int32} {v : Int64} (hE : mj_get mj_rL.2.2 pc = some (.laload, e)) (hl : ls.length = 10) (hr : mj_rd h a = some (.inl (4, (n, .inr (.inl f))))) (hj : mj_inb j n = true) (hm : j.toNatClampNeg = m) (hv : f m = v) (hp : pc + 1 = p') (hn : mj_lrun L xs (p', ls, .long v :: st, h) P) : mj_lrun L xs (pc, ls, .int j :: .ref a :: st, h) P := l_lal hE hl hr hj hp (by rw [hm, hv]; exact hn)
theorem l_dalz {a n m : Nat} {f : Nat → UInt64} {j : Int32} {v : UInt64} (hE : mj_get mj_rL.2.2 pc = some (.daload, e)) (hl : ls.length = 10) (hr : mj_rd h a = some (.inl (5, (n, .inr (.inr (.inr (.inl f))))))) (hj : mj_inb j n = true) (hm : j.toNatClampNeg = m) (hv : f m = v) (hp : pc + 1 = p') (hn : mj_lrun L xs (p', ls, .double v :: st, h) P) : mj_lrun L xs (pc, ls, .int j :: .ref a :: st, h) P := l_dal hE hl hr hj hp (by rw [hm, hv]; exact hn)
end MJCL
theorem lcmp_self (x : Int64) : lg_cmp x x = nI 0 := by
  unfold lg_cmp
  simp
  rfl
theorem sz_s {h : mj_H} {a n : Nat} {c d : mj_C} (ha : Nat.blt a mj_CB = true) (hr : mj_rd h a = some d) (hc : mj_cs c = mj_cs d) (hz : mj_sz h ≤ n) : mj_sz (h.set a c) ≤ n := by
  rw [rd_lt (Nat.blt_eq.mp ha)] at hr
  rw [mj_sz_set h a c d hr hc]
  exact hz
theorem sz_a {h : mj_H} {n m : Nat} {c : mj_C} (hz : mj_sz h ≤ n) (hm : n + mj_cs c = m) : mj_sz (h ++ [c]) ≤ m := by
  rw [mj_sz_push]
  omega
theorem sz_aa {h : mj_H} {n m k : Nat} {c : mj_C} (hc : mj_cs c = k) (hm : n + k = m) (hz : mj_sz h ≤ n) : mj_sz (h ++ [c]) ≤ m := by
  rw [mj_sz_push]
  omega
theorem sz_sA {h : mj_H} {a k t n : Nat} {x y : (Nat → Int32) ⊕ (Nat → Int64) ⊕ (Nat → UInt32) ⊕ (Nat → UInt64) ⊕ (Nat → Option Nat)} (ha : Nat.blt a mj_CB = true) (hr : mj_rd h a = some (.inl (t, (n, x)))) (hz : mj_sz h ≤ k) : mj_sz (h.set a (.inl (t, (n, y)))) ≤ k := by
  rw [rd_lt (Nat.blt_eq.mp ha)] at hr
  rw [mj_sz_set h a (.inl (t, (n, y))) (.inl (t, (n, x))) hr rfl]
  exact hz
/-- WHAT A CALL'S ROUND SAYS (a script of four): from the head of the law's loop on fresh objects -/
def mj_fin (L : Nat) (xs : Nat → Int32) (h : mj_H) : Prop := mj_lrun L xs (28, [some (.retAddr 1), some (.ref 0), some (.ref 400), some (.ref 412), some (.ref 413), some (.int (nI 0)), none, none, none, none], [], h) (fun h' => h'.length ≤ 5000 ∧ mj_sz h' ≤ 400000)
/-! an int that is not told against one that is -/
theorem cg_lt {x y : Int32} {w : Int} (hy : y.toInt = w) : mj_ci .lt x y = decide (x.toInt < w) := decide_eq_decide.mpr (by rw [Int32.lt_iff_toInt_lt, hy])
theorem cg_ge {x y : Int32} {w : Int} (hy : y.toInt = w) : mj_ci .ge x y = decide (w ≤ x.toInt) := decide_eq_decide.mpr (by rw [Int32.le_iff_toInt_le, hy])
theorem cg_gt {x y : Int32} {w : Int} (hy : y.toInt = w) : mj_ci .gt x y = decide (w < x.toInt) := decide_eq_decide.mpr (by rw [Int32.lt_iff_toInt_lt, hy])
theorem cg_le {x y : Int32} {w : Int} (hy : y.toInt = w) : mj_ci .le x y = decide (x.toInt ≤ w) := decide_eq_decide.mpr (by rw [Int32.le_iff_toInt_le, hy])
theorem cg_eq {x y : Int32} {w : Int} (hy : y.toInt = w) : mj_ci .eq x y = decide (x.toInt = w) := decide_eq_decide.mpr (by rw [← hy]; exact Int32.toInt_inj.symm)
theorem cg_ne {x y : Int32} {w : Int} (hy : y.toInt = w) : mj_ci .ne x y = decide (¬ x.toInt = w) := decide_eq_decide.mpr (not_congr (by rw [← hy]; exact Int32.toInt_inj.symm))
theorem ch_lt {x y : Int32} {w : Int} (hy : y.toInt = w) : mj_ci .lt y x = decide (w < x.toInt) := decide_eq_decide.mpr (by rw [Int32.lt_iff_toInt_lt, hy])
theorem ch_ge {x y : Int32} {w : Int} (hy : y.toInt = w) : mj_ci .ge y x = decide (x.toInt ≤ w) := decide_eq_decide.mpr (by rw [Int32.le_iff_toInt_le, hy])
theorem ch_gt {x y : Int32} {w : Int} (hy : y.toInt = w) : mj_ci .gt y x = decide (x.toInt < w) := decide_eq_decide.mpr (by rw [Int32.lt_iff_toInt_lt, hy])
theorem ch_le {x y : Int32} {w : Int} (hy : y.toInt = w) : mj_ci .le y x = decide (w ≤ x.toInt) := decide_eq_decide.mpr (by rw [Int32.le_iff_toInt_le, hy])
theorem ch_eq {x y : Int32} {w : Int} (hy : y.toInt = w) : mj_ci .eq y x = decide (x.toInt = w) := decide_eq_decide.mpr (by rw [← hy]; exact ⟨fun q => by rw [q], fun q => (Int32.toInt_inj.mp q).symm⟩)
theorem ch_ne {x y : Int32} {w : Int} (hy : y.toInt = w) : mj_ci .ne y x = decide (¬ x.toInt = w) := decide_eq_decide.mpr (not_congr (by rw [← hy]; exact ⟨fun q => by rw [q], fun q => (Int32.toInt_inj.mp q).symm⟩))
theorem lenok' {n : Nat} (hn : n < 2147483648) : ¬ nI n < 0 := by
  rw [mI_0, mI_lt hn (by decide)]
  omega
/-! told cells that stood before -/
theorem k_300 (h : mj_H) : mj_rd h 1000300 = some (.inr (21, [.ref 1000301, .int (nI 0)])) := rfl
theorem k_301 (h : mj_H) : mj_rd h 1000301 = some (.inl (1, (0, .inl (mj_byt [])))) := rfl
theorem k_0 (h : mj_H) : mj_rd h 1000000 = some (.inl (6, (0, .inr (.inr (.inr (.inr (fun _ => none))))))) := rfl
theorem k_1 (h : mj_H) : mj_rd h 1000001 = some (.inl (10, (256, .inr (.inr (.inr (.inr (fun j => some (mj_CB + 10 + j)))))))) := rfl
theorem k_10 (h : mj_H) : mj_rd h 1000010 = some (.inr (29, [.int (nI 4294967168)])) := by
  show some (Sum.inr (29, [Value.int (nI (10 - 10) - 128)])) = _
  rw [show nI (10 - 10) - 128 = nI 4294967168 from by decide +kernel]
theorem k_11 (h : mj_H) : mj_rd h 1000011 = some (.inr (29, [.int (nI 4294967169)])) := by
  show some (Sum.inr (29, [Value.int (nI (11 - 10) - 128)])) = _
  rw [show nI (11 - 10) - 128 = nI 4294967169 from by decide +kernel]
theorem k_12 (h : mj_H) : mj_rd h 1000012 = some (.inr (29, [.int (nI 4294967170)])) := by
  show some (Sum.inr (29, [Value.int (nI (12 - 10) - 128)])) = _
  rw [show nI (12 - 10) - 128 = nI 4294967170 from by decide +kernel]
theorem k_13 (h : mj_H) : mj_rd h 1000013 = some (.inr (29, [.int (nI 4294967171)])) := by
  show some (Sum.inr (29, [Value.int (nI (13 - 10) - 128)])) = _
  rw [show nI (13 - 10) - 128 = nI 4294967171 from by decide +kernel]
theorem k_14 (h : mj_H) : mj_rd h 1000014 = some (.inr (29, [.int (nI 4294967172)])) := by
  show some (Sum.inr (29, [Value.int (nI (14 - 10) - 128)])) = _
  rw [show nI (14 - 10) - 128 = nI 4294967172 from by decide +kernel]
theorem k_15 (h : mj_H) : mj_rd h 1000015 = some (.inr (29, [.int (nI 4294967173)])) := by
  show some (Sum.inr (29, [Value.int (nI (15 - 10) - 128)])) = _
  rw [show nI (15 - 10) - 128 = nI 4294967173 from by decide +kernel]
theorem k_16 (h : mj_H) : mj_rd h 1000016 = some (.inr (29, [.int (nI 4294967174)])) := by
  show some (Sum.inr (29, [Value.int (nI (16 - 10) - 128)])) = _
  rw [show nI (16 - 10) - 128 = nI 4294967174 from by decide +kernel]
theorem k_17 (h : mj_H) : mj_rd h 1000017 = some (.inr (29, [.int (nI 4294967175)])) := by
  show some (Sum.inr (29, [Value.int (nI (17 - 10) - 128)])) = _
  rw [show nI (17 - 10) - 128 = nI 4294967175 from by decide +kernel]
theorem k_18 (h : mj_H) : mj_rd h 1000018 = some (.inr (29, [.int (nI 4294967176)])) := by
  show some (Sum.inr (29, [Value.int (nI (18 - 10) - 128)])) = _
  rw [show nI (18 - 10) - 128 = nI 4294967176 from by decide +kernel]
theorem k_19 (h : mj_H) : mj_rd h 1000019 = some (.inr (29, [.int (nI 4294967177)])) := by
  show some (Sum.inr (29, [Value.int (nI (19 - 10) - 128)])) = _
  rw [show nI (19 - 10) - 128 = nI 4294967177 from by decide +kernel]
theorem k_20 (h : mj_H) : mj_rd h 1000020 = some (.inr (29, [.int (nI 4294967178)])) := by
  show some (Sum.inr (29, [Value.int (nI (20 - 10) - 128)])) = _
  rw [show nI (20 - 10) - 128 = nI 4294967178 from by decide +kernel]
theorem k_21 (h : mj_H) : mj_rd h 1000021 = some (.inr (29, [.int (nI 4294967179)])) := by
  show some (Sum.inr (29, [Value.int (nI (21 - 10) - 128)])) = _
  rw [show nI (21 - 10) - 128 = nI 4294967179 from by decide +kernel]
theorem k_22 (h : mj_H) : mj_rd h 1000022 = some (.inr (29, [.int (nI 4294967180)])) := by
  show some (Sum.inr (29, [Value.int (nI (22 - 10) - 128)])) = _
  rw [show nI (22 - 10) - 128 = nI 4294967180 from by decide +kernel]
theorem k_23 (h : mj_H) : mj_rd h 1000023 = some (.inr (29, [.int (nI 4294967181)])) := by
  show some (Sum.inr (29, [Value.int (nI (23 - 10) - 128)])) = _
  rw [show nI (23 - 10) - 128 = nI 4294967181 from by decide +kernel]
theorem k_24 (h : mj_H) : mj_rd h 1000024 = some (.inr (29, [.int (nI 4294967182)])) := by
  show some (Sum.inr (29, [Value.int (nI (24 - 10) - 128)])) = _
  rw [show nI (24 - 10) - 128 = nI 4294967182 from by decide +kernel]
theorem k_25 (h : mj_H) : mj_rd h 1000025 = some (.inr (29, [.int (nI 4294967183)])) := by
  show some (Sum.inr (29, [Value.int (nI (25 - 10) - 128)])) = _
  rw [show nI (25 - 10) - 128 = nI 4294967183 from by decide +kernel]
theorem k_26 (h : mj_H) : mj_rd h 1000026 = some (.inr (29, [.int (nI 4294967184)])) := by
  show some (Sum.inr (29, [Value.int (nI (26 - 10) - 128)])) = _
  rw [show nI (26 - 10) - 128 = nI 4294967184 from by decide +kernel]
theorem k_27 (h : mj_H) : mj_rd h 1000027 = some (.inr (29, [.int (nI 4294967185)])) := by
  show some (Sum.inr (29, [Value.int (nI (27 - 10) - 128)])) = _
  rw [show nI (27 - 10) - 128 = nI 4294967185 from by decide +kernel]
theorem k_28 (h : mj_H) : mj_rd h 1000028 = some (.inr (29, [.int (nI 4294967186)])) := by
  show some (Sum.inr (29, [Value.int (nI (28 - 10) - 128)])) = _
  rw [show nI (28 - 10) - 128 = nI 4294967186 from by decide +kernel]
theorem k_29 (h : mj_H) : mj_rd h 1000029 = some (.inr (29, [.int (nI 4294967187)])) := by
  show some (Sum.inr (29, [Value.int (nI (29 - 10) - 128)])) = _
  rw [show nI (29 - 10) - 128 = nI 4294967187 from by decide +kernel]
theorem k_30 (h : mj_H) : mj_rd h 1000030 = some (.inr (29, [.int (nI 4294967188)])) := by
  show some (Sum.inr (29, [Value.int (nI (30 - 10) - 128)])) = _
  rw [show nI (30 - 10) - 128 = nI 4294967188 from by decide +kernel]
theorem k_31 (h : mj_H) : mj_rd h 1000031 = some (.inr (29, [.int (nI 4294967189)])) := by
  show some (Sum.inr (29, [Value.int (nI (31 - 10) - 128)])) = _
  rw [show nI (31 - 10) - 128 = nI 4294967189 from by decide +kernel]
theorem k_32 (h : mj_H) : mj_rd h 1000032 = some (.inr (29, [.int (nI 4294967190)])) := by
  show some (Sum.inr (29, [Value.int (nI (32 - 10) - 128)])) = _
  rw [show nI (32 - 10) - 128 = nI 4294967190 from by decide +kernel]
theorem k_33 (h : mj_H) : mj_rd h 1000033 = some (.inr (29, [.int (nI 4294967191)])) := by
  show some (Sum.inr (29, [Value.int (nI (33 - 10) - 128)])) = _
  rw [show nI (33 - 10) - 128 = nI 4294967191 from by decide +kernel]
theorem k_34 (h : mj_H) : mj_rd h 1000034 = some (.inr (29, [.int (nI 4294967192)])) := by
  show some (Sum.inr (29, [Value.int (nI (34 - 10) - 128)])) = _
  rw [show nI (34 - 10) - 128 = nI 4294967192 from by decide +kernel]
theorem k_35 (h : mj_H) : mj_rd h 1000035 = some (.inr (29, [.int (nI 4294967193)])) := by
  show some (Sum.inr (29, [Value.int (nI (35 - 10) - 128)])) = _
  rw [show nI (35 - 10) - 128 = nI 4294967193 from by decide +kernel]
theorem k_36 (h : mj_H) : mj_rd h 1000036 = some (.inr (29, [.int (nI 4294967194)])) := by
  show some (Sum.inr (29, [Value.int (nI (36 - 10) - 128)])) = _
  rw [show nI (36 - 10) - 128 = nI 4294967194 from by decide +kernel]
theorem k_37 (h : mj_H) : mj_rd h 1000037 = some (.inr (29, [.int (nI 4294967195)])) := by
  show some (Sum.inr (29, [Value.int (nI (37 - 10) - 128)])) = _
  rw [show nI (37 - 10) - 128 = nI 4294967195 from by decide +kernel]
theorem k_38 (h : mj_H) : mj_rd h 1000038 = some (.inr (29, [.int (nI 4294967196)])) := by
  show some (Sum.inr (29, [Value.int (nI (38 - 10) - 128)])) = _
  rw [show nI (38 - 10) - 128 = nI 4294967196 from by decide +kernel]
theorem k_39 (h : mj_H) : mj_rd h 1000039 = some (.inr (29, [.int (nI 4294967197)])) := by
  show some (Sum.inr (29, [Value.int (nI (39 - 10) - 128)])) = _
  rw [show nI (39 - 10) - 128 = nI 4294967197 from by decide +kernel]
theorem k_40 (h : mj_H) : mj_rd h 1000040 = some (.inr (29, [.int (nI 4294967198)])) := by
  show some (Sum.inr (29, [Value.int (nI (40 - 10) - 128)])) = _
  rw [show nI (40 - 10) - 128 = nI 4294967198 from by decide +kernel]
theorem k_41 (h : mj_H) : mj_rd h 1000041 = some (.inr (29, [.int (nI 4294967199)])) := by
  show some (Sum.inr (29, [Value.int (nI (41 - 10) - 128)])) = _
  rw [show nI (41 - 10) - 128 = nI 4294967199 from by decide +kernel]
theorem k_42 (h : mj_H) : mj_rd h 1000042 = some (.inr (29, [.int (nI 4294967200)])) := by
  show some (Sum.inr (29, [Value.int (nI (42 - 10) - 128)])) = _
  rw [show nI (42 - 10) - 128 = nI 4294967200 from by decide +kernel]
theorem k_43 (h : mj_H) : mj_rd h 1000043 = some (.inr (29, [.int (nI 4294967201)])) := by
  show some (Sum.inr (29, [Value.int (nI (43 - 10) - 128)])) = _
  rw [show nI (43 - 10) - 128 = nI 4294967201 from by decide +kernel]
theorem k_44 (h : mj_H) : mj_rd h 1000044 = some (.inr (29, [.int (nI 4294967202)])) := by
  show some (Sum.inr (29, [Value.int (nI (44 - 10) - 128)])) = _
  rw [show nI (44 - 10) - 128 = nI 4294967202 from by decide +kernel]
theorem k_45 (h : mj_H) : mj_rd h 1000045 = some (.inr (29, [.int (nI 4294967203)])) := by
  show some (Sum.inr (29, [Value.int (nI (45 - 10) - 128)])) = _
  rw [show nI (45 - 10) - 128 = nI 4294967203 from by decide +kernel]
theorem k_46 (h : mj_H) : mj_rd h 1000046 = some (.inr (29, [.int (nI 4294967204)])) := by
  show some (Sum.inr (29, [Value.int (nI (46 - 10) - 128)])) = _
  rw [show nI (46 - 10) - 128 = nI 4294967204 from by decide +kernel]
theorem k_47 (h : mj_H) : mj_rd h 1000047 = some (.inr (29, [.int (nI 4294967205)])) := by
  show some (Sum.inr (29, [Value.int (nI (47 - 10) - 128)])) = _
  rw [show nI (47 - 10) - 128 = nI 4294967205 from by decide +kernel]
theorem k_48 (h : mj_H) : mj_rd h 1000048 = some (.inr (29, [.int (nI 4294967206)])) := by
  show some (Sum.inr (29, [Value.int (nI (48 - 10) - 128)])) = _
  rw [show nI (48 - 10) - 128 = nI 4294967206 from by decide +kernel]
theorem k_49 (h : mj_H) : mj_rd h 1000049 = some (.inr (29, [.int (nI 4294967207)])) := by
  show some (Sum.inr (29, [Value.int (nI (49 - 10) - 128)])) = _
  rw [show nI (49 - 10) - 128 = nI 4294967207 from by decide +kernel]
theorem k_50 (h : mj_H) : mj_rd h 1000050 = some (.inr (29, [.int (nI 4294967208)])) := by
  show some (Sum.inr (29, [Value.int (nI (50 - 10) - 128)])) = _
  rw [show nI (50 - 10) - 128 = nI 4294967208 from by decide +kernel]
theorem k_51 (h : mj_H) : mj_rd h 1000051 = some (.inr (29, [.int (nI 4294967209)])) := by
  show some (Sum.inr (29, [Value.int (nI (51 - 10) - 128)])) = _
  rw [show nI (51 - 10) - 128 = nI 4294967209 from by decide +kernel]
theorem k_52 (h : mj_H) : mj_rd h 1000052 = some (.inr (29, [.int (nI 4294967210)])) := by
  show some (Sum.inr (29, [Value.int (nI (52 - 10) - 128)])) = _
  rw [show nI (52 - 10) - 128 = nI 4294967210 from by decide +kernel]
theorem k_53 (h : mj_H) : mj_rd h 1000053 = some (.inr (29, [.int (nI 4294967211)])) := by
  show some (Sum.inr (29, [Value.int (nI (53 - 10) - 128)])) = _
  rw [show nI (53 - 10) - 128 = nI 4294967211 from by decide +kernel]
theorem k_54 (h : mj_H) : mj_rd h 1000054 = some (.inr (29, [.int (nI 4294967212)])) := by
  show some (Sum.inr (29, [Value.int (nI (54 - 10) - 128)])) = _
  rw [show nI (54 - 10) - 128 = nI 4294967212 from by decide +kernel]
theorem k_55 (h : mj_H) : mj_rd h 1000055 = some (.inr (29, [.int (nI 4294967213)])) := by
  show some (Sum.inr (29, [Value.int (nI (55 - 10) - 128)])) = _
  rw [show nI (55 - 10) - 128 = nI 4294967213 from by decide +kernel]
theorem k_56 (h : mj_H) : mj_rd h 1000056 = some (.inr (29, [.int (nI 4294967214)])) := by
  show some (Sum.inr (29, [Value.int (nI (56 - 10) - 128)])) = _
  rw [show nI (56 - 10) - 128 = nI 4294967214 from by decide +kernel]
theorem k_57 (h : mj_H) : mj_rd h 1000057 = some (.inr (29, [.int (nI 4294967215)])) := by
  show some (Sum.inr (29, [Value.int (nI (57 - 10) - 128)])) = _
  rw [show nI (57 - 10) - 128 = nI 4294967215 from by decide +kernel]
theorem k_58 (h : mj_H) : mj_rd h 1000058 = some (.inr (29, [.int (nI 4294967216)])) := by
  show some (Sum.inr (29, [Value.int (nI (58 - 10) - 128)])) = _
  rw [show nI (58 - 10) - 128 = nI 4294967216 from by decide +kernel]
theorem k_59 (h : mj_H) : mj_rd h 1000059 = some (.inr (29, [.int (nI 4294967217)])) := by
  show some (Sum.inr (29, [Value.int (nI (59 - 10) - 128)])) = _
  rw [show nI (59 - 10) - 128 = nI 4294967217 from by decide +kernel]
theorem k_60 (h : mj_H) : mj_rd h 1000060 = some (.inr (29, [.int (nI 4294967218)])) := by
  show some (Sum.inr (29, [Value.int (nI (60 - 10) - 128)])) = _
  rw [show nI (60 - 10) - 128 = nI 4294967218 from by decide +kernel]
theorem k_61 (h : mj_H) : mj_rd h 1000061 = some (.inr (29, [.int (nI 4294967219)])) := by
  show some (Sum.inr (29, [Value.int (nI (61 - 10) - 128)])) = _
  rw [show nI (61 - 10) - 128 = nI 4294967219 from by decide +kernel]
theorem k_62 (h : mj_H) : mj_rd h 1000062 = some (.inr (29, [.int (nI 4294967220)])) := by
  show some (Sum.inr (29, [Value.int (nI (62 - 10) - 128)])) = _
  rw [show nI (62 - 10) - 128 = nI 4294967220 from by decide +kernel]
theorem k_63 (h : mj_H) : mj_rd h 1000063 = some (.inr (29, [.int (nI 4294967221)])) := by
  show some (Sum.inr (29, [Value.int (nI (63 - 10) - 128)])) = _
  rw [show nI (63 - 10) - 128 = nI 4294967221 from by decide +kernel]
theorem k_64 (h : mj_H) : mj_rd h 1000064 = some (.inr (29, [.int (nI 4294967222)])) := by
  show some (Sum.inr (29, [Value.int (nI (64 - 10) - 128)])) = _
  rw [show nI (64 - 10) - 128 = nI 4294967222 from by decide +kernel]
theorem k_65 (h : mj_H) : mj_rd h 1000065 = some (.inr (29, [.int (nI 4294967223)])) := by
  show some (Sum.inr (29, [Value.int (nI (65 - 10) - 128)])) = _
  rw [show nI (65 - 10) - 128 = nI 4294967223 from by decide +kernel]
theorem k_66 (h : mj_H) : mj_rd h 1000066 = some (.inr (29, [.int (nI 4294967224)])) := by
  show some (Sum.inr (29, [Value.int (nI (66 - 10) - 128)])) = _
  rw [show nI (66 - 10) - 128 = nI 4294967224 from by decide +kernel]
theorem k_67 (h : mj_H) : mj_rd h 1000067 = some (.inr (29, [.int (nI 4294967225)])) := by
  show some (Sum.inr (29, [Value.int (nI (67 - 10) - 128)])) = _
  rw [show nI (67 - 10) - 128 = nI 4294967225 from by decide +kernel]
theorem k_68 (h : mj_H) : mj_rd h 1000068 = some (.inr (29, [.int (nI 4294967226)])) := by
  show some (Sum.inr (29, [Value.int (nI (68 - 10) - 128)])) = _
  rw [show nI (68 - 10) - 128 = nI 4294967226 from by decide +kernel]
theorem k_69 (h : mj_H) : mj_rd h 1000069 = some (.inr (29, [.int (nI 4294967227)])) := by
  show some (Sum.inr (29, [Value.int (nI (69 - 10) - 128)])) = _
  rw [show nI (69 - 10) - 128 = nI 4294967227 from by decide +kernel]
theorem k_70 (h : mj_H) : mj_rd h 1000070 = some (.inr (29, [.int (nI 4294967228)])) := by
  show some (Sum.inr (29, [Value.int (nI (70 - 10) - 128)])) = _
  rw [show nI (70 - 10) - 128 = nI 4294967228 from by decide +kernel]
theorem k_71 (h : mj_H) : mj_rd h 1000071 = some (.inr (29, [.int (nI 4294967229)])) := by
  show some (Sum.inr (29, [Value.int (nI (71 - 10) - 128)])) = _
  rw [show nI (71 - 10) - 128 = nI 4294967229 from by decide +kernel]
theorem k_72 (h : mj_H) : mj_rd h 1000072 = some (.inr (29, [.int (nI 4294967230)])) := by
  show some (Sum.inr (29, [Value.int (nI (72 - 10) - 128)])) = _
  rw [show nI (72 - 10) - 128 = nI 4294967230 from by decide +kernel]
theorem k_73 (h : mj_H) : mj_rd h 1000073 = some (.inr (29, [.int (nI 4294967231)])) := by
  show some (Sum.inr (29, [Value.int (nI (73 - 10) - 128)])) = _
  rw [show nI (73 - 10) - 128 = nI 4294967231 from by decide +kernel]
theorem k_74 (h : mj_H) : mj_rd h 1000074 = some (.inr (29, [.int (nI 4294967232)])) := by
  show some (Sum.inr (29, [Value.int (nI (74 - 10) - 128)])) = _
  rw [show nI (74 - 10) - 128 = nI 4294967232 from by decide +kernel]
theorem k_75 (h : mj_H) : mj_rd h 1000075 = some (.inr (29, [.int (nI 4294967233)])) := by
  show some (Sum.inr (29, [Value.int (nI (75 - 10) - 128)])) = _
  rw [show nI (75 - 10) - 128 = nI 4294967233 from by decide +kernel]
theorem k_76 (h : mj_H) : mj_rd h 1000076 = some (.inr (29, [.int (nI 4294967234)])) := by
  show some (Sum.inr (29, [Value.int (nI (76 - 10) - 128)])) = _
  rw [show nI (76 - 10) - 128 = nI 4294967234 from by decide +kernel]
theorem k_77 (h : mj_H) : mj_rd h 1000077 = some (.inr (29, [.int (nI 4294967235)])) := by
  show some (Sum.inr (29, [Value.int (nI (77 - 10) - 128)])) = _
  rw [show nI (77 - 10) - 128 = nI 4294967235 from by decide +kernel]
theorem k_78 (h : mj_H) : mj_rd h 1000078 = some (.inr (29, [.int (nI 4294967236)])) := by
  show some (Sum.inr (29, [Value.int (nI (78 - 10) - 128)])) = _
  rw [show nI (78 - 10) - 128 = nI 4294967236 from by decide +kernel]
theorem k_79 (h : mj_H) : mj_rd h 1000079 = some (.inr (29, [.int (nI 4294967237)])) := by
  show some (Sum.inr (29, [Value.int (nI (79 - 10) - 128)])) = _
  rw [show nI (79 - 10) - 128 = nI 4294967237 from by decide +kernel]
theorem k_80 (h : mj_H) : mj_rd h 1000080 = some (.inr (29, [.int (nI 4294967238)])) := by
  show some (Sum.inr (29, [Value.int (nI (80 - 10) - 128)])) = _
  rw [show nI (80 - 10) - 128 = nI 4294967238 from by decide +kernel]
theorem k_81 (h : mj_H) : mj_rd h 1000081 = some (.inr (29, [.int (nI 4294967239)])) := by
  show some (Sum.inr (29, [Value.int (nI (81 - 10) - 128)])) = _
  rw [show nI (81 - 10) - 128 = nI 4294967239 from by decide +kernel]
theorem k_82 (h : mj_H) : mj_rd h 1000082 = some (.inr (29, [.int (nI 4294967240)])) := by
  show some (Sum.inr (29, [Value.int (nI (82 - 10) - 128)])) = _
  rw [show nI (82 - 10) - 128 = nI 4294967240 from by decide +kernel]
theorem k_83 (h : mj_H) : mj_rd h 1000083 = some (.inr (29, [.int (nI 4294967241)])) := by
  show some (Sum.inr (29, [Value.int (nI (83 - 10) - 128)])) = _
  rw [show nI (83 - 10) - 128 = nI 4294967241 from by decide +kernel]
theorem k_84 (h : mj_H) : mj_rd h 1000084 = some (.inr (29, [.int (nI 4294967242)])) := by
  show some (Sum.inr (29, [Value.int (nI (84 - 10) - 128)])) = _
  rw [show nI (84 - 10) - 128 = nI 4294967242 from by decide +kernel]
theorem k_85 (h : mj_H) : mj_rd h 1000085 = some (.inr (29, [.int (nI 4294967243)])) := by
  show some (Sum.inr (29, [Value.int (nI (85 - 10) - 128)])) = _
  rw [show nI (85 - 10) - 128 = nI 4294967243 from by decide +kernel]
theorem k_86 (h : mj_H) : mj_rd h 1000086 = some (.inr (29, [.int (nI 4294967244)])) := by
  show some (Sum.inr (29, [Value.int (nI (86 - 10) - 128)])) = _
  rw [show nI (86 - 10) - 128 = nI 4294967244 from by decide +kernel]
theorem k_87 (h : mj_H) : mj_rd h 1000087 = some (.inr (29, [.int (nI 4294967245)])) := by
  show some (Sum.inr (29, [Value.int (nI (87 - 10) - 128)])) = _
  rw [show nI (87 - 10) - 128 = nI 4294967245 from by decide +kernel]
theorem k_88 (h : mj_H) : mj_rd h 1000088 = some (.inr (29, [.int (nI 4294967246)])) := by
  show some (Sum.inr (29, [Value.int (nI (88 - 10) - 128)])) = _
  rw [show nI (88 - 10) - 128 = nI 4294967246 from by decide +kernel]
theorem k_89 (h : mj_H) : mj_rd h 1000089 = some (.inr (29, [.int (nI 4294967247)])) := by
  show some (Sum.inr (29, [Value.int (nI (89 - 10) - 128)])) = _
  rw [show nI (89 - 10) - 128 = nI 4294967247 from by decide +kernel]
theorem k_90 (h : mj_H) : mj_rd h 1000090 = some (.inr (29, [.int (nI 4294967248)])) := by
  show some (Sum.inr (29, [Value.int (nI (90 - 10) - 128)])) = _
  rw [show nI (90 - 10) - 128 = nI 4294967248 from by decide +kernel]
theorem k_91 (h : mj_H) : mj_rd h 1000091 = some (.inr (29, [.int (nI 4294967249)])) := by
  show some (Sum.inr (29, [Value.int (nI (91 - 10) - 128)])) = _
  rw [show nI (91 - 10) - 128 = nI 4294967249 from by decide +kernel]
theorem k_92 (h : mj_H) : mj_rd h 1000092 = some (.inr (29, [.int (nI 4294967250)])) := by
  show some (Sum.inr (29, [Value.int (nI (92 - 10) - 128)])) = _
  rw [show nI (92 - 10) - 128 = nI 4294967250 from by decide +kernel]
theorem k_93 (h : mj_H) : mj_rd h 1000093 = some (.inr (29, [.int (nI 4294967251)])) := by
  show some (Sum.inr (29, [Value.int (nI (93 - 10) - 128)])) = _
  rw [show nI (93 - 10) - 128 = nI 4294967251 from by decide +kernel]
theorem k_94 (h : mj_H) : mj_rd h 1000094 = some (.inr (29, [.int (nI 4294967252)])) := by
  show some (Sum.inr (29, [Value.int (nI (94 - 10) - 128)])) = _
  rw [show nI (94 - 10) - 128 = nI 4294967252 from by decide +kernel]
theorem k_95 (h : mj_H) : mj_rd h 1000095 = some (.inr (29, [.int (nI 4294967253)])) := by
  show some (Sum.inr (29, [Value.int (nI (95 - 10) - 128)])) = _
  rw [show nI (95 - 10) - 128 = nI 4294967253 from by decide +kernel]
theorem k_96 (h : mj_H) : mj_rd h 1000096 = some (.inr (29, [.int (nI 4294967254)])) := by
  show some (Sum.inr (29, [Value.int (nI (96 - 10) - 128)])) = _
  rw [show nI (96 - 10) - 128 = nI 4294967254 from by decide +kernel]
theorem k_97 (h : mj_H) : mj_rd h 1000097 = some (.inr (29, [.int (nI 4294967255)])) := by
  show some (Sum.inr (29, [Value.int (nI (97 - 10) - 128)])) = _
  rw [show nI (97 - 10) - 128 = nI 4294967255 from by decide +kernel]
theorem k_98 (h : mj_H) : mj_rd h 1000098 = some (.inr (29, [.int (nI 4294967256)])) := by
  show some (Sum.inr (29, [Value.int (nI (98 - 10) - 128)])) = _
  rw [show nI (98 - 10) - 128 = nI 4294967256 from by decide +kernel]
theorem k_99 (h : mj_H) : mj_rd h 1000099 = some (.inr (29, [.int (nI 4294967257)])) := by
  show some (Sum.inr (29, [Value.int (nI (99 - 10) - 128)])) = _
  rw [show nI (99 - 10) - 128 = nI 4294967257 from by decide +kernel]
theorem k_100 (h : mj_H) : mj_rd h 1000100 = some (.inr (29, [.int (nI 4294967258)])) := by
  show some (Sum.inr (29, [Value.int (nI (100 - 10) - 128)])) = _
  rw [show nI (100 - 10) - 128 = nI 4294967258 from by decide +kernel]
theorem k_101 (h : mj_H) : mj_rd h 1000101 = some (.inr (29, [.int (nI 4294967259)])) := by
  show some (Sum.inr (29, [Value.int (nI (101 - 10) - 128)])) = _
  rw [show nI (101 - 10) - 128 = nI 4294967259 from by decide +kernel]
theorem k_102 (h : mj_H) : mj_rd h 1000102 = some (.inr (29, [.int (nI 4294967260)])) := by
  show some (Sum.inr (29, [Value.int (nI (102 - 10) - 128)])) = _
  rw [show nI (102 - 10) - 128 = nI 4294967260 from by decide +kernel]
theorem k_103 (h : mj_H) : mj_rd h 1000103 = some (.inr (29, [.int (nI 4294967261)])) := by
  show some (Sum.inr (29, [Value.int (nI (103 - 10) - 128)])) = _
  rw [show nI (103 - 10) - 128 = nI 4294967261 from by decide +kernel]
theorem k_104 (h : mj_H) : mj_rd h 1000104 = some (.inr (29, [.int (nI 4294967262)])) := by
  show some (Sum.inr (29, [Value.int (nI (104 - 10) - 128)])) = _
  rw [show nI (104 - 10) - 128 = nI 4294967262 from by decide +kernel]
theorem k_105 (h : mj_H) : mj_rd h 1000105 = some (.inr (29, [.int (nI 4294967263)])) := by
  show some (Sum.inr (29, [Value.int (nI (105 - 10) - 128)])) = _
  rw [show nI (105 - 10) - 128 = nI 4294967263 from by decide +kernel]
theorem k_106 (h : mj_H) : mj_rd h 1000106 = some (.inr (29, [.int (nI 4294967264)])) := by
  show some (Sum.inr (29, [Value.int (nI (106 - 10) - 128)])) = _
  rw [show nI (106 - 10) - 128 = nI 4294967264 from by decide +kernel]
theorem k_107 (h : mj_H) : mj_rd h 1000107 = some (.inr (29, [.int (nI 4294967265)])) := by
  show some (Sum.inr (29, [Value.int (nI (107 - 10) - 128)])) = _
  rw [show nI (107 - 10) - 128 = nI 4294967265 from by decide +kernel]
theorem k_108 (h : mj_H) : mj_rd h 1000108 = some (.inr (29, [.int (nI 4294967266)])) := by
  show some (Sum.inr (29, [Value.int (nI (108 - 10) - 128)])) = _
  rw [show nI (108 - 10) - 128 = nI 4294967266 from by decide +kernel]
theorem k_109 (h : mj_H) : mj_rd h 1000109 = some (.inr (29, [.int (nI 4294967267)])) := by
  show some (Sum.inr (29, [Value.int (nI (109 - 10) - 128)])) = _
  rw [show nI (109 - 10) - 128 = nI 4294967267 from by decide +kernel]
theorem k_110 (h : mj_H) : mj_rd h 1000110 = some (.inr (29, [.int (nI 4294967268)])) := by
  show some (Sum.inr (29, [Value.int (nI (110 - 10) - 128)])) = _
  rw [show nI (110 - 10) - 128 = nI 4294967268 from by decide +kernel]
theorem k_111 (h : mj_H) : mj_rd h 1000111 = some (.inr (29, [.int (nI 4294967269)])) := by
  show some (Sum.inr (29, [Value.int (nI (111 - 10) - 128)])) = _
  rw [show nI (111 - 10) - 128 = nI 4294967269 from by decide +kernel]
theorem k_112 (h : mj_H) : mj_rd h 1000112 = some (.inr (29, [.int (nI 4294967270)])) := by
  show some (Sum.inr (29, [Value.int (nI (112 - 10) - 128)])) = _
  rw [show nI (112 - 10) - 128 = nI 4294967270 from by decide +kernel]
theorem k_113 (h : mj_H) : mj_rd h 1000113 = some (.inr (29, [.int (nI 4294967271)])) := by
  show some (Sum.inr (29, [Value.int (nI (113 - 10) - 128)])) = _
  rw [show nI (113 - 10) - 128 = nI 4294967271 from by decide +kernel]
theorem k_114 (h : mj_H) : mj_rd h 1000114 = some (.inr (29, [.int (nI 4294967272)])) := by
  show some (Sum.inr (29, [Value.int (nI (114 - 10) - 128)])) = _
  rw [show nI (114 - 10) - 128 = nI 4294967272 from by decide +kernel]
theorem k_115 (h : mj_H) : mj_rd h 1000115 = some (.inr (29, [.int (nI 4294967273)])) := by
  show some (Sum.inr (29, [Value.int (nI (115 - 10) - 128)])) = _
  rw [show nI (115 - 10) - 128 = nI 4294967273 from by decide +kernel]
theorem k_116 (h : mj_H) : mj_rd h 1000116 = some (.inr (29, [.int (nI 4294967274)])) := by
  show some (Sum.inr (29, [Value.int (nI (116 - 10) - 128)])) = _
  rw [show nI (116 - 10) - 128 = nI 4294967274 from by decide +kernel]
theorem k_117 (h : mj_H) : mj_rd h 1000117 = some (.inr (29, [.int (nI 4294967275)])) := by
  show some (Sum.inr (29, [Value.int (nI (117 - 10) - 128)])) = _
  rw [show nI (117 - 10) - 128 = nI 4294967275 from by decide +kernel]
theorem k_118 (h : mj_H) : mj_rd h 1000118 = some (.inr (29, [.int (nI 4294967276)])) := by
  show some (Sum.inr (29, [Value.int (nI (118 - 10) - 128)])) = _
  rw [show nI (118 - 10) - 128 = nI 4294967276 from by decide +kernel]
theorem k_119 (h : mj_H) : mj_rd h 1000119 = some (.inr (29, [.int (nI 4294967277)])) := by
  show some (Sum.inr (29, [Value.int (nI (119 - 10) - 128)])) = _
  rw [show nI (119 - 10) - 128 = nI 4294967277 from by decide +kernel]
theorem k_120 (h : mj_H) : mj_rd h 1000120 = some (.inr (29, [.int (nI 4294967278)])) := by
  show some (Sum.inr (29, [Value.int (nI (120 - 10) - 128)])) = _
  rw [show nI (120 - 10) - 128 = nI 4294967278 from by decide +kernel]
theorem k_121 (h : mj_H) : mj_rd h 1000121 = some (.inr (29, [.int (nI 4294967279)])) := by
  show some (Sum.inr (29, [Value.int (nI (121 - 10) - 128)])) = _
  rw [show nI (121 - 10) - 128 = nI 4294967279 from by decide +kernel]
theorem k_122 (h : mj_H) : mj_rd h 1000122 = some (.inr (29, [.int (nI 4294967280)])) := by
  show some (Sum.inr (29, [Value.int (nI (122 - 10) - 128)])) = _
  rw [show nI (122 - 10) - 128 = nI 4294967280 from by decide +kernel]
theorem k_123 (h : mj_H) : mj_rd h 1000123 = some (.inr (29, [.int (nI 4294967281)])) := by
  show some (Sum.inr (29, [Value.int (nI (123 - 10) - 128)])) = _
  rw [show nI (123 - 10) - 128 = nI 4294967281 from by decide +kernel]
theorem k_124 (h : mj_H) : mj_rd h 1000124 = some (.inr (29, [.int (nI 4294967282)])) := by
  show some (Sum.inr (29, [Value.int (nI (124 - 10) - 128)])) = _
  rw [show nI (124 - 10) - 128 = nI 4294967282 from by decide +kernel]
theorem k_125 (h : mj_H) : mj_rd h 1000125 = some (.inr (29, [.int (nI 4294967283)])) := by
  show some (Sum.inr (29, [Value.int (nI (125 - 10) - 128)])) = _
  rw [show nI (125 - 10) - 128 = nI 4294967283 from by decide +kernel]
theorem k_126 (h : mj_H) : mj_rd h 1000126 = some (.inr (29, [.int (nI 4294967284)])) := by
  show some (Sum.inr (29, [Value.int (nI (126 - 10) - 128)])) = _
  rw [show nI (126 - 10) - 128 = nI 4294967284 from by decide +kernel]
theorem k_127 (h : mj_H) : mj_rd h 1000127 = some (.inr (29, [.int (nI 4294967285)])) := by
  show some (Sum.inr (29, [Value.int (nI (127 - 10) - 128)])) = _
  rw [show nI (127 - 10) - 128 = nI 4294967285 from by decide +kernel]
theorem k_128 (h : mj_H) : mj_rd h 1000128 = some (.inr (29, [.int (nI 4294967286)])) := by
  show some (Sum.inr (29, [Value.int (nI (128 - 10) - 128)])) = _
  rw [show nI (128 - 10) - 128 = nI 4294967286 from by decide +kernel]
theorem k_129 (h : mj_H) : mj_rd h 1000129 = some (.inr (29, [.int (nI 4294967287)])) := by
  show some (Sum.inr (29, [Value.int (nI (129 - 10) - 128)])) = _
  rw [show nI (129 - 10) - 128 = nI 4294967287 from by decide +kernel]
theorem k_130 (h : mj_H) : mj_rd h 1000130 = some (.inr (29, [.int (nI 4294967288)])) := by
  show some (Sum.inr (29, [Value.int (nI (130 - 10) - 128)])) = _
  rw [show nI (130 - 10) - 128 = nI 4294967288 from by decide +kernel]
theorem k_131 (h : mj_H) : mj_rd h 1000131 = some (.inr (29, [.int (nI 4294967289)])) := by
  show some (Sum.inr (29, [Value.int (nI (131 - 10) - 128)])) = _
  rw [show nI (131 - 10) - 128 = nI 4294967289 from by decide +kernel]
theorem k_132 (h : mj_H) : mj_rd h 1000132 = some (.inr (29, [.int (nI 4294967290)])) := by
  show some (Sum.inr (29, [Value.int (nI (132 - 10) - 128)])) = _
  rw [show nI (132 - 10) - 128 = nI 4294967290 from by decide +kernel]
theorem k_133 (h : mj_H) : mj_rd h 1000133 = some (.inr (29, [.int (nI 4294967291)])) := by
  show some (Sum.inr (29, [Value.int (nI (133 - 10) - 128)])) = _
  rw [show nI (133 - 10) - 128 = nI 4294967291 from by decide +kernel]
theorem k_134 (h : mj_H) : mj_rd h 1000134 = some (.inr (29, [.int (nI 4294967292)])) := by
  show some (Sum.inr (29, [Value.int (nI (134 - 10) - 128)])) = _
  rw [show nI (134 - 10) - 128 = nI 4294967292 from by decide +kernel]
theorem k_135 (h : mj_H) : mj_rd h 1000135 = some (.inr (29, [.int (nI 4294967293)])) := by
  show some (Sum.inr (29, [Value.int (nI (135 - 10) - 128)])) = _
  rw [show nI (135 - 10) - 128 = nI 4294967293 from by decide +kernel]
theorem k_136 (h : mj_H) : mj_rd h 1000136 = some (.inr (29, [.int (nI 4294967294)])) := by
  show some (Sum.inr (29, [Value.int (nI (136 - 10) - 128)])) = _
  rw [show nI (136 - 10) - 128 = nI 4294967294 from by decide +kernel]
theorem k_137 (h : mj_H) : mj_rd h 1000137 = some (.inr (29, [.int (nI 4294967295)])) := by
  show some (Sum.inr (29, [Value.int (nI (137 - 10) - 128)])) = _
  rw [show nI (137 - 10) - 128 = nI 4294967295 from by decide +kernel]
theorem k_138 (h : mj_H) : mj_rd h 1000138 = some (.inr (29, [.int (nI 0)])) := by
  show some (Sum.inr (29, [Value.int (nI (138 - 10) - 128)])) = _
  rw [show nI (138 - 10) - 128 = nI 0 from by decide +kernel]
theorem k_139 (h : mj_H) : mj_rd h 1000139 = some (.inr (29, [.int (nI 1)])) := by
  show some (Sum.inr (29, [Value.int (nI (139 - 10) - 128)])) = _
  rw [show nI (139 - 10) - 128 = nI 1 from by decide +kernel]
theorem k_140 (h : mj_H) : mj_rd h 1000140 = some (.inr (29, [.int (nI 2)])) := by
  show some (Sum.inr (29, [Value.int (nI (140 - 10) - 128)])) = _
  rw [show nI (140 - 10) - 128 = nI 2 from by decide +kernel]
theorem k_141 (h : mj_H) : mj_rd h 1000141 = some (.inr (29, [.int (nI 3)])) := by
  show some (Sum.inr (29, [Value.int (nI (141 - 10) - 128)])) = _
  rw [show nI (141 - 10) - 128 = nI 3 from by decide +kernel]
theorem k_142 (h : mj_H) : mj_rd h 1000142 = some (.inr (29, [.int (nI 4)])) := by
  show some (Sum.inr (29, [Value.int (nI (142 - 10) - 128)])) = _
  rw [show nI (142 - 10) - 128 = nI 4 from by decide +kernel]
theorem k_143 (h : mj_H) : mj_rd h 1000143 = some (.inr (29, [.int (nI 5)])) := by
  show some (Sum.inr (29, [Value.int (nI (143 - 10) - 128)])) = _
  rw [show nI (143 - 10) - 128 = nI 5 from by decide +kernel]
theorem k_144 (h : mj_H) : mj_rd h 1000144 = some (.inr (29, [.int (nI 6)])) := by
  show some (Sum.inr (29, [Value.int (nI (144 - 10) - 128)])) = _
  rw [show nI (144 - 10) - 128 = nI 6 from by decide +kernel]
theorem k_145 (h : mj_H) : mj_rd h 1000145 = some (.inr (29, [.int (nI 7)])) := by
  show some (Sum.inr (29, [Value.int (nI (145 - 10) - 128)])) = _
  rw [show nI (145 - 10) - 128 = nI 7 from by decide +kernel]
theorem k_146 (h : mj_H) : mj_rd h 1000146 = some (.inr (29, [.int (nI 8)])) := by
  show some (Sum.inr (29, [Value.int (nI (146 - 10) - 128)])) = _
  rw [show nI (146 - 10) - 128 = nI 8 from by decide +kernel]
theorem k_147 (h : mj_H) : mj_rd h 1000147 = some (.inr (29, [.int (nI 9)])) := by
  show some (Sum.inr (29, [Value.int (nI (147 - 10) - 128)])) = _
  rw [show nI (147 - 10) - 128 = nI 9 from by decide +kernel]
theorem k_148 (h : mj_H) : mj_rd h 1000148 = some (.inr (29, [.int (nI 10)])) := by
  show some (Sum.inr (29, [Value.int (nI (148 - 10) - 128)])) = _
  rw [show nI (148 - 10) - 128 = nI 10 from by decide +kernel]
theorem k_149 (h : mj_H) : mj_rd h 1000149 = some (.inr (29, [.int (nI 11)])) := by
  show some (Sum.inr (29, [Value.int (nI (149 - 10) - 128)])) = _
  rw [show nI (149 - 10) - 128 = nI 11 from by decide +kernel]
theorem k_150 (h : mj_H) : mj_rd h 1000150 = some (.inr (29, [.int (nI 12)])) := by
  show some (Sum.inr (29, [Value.int (nI (150 - 10) - 128)])) = _
  rw [show nI (150 - 10) - 128 = nI 12 from by decide +kernel]
theorem k_151 (h : mj_H) : mj_rd h 1000151 = some (.inr (29, [.int (nI 13)])) := by
  show some (Sum.inr (29, [Value.int (nI (151 - 10) - 128)])) = _
  rw [show nI (151 - 10) - 128 = nI 13 from by decide +kernel]
theorem k_152 (h : mj_H) : mj_rd h 1000152 = some (.inr (29, [.int (nI 14)])) := by
  show some (Sum.inr (29, [Value.int (nI (152 - 10) - 128)])) = _
  rw [show nI (152 - 10) - 128 = nI 14 from by decide +kernel]
theorem k_153 (h : mj_H) : mj_rd h 1000153 = some (.inr (29, [.int (nI 15)])) := by
  show some (Sum.inr (29, [Value.int (nI (153 - 10) - 128)])) = _
  rw [show nI (153 - 10) - 128 = nI 15 from by decide +kernel]
theorem k_154 (h : mj_H) : mj_rd h 1000154 = some (.inr (29, [.int (nI 16)])) := by
  show some (Sum.inr (29, [Value.int (nI (154 - 10) - 128)])) = _
  rw [show nI (154 - 10) - 128 = nI 16 from by decide +kernel]
theorem k_155 (h : mj_H) : mj_rd h 1000155 = some (.inr (29, [.int (nI 17)])) := by
  show some (Sum.inr (29, [Value.int (nI (155 - 10) - 128)])) = _
  rw [show nI (155 - 10) - 128 = nI 17 from by decide +kernel]
theorem k_156 (h : mj_H) : mj_rd h 1000156 = some (.inr (29, [.int (nI 18)])) := by
  show some (Sum.inr (29, [Value.int (nI (156 - 10) - 128)])) = _
  rw [show nI (156 - 10) - 128 = nI 18 from by decide +kernel]
theorem k_157 (h : mj_H) : mj_rd h 1000157 = some (.inr (29, [.int (nI 19)])) := by
  show some (Sum.inr (29, [Value.int (nI (157 - 10) - 128)])) = _
  rw [show nI (157 - 10) - 128 = nI 19 from by decide +kernel]
theorem k_158 (h : mj_H) : mj_rd h 1000158 = some (.inr (29, [.int (nI 20)])) := by
  show some (Sum.inr (29, [Value.int (nI (158 - 10) - 128)])) = _
  rw [show nI (158 - 10) - 128 = nI 20 from by decide +kernel]
theorem k_159 (h : mj_H) : mj_rd h 1000159 = some (.inr (29, [.int (nI 21)])) := by
  show some (Sum.inr (29, [Value.int (nI (159 - 10) - 128)])) = _
  rw [show nI (159 - 10) - 128 = nI 21 from by decide +kernel]
theorem k_160 (h : mj_H) : mj_rd h 1000160 = some (.inr (29, [.int (nI 22)])) := by
  show some (Sum.inr (29, [Value.int (nI (160 - 10) - 128)])) = _
  rw [show nI (160 - 10) - 128 = nI 22 from by decide +kernel]
theorem k_161 (h : mj_H) : mj_rd h 1000161 = some (.inr (29, [.int (nI 23)])) := by
  show some (Sum.inr (29, [Value.int (nI (161 - 10) - 128)])) = _
  rw [show nI (161 - 10) - 128 = nI 23 from by decide +kernel]
theorem k_162 (h : mj_H) : mj_rd h 1000162 = some (.inr (29, [.int (nI 24)])) := by
  show some (Sum.inr (29, [Value.int (nI (162 - 10) - 128)])) = _
  rw [show nI (162 - 10) - 128 = nI 24 from by decide +kernel]
theorem k_163 (h : mj_H) : mj_rd h 1000163 = some (.inr (29, [.int (nI 25)])) := by
  show some (Sum.inr (29, [Value.int (nI (163 - 10) - 128)])) = _
  rw [show nI (163 - 10) - 128 = nI 25 from by decide +kernel]
theorem k_164 (h : mj_H) : mj_rd h 1000164 = some (.inr (29, [.int (nI 26)])) := by
  show some (Sum.inr (29, [Value.int (nI (164 - 10) - 128)])) = _
  rw [show nI (164 - 10) - 128 = nI 26 from by decide +kernel]
theorem k_165 (h : mj_H) : mj_rd h 1000165 = some (.inr (29, [.int (nI 27)])) := by
  show some (Sum.inr (29, [Value.int (nI (165 - 10) - 128)])) = _
  rw [show nI (165 - 10) - 128 = nI 27 from by decide +kernel]
theorem k_166 (h : mj_H) : mj_rd h 1000166 = some (.inr (29, [.int (nI 28)])) := by
  show some (Sum.inr (29, [Value.int (nI (166 - 10) - 128)])) = _
  rw [show nI (166 - 10) - 128 = nI 28 from by decide +kernel]
theorem k_167 (h : mj_H) : mj_rd h 1000167 = some (.inr (29, [.int (nI 29)])) := by
  show some (Sum.inr (29, [Value.int (nI (167 - 10) - 128)])) = _
  rw [show nI (167 - 10) - 128 = nI 29 from by decide +kernel]
theorem k_168 (h : mj_H) : mj_rd h 1000168 = some (.inr (29, [.int (nI 30)])) := by
  show some (Sum.inr (29, [Value.int (nI (168 - 10) - 128)])) = _
  rw [show nI (168 - 10) - 128 = nI 30 from by decide +kernel]
theorem k_169 (h : mj_H) : mj_rd h 1000169 = some (.inr (29, [.int (nI 31)])) := by
  show some (Sum.inr (29, [Value.int (nI (169 - 10) - 128)])) = _
  rw [show nI (169 - 10) - 128 = nI 31 from by decide +kernel]
theorem k_170 (h : mj_H) : mj_rd h 1000170 = some (.inr (29, [.int (nI 32)])) := by
  show some (Sum.inr (29, [Value.int (nI (170 - 10) - 128)])) = _
  rw [show nI (170 - 10) - 128 = nI 32 from by decide +kernel]
theorem k_171 (h : mj_H) : mj_rd h 1000171 = some (.inr (29, [.int (nI 33)])) := by
  show some (Sum.inr (29, [Value.int (nI (171 - 10) - 128)])) = _
  rw [show nI (171 - 10) - 128 = nI 33 from by decide +kernel]
theorem k_172 (h : mj_H) : mj_rd h 1000172 = some (.inr (29, [.int (nI 34)])) := by
  show some (Sum.inr (29, [Value.int (nI (172 - 10) - 128)])) = _
  rw [show nI (172 - 10) - 128 = nI 34 from by decide +kernel]
theorem k_173 (h : mj_H) : mj_rd h 1000173 = some (.inr (29, [.int (nI 35)])) := by
  show some (Sum.inr (29, [Value.int (nI (173 - 10) - 128)])) = _
  rw [show nI (173 - 10) - 128 = nI 35 from by decide +kernel]
theorem k_174 (h : mj_H) : mj_rd h 1000174 = some (.inr (29, [.int (nI 36)])) := by
  show some (Sum.inr (29, [Value.int (nI (174 - 10) - 128)])) = _
  rw [show nI (174 - 10) - 128 = nI 36 from by decide +kernel]
theorem k_175 (h : mj_H) : mj_rd h 1000175 = some (.inr (29, [.int (nI 37)])) := by
  show some (Sum.inr (29, [Value.int (nI (175 - 10) - 128)])) = _
  rw [show nI (175 - 10) - 128 = nI 37 from by decide +kernel]
theorem k_176 (h : mj_H) : mj_rd h 1000176 = some (.inr (29, [.int (nI 38)])) := by
  show some (Sum.inr (29, [Value.int (nI (176 - 10) - 128)])) = _
  rw [show nI (176 - 10) - 128 = nI 38 from by decide +kernel]
theorem k_177 (h : mj_H) : mj_rd h 1000177 = some (.inr (29, [.int (nI 39)])) := by
  show some (Sum.inr (29, [Value.int (nI (177 - 10) - 128)])) = _
  rw [show nI (177 - 10) - 128 = nI 39 from by decide +kernel]
theorem k_178 (h : mj_H) : mj_rd h 1000178 = some (.inr (29, [.int (nI 40)])) := by
  show some (Sum.inr (29, [Value.int (nI (178 - 10) - 128)])) = _
  rw [show nI (178 - 10) - 128 = nI 40 from by decide +kernel]
theorem k_179 (h : mj_H) : mj_rd h 1000179 = some (.inr (29, [.int (nI 41)])) := by
  show some (Sum.inr (29, [Value.int (nI (179 - 10) - 128)])) = _
  rw [show nI (179 - 10) - 128 = nI 41 from by decide +kernel]
theorem k_180 (h : mj_H) : mj_rd h 1000180 = some (.inr (29, [.int (nI 42)])) := by
  show some (Sum.inr (29, [Value.int (nI (180 - 10) - 128)])) = _
  rw [show nI (180 - 10) - 128 = nI 42 from by decide +kernel]
theorem k_181 (h : mj_H) : mj_rd h 1000181 = some (.inr (29, [.int (nI 43)])) := by
  show some (Sum.inr (29, [Value.int (nI (181 - 10) - 128)])) = _
  rw [show nI (181 - 10) - 128 = nI 43 from by decide +kernel]
theorem k_182 (h : mj_H) : mj_rd h 1000182 = some (.inr (29, [.int (nI 44)])) := by
  show some (Sum.inr (29, [Value.int (nI (182 - 10) - 128)])) = _
  rw [show nI (182 - 10) - 128 = nI 44 from by decide +kernel]
theorem k_183 (h : mj_H) : mj_rd h 1000183 = some (.inr (29, [.int (nI 45)])) := by
  show some (Sum.inr (29, [Value.int (nI (183 - 10) - 128)])) = _
  rw [show nI (183 - 10) - 128 = nI 45 from by decide +kernel]
theorem k_184 (h : mj_H) : mj_rd h 1000184 = some (.inr (29, [.int (nI 46)])) := by
  show some (Sum.inr (29, [Value.int (nI (184 - 10) - 128)])) = _
  rw [show nI (184 - 10) - 128 = nI 46 from by decide +kernel]
theorem k_185 (h : mj_H) : mj_rd h 1000185 = some (.inr (29, [.int (nI 47)])) := by
  show some (Sum.inr (29, [Value.int (nI (185 - 10) - 128)])) = _
  rw [show nI (185 - 10) - 128 = nI 47 from by decide +kernel]
theorem k_186 (h : mj_H) : mj_rd h 1000186 = some (.inr (29, [.int (nI 48)])) := by
  show some (Sum.inr (29, [Value.int (nI (186 - 10) - 128)])) = _
  rw [show nI (186 - 10) - 128 = nI 48 from by decide +kernel]
theorem k_187 (h : mj_H) : mj_rd h 1000187 = some (.inr (29, [.int (nI 49)])) := by
  show some (Sum.inr (29, [Value.int (nI (187 - 10) - 128)])) = _
  rw [show nI (187 - 10) - 128 = nI 49 from by decide +kernel]
theorem k_188 (h : mj_H) : mj_rd h 1000188 = some (.inr (29, [.int (nI 50)])) := by
  show some (Sum.inr (29, [Value.int (nI (188 - 10) - 128)])) = _
  rw [show nI (188 - 10) - 128 = nI 50 from by decide +kernel]
theorem k_189 (h : mj_H) : mj_rd h 1000189 = some (.inr (29, [.int (nI 51)])) := by
  show some (Sum.inr (29, [Value.int (nI (189 - 10) - 128)])) = _
  rw [show nI (189 - 10) - 128 = nI 51 from by decide +kernel]
theorem k_190 (h : mj_H) : mj_rd h 1000190 = some (.inr (29, [.int (nI 52)])) := by
  show some (Sum.inr (29, [Value.int (nI (190 - 10) - 128)])) = _
  rw [show nI (190 - 10) - 128 = nI 52 from by decide +kernel]
theorem k_191 (h : mj_H) : mj_rd h 1000191 = some (.inr (29, [.int (nI 53)])) := by
  show some (Sum.inr (29, [Value.int (nI (191 - 10) - 128)])) = _
  rw [show nI (191 - 10) - 128 = nI 53 from by decide +kernel]
theorem k_192 (h : mj_H) : mj_rd h 1000192 = some (.inr (29, [.int (nI 54)])) := by
  show some (Sum.inr (29, [Value.int (nI (192 - 10) - 128)])) = _
  rw [show nI (192 - 10) - 128 = nI 54 from by decide +kernel]
theorem k_193 (h : mj_H) : mj_rd h 1000193 = some (.inr (29, [.int (nI 55)])) := by
  show some (Sum.inr (29, [Value.int (nI (193 - 10) - 128)])) = _
  rw [show nI (193 - 10) - 128 = nI 55 from by decide +kernel]
theorem k_194 (h : mj_H) : mj_rd h 1000194 = some (.inr (29, [.int (nI 56)])) := by
  show some (Sum.inr (29, [Value.int (nI (194 - 10) - 128)])) = _
  rw [show nI (194 - 10) - 128 = nI 56 from by decide +kernel]
theorem k_195 (h : mj_H) : mj_rd h 1000195 = some (.inr (29, [.int (nI 57)])) := by
  show some (Sum.inr (29, [Value.int (nI (195 - 10) - 128)])) = _
  rw [show nI (195 - 10) - 128 = nI 57 from by decide +kernel]
theorem k_196 (h : mj_H) : mj_rd h 1000196 = some (.inr (29, [.int (nI 58)])) := by
  show some (Sum.inr (29, [Value.int (nI (196 - 10) - 128)])) = _
  rw [show nI (196 - 10) - 128 = nI 58 from by decide +kernel]
theorem k_197 (h : mj_H) : mj_rd h 1000197 = some (.inr (29, [.int (nI 59)])) := by
  show some (Sum.inr (29, [Value.int (nI (197 - 10) - 128)])) = _
  rw [show nI (197 - 10) - 128 = nI 59 from by decide +kernel]
theorem k_198 (h : mj_H) : mj_rd h 1000198 = some (.inr (29, [.int (nI 60)])) := by
  show some (Sum.inr (29, [Value.int (nI (198 - 10) - 128)])) = _
  rw [show nI (198 - 10) - 128 = nI 60 from by decide +kernel]
theorem k_199 (h : mj_H) : mj_rd h 1000199 = some (.inr (29, [.int (nI 61)])) := by
  show some (Sum.inr (29, [Value.int (nI (199 - 10) - 128)])) = _
  rw [show nI (199 - 10) - 128 = nI 61 from by decide +kernel]
theorem k_200 (h : mj_H) : mj_rd h 1000200 = some (.inr (29, [.int (nI 62)])) := by
  show some (Sum.inr (29, [Value.int (nI (200 - 10) - 128)])) = _
  rw [show nI (200 - 10) - 128 = nI 62 from by decide +kernel]
theorem k_201 (h : mj_H) : mj_rd h 1000201 = some (.inr (29, [.int (nI 63)])) := by
  show some (Sum.inr (29, [Value.int (nI (201 - 10) - 128)])) = _
  rw [show nI (201 - 10) - 128 = nI 63 from by decide +kernel]
theorem k_202 (h : mj_H) : mj_rd h 1000202 = some (.inr (29, [.int (nI 64)])) := by
  show some (Sum.inr (29, [Value.int (nI (202 - 10) - 128)])) = _
  rw [show nI (202 - 10) - 128 = nI 64 from by decide +kernel]
theorem k_203 (h : mj_H) : mj_rd h 1000203 = some (.inr (29, [.int (nI 65)])) := by
  show some (Sum.inr (29, [Value.int (nI (203 - 10) - 128)])) = _
  rw [show nI (203 - 10) - 128 = nI 65 from by decide +kernel]
theorem k_204 (h : mj_H) : mj_rd h 1000204 = some (.inr (29, [.int (nI 66)])) := by
  show some (Sum.inr (29, [Value.int (nI (204 - 10) - 128)])) = _
  rw [show nI (204 - 10) - 128 = nI 66 from by decide +kernel]
theorem k_205 (h : mj_H) : mj_rd h 1000205 = some (.inr (29, [.int (nI 67)])) := by
  show some (Sum.inr (29, [Value.int (nI (205 - 10) - 128)])) = _
  rw [show nI (205 - 10) - 128 = nI 67 from by decide +kernel]
theorem k_206 (h : mj_H) : mj_rd h 1000206 = some (.inr (29, [.int (nI 68)])) := by
  show some (Sum.inr (29, [Value.int (nI (206 - 10) - 128)])) = _
  rw [show nI (206 - 10) - 128 = nI 68 from by decide +kernel]
theorem k_207 (h : mj_H) : mj_rd h 1000207 = some (.inr (29, [.int (nI 69)])) := by
  show some (Sum.inr (29, [Value.int (nI (207 - 10) - 128)])) = _
  rw [show nI (207 - 10) - 128 = nI 69 from by decide +kernel]
theorem k_208 (h : mj_H) : mj_rd h 1000208 = some (.inr (29, [.int (nI 70)])) := by
  show some (Sum.inr (29, [Value.int (nI (208 - 10) - 128)])) = _
  rw [show nI (208 - 10) - 128 = nI 70 from by decide +kernel]
theorem k_209 (h : mj_H) : mj_rd h 1000209 = some (.inr (29, [.int (nI 71)])) := by
  show some (Sum.inr (29, [Value.int (nI (209 - 10) - 128)])) = _
  rw [show nI (209 - 10) - 128 = nI 71 from by decide +kernel]
theorem k_210 (h : mj_H) : mj_rd h 1000210 = some (.inr (29, [.int (nI 72)])) := by
  show some (Sum.inr (29, [Value.int (nI (210 - 10) - 128)])) = _
  rw [show nI (210 - 10) - 128 = nI 72 from by decide +kernel]
theorem k_211 (h : mj_H) : mj_rd h 1000211 = some (.inr (29, [.int (nI 73)])) := by
  show some (Sum.inr (29, [Value.int (nI (211 - 10) - 128)])) = _
  rw [show nI (211 - 10) - 128 = nI 73 from by decide +kernel]
theorem k_212 (h : mj_H) : mj_rd h 1000212 = some (.inr (29, [.int (nI 74)])) := by
  show some (Sum.inr (29, [Value.int (nI (212 - 10) - 128)])) = _
  rw [show nI (212 - 10) - 128 = nI 74 from by decide +kernel]
theorem k_213 (h : mj_H) : mj_rd h 1000213 = some (.inr (29, [.int (nI 75)])) := by
  show some (Sum.inr (29, [Value.int (nI (213 - 10) - 128)])) = _
  rw [show nI (213 - 10) - 128 = nI 75 from by decide +kernel]
theorem k_214 (h : mj_H) : mj_rd h 1000214 = some (.inr (29, [.int (nI 76)])) := by
  show some (Sum.inr (29, [Value.int (nI (214 - 10) - 128)])) = _
  rw [show nI (214 - 10) - 128 = nI 76 from by decide +kernel]
theorem k_215 (h : mj_H) : mj_rd h 1000215 = some (.inr (29, [.int (nI 77)])) := by
  show some (Sum.inr (29, [Value.int (nI (215 - 10) - 128)])) = _
  rw [show nI (215 - 10) - 128 = nI 77 from by decide +kernel]
theorem k_216 (h : mj_H) : mj_rd h 1000216 = some (.inr (29, [.int (nI 78)])) := by
  show some (Sum.inr (29, [Value.int (nI (216 - 10) - 128)])) = _
  rw [show nI (216 - 10) - 128 = nI 78 from by decide +kernel]
theorem k_217 (h : mj_H) : mj_rd h 1000217 = some (.inr (29, [.int (nI 79)])) := by
  show some (Sum.inr (29, [Value.int (nI (217 - 10) - 128)])) = _
  rw [show nI (217 - 10) - 128 = nI 79 from by decide +kernel]
theorem k_218 (h : mj_H) : mj_rd h 1000218 = some (.inr (29, [.int (nI 80)])) := by
  show some (Sum.inr (29, [Value.int (nI (218 - 10) - 128)])) = _
  rw [show nI (218 - 10) - 128 = nI 80 from by decide +kernel]
theorem k_219 (h : mj_H) : mj_rd h 1000219 = some (.inr (29, [.int (nI 81)])) := by
  show some (Sum.inr (29, [Value.int (nI (219 - 10) - 128)])) = _
  rw [show nI (219 - 10) - 128 = nI 81 from by decide +kernel]
theorem k_220 (h : mj_H) : mj_rd h 1000220 = some (.inr (29, [.int (nI 82)])) := by
  show some (Sum.inr (29, [Value.int (nI (220 - 10) - 128)])) = _
  rw [show nI (220 - 10) - 128 = nI 82 from by decide +kernel]
theorem k_221 (h : mj_H) : mj_rd h 1000221 = some (.inr (29, [.int (nI 83)])) := by
  show some (Sum.inr (29, [Value.int (nI (221 - 10) - 128)])) = _
  rw [show nI (221 - 10) - 128 = nI 83 from by decide +kernel]
theorem k_222 (h : mj_H) : mj_rd h 1000222 = some (.inr (29, [.int (nI 84)])) := by
  show some (Sum.inr (29, [Value.int (nI (222 - 10) - 128)])) = _
  rw [show nI (222 - 10) - 128 = nI 84 from by decide +kernel]
theorem k_223 (h : mj_H) : mj_rd h 1000223 = some (.inr (29, [.int (nI 85)])) := by
  show some (Sum.inr (29, [Value.int (nI (223 - 10) - 128)])) = _
  rw [show nI (223 - 10) - 128 = nI 85 from by decide +kernel]
theorem k_224 (h : mj_H) : mj_rd h 1000224 = some (.inr (29, [.int (nI 86)])) := by
  show some (Sum.inr (29, [Value.int (nI (224 - 10) - 128)])) = _
  rw [show nI (224 - 10) - 128 = nI 86 from by decide +kernel]
theorem k_225 (h : mj_H) : mj_rd h 1000225 = some (.inr (29, [.int (nI 87)])) := by
  show some (Sum.inr (29, [Value.int (nI (225 - 10) - 128)])) = _
  rw [show nI (225 - 10) - 128 = nI 87 from by decide +kernel]
theorem k_226 (h : mj_H) : mj_rd h 1000226 = some (.inr (29, [.int (nI 88)])) := by
  show some (Sum.inr (29, [Value.int (nI (226 - 10) - 128)])) = _
  rw [show nI (226 - 10) - 128 = nI 88 from by decide +kernel]
theorem k_227 (h : mj_H) : mj_rd h 1000227 = some (.inr (29, [.int (nI 89)])) := by
  show some (Sum.inr (29, [Value.int (nI (227 - 10) - 128)])) = _
  rw [show nI (227 - 10) - 128 = nI 89 from by decide +kernel]
theorem k_228 (h : mj_H) : mj_rd h 1000228 = some (.inr (29, [.int (nI 90)])) := by
  show some (Sum.inr (29, [Value.int (nI (228 - 10) - 128)])) = _
  rw [show nI (228 - 10) - 128 = nI 90 from by decide +kernel]
theorem k_229 (h : mj_H) : mj_rd h 1000229 = some (.inr (29, [.int (nI 91)])) := by
  show some (Sum.inr (29, [Value.int (nI (229 - 10) - 128)])) = _
  rw [show nI (229 - 10) - 128 = nI 91 from by decide +kernel]
theorem k_230 (h : mj_H) : mj_rd h 1000230 = some (.inr (29, [.int (nI 92)])) := by
  show some (Sum.inr (29, [Value.int (nI (230 - 10) - 128)])) = _
  rw [show nI (230 - 10) - 128 = nI 92 from by decide +kernel]
theorem k_231 (h : mj_H) : mj_rd h 1000231 = some (.inr (29, [.int (nI 93)])) := by
  show some (Sum.inr (29, [Value.int (nI (231 - 10) - 128)])) = _
  rw [show nI (231 - 10) - 128 = nI 93 from by decide +kernel]
theorem k_232 (h : mj_H) : mj_rd h 1000232 = some (.inr (29, [.int (nI 94)])) := by
  show some (Sum.inr (29, [Value.int (nI (232 - 10) - 128)])) = _
  rw [show nI (232 - 10) - 128 = nI 94 from by decide +kernel]
theorem k_233 (h : mj_H) : mj_rd h 1000233 = some (.inr (29, [.int (nI 95)])) := by
  show some (Sum.inr (29, [Value.int (nI (233 - 10) - 128)])) = _
  rw [show nI (233 - 10) - 128 = nI 95 from by decide +kernel]
theorem k_234 (h : mj_H) : mj_rd h 1000234 = some (.inr (29, [.int (nI 96)])) := by
  show some (Sum.inr (29, [Value.int (nI (234 - 10) - 128)])) = _
  rw [show nI (234 - 10) - 128 = nI 96 from by decide +kernel]
theorem k_235 (h : mj_H) : mj_rd h 1000235 = some (.inr (29, [.int (nI 97)])) := by
  show some (Sum.inr (29, [Value.int (nI (235 - 10) - 128)])) = _
  rw [show nI (235 - 10) - 128 = nI 97 from by decide +kernel]
theorem k_236 (h : mj_H) : mj_rd h 1000236 = some (.inr (29, [.int (nI 98)])) := by
  show some (Sum.inr (29, [Value.int (nI (236 - 10) - 128)])) = _
  rw [show nI (236 - 10) - 128 = nI 98 from by decide +kernel]
theorem k_237 (h : mj_H) : mj_rd h 1000237 = some (.inr (29, [.int (nI 99)])) := by
  show some (Sum.inr (29, [Value.int (nI (237 - 10) - 128)])) = _
  rw [show nI (237 - 10) - 128 = nI 99 from by decide +kernel]
theorem k_238 (h : mj_H) : mj_rd h 1000238 = some (.inr (29, [.int (nI 100)])) := by
  show some (Sum.inr (29, [Value.int (nI (238 - 10) - 128)])) = _
  rw [show nI (238 - 10) - 128 = nI 100 from by decide +kernel]
theorem k_239 (h : mj_H) : mj_rd h 1000239 = some (.inr (29, [.int (nI 101)])) := by
  show some (Sum.inr (29, [Value.int (nI (239 - 10) - 128)])) = _
  rw [show nI (239 - 10) - 128 = nI 101 from by decide +kernel]
theorem k_240 (h : mj_H) : mj_rd h 1000240 = some (.inr (29, [.int (nI 102)])) := by
  show some (Sum.inr (29, [Value.int (nI (240 - 10) - 128)])) = _
  rw [show nI (240 - 10) - 128 = nI 102 from by decide +kernel]
theorem k_241 (h : mj_H) : mj_rd h 1000241 = some (.inr (29, [.int (nI 103)])) := by
  show some (Sum.inr (29, [Value.int (nI (241 - 10) - 128)])) = _
  rw [show nI (241 - 10) - 128 = nI 103 from by decide +kernel]
theorem k_242 (h : mj_H) : mj_rd h 1000242 = some (.inr (29, [.int (nI 104)])) := by
  show some (Sum.inr (29, [Value.int (nI (242 - 10) - 128)])) = _
  rw [show nI (242 - 10) - 128 = nI 104 from by decide +kernel]
theorem k_243 (h : mj_H) : mj_rd h 1000243 = some (.inr (29, [.int (nI 105)])) := by
  show some (Sum.inr (29, [Value.int (nI (243 - 10) - 128)])) = _
  rw [show nI (243 - 10) - 128 = nI 105 from by decide +kernel]
theorem k_244 (h : mj_H) : mj_rd h 1000244 = some (.inr (29, [.int (nI 106)])) := by
  show some (Sum.inr (29, [Value.int (nI (244 - 10) - 128)])) = _
  rw [show nI (244 - 10) - 128 = nI 106 from by decide +kernel]
theorem k_245 (h : mj_H) : mj_rd h 1000245 = some (.inr (29, [.int (nI 107)])) := by
  show some (Sum.inr (29, [Value.int (nI (245 - 10) - 128)])) = _
  rw [show nI (245 - 10) - 128 = nI 107 from by decide +kernel]
theorem k_246 (h : mj_H) : mj_rd h 1000246 = some (.inr (29, [.int (nI 108)])) := by
  show some (Sum.inr (29, [Value.int (nI (246 - 10) - 128)])) = _
  rw [show nI (246 - 10) - 128 = nI 108 from by decide +kernel]
theorem k_247 (h : mj_H) : mj_rd h 1000247 = some (.inr (29, [.int (nI 109)])) := by
  show some (Sum.inr (29, [Value.int (nI (247 - 10) - 128)])) = _
  rw [show nI (247 - 10) - 128 = nI 109 from by decide +kernel]
theorem k_248 (h : mj_H) : mj_rd h 1000248 = some (.inr (29, [.int (nI 110)])) := by
  show some (Sum.inr (29, [Value.int (nI (248 - 10) - 128)])) = _
  rw [show nI (248 - 10) - 128 = nI 110 from by decide +kernel]
theorem k_249 (h : mj_H) : mj_rd h 1000249 = some (.inr (29, [.int (nI 111)])) := by
  show some (Sum.inr (29, [Value.int (nI (249 - 10) - 128)])) = _
  rw [show nI (249 - 10) - 128 = nI 111 from by decide +kernel]
theorem k_250 (h : mj_H) : mj_rd h 1000250 = some (.inr (29, [.int (nI 112)])) := by
  show some (Sum.inr (29, [Value.int (nI (250 - 10) - 128)])) = _
  rw [show nI (250 - 10) - 128 = nI 112 from by decide +kernel]
theorem k_251 (h : mj_H) : mj_rd h 1000251 = some (.inr (29, [.int (nI 113)])) := by
  show some (Sum.inr (29, [Value.int (nI (251 - 10) - 128)])) = _
  rw [show nI (251 - 10) - 128 = nI 113 from by decide +kernel]
theorem k_252 (h : mj_H) : mj_rd h 1000252 = some (.inr (29, [.int (nI 114)])) := by
  show some (Sum.inr (29, [Value.int (nI (252 - 10) - 128)])) = _
  rw [show nI (252 - 10) - 128 = nI 114 from by decide +kernel]
theorem k_253 (h : mj_H) : mj_rd h 1000253 = some (.inr (29, [.int (nI 115)])) := by
  show some (Sum.inr (29, [Value.int (nI (253 - 10) - 128)])) = _
  rw [show nI (253 - 10) - 128 = nI 115 from by decide +kernel]
theorem k_254 (h : mj_H) : mj_rd h 1000254 = some (.inr (29, [.int (nI 116)])) := by
  show some (Sum.inr (29, [Value.int (nI (254 - 10) - 128)])) = _
  rw [show nI (254 - 10) - 128 = nI 116 from by decide +kernel]
theorem k_255 (h : mj_H) : mj_rd h 1000255 = some (.inr (29, [.int (nI 117)])) := by
  show some (Sum.inr (29, [Value.int (nI (255 - 10) - 128)])) = _
  rw [show nI (255 - 10) - 128 = nI 117 from by decide +kernel]
theorem k_256 (h : mj_H) : mj_rd h 1000256 = some (.inr (29, [.int (nI 118)])) := by
  show some (Sum.inr (29, [Value.int (nI (256 - 10) - 128)])) = _
  rw [show nI (256 - 10) - 128 = nI 118 from by decide +kernel]
theorem k_257 (h : mj_H) : mj_rd h 1000257 = some (.inr (29, [.int (nI 119)])) := by
  show some (Sum.inr (29, [Value.int (nI (257 - 10) - 128)])) = _
  rw [show nI (257 - 10) - 128 = nI 119 from by decide +kernel]
theorem k_258 (h : mj_H) : mj_rd h 1000258 = some (.inr (29, [.int (nI 120)])) := by
  show some (Sum.inr (29, [Value.int (nI (258 - 10) - 128)])) = _
  rw [show nI (258 - 10) - 128 = nI 120 from by decide +kernel]
theorem k_259 (h : mj_H) : mj_rd h 1000259 = some (.inr (29, [.int (nI 121)])) := by
  show some (Sum.inr (29, [Value.int (nI (259 - 10) - 128)])) = _
  rw [show nI (259 - 10) - 128 = nI 121 from by decide +kernel]
theorem k_260 (h : mj_H) : mj_rd h 1000260 = some (.inr (29, [.int (nI 122)])) := by
  show some (Sum.inr (29, [Value.int (nI (260 - 10) - 128)])) = _
  rw [show nI (260 - 10) - 128 = nI 122 from by decide +kernel]
theorem k_261 (h : mj_H) : mj_rd h 1000261 = some (.inr (29, [.int (nI 123)])) := by
  show some (Sum.inr (29, [Value.int (nI (261 - 10) - 128)])) = _
  rw [show nI (261 - 10) - 128 = nI 123 from by decide +kernel]
theorem k_262 (h : mj_H) : mj_rd h 1000262 = some (.inr (29, [.int (nI 124)])) := by
  show some (Sum.inr (29, [Value.int (nI (262 - 10) - 128)])) = _
  rw [show nI (262 - 10) - 128 = nI 124 from by decide +kernel]
theorem k_263 (h : mj_H) : mj_rd h 1000263 = some (.inr (29, [.int (nI 125)])) := by
  show some (Sum.inr (29, [Value.int (nI (263 - 10) - 128)])) = _
  rw [show nI (263 - 10) - 128 = nI 125 from by decide +kernel]
theorem k_264 (h : mj_H) : mj_rd h 1000264 = some (.inr (29, [.int (nI 126)])) := by
  show some (Sum.inr (29, [Value.int (nI (264 - 10) - 128)])) = _
  rw [show nI (264 - 10) - 128 = nI 126 from by decide +kernel]
theorem k_265 (h : mj_H) : mj_rd h 1000265 = some (.inr (29, [.int (nI 127)])) := by
  show some (Sum.inr (29, [Value.int (nI (265 - 10) - 128)])) = _
  rw [show nI (265 - 10) - 128 = nI 127 from by decide +kernel]
theorem cpq_nil (h : mj_H) (f : Nat → Option Nat) (sp : Nat) : mj_cpq h f sp 0 = true := rfl
theorem p_max {h : mj_H} {x y z : Int32} (hz : (if x < y then y else x) = z) : mj_prim 4 [.int x, .int y] h = some (some (.int z), h) := hz ▸ rfl
theorem p_min {h : mj_H} {x y z : Int32} (hz : (if y < x then y else x) = z) : mj_prim 5 [.int x, .int y] h = some (some (.int z), h) := hz ▸ rfl
theorem p_cls {h : mj_H} {a : Nat} {x : vp_A} (hr : mj_rdA h a = some (6, x)) : mj_prim 1 [.ref a] h = some (some (.ref (mj_CB + 4)), h) := by
  show (match mj_rdA h a with | some (6, _) => some (some (Value.ref (mj_CB + 4)), h) | _ => none) = _
  rw [hr]
  rfl
theorem s_fdivz {k mi pc p' : Nat} {ls : mj_L} {st : List Value} {h : mj_H} {Q : mj_O × mj_H → Prop} {e : Nat × Nat × Nat} {x y z : UInt32} (hE : mj_Gg.1 mi pc = some (.fdiv, e)) (hz : FP.fdiv x y = z) (hc : decide (z &&& 0x7fffffff ≤ 0x7f800000) = true) (hp : pc + 1 = p') (hn : mj_Wp k mi (p', ls, .float z :: st, h) Q) : mj_Wp k mi (pc, ls, .float y :: .float x :: st, h) Q := by
  refine s_sp (p' := p') (ls' := ls) (st' := .float z :: st) hE rfl ?_ hn
  show (if FP.fdiv x y &&& 0x7fffffff ≤ 0x7f800000 then some (pc + 1, ls, Value.float (FP.fdiv x y) :: st) else none) = _
  rw [hz, if_pos (of_decide_eq_true hc), hp]
theorem l_f2dz {L pc p' : Nat} {xs : Nat → Int32} {ls : mj_L} {st : List Value} {h : mj_H} {P : mj_H → Prop} {e : Nat × Nat × Nat} {x : UInt32} {z : UInt64} (hE : mj_get mj_rL.2.2 pc = some (.f2d, e)) (hl : ls.length = 10) (hz : FP.f2d x = z) (hc : decide (z &&& 0x7fffffffffffffff ≤ 0x7ff0000000000000) = true) (hp : pc + 1 = p') (hn : mj_lrun L xs (p', ls, .double z :: st, h) P) : mj_lrun L xs (pc, ls, .float x :: st, h) P := by
  refine l_sp (p' := p') (ls' := ls) (st' := .double z :: st) hE hl rfl rfl ?_ hn
  show (if FP.f2d x &&& 0x7fffffffffffffff ≤ 0x7ff0000000000000 then some (pc + 1, ls, Value.double (FP.f2d x) :: st) else none) = _
  rw [hz, if_pos (of_decide_eq_true hc), hp]
theorem p_cpyA {h : mj_H} {a b m n sp dp c : Nat} {f g : Nat → Option Nat} (hb : Nat.blt b mj_CB = true) (h1 : mj_rdA h a = some (6, (m, .inr (.inr (.inr (.inr f)))))) (h2 : mj_rdA h b = some (6, (n, .inr (.inr (.inr (.inr g)))))) (hc : (Nat.ble (sp + c) m && Nat.ble (dp + c) n && Nat.blt (sp + c) 2147483648 && Nat.blt (dp + c) 2147483648) = true) (hq : mj_cpq h f sp c = true) : mj_prim 0 [.ref a, .int (nI sp), .ref b, .int (nI dp), .int (nI c)] h = some (none, h.set b (.inl (6, (n, .inr (.inr (.inr (.inr (va_cpy f g sp dp c)))))))) := by
  simp only [Bool.and_eq_true, Nat.ble_eq, Nat.blt_eq] at hc
  obtain ⟨⟨⟨q1, q2⟩, q3⟩, q4⟩ := hc
  have hb := Nat.blt_eq.mp hb
  show (match mj_cpy h a (nI sp) b (nI dp) (nI c) with | some h' => some (none, h') | none => none) = _
  unfold mj_cpy
  rw [h1, h2]
  dsimp only
  rw [mI_cl (by omega), mI_cl (by omega), mI_cl (by omega)]
  rw [if_pos ⟨hb, rfl, ⟨(lenok' (by omega)), (lenok' (by omega)), (lenok' (by omega))⟩, q1, q2⟩, if_pos ⟨rfl, hq⟩]
theorem p_cpyB {h : mj_H} {a b m n sp dp c : Nat} {f g : Nat → Int32} (hb : Nat.blt b mj_CB = true) (h1 : mj_rdA h a = some (1, (m, .inl f))) (h2 : mj_rdA h b = some (1, (n, .inl g))) (hc : (Nat.ble (sp + c) m && Nat.ble (dp + c) n && Nat.blt (sp + c) 2147483648 && Nat.blt (dp + c) 2147483648) = true) (hq : mj_cpr f sp c = true) : mj_prim 0 [.ref a, .int (nI sp), .ref b, .int (nI dp), .int (nI c)] h = some (none, h.set b (.inl (1, (n, .inl (va_cpy f g sp dp c))))) := by
  simp only [Bool.and_eq_true, Nat.ble_eq, Nat.blt_eq] at hc
  obtain ⟨⟨⟨q1, q2⟩, q3⟩, q4⟩ := hc
  have hb := Nat.blt_eq.mp hb
  show (match mj_cpy h a (nI sp) b (nI dp) (nI c) with | some h' => some (none, h') | none => none) = _
  unfold mj_cpy
  rw [h1, h2]
  dsimp only
  rw [mI_cl (by omega), mI_cl (by omega), mI_cl (by omega)]
  rw [if_pos ⟨hb, rfl, ⟨(lenok' (by omega)), (lenok' (by omega)), (lenok' (by omega))⟩, q1, q2⟩, if_pos (Or.inr ⟨rfl, hq⟩)]
theorem p_cpyI {h : mj_H} {a b m n sp dp c : Nat} {f g : Nat → Int32} (hb : Nat.blt b mj_CB = true) (ha : Nat.blt a mj_CB = true) (h1 : mj_rdA h a = some (0, (m, .inl f))) (h2 : mj_rdA h b = some (0, (n, .inl g))) (hc : (Nat.ble (sp + c) m && Nat.ble (dp + c) n && Nat.blt (sp + c) 2147483648 && Nat.blt (dp + c) 2147483648) = true) : mj_prim 0 [.ref a, .int (nI sp), .ref b, .int (nI dp), .int (nI c)] h = some (none, h.set b (.inl (0, (n, .inl (va_cpy f g sp dp c))))) := by
  simp only [Bool.and_eq_true, Nat.ble_eq, Nat.blt_eq] at hc
  obtain ⟨⟨⟨q1, q2⟩, q3⟩, q4⟩ := hc
  have hb := Nat.blt_eq.mp hb
  show (match mj_cpy h a (nI sp) b (nI dp) (nI c) with | some h' => some (none, h') | none => none) = _
  unfold mj_cpy
  rw [h1, h2]
  dsimp only
  rw [mI_cl (by omega), mI_cl (by omega), mI_cl (by omega)]
  rw [if_pos ⟨hb, rfl, ⟨(lenok' (by omega)), (lenok' (by omega)), (lenok' (by omega))⟩, q1, q2⟩, if_pos (Or.inl ⟨rfl, Nat.blt_eq.mp ha⟩)]
