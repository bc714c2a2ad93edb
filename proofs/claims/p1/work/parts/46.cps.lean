/-! Calls by contracts with a condition; cells behind others. -/
def mz_N (R : mj_H → Prop) (o : mj_O × mj_H) : Prop := ∃ h', o = (.inl none, h') ∧ R h'
def mz_V (R : Value → mj_H → Prop) (o : mj_O × mj_H) : Prop := ∃ v h', o = (.inl (some v), h') ∧ R v h'
section MJCP
variable {k k' mi pc p' : Nat} {ls ls' : mj_L} {st st' : List Value} {h h' : mj_H} {Q : mj_O × mj_H → Prop} {i : Instr} {e : Nat × Nat × Nat}
theorem s_callEN {m na z kc : Nat} {as r : List Value} {ls0 : mj_L} {R : mj_H → Prop} (hE : mj_Gg.1 mi pc = some (i, m, na, z)) (hx : mj_isiv i = true) (hb : mj_cbb m na st = true) (ha : (st.take na).reverse = as) (hr : st.drop na = r) (hv : mj_rcv z as h = true) (hls : mj_entry (mj_Gg.2.1 m) as = ls0) (hcall : mj_Wp kc m (0, ls0, [], h) (mz_N R)) (hk : Nat.ble (kc + 1) k = true) (hq : pc + mj_ivl i = p') (hn : ∀ h', R h' → mj_Wp k mi (p', ls, r, h') Q) : mj_Wp k mi (pc, ls, st, h) Q :=
  c_call hE hx hb ha hr hv hls hk hq (hcall.imp fun o ho => by
    obtain ⟨h', rfl, hR⟩ := ho
    exact hn h' hR)
theorem s_callEV {m na z kc : Nat} {as r : List Value} {ls0 : mj_L} {R : Value → mj_H → Prop} (hE : mj_Gg.1 mi pc = some (i, m, na, z)) (hx : mj_isiv i = true) (hb : mj_cbb m na st = true) (ha : (st.take na).reverse = as) (hr : st.drop na = r) (hv : mj_rcv z as h = true) (hls : mj_entry (mj_Gg.2.1 m) as = ls0) (hcall : mj_Wp kc m (0, ls0, [], h) (mz_V R)) (hk : Nat.ble (kc + 1) k = true) (hq : pc + mj_ivl i = p') (hn : ∀ v h', R v h' → mj_Wp k mi (p', ls, v :: r, h') Q) : mj_Wp k mi (pc, ls, st, h) Q :=
  c_call hE hx hb ha hr hv hls hk hq (hcall.imp fun o ho => by
    obtain ⟨v, h', rfl, hR⟩ := ho
    exact hn v h' hR)
end MJCP
theorem rd_at {h l : mj_H} {n j : Nat} {c : mj_C} (hn : h.length = n) (hb : n + j < mj_CB) (hj : l[j]? = some c) : mj_rd (h ++ l) (n + j) = some c := by
  rw [rd_lt hb, List.getElem?_append_right (by omega), hn, Nat.add_sub_cancel_left]
  exact hj
theorem set_at {h l : mj_H} {n j : Nat} {c : mj_C} (hn : h.length = n) : (h ++ l).set (n + j) c = h ++ l.set j c := by
  rw [List.set_append_right _ _ (by omega), hn, Nat.add_sub_cancel_left]
theorem app_1 {h l : mj_H} {c : mj_C} : (h ++ l) ++ [c] = h ++ (l ++ [c]) := List.append_assoc ..
theorem len_at {h l : mj_H} {n j : Nat} (hn : h.length = n) (hj : l.length = j) : (h ++ l).length = n + j := by rw [List.length_append, hn, hj]
theorem rd_a0 {h l : mj_H} {n : Nat} {c : mj_C} (hn : h.length = n) (hb : n < mj_CB) : mj_rd (h ++ c :: l) n = some c := rd_at (j := 0) hn hb rfl
theorem set_a0 {h l : mj_H} {n : Nat} {c d : mj_C} (hn : h.length = n) : (h ++ d :: l).set n c = h ++ c :: l := set_at (j := 0) hn
