section MJN
variable {p : Program} {l : Launch} {e : Env} {R : Room} {s : State} {m : MethodId} {args : Array Value} {below : List Frame} {meth : Method} {c : Code} {T : State} {H H1 : Heap} {locs : List Loc} {cells slots : Nat} {Q : State → Prop}
variable {D : va_G} {cA ρ : Nat → Nat} {base : Nat} {Ts : List Cond} {own : String} {pc : Nat} {E : mj_E} {ls : mj_L} {h hs h1 : mj_H} {rs : Array Slot} {cc : ByteArray} {rest : List Value}
theorem mj_cpr_of {f : Nat → Int32} {sp n : Nat} (h : mj_cpr f sp n = true) : ∀ i : Nat, i < n → fits .byte (.int (f (sp + i))) = true := fun i hi => List.all_eq_true.mp h i (List.mem_range.mpr hi)
theorem mj_cpq_of (hX : mj_X D cA ρ base s) (hA : mj_asg Ts) (hts : ∀ w ∈ Ts, w.before args s = true) (hP : va_P D mj_cls (mj_ws ρ cA base h) H) (hS : va_S (fun q => base ≤ q) s.heap H locs) {f : Nat → Option Nat} {sp n : Nat} (h0 : mj_cpq h f sp n = true) :
    ∀ i : Nat, i < n → ∀ y : Nat, (f (sp + i)).map ρ = some y → va_Any "java/lang/Object" s H y := by
  intro i hi y hy
  have h1 := List.all_eq_true.mp h0 i (List.mem_range.mpr hi)
  cases hq : f (sp + i) with
  | none => rw [hq] at hy; cases hy
  | some q =>
    rw [hq] at hy h1
    cases hy
    dsimp only at h1
    cases ho : mj_ocl h q with
    | none => rw [ho] at h1; cases h1
    | some ci =>
      rw [ho] at h1
      obtain ⟨r, hr, cell, c1, c2, c3⟩ := mj_ocl_of hX hP hS ho
      obtain ⟨kC, hkC, -⟩ := Vm.findClass_spec c3
      refine ⟨cell, c1, c2, ⟨kC, hkC⟩, fun comp hcomp => ?_⟩
      rcases hA 6 ci "java/lang/Object" r h1 rfl hr with g | g
      · rw [g] at c3
        exact vb_asgS comp _ hcomp c3
      · exact vb_asgC (va_any (by rfl) (hts _ g)) comp _ hcomp c3
theorem mj_cst_q {k t n : Nat} {f : Nat → Option Nat} (h0 : mj_cst k = some (.inl (6, (n, .inr (.inr (.inr (.inr f))))))) : k = 0 ∧ n = 0 ∧ f = fun _ => none := by
  unfold mj_cst at h0
  split at h0
  · cases h0; exact ⟨rfl, rfl, rfl⟩
  · cases h0
  · cases h0
  · cases h0
  · split at h0
    · cases h0
    · split at h0
      · split at h0
        · split at h0 <;> cases h0
        · cases h0
      · cases h0
theorem mj_cpy_map (f g : Nat → Option Nat) (sp dp n : Nat) : (fun j => (va_cpy f g sp dp n j).map ρ) = va_cpy (fun j => (f j).map ρ) (fun j => (g j).map ρ) sp dp n := by
  funext j
  unfold va_cpy
  split <;> rfl
/-- behind a copy -/
theorem mj_cpy_K {a t n : Nat} {x y : (Nat → Int32) ⊕ (Nat → Int64) ⊕ (Nat → UInt32) ⊕ (Nat → UInt64) ⊕ (Nat → Option Nat)} (h4 : h[a]? = some (.inl (t, (n, x)))) (hlr : mj_lr ρ ls rs)
    (K : mj_KH p l e R s m args below meth c Q D cA ρ base hs (pc + 3, ls, rest, h.set a (.inl (t, (n, y))))) (hP1 : va_P D mj_cls ((mj_ws ρ cA base h).set a (base + a, .inl (cA t, mj_av ρ (n, y)))) H1) (hS1 : va_S (fun q => base ≤ q) s.heap H1 locs) :
    W p l e R s m args below meth c H1 locs (h.length - hs.length) (mj_sz h - mj_sz hs) Q (F0 m (pc + 3) rs (rest.map (mj_tv ρ))) := by
  have hcs : mj_sz (h.set a (.inl (t, (n, y)))) = mj_sz h := mj_sz_set h a _ _ h4 rfl
  have K := K rs H1 locs hlr (by show va_P D mj_cls (mj_ws ρ cA base (h.set a _)) H1; rw [mj_ws_set]; exact hP1) hS1
  dsimp only at K
  rw [List.length_set, hcs] at K
  exact K
set_option maxHeartbeats 1000000 in
theorem mj_copy_ok {idx : Nat} (hx : p.tables.exec = Jvm.exec) (hb : c.code = cc) (hml : c.maxLocals = rs.size) (hts : ∀ w ∈ Ts, w.before args s = true) (hown : s.vm.findClass own = some m.cls) (hX : mj_X D cA ρ base s) (hA : mj_asg Ts) (hRf : 1 ≤ R.frames) (hRl : 100 ≤ R.locals) (hcat : (rest.map fun v => v.category).sum ≤ 8)
    (hw1 : Cond.methodLink own idx arraycopyName ∈ Ts) (hw2 : Cond.native arraycopyName ∈ Ts) (hw3 : Cond.static arraycopyName ∈ Ts) (hw4 : Cond.initialized "java/lang/System" ∈ Ts) (hd : decode cc pc = .ok (.invokestatic idx, 3)) {a b : Nat} {sp dp n : Int32}
    (hlr : mj_lr ρ ls rs) (hP : va_P D mj_cls (mj_ws ρ cA base h) H) (hS : va_S (fun q => base ≤ q) s.heap H locs) (h0 : mj_cpy h a sp b dp n = some h1) (K : mj_KH p l e R s m args below meth c Q D cA ρ base hs (pc + 3, ls, rest, h1)) :
    W p l e R s m args below meth c H locs (h.length - hs.length) (mj_sz h - mj_sz hs) Q (F0 m pc rs (.int n :: .int dp :: .ref (ρ b) :: .int sp :: .ref (ρ a) :: rest.map (mj_tv ρ))) := by
  have hloc : ((rest.map (mj_tv ρ)).map fun v => v.category).sum + (nativeFrameWords "java/lang/System" "arraycopy" 5 + 11) ≤ R.locals := by
    have hw : nativeFrameWords "java/lang/System" "arraycopy" 5 ≤ 60 := by decide
    rw [mj_cat_map]
    omega
  unfold mj_cpy at h0
  split at h0
  rotate_left
  · cases h0
  rename_i t m0 x t2 k y hr1 hr2
  split at h0
  rotate_left
  · cases h0
  rename_i hc
  obtain ⟨hb1, rfl, ⟨c1, c2, c3⟩, c4, c5⟩ := hc
  have g2 := ((mj_rdA_of hr2).resolve_right (fun z => z.1 hb1)).2
  have g2' := mj_ws_at (ρ := ρ) (cA := cA) (base := base) g2
  rw [hX.2.1 b hb1]
  split at h0
  · rename_i f g
    split at h0
    rotate_left
    · cases h0
    rename_i hk
    cases h0
    have hfit : ∀ ty, mj_tyl[t]? = some ty → ∀ i : Nat, i < n.toNatClampNeg → fits ty (.int (f (sp.toNatClampNeg + i))) = true := by
      intro ty hty i hi
      rcases hk with ⟨rfl, -⟩ | ⟨rfl, hk⟩
      · cases hty; rfl
      · cases hty; exact mj_cpr_of hk i hi
    obtain ⟨ty, hty, hrk⟩ : ∃ ty, mj_tyl[t]? = some ty ∧ refKind ty = false := by
      rcases hk with ⟨rfl, -⟩ | ⟨rfl, hk⟩
      · exact ⟨_, rfl, rfl⟩
      · exact ⟨_, rfl, rfl⟩
    rcases mj_rdA_of hr1 with ⟨ha, g1⟩ | ⟨ha, g1⟩
    · rw [hX.2.1 a ha]
      exact va_copyi hx hb hml hown (hts _ hw1) (hts _ hw2) (hts _ hw3) (hts _ hw4) hX.1 hP mj_D hS a b t t (mj_ws_at g1) g2' (mj_tys_at hty (by rcases hk with ⟨q, -⟩ | ⟨q, -⟩ <;> omega)) (mj_tys_at hty (by rcases hk with ⟨q, -⟩ | ⟨q, -⟩ <;> omega)) hrk c1 c2 c3 c4 c5 (hfit ty hty) hRf hloc hd (fun H1 locs1 hP1 _ hS1 => mj_cpy_K g2 hlr K hP1 hS1)
    · rcases hk with ⟨-, ha2⟩ | ⟨rfl, hk⟩
      · exact absurd ha2 ha
      · have hT := hX.2.2.2.1 _ _ _ _ g1 (rfl : mj_tyl[1]? = some .byte)
        rw [mj_cb a ha] at hT
        exact vk_copyt hx hb hml hown (hts _ hw1) (hts _ hw2) (hts _ hw3) (hts _ hw4) hX.1 hP mj_D hS hT b 1 g2' (mj_tys_at rfl) c1 c2 c3 c4 c5 (mj_cpr_of hk) hRf hloc hd (fun H1 locs1 hP1 _ hS1 => mj_cpy_K g2 hlr K hP1 hS1)
  · rename_i f g
    split at h0
    rotate_left
    · cases h0
    rename_i hk
    obtain ⟨rfl, hk⟩ := hk
    cases h0
    rcases mj_rdA_of hr1 with ⟨ha, g1⟩ | ⟨ha, g1⟩
    · rw [hX.2.1 a ha]
      refine va_copyM hx hb hml hown (hts _ hw1) (hts _ hw2) (hts _ hw3) (hts _ hw4) hX.1 hP mj_D hS a b 6 6 (mj_ws_at g1) g2' (mj_tys_at rfl) (mj_tys_at rfl) c1 c2 c3 c4 c5 (mj_cpq_of hX hA hts hP hS hk) hRf hloc hd (fun H1 locs1 hP1 _ hS1 => mj_cpy_K g2 hlr K ?_ hS1)
      unfold mj_av
      dsimp only
      rw [mj_cpy_map]
      exact hP1
    · obtain ⟨-, rfl, rfl⟩ := mj_cst_q (t := 6) g1
      have hT := hX.2.2.2.1 _ _ _ _ g1 (rfl : mj_tyl[6]? = some (.object "java/lang/Object"))
      rw [mj_cb a ha] at hT
      refine va_copyg hx hb hml hown (hts _ hw1) (hts _ hw2) (hts _ hw3) (hts _ hw4) hX.1 hP mj_D hS b 6 hT g2' (mj_tys_at rfl) c1 c2 c3 c4 c5 hRf hloc hd (fun H1 locs1 hP1 _ hS1 => mj_cpy_K g2 hlr K ?_ hS1)
      unfold mj_av
      dsimp only
      rw [mj_cpy_map]
      exact hP1
  · cases h0
end MJN
