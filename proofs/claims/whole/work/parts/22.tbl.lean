/-! The tables: rows of methods, what they must say, proved place by place. -/
/-- a private method that another class of the same line inherits -/
theorem mj_sel_priv {C : String} {y z : MethodName} {s : State} {args : Array Value} (hy : y.cls ≠ "java/lang/invoke/MethodHandle" ∧ y.cls ≠ "java/lang/invoke/VarHandle") (hz : y.cls = z.cls) (hsel : (Cond.selects C z z).before args s = true) (hpriv : (Cond.privateMethod y).before args s = true) (hinst : (Cond.instanceMethod y).before args s = true) :
    (Cond.selects C y y).before args s = true := by
  obtain ⟨c, r, m, hc, -, hm, -, k, hk, hni⟩ := Cond.selects_spec hsel
  obtain ⟨mk, methM, hnamed, hmethM, -, -⟩ := Cond.instanceMethod_spec hinst
  have hfound : s.methodFound? y.cls y.name y.desc = some mk := State.methodFound?_of_named hnamed hy
  have hcls : mk.cls = m.cls := by
    have h1 := findClass_of_methodNamed hnamed
    rw [hz] at h1
    exact Option.some.inj (h1.symm.trans (findClass_of_methodNamed hm))
  have hsel : selectMethod {} s.vm c mk = .method mk := selectMethod_private hmethM (Cond.privateMethod_at hpriv mk methM hnamed hmethM)
  simp only [Cond.before, Cond.holds, Cond.value, hc, hfound, hnamed, hsel, hcls, hk]
  simp; exact hni
def mj_sbm : List MethodName := [⟨"java/lang/AbstractStringBuilder", "appendNull", "()Ljava/lang/AbstractStringBuilder;"⟩, ⟨"java/lang/AbstractStringBuilder", "ensureCapacityInternal", "(I)V"⟩, ⟨"java/lang/AbstractStringBuilder", "putStringAt", "(ILjava/lang/String;)V"⟩, ⟨"java/lang/AbstractStringBuilder", "newCapacity", "(I)I"⟩, ⟨"java/lang/AbstractStringBuilder", "inflateIfNeededFor", "(Ljava/lang/String;)V"⟩, ⟨"java/lang/AbstractStringBuilder", "inflate", "()V"⟩]
def mj_sbw : List Cond := mj_sbm.map fun y => Cond.selects "java/lang/StringBuilder" y y
def mj_Tw : List Cond := (lw_tbl ++ mj_sbw).filter mj_gw
theorem mj_sbw_ok {s : State} {args : Array Value} (hts : ∀ w ∈ lw_tbl, w.before args s = true) : ∀ w ∈ mj_sbw, w.before args s = true := by
  have hl : ∀ y ∈ mj_sbm, (y.cls ≠ "java/lang/invoke/MethodHandle" ∧ y.cls ≠ "java/lang/invoke/VarHandle") ∧ y.cls = "java/lang/AbstractStringBuilder" ∧ Cond.privateMethod y ∈ lw_tbl ∧ Cond.instanceMethod y ∈ lw_tbl := by decide +kernel
  have hs : Cond.selects "java/lang/StringBuilder" ⟨"java/lang/AbstractStringBuilder", "isLatin1", "()Z"⟩ ⟨"java/lang/AbstractStringBuilder", "isLatin1", "()Z"⟩ ∈ lw_tbl := by decide +kernel
  intro w hw
  obtain ⟨y, hy, rfl⟩ := List.mem_map.mp hw
  obtain ⟨h1, h2, h3, h4⟩ := hl y hy
  exact mj_sel_priv h1 (z := ⟨"java/lang/AbstractStringBuilder", "isLatin1", "()Z"⟩) h2 (hts _ hs) (hts _ h3) (hts _ h4)
/-- the words hold where the law's words hold -/
theorem mj_Tw_hts {s : State} {args : Array Value} (hts : ∀ w ∈ lw_tbl, w.before args s = true) : ∀ w ∈ mj_Tw, w.before args s = true := fun w hw => by
  rcases List.mem_append.mp (List.mem_filter.mp hw).1 with h | h
  · exact hts w h
  · exact mj_sbw_ok hts w h
theorem mj_wb {w : Cond} (i : Nat) (h : mj_sbw[i]? = some w) (hg : mj_gw w = true) : w ∈ mj_Tw := List.mem_filter.mpr ⟨List.mem_append_right _ (List.mem_of_getElem? h), hg⟩
theorem mj_wm {w : Cond} (h : w ∈ lw_tbl) (hg : mj_gw w = true) : w ∈ mj_Tw := List.mem_filter.mpr ⟨List.mem_append_left _ h, hg⟩
theorem mj_wt {w : Cond} (h : w ∈ tables_1) (hg : mj_gw w = true) : w ∈ mj_Tw := mj_wm (List.mem_append_right _ h) hg
theorem mj_wp {w : Cond} (i : Nat) (h : (k2_sels lw_privs)[i]? = some w) (hg : mj_gw w = true) : w ∈ mj_Tw := mj_wm (List.mem_append_left _ (List.mem_of_getElem? h)) hg
theorem mj_w1 {w : Cond} (i : Nat) (h : tables_1_1[i]? = some w) (hg : mj_gw w = true) : w ∈ mj_Tw := mj_wt (List.mem_append_left _ (List.mem_of_getElem? h)) hg
theorem mj_w2 {w : Cond} (i : Nat) (h : tables_1_2[i]? = some w) (hg : mj_gw w = true) : w ∈ mj_Tw := mj_wt (List.mem_append_right _ (List.mem_append_left _ (List.mem_of_getElem? h))) hg
theorem mj_w3 {w : Cond} (i : Nat) (h : tables_1_3[i]? = some w) (hg : mj_gw w = true) : w ∈ mj_Tw := mj_wt (List.mem_append_right _ (List.mem_append_right _ (List.mem_append_left _ (List.mem_of_getElem? h)))) hg
theorem mj_w4 {w : Cond} (i : Nat) (h : tables_1_4[i]? = some w) (hg : mj_gw w = true) : w ∈ mj_Tw := mj_wt (List.mem_append_right _ (List.mem_append_right _ (List.mem_append_right _ (List.mem_append_left _ (List.mem_of_getElem? h))))) hg
theorem mj_w5 {w : Cond} (i : Nat) (h : tables_1_5[i]? = some w) (hg : mj_gw w = true) : w ∈ mj_Tw := mj_wt (List.mem_append_right _ (List.mem_append_right _ (List.mem_append_right _ (List.mem_append_right _ (List.mem_append_left _ (List.mem_of_getElem? h)))))) hg
theorem mj_w6 {w : Cond} (i : Nat) (h : tables_1_6[i]? = some w) (hg : mj_gw w = true) : w ∈ mj_Tw := mj_wt (List.mem_append_right _ (List.mem_append_right _ (List.mem_append_right _ (List.mem_append_right _ (List.mem_append_right _ (List.mem_append_left _ (List.mem_of_getElem? h))))))) hg
theorem mj_w7 {w : Cond} (i : Nat) (h : tables_1_7[i]? = some w) (hg : mj_gw w = true) : w ∈ mj_Tw := mj_wt (List.mem_append_right _ (List.mem_append_right _ (List.mem_append_right _ (List.mem_append_right _ (List.mem_append_right _ (List.mem_append_right _ (List.mem_append_left _ (List.mem_of_getElem? h)))))))) hg
theorem mj_w8 {w : Cond} (i : Nat) (h : tables_1_8[i]? = some w) (hg : mj_gw w = true) : w ∈ mj_Tw := mj_wt (List.mem_append_right _ (List.mem_append_right _ (List.mem_append_right _ (List.mem_append_right _ (List.mem_append_right _ (List.mem_append_right _ (List.mem_append_right _ (List.mem_append_left _ (List.mem_of_getElem? h))))))))) hg
theorem mj_w9 {w : Cond} (i : Nat) (h : tables_1_9[i]? = some w) (hg : mj_gw w = true) : w ∈ mj_Tw := mj_wt (List.mem_append_right _ (List.mem_append_right _ (List.mem_append_right _ (List.mem_append_right _ (List.mem_append_right _ (List.mem_append_right _ (List.mem_append_right _ (List.mem_append_right _ (List.mem_append_left _ (List.mem_of_getElem? h)))))))))) hg
theorem mj_w10 {w : Cond} (i : Nat) (h : tables_1_10[i]? = some w) (hg : mj_gw w = true) : w ∈ mj_Tw := mj_wt (List.mem_append_right _ (List.mem_append_right _ (List.mem_append_right _ (List.mem_append_right _ (List.mem_append_right _ (List.mem_append_right _ (List.mem_append_right _ (List.mem_append_right _ (List.mem_append_right _ (List.mem_append_left _ (List.mem_of_getElem? h))))))))))) hg
theorem mj_w11 {w : Cond} (i : Nat) (h : tables_1_11[i]? = some w) (hg : mj_gw w = true) : w ∈ mj_Tw := mj_wt (List.mem_append_right _ (List.mem_append_right _ (List.mem_append_right _ (List.mem_append_right _ (List.mem_append_right _ (List.mem_append_right _ (List.mem_append_right _ (List.mem_append_right _ (List.mem_append_right _ (List.mem_append_right _ (List.mem_append_left _ (List.mem_of_getElem? h)))))))))))) hg
theorem mj_w12 {w : Cond} (i : Nat) (h : tables_1_12[i]? = some w) (hg : mj_gw w = true) : w ∈ mj_Tw := mj_wt (List.mem_append_right _ (List.mem_append_right _ (List.mem_append_right _ (List.mem_append_right _ (List.mem_append_right _ (List.mem_append_right _ (List.mem_append_right _ (List.mem_append_right _ (List.mem_append_right _ (List.mem_append_right _ (List.mem_append_right _ (List.mem_of_getElem? h)))))))))))) hg
theorem mj_Tw_gw : ∀ w ∈ mj_Tw, mj_gw w = true := fun w hw => (List.mem_filter.mp hw).2
/-- a row: the method as the kit has it, its handlers, its code in pieces of 32 bytes -/
abbrev mj_Mx : Type := MethodName × ByteArray × Nat × Option FieldType × List (Nat × Nat × Nat × Nat)
abbrev mj_Row : Type := mj_Mx × List (Nat × Nat × Nat × Nat) × List (List (Nat × mj_E))
def mj_gt (pc : Nat) : List (Nat × mj_E) → Option mj_E
  | [] => none
  | x :: r => bif Nat.beq x.1 pc then some x.2 else mj_gt pc r
def mj_get (l : List (List (Nat × mj_E))) (pc : Nat) : Option mj_E := match l[pc / 32]? with
  | some ch => mj_gt pc ch
  | none => none
theorem mj_gt_of {pc : Nat} {E : mj_E} : ∀ l : List (Nat × mj_E), mj_gt pc l = some E → (pc, E) ∈ l
  | [], h => by cases h
  | x :: r, h => by
    unfold mj_gt at h
    cases hb : Nat.beq x.1 pc with
    | true =>
      rw [hb] at h
      cases h
      rw [show pc = x.1 from (Nat.eq_of_beq_eq_true hb).symm]
      exact List.mem_cons_self
    | false =>
      rw [hb] at h
      exact List.mem_cons_of_mem _ (mj_gt_of r h)
theorem mj_get_of {l : List (List (Nat × mj_E))} {pc : Nat} {E : mj_E} (h : mj_get l pc = some E) : (pc, E) ∈ l.flatten := by
  unfold mj_get at h
  split at h
  · rename_i ch hc
    exact List.mem_flatten.mpr ⟨ch, List.mem_of_getElem? hc, mj_gt_of ch h⟩
  · cases h
def mj_rD : mj_Row := ((⟨"", "", ""⟩, .empty, 0, none, []), [], [])
def mj_rwOf (tab : List (List mj_Row)) (mi : Nat) : mj_Row := match tab[mi / 16]? with
  | some ch => match ch[mi % 16]? with
    | some r => r
    | none => mj_rD
  | none => mj_rD
def mj_okRb (rt : Option FieldType) (E : mj_E) : Bool := match E.1 with
  | .ireturn => (decide (E.2.1 = 0) && decide (rt = some .int)) || (decide (E.2.1 = 1) && decide (rt = some .boolean)) || (decide (E.2.1 = 2) && decide (rt = some .char)) || (decide (E.2.1 = 3) && decide (rt = some .byte))
  | .lreturn => decide (rt = some .long)
  | .freturn => decide (rt = some .float)
  | .dreturn => decide (rt = some .double)
  | .areturn => match rt with
    | some (.object _) => true
    | some (.array _) => true
    | _ => false
  | .return_ => match rt with
    | none => true
    | _ => false
  | _ => true
theorem mj_okRb_ok {rt : Option FieldType} {E : mj_E} (h : mj_okRb rt E = true) : mj_okR rt E := by
  unfold mj_okRb at h
  unfold mj_okR
  obtain ⟨ins, e2⟩ := E
  cases ins with
  | ireturn =>
    dsimp only at h ⊢
    simp only [Bool.or_eq_true, Bool.and_eq_true, decide_eq_true_eq] at h
    rcases h with ((h | h) | h) | h
    · exact Or.inl h
    · exact Or.inr (Or.inl h)
    · exact Or.inr (Or.inr (Or.inl h))
    · exact Or.inr (Or.inr (Or.inr h))
  | lreturn => exact of_decide_eq_true h
  | freturn => exact of_decide_eq_true h
  | dreturn => exact of_decide_eq_true h
  | areturn =>
    dsimp only at h ⊢
    split at h
    · exact Or.inl ⟨_, rfl⟩
    · exact Or.inr ⟨_, rfl⟩
    · cases h
  | return_ =>
    dsimp only at h ⊢
    split at h
    · rfl
    · cases h
  | _ => trivial
/-- an instruction that needs no word -/
def mj_pl (i : Instr) : Bool := match i with
  | .getfield _ | .putfield _ | .newarray _ | .anewarray _ | .new _ | .checkcast _ | .ldc _ | .ldc_w _ | .ldc2_w _ | .getstatic _ | .invokevirtual _ | .invokespecial _ | .invokestatic _ | .invokeinterface _ _ => false
  | _ => true
def mj_sw (i : Instr) : Bool := match i with
  | .tableswitch _ _ _ _ | .lookupswitch _ _ => true
  | _ => false
def mj_ck1 (bytes : ByteArray) (rt : Option FieldType) (x : Nat × mj_E) : Bool := (match decode bytes x.1 with
  | .ok (i, n) => decide (i = x.2.1) && (Nat.beq n (mj_len i) || mj_sw i)
  | _ => false) && mj_okP x.2 x.1 && mj_okRb rt x.2
def mj_ckM (r : mj_Row) : Bool := r.2.2.all fun ch => ch.all fun x => mj_ck1 r.1.2.1 r.1.2.2.2.1 x
theorem mj_ck1_ok {bytes : ByteArray} {rt : Option FieldType} {pc : Nat} {E : mj_E} (h : mj_ck1 bytes rt (pc, E) = true) : mj_dec bytes pc E ∧ mj_okP E pc = true ∧ mj_okR rt E := by
  unfold mj_ck1 at h
  rw [Bool.and_eq_true, Bool.and_eq_true] at h
  obtain ⟨⟨h1, h2⟩, h3⟩ := h
  refine ⟨?_, h2, mj_okRb_ok h3⟩
  split at h1
  · rename_i i n hd
    dsimp only at hd h1
    rw [Bool.and_eq_true, Bool.or_eq_true] at h1
    obtain ⟨h4, h5⟩ := h1
    have h4 := of_decide_eq_true h4
    subst h4
    rcases h5 with h5 | h5
    · left
      rw [hd, Nat.eq_of_beq_eq_true h5]
    · right
      refine ⟨⟨n, hd⟩, ?_⟩
      obtain ⟨ins, e2⟩ := E
      cases ins with
      | tableswitch d lo hi o => exact Or.inl ⟨_, _, _, _, rfl⟩
      | lookupswitch d o => exact Or.inr ⟨_, _, rfl⟩
      | _ => cases h5
  · cases h1
/-- what words must say of a place -/
def mj_okW (Ts : List Cond) (M : mj_M) (x : mj_Mx) (pc : Nat) (E : mj_E) : Prop :=
  (mj_mk E = false → mj_okH Ts x.1.cls (x.1.name = "<init>") E) ∧ mj_okT Ts x.1.cls x.2.1 x.2.2.2.2 pc E ∧ (mj_isI E.1 = true → if 9000 ≤ E.2.1 then mj_okN Ts x.1.cls E else mj_okC Ts x.1.cls M E)
theorem mj_okW_pl {Ts : List Cond} {M : mj_M} {x : mj_Mx} {pc : Nat} {E : mj_E} (h : mj_pl E.1 = true) : mj_okW Ts M x pc E := by
  obtain ⟨ins, e2⟩ := E
  cases ins with
  | getfield => cases h
  | putfield => cases h
  | newarray => cases h
  | anewarray => cases h
  | new => cases h
  | checkcast => cases h
  | ldc => cases h
  | ldc_w => cases h
  | ldc2_w => cases h
  | getstatic => cases h
  | invokevirtual => cases h
  | invokespecial => cases h
  | invokestatic => cases h
  | invokeinterface => cases h
  | _ => exact ⟨fun _ => trivial, trivial, fun h => by cases h⟩
/-- the places of a row that need words -/
def mj_wl (r : mj_Row) : List (Nat × mj_E) := r.2.2.flatten.filter fun x => !mj_pl x.2.1
def mj_okRow (Ts : List Cond) (M : mj_M) (r : mj_Row) : Prop :=
  mj_ckM r = true ∧ plainName r.1.1.cls = true ∧ Cond.initialized r.1.1.cls ∈ Ts ∧ r.1.2.2.1 ≤ 45 ∧ ((mj_cw Ts r.1 ∧ r.1.2.2.2.2 = [] ∧ r.2.1 = []) ∨ (mj_cwW Ts r.1 ∧ mj_hrel Ts r.1.1.cls r.1.2.2.2.2 r.2.1)) ∧ ∀ x ∈ mj_wl r, mj_okW Ts M r.1 x.1 x.2
theorem mj_row_ok {Ts : List Cond} {M : mj_M} {G : mj_G} {mi pc : Nat} {E : mj_E} {r : mj_Row} (h : mj_okRow Ts M r) (hM : M mi = r.1) (hG1 : G.1 mi = mj_get r.2.2) (hG2 : G.2.1 mi = r.1.2.2.1) (hG3 : G.2.2 mi = r.2.1) (hE : G.1 mi pc = some E) :
    plainName (M mi).1.cls = true ∧ Cond.initialized (M mi).1.cls ∈ Ts ∧ (M mi).2.2.1 = G.2.1 mi ∧ G.2.1 mi ≤ 45 ∧
    ((mj_cw Ts (M mi) ∧ (M mi).2.2.2.2 = [] ∧ G.2.2 mi = []) ∨ (mj_cwW Ts (M mi) ∧ mj_hrel Ts (M mi).1.cls (M mi).2.2.2.2 (G.2.2 mi))) ∧ mj_okE Ts M mi pc E := by
  obtain ⟨h1, h2, h3, h4, h5, h6⟩ := h
  rw [hG1] at hE
  unfold mj_okE
  rw [hM, hG2, hG3]
  have hm := mj_get_of hE
  obtain ⟨ch, hc1, hc2⟩ := List.mem_flatten.mp hm
  obtain ⟨k1, k2, k3⟩ := mj_ck1_ok (List.all_eq_true.mp (List.all_eq_true.mp h1 ch hc1) _ hc2)
  refine ⟨h2, h3, rfl, h4, h5, k1, k2, ?_⟩
  have hw : mj_okW Ts M r.1 pc E := by
    cases hp : mj_pl E.1 with
    | true => exact mj_okW_pl hp
    | false => exact h6 (pc, E) (List.mem_filter.mpr ⟨hm, by rw [hp]; rfl⟩)
  exact ⟨hw.1, k3, hw.2.1, hw.2.2⟩
theorem mj_ac {α : Type} {P : α → Prop} {x : α} {l : List α} (h1 : P x) (h2 : ∀ y ∈ l, P y) : ∀ y ∈ x :: l, P y := List.forall_mem_cons.mpr ⟨h1, h2⟩
theorem mj_an {α : Type} {P : α → Prop} : ∀ y ∈ ([] : List α), P y := fun _ h => absurd h List.not_mem_nil
theorem mj_wlE {Ts : List Cond} {M : mj_M} {r : mj_Row} {L : List (Nat × mj_E)} (h : mj_wl r = L) (hp : ∀ x ∈ L, mj_okW Ts M r.1 x.1 x.2) : ∀ x ∈ mj_wl r, mj_okW Ts M r.1 x.1 x.2 := by rw [h]; exact hp
theorem mj_dfl_ok (c : Nat) : ∀ v ∈ mj_dfl[c]?.getD [], ∀ ρ, mj_tv ρ v = v := by
  intro v hv ρ
  have h : ∀ l ∈ mj_dfl, ∀ v ∈ l, (match v with | .ref _ => false | .retAddr _ => false | _ => true) = true := by decide +kernel
  cases hq : mj_dfl[c]? with
  | none => rw [hq] at hv; exact absurd hv List.not_mem_nil
  | some l =>
    rw [hq] at hv
    have h1 := h l (List.mem_of_getElem? hq) v hv
    cases v <;> first | rfl | cases h1
theorem mj_cast {a b : String} {Ts : List Cond} {own : String} {idx : Nat} (h : a = b) (hw : Cond.classLink own idx b ∈ Ts) : Cond.classLink own idx a ∈ Ts := by rw [h]; exact hw
section MJE
variable {Ts : List Cond} {M : mj_M} {x z : mj_Mx} {pc idx k n ci e3 : Nat} {r : vw_C}
theorem mj_e_gf (ref : String) (hc : mj_cls[ci]? = some r) (hk : k < r.2.2) (hu : ∀ w ∈ u_ws r.1 r.2.1 r.2.2, w ∈ Ts) (hl : mj_lnk Ts x.1.cls idx ref (r.2.1 k).2.1 (r.2.1 k).2.2.1) (hs : ref = (r.2.1 k).1 ∨ Cond.sameField ref (r.2.1 k).1 (r.2.1 k).2.1 (r.2.1 k).2.2.1 ∈ Ts) : mj_okW Ts M x pc (.getfield idx, k, ci, e3) :=
  ⟨fun _ => ⟨r, ref, hc, hk, hu, hl, hs⟩, trivial, fun h => by cases h⟩
theorem mj_e_pf (ref : String) (hc : mj_cls[ci]? = some r) (hk : k < r.2.2) (hu : ∀ w ∈ u_ws r.1 r.2.1 r.2.2, w ∈ Ts) (hl : mj_lnk Ts x.1.cls idx ref (r.2.1 k).2.1 (r.2.1 k).2.2.1) (hs : ref = (r.2.1 k).1 ∨ Cond.sameField ref (r.2.1 k).1 (r.2.1 k).2.1 (r.2.1 k).2.2.1 ∈ Ts)
    (hp : ∀ k, k < r.2.2 → parseFieldDescriptor (r.2.1 k).2.2.1 = some (mj_cty ci k)) (hd : ∀ a, a < r.2.2 → ∀ b, b < r.2.2 → a ≠ b → (r.2.1 a).2.1 ≠ (r.2.1 b).2.1)
    (hf : (r.2.1 k).2.2.2 = false ∨ ((r.2.1 k).2.2.2 = true ∧ x.1.name = "<init>" ∧ (r.2.1 k).1 = x.1.cls ∧ Cond.fieldLink x.1.cls idx ref (r.2.1 k).2.1 (r.2.1 k).2.2.1 ∈ Ts)) : mj_okW Ts M x pc (.putfield idx, k, ci, e3) :=
  ⟨fun _ => ⟨r, ref, ⟨hc, hk, hu, hl, hs⟩, hp, hd, hf⟩, trivial, fun h => by cases h⟩
theorem mj_e_na {a : ArrayType} (h1 : mj_tyl[k]? = some (newarray.typeOf a)) (h2 : k < 6) (h3 : Cond.arrayClass (newarray.typeOf a) ∈ Ts) : mj_okW Ts M x pc (.newarray a, k, n, e3) := ⟨fun _ => ⟨h1, h2, h3⟩, trivial, fun h => by cases h⟩
theorem mj_e_nq (C : String) (h1 : mj_tyl[k]? = some (.object C)) (h2 : 6 ≤ k ∧ k < 10) (h3 : Cond.classLink x.1.cls idx C ∈ Ts) (h4 : Cond.arrayOver (.object C) ∈ Ts) : mj_okW Ts M x pc (.anewarray idx, k, n, e3) := ⟨fun _ => ⟨C, h1, h2, h3, h4⟩, trivial, fun h => by cases h⟩
/-- what is known of a class whose objects are made -/
def mj_nwc (Ts : List Cond) (ci : Nat) (r : vw_C) : Prop := mj_cls[ci]? = some r ∧ ∃ fs, mj_dfl[ci]? = some fs ∧ mj_csl[ci]? = some r.2.2 ∧ (∀ w ∈ u_ws r.1 r.2.1 r.2.2, w ∈ Ts) ∧ (∀ k, k < r.2.2 → parseFieldDescriptor (r.2.1 k).2.2.1 = some (mj_cty ci k)) ∧ Cond.instantiable r.1 r.2.2 ∈ Ts ∧ Cond.initialized r.1 ∈ Ts ∧ (∀ j, j < r.2.2 → defaultValue (mj_cty ci j) = vp_V fs j) ∧ (∀ v ∈ fs, ∀ ρ, mj_tv ρ v = v)
theorem mj_e_new (h : mj_nwc Ts ci r) (hw : Cond.classLink x.1.cls idx r.1 ∈ Ts) : mj_okW Ts M x pc (.new idx, ci, n, 0) := by
  obtain ⟨h1, fs, h2, h3, h4, h5, h6, h7, h8, h9⟩ := h
  exact ⟨fun _ => ⟨r, fs, h1, h2, h3, h4, h5, hw, h6, h7, h8, h9⟩, ⟨fun q => absurd q (Nat.not_lt_zero _), fun q => absurd q (by decide : ¬ (0 : Nat) = 1)⟩, fun h => by cases h⟩
theorem mj_e_cc0 (h1 : mj_cls[ci]? = some r) (h2 : Cond.classLink x.1.cls idx r.1 ∈ Ts) : mj_okW Ts M x pc (.checkcast idx, ci, 0, e3) := ⟨fun _ => Or.inl ⟨rfl, r, h1, h2⟩, trivial, fun h => by cases h⟩
theorem mj_e_cc1 {ty : FieldType} (h1 : mj_tyl[k]? = some ty) (h2 : n ≠ 0) (h3 : Cond.classLink x.1.cls idx ("[" ++ ty.toString) ∈ Ts) : mj_okW Ts M x pc (.checkcast idx, k, n, e3) := ⟨fun _ => Or.inr ⟨h2, ty, h1, h3⟩, trivial, fun h => by cases h⟩
theorem mj_e_l0 (h : Cond.constant x.1.cls idx (nI n) ∈ Ts) : mj_okW Ts M x pc (.ldc idx, 0, n, e3) := ⟨fun _ => Or.inl ⟨rfl, h⟩, trivial, fun h => by cases h⟩
theorem mj_e_l1 (q : String × Nat × Nat × String) (h : q ∈ mj_str) (h1 : q.1 = x.1.cls) (h2 : q.2.1 = idx) (h3 : n = 300 + 2 * q.2.2.1) : mj_okW Ts M x pc (.ldc idx, 1, n, e3) := ⟨fun _ => Or.inr (Or.inl ⟨rfl, q, h, h1, h2, h3⟩), trivial, fun h => by cases h⟩
theorem mj_e_l2 (h : Cond.classLink x.1.cls idx "[Ljava/lang/Object;" ∈ Ts) : mj_okW Ts M x pc (.ldc idx, 2, n, e3) := ⟨fun _ => Or.inr (Or.inr (Or.inl ⟨rfl, h⟩)), trivial, fun h => by cases h⟩
theorem mj_e_l3 (h : Cond.constantFloat x.1.cls idx (UInt32.ofNat n) ∈ Ts) : mj_okW Ts M x pc (.ldc idx, 3, n, e3) := ⟨fun _ => Or.inr (Or.inr (Or.inr ⟨rfl, h⟩)), trivial, fun h => by cases h⟩
theorem mj_e_lw (h : Cond.constant x.1.cls idx (nI n) ∈ Ts) : mj_okW Ts M x pc (.ldc_w idx, 0, n, e3) := ⟨fun _ => Or.inl ⟨rfl, h⟩, trivial, fun h => by cases h⟩
theorem mj_e_lf (h : Cond.constantFloat x.1.cls idx (UInt32.ofNat n) ∈ Ts) : mj_okW Ts M x pc (.ldc_w idx, 3, n, e3) := ⟨fun _ => Or.inr ⟨rfl, h⟩, trivial, fun h => by cases h⟩
theorem mj_e_l4 (h : Cond.constantLong x.1.cls idx (lN k) ∈ Ts) : mj_okW Ts M x pc (.ldc2_w idx, k, n, e3) := ⟨fun _ => h, trivial, fun h => by cases h⟩
theorem mj_e_gs {q : String × String × String} (h1 : mj_stn[k]? = some q) (h2 : Cond.fieldLink x.1.cls idx q.1 q.2.1 q.2.2 ∈ Ts) : mj_okW Ts M x pc (.getstatic idx, k, n, e3) := ⟨fun _ => ⟨q, q.1, h1, h2, rfl⟩, trivial, fun h => by cases h⟩
theorem mj_e_ac (h1 : Cond.methodLink x.1.cls idx arraycopyName ∈ Ts) (h2 : Cond.native arraycopyName ∈ Ts) (h3 : Cond.static arraycopyName ∈ Ts) (h4 : Cond.initialized "java/lang/System" ∈ Ts) : mj_okW Ts M x pc (.invokestatic idx, 9000, 5, e3) :=
  ⟨fun _ => trivial, trivial, fun _ => by rw [if_pos (show 9000 ≤ 9000 by decide)]; exact Or.inl ⟨rfl, rfl, h1, h2, h3, h4⟩⟩
theorem mj_e_gc (h1 : Cond.methodLink x.1.cls idx ⟨"java/lang/Object", "getClass", "()Ljava/lang/Class;"⟩ ∈ Ts) (h2 : Cond.selects "[Ljava/lang/Object;" ⟨"java/lang/Object", "getClass", "()Ljava/lang/Class;"⟩ ⟨"java/lang/Object", "getClass", "()Ljava/lang/Class;"⟩ ∈ Ts) (h3 : Cond.instanceMethod ⟨"java/lang/Object", "getClass", "()Ljava/lang/Class;"⟩ ∈ Ts) (h4 : Cond.native ⟨"java/lang/Object", "getClass", "()Ljava/lang/Class;"⟩ ∈ Ts) : mj_okW Ts M x pc (.invokevirtual idx, 9001, 1, e3) :=
  ⟨fun _ => trivial, trivial, fun _ => by rw [if_pos (show 9000 ≤ 9001 by decide)]; exact ⟨rfl, Or.inl ⟨rfl, h1, h2, h3, h4⟩⟩⟩
theorem mj_e_cl (h1 : Cond.methodLink x.1.cls idx ⟨"[B", "clone", "()Ljava/lang/Object;"⟩ ∈ Ts) (h2 : Cond.sameMethod "[B" "java/lang/Object" "clone" "()Ljava/lang/Object;" ∈ Ts) (h3 : Cond.native ⟨"java/lang/Object", "clone", "()Ljava/lang/Object;"⟩ ∈ Ts) (h4 : Cond.instanceMethod ⟨"java/lang/Object", "clone", "()Ljava/lang/Object;"⟩ ∈ Ts) (h5 : Cond.selects "[B" ⟨"[B", "clone", "()Ljava/lang/Object;"⟩ ⟨"java/lang/Object", "clone", "()Ljava/lang/Object;"⟩ ∈ Ts) (h6 : Cond.castable "[B" "java/lang/Cloneable" ∈ Ts) : mj_okW Ts M x pc (.invokevirtual idx, 9002, 1, e3) :=
  ⟨fun _ => trivial, trivial, fun _ => by rw [if_pos (show 9000 ≤ 9002 by decide)]; exact ⟨rfl, Or.inr ⟨rfl, h1, h2, h3, h4, h5, h6⟩⟩⟩
theorem mj_e_ob (h1 : Cond.methodLink x.1.cls idx Lib.objectInit ∈ Ts) (h2 : Cond.instanceMethod Lib.objectInit ∈ Ts) (h3 : Cond.code Lib.objectInit ⟨#[0xb1]⟩ 1 none ∈ Ts) : mj_okW Ts M x pc (.invokespecial idx, 9003, 1, e3) :=
  ⟨fun _ => trivial, trivial, fun _ => by rw [if_pos (show 9000 ≤ 9003 by decide)]; exact ⟨rfl, rfl, h1, h2, h3⟩⟩
theorem mj_e_mx (h1 : Cond.methodLink x.1.cls idx Lib.Math.max.name ∈ Ts) (h2 : Cond.static Lib.Math.max.name ∈ Ts) (h3 : Cond.initialized "java/lang/Math" ∈ Ts) (h4 : Cond.code Lib.Math.max.name Lib.Math.max.code 2 (some .int) ∈ Ts) : mj_okW Ts M x pc (.invokestatic idx, 9004, 2, e3) :=
  ⟨fun _ => trivial, trivial, fun _ => by rw [if_pos (show 9000 ≤ 9004 by decide)]; exact Or.inr (Or.inl ⟨rfl, rfl, h1, h2, h3, h4⟩)⟩
theorem mj_e_mi (h1 : Cond.methodLink x.1.cls idx Lib.Math.min.name ∈ Ts) (h2 : Cond.static Lib.Math.min.name ∈ Ts) (h3 : Cond.initialized "java/lang/Math" ∈ Ts) (h4 : Cond.code Lib.Math.min.name Lib.Math.min.code 2 (some .int) ∈ Ts) : mj_okW Ts M x pc (.invokestatic idx, 9005, 2, e3) :=
  ⟨fun _ => trivial, trivial, fun _ => by rw [if_pos (show 9000 ≤ 9005 by decide)]; exact Or.inr (Or.inr ⟨rfl, rfl, h1, h2, h3, h4⟩)⟩
theorem mj_e_C {E : mj_E} (h9 : E.2.1 < 9000) (hm : mj_mk E = false → mj_okH Ts x.1.cls (x.1.name = "<init>") E) (hT : mj_okT Ts x.1.cls x.2.1 x.2.2.2.2 pc E) (h : mj_okC Ts x.1.cls M E) : mj_okW Ts M x pc E := ⟨hm, hT, fun _ => by rw [if_neg (by omega)]; exact h⟩
theorem mj_e_st (hM : M k = z ∧ k < 9000) (h1 : mj_noMH z.1) (h2 : mj_np z.1 n) (h3 : Cond.static z.1 ∈ Ts) (h4 : Cond.initialized z.1.cls ∈ Ts) (h5 : mj_cw Ts z) (h6 : Cond.methodLink x.1.cls idx z.1 ∈ Ts) : mj_okW Ts M x pc (.invokestatic idx, k, n, 0) := by
  obtain ⟨rfl, h9⟩ := hM
  exact mj_e_C h9 (fun _ => trivial) trivial ⟨h1, rfl, h2, h3, h4, Or.inr ⟨h5, Or.inl h6⟩⟩
theorem mj_e_stN (host : String) (hM : M k = z ∧ k < 9000) (h1 : mj_noMH z.1) (h2 : mj_np z.1 n) (h3 : Cond.static z.1 ∈ Ts) (h4 : Cond.initialized z.1.cls ∈ Ts) (h5 : mj_cw Ts z) (h6 : Cond.methodLinkNest x.1.cls idx z.1 host ∈ Ts) : mj_okW Ts M x pc (.invokestatic idx, k, n, 0) := by
  obtain ⟨rfl, h9⟩ := hM
  exact mj_e_C h9 (fun _ => trivial) trivial ⟨h1, rfl, h2, h3, h4, Or.inr ⟨h5, Or.inr ⟨host, h6⟩⟩⟩
theorem mj_e_stW (hM : M k = z ∧ k < 9000) (h1 : mj_noMH z.1) (h2 : mj_np z.1 n) (h3 : Cond.static z.1 ∈ Ts) (h4 : Cond.initialized z.1.cls ∈ Ts) (h5 : mj_cwW Ts z) (h6 : Cond.methodLink x.1.cls idx z.1 ∈ Ts) : mj_okW Ts M x pc (.invokestatic idx, k, n, 0) := by
  obtain ⟨rfl, h9⟩ := hM
  exact mj_e_C h9 (fun _ => trivial) trivial ⟨h1, rfl, h2, h3, h4, Or.inl ⟨h5, h6⟩⟩
theorem mj_e_in (hM : M k = z ∧ k < 9000) (h1 : mj_noMH z.1) (h2 : mj_np z.1 n) (h3 : Cond.instanceMethod z.1 ∈ Ts) (h5 : mj_cw Ts z) (h7 : z.1.name = "<init>") (h8 : z.2.2.2.1 = none) (h6 : Cond.methodLink x.1.cls idx z.1 ∈ Ts) : mj_okW Ts M x pc (.invokespecial idx, k, n + 1, ci + 1) := by
  obtain ⟨rfl, h9⟩ := hM
  exact mj_e_C h9 (fun _ => trivial) trivial ⟨h1, ci, rfl, n, rfl, h2, h3, h5, Or.inl ⟨h7, h8, Or.inl h6⟩⟩
theorem mj_e_inN (host : String) (hM : M k = z ∧ k < 9000) (h1 : mj_noMH z.1) (h2 : mj_np z.1 n) (h3 : Cond.instanceMethod z.1 ∈ Ts) (h5 : mj_cw Ts z) (h7 : z.1.name = "<init>") (h8 : z.2.2.2.1 = none) (h6 : Cond.methodLinkNest x.1.cls idx z.1 host ∈ Ts) : mj_okW Ts M x pc (.invokespecial idx, k, n + 1, ci + 1) := by
  obtain ⟨rfl, h9⟩ := hM
  exact mj_e_C h9 (fun _ => trivial) trivial ⟨h1, ci, rfl, n, rfl, h2, h3, h5, Or.inl ⟨h7, h8, Or.inr ⟨host, h6⟩⟩⟩
theorem mj_e_su (hM : M k = z ∧ k < 9000) (h1 : mj_noMH z.1) (h2 : mj_np z.1 n) (h3 : Cond.instanceMethod z.1 ∈ Ts) (h5 : mj_cw Ts z) (h7 : z.1.name ≠ "<init>") (h6 : Cond.methodLink x.1.cls idx z.1 ∈ Ts) (h8 : Cond.sameMethod z.1.cls z.1.cls z.1.name z.1.desc ∈ Ts) (h10 : Cond.superclass x.1.cls z.1.cls ∈ Ts) : mj_okW Ts M x pc (.invokespecial idx, k, n + 1, ci + 1) := by
  obtain ⟨rfl, h9⟩ := hM
  exact mj_e_C h9 (fun _ => trivial) trivial ⟨h1, ci, rfl, n, rfl, h2, h3, h5, Or.inr ⟨h7, h6, h8, h10⟩⟩
theorem mj_e_vi (hM : M k = z ∧ k < 9000) (h1 : mj_noMH z.1) (h2 : mj_np z.1 n) (h3 : Cond.instanceMethod z.1 ∈ Ts) (hr : mj_cls[ci]? = some r) (h4 : Cond.selects r.1 z.1 z.1 ∈ Ts) (h6 : Cond.methodLink x.1.cls idx z.1 ∈ Ts) (h5 : mj_cw Ts z) : mj_okW Ts M x pc (.invokevirtual idx, k, n + 1, ci + 1) := by
  obtain ⟨rfl, h9⟩ := hM
  exact mj_e_C h9 (fun _ => trivial) trivial ⟨h1, ci, rfl, n, rfl, h3, Or.inl ⟨h2, fun r' hr' => by cases hr.symm.trans hr'; exact h4, h6, Or.inl h5⟩⟩
theorem mj_e_viW (hM : M k = z ∧ k < 9000) (h1 : mj_noMH z.1) (h2 : mj_np z.1 n) (h3 : Cond.instanceMethod z.1 ∈ Ts) (hr : mj_cls[ci]? = some r) (h4 : Cond.selects r.1 z.1 z.1 ∈ Ts) (h6 : Cond.methodLink x.1.cls idx z.1 ∈ Ts) (h5 : mj_cwW Ts z) : mj_okW Ts M x pc (.invokevirtual idx, k, n + 1, ci + 1) := by
  obtain ⟨rfl, h9⟩ := hM
  exact mj_e_C h9 (fun _ => trivial) trivial ⟨h1, ci, rfl, n, rfl, h3, Or.inl ⟨h2, fun r' hr' => by cases hr.symm.trans hr'; exact h4, h6, Or.inr h5⟩⟩
theorem mj_e_vu {u : mj_Mx} {x0 : MethodName} {owner : String} (hM : M k = z ∧ k < 9000) (h1 : mj_noMH z.1) (h5 : mj_cw Ts z) (h3 : Cond.instanceMethod z.1 ∈ Ts) (hr : mj_cls[ci]? = some r) (h2 : mj_np x0 n) (hn : owner ≠ "java/lang/invoke/MethodHandle" ∧ owner ≠ "java/lang/invoke/VarHandle") (h6 : Cond.methodLink x.1.cls idx x0 ∈ Ts) (h7 : Cond.sameMethod x0.cls owner x0.name x0.desc ∈ Ts) (h8 : Cond.instanceMethod ⟨owner, x0.name, x0.desc⟩ ∈ Ts) (h10 : mj_cw Ts u) (hu : u.1 = ⟨owner, x0.name, x0.desc⟩) (h4 : Cond.selects r.1 x0 z.1 ∈ Ts) : mj_okW Ts M x pc (.invokevirtual idx, k, n + 1, ci + 1) := by
  obtain ⟨rfl, h9⟩ := hM
  refine mj_e_C h9 (fun _ => trivial) trivial ⟨h1, ci, rfl, n, rfl, h3, Or.inr ⟨h5, x0, owner, u.2.1, u.2.2.1, u.2.2.2.1, h2, hn, h6, h7, h8, ?_, fun r' hr' => by cases hr.symm.trans hr'; exact h4⟩⟩
  rw [← hu]
  exact h10
theorem mj_e_if {cnt : Nat} {x0 : MethodName} (hM : M k = z ∧ k < 9000) (h1 : mj_noMH z.1) (h5 : mj_cw Ts z) (hr : mj_cls[ci]? = some r) (h2 : mj_np x0 n) (hn : mj_noMH x0) (h3 : Cond.instanceMethod z.1 ∈ Ts) (h4 : Cond.publicMethod z.1 ∈ Ts) (h6 : Cond.methodLink x.1.cls idx x0 ∈ Ts) (h7 : Cond.declares x0 ∈ Ts) (h8 : Cond.interfaceMethod x0.cls x0.cls x0.name x0.desc ∈ Ts)
    (h10 : Cond.selects r.1 x0 z.1 ∈ Ts) (h11 : Cond.unhidden r.1 x0.name x0.desc ∈ Ts) (h12 : Cond.castable r.1 x0.cls ∈ Ts) : mj_okW Ts M x pc (.invokeinterface idx cnt, k, n + 1, ci + 1) := by
  obtain ⟨rfl, h9⟩ := hM
  exact mj_e_C h9 (fun _ => trivial) trivial ⟨h1, ci, rfl, n, rfl, h3, h5, h4, x0, h2, hn, h6, h7, h8, fun r' hr' => by cases hr.symm.trans hr'; exact ⟨h10, h11, h12⟩⟩
/-- the words of throws of a class but the link at the place -/
def mj_thl (X : String) (ix : Nat) (rx : ByteArray) (names : List String) : List Cond := (Bundle.throwableAtoms ++ Bundle.throwableSAtoms ++ Bundle.chainSAtomsX X ix rx names ++
  [Cond.instantiable X 6, Cond.castable X X, Cond.selects X Bundle.tFill0 Bundle.tFill0, Cond.selects X Bundle.tFill Bundle.tFill,
   Cond.lays X Bundle.tN "cause" "Ljava/lang/Throwable;", Cond.lays X Bundle.tN "stackTrace" Bundle.steD, Cond.lays X Bundle.tN "suppressedExceptions" Bundle.listD, Cond.lays X Bundle.tN "detailMessage" "Ljava/lang/String;",
   Cond.isRef (.static Bundle.tN "UNASSIGNED_STACK" Bundle.steD), Cond.isRef (.static Bundle.tN "SUPPRESSED_SENTINEL" Bundle.listD),
   Cond.fieldLink Bundle.tN 198 Bundle.tN "backtrace" "Ljava/lang/Object;", Cond.lays Bundle.tN Bundle.tN "backtrace" "Ljava/lang/Object;", Cond.lays X Bundle.tN "backtrace" "Ljava/lang/Object;"]).filter mx_no
theorem mj_thl_in {P : Cond → Prop} {own X : String} {ic ix : Nat} {rx : ByteArray} {names : List String} (h : ∀ w ∈ mj_thl X ix rx names, P w) (hl : P (Cond.methodLink own ic (Bundle.initS X))) : ∀ w ∈ mx_atX own ic X ix rx names, P w := by
  intro w hw
  unfold mx_atX Bundle.ownAtomsX at hw
  unfold mj_thl at h
  obtain ⟨h1, h2⟩ := List.mem_filter.mp hw
  rcases List.mem_append.mp h1 with h1 | h1
  · exact h w (List.mem_filter.mpr ⟨List.mem_append_left _ h1, h2⟩)
  · rcases List.mem_cons.mp h1 with h1 | h1
    · rw [h1]; exact hl
    · exact h w (List.mem_filter.mpr ⟨List.mem_append_right _ h1, h2⟩)
/-- a class whose throws are known -/
def mj_thc (Ts : List Cond) (ci : Nat) (r : vw_C) (ix : Nat) (rx : ByteArray) (names : List String) : Prop := mj_dx ix rx ∧ mj_cls[ci]? = some r ∧ r.2.2 = 0 ∧ mj_csl[ci]? = some 6 ∧ Bundle.fit r.1 = true ∧ (∀ n ∈ names, Bundle.fit n = true) ∧ names.length ≤ 5 ∧ Cond.initialized r.1 ∈ Ts ∧ (∀ w ∈ mj_thl r.1 ix rx names, w ∈ Ts) ∧ (mj_thl r.1 ix rx names).all mx_ot = true
theorem mj_e_th (is ic : Nat) {text : String} {names : List String} {ix : Nat} {rx : ByteArray} (hth : mj_thc Ts ci r ix rx names) (hh : x.2.2.2.2 = []) (hk : Cond.classLink x.1.cls idx r.1 ∈ Ts) (hm : (x.1.cls, is, text) ∈ mj_msg) (hl : Cond.methodLink x.1.cls ic (Bundle.initS r.1) ∈ Ts) (hd : decode x.2.1 (pc + 3) = .ok (.dup, 1))
    (hdd : (decode x.2.1 (pc + 4) = .ok (.ldc is, 2) ∧ decode x.2.1 (pc + 6) = .ok (.invokespecial ic, 3) ∧ decode x.2.1 (pc + 9) = .ok (.athrow, 1)) ∨ (decode x.2.1 (pc + 4) = .ok (.ldc_w is, 3) ∧ decode x.2.1 (pc + 7) = .ok (.invokespecial ic, 3) ∧ decode x.2.1 (pc + 10) = .ok (.athrow, 1))) : mj_okW Ts M x pc (.new idx, ci, n, 1) := by
  obtain ⟨h0, h1, h2, h3, h4, h5, h6, h7, h8, h9⟩ := hth
  have hat := mj_thl_in (P := fun w => w ∈ Ts) h8 hl
  have hot := mj_thl_in (P := fun w => mx_ot w = true) (own := x.1.cls) (ic := ic) (List.all_eq_true.mp h9) rfl
  refine ⟨fun q => (by cases q), ⟨fun q => absurd q (Nat.lt_irrefl _), fun _ => ⟨is, ic, r, names, text, ix, rx, h0, h1, h2, h3, hh, h4, h5, h6, hk, h7, hm, hat, fun w hw => ?_, hd, hdd⟩⟩, fun h => by cases h⟩
  rcases List.mem_cons.mp hw with rfl | hw
  · rfl
  · rcases List.mem_cons.mp hw with rfl | hw
    · rfl
    · exact hot w hw
theorem mj_e_fl {ic z9 : Nat} (hth : mj_okF0 Ts ci r) (hh : x.2.2.2.2 = []) (hk : Cond.classLink x.1.cls idx r.1 ∈ Ts) (hl : Cond.methodLink x.1.cls ic ⟨r.1, "<init>", "(IC)V"⟩ ∈ Ts) (hd : decode x.2.1 (pc + 3) = .ok (.dup, 1)) (hu : mj_okU Ts x.1.cls x.2.1 (pc + 4) (mj_fls n)) (h1 : decode x.2.1 (mj_pe (mj_fls n) (pc + 4)) = .ok (.invokespecial ic, 3)) (h2 : decode x.2.1 (mj_pe (mj_fls n) (pc + 4) + 3) = .ok (.athrow, 1)) : mj_okW Ts M x pc (.new idx, ci, n, z9 + 2) :=
  ⟨fun q => (by cases q), ⟨fun _ => ⟨r, ic, hth, hh, hk, hl, hd, hu, h1, h2⟩, fun q => absurd q (by show ¬ z9 + 2 = 1; omega)⟩, fun h => by cases h⟩
end MJE
