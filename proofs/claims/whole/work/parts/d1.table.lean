/-! The class's table of what four gates can do. -/
def hs (o : Nat) : Nat := (bcu (nI o * nI 2654435761) (nI 19)).toNatClampNeg
theorem hs_is (o : Nat) : bcu (nI o * nI 2654435761) (nI 19) = nI (hs o) ∧ hs o < 8192 := by
  have e : ((nI 19).toUInt32 &&& Int32.toUInt32 31) = 19 := by decide +kernel
  have key : ∀ y : UInt32, ∃ n, n < 8192 ∧ (y >>> (19 : UInt32)).toInt32 = nI n := fun y => by
    refine ⟨(y >>> (19 : UInt32)).toNat, ?_, ?_⟩
    · rw [UInt32.toNat_shiftRight, show (19 : UInt32).toNat % 32 = 19 from rfl, Nat.shiftRight_eq_div_pow]
      have := y.toNat_lt
      omega
    · show _ = Int32.ofNat _
      rw [← UInt32.toInt32_ofNat', UInt32.ofNat_toNat]
  obtain ⟨n, h1, h2⟩ := key (nI o * nI 2654435761).toUInt32
  have h3 : bcu (nI o * nI 2654435761) (nI 19) = nI n := by
    unfold bcu
    rw [e]
    exact h2
  have h4 : hs o = n := by
    unfold hs
    rw [h3, mI_cl (by omega)]
  rw [h4]
  exact ⟨h3, h1⟩
theorem isPk.ne {o : Nat} (h : isPk o) : o ≠ 0 := fun e => by
  have h1 := h.2.symm.subset (show 1 ∈ idL by decide)
  rw [e] at h1
  exact absurd h1 (by decide)
/-- a word of the table -/
def kw (o l : Nat) : Int32 := nI (o + l * 16777216)
theorem kw_ne {o l : Nat} (h : isPk o) (hl : l ≤ 4) : kw o l ≠ 0 := fun e => by
  have h1 := congrArg Int32.toInt e
  have h2 := h.1
  have h3 := h.ne
  unfold kw at h1
  rw [mI_ti (by omega)] at h1
  have h4 : ((o + l * 16777216 : Nat) : Int) = 0 := h1
  omega
theorem kw_key {o l : Nat} (h : isPk o) : kw o l &&& nI 16777215 = nI o := by
  unfold kw
  rw [nand, show (16777215 : Nat) = 2 ^ 24 - 1 from rfl, Nat.and_two_pow_sub_one_eq_mod]
  have := h.1
  rw [show (o + l * 16777216) % 2 ^ 24 = o by omega]
theorem kw_lv {o l : Nat} (h : isPk o) (hl : l ≤ 4) : kw o l >>> (nI 24 &&& 31) = nI l := by
  have := h.1
  unfold kw
  rw [shrK (k := 24) (by omega) (by decide +kernel) (by omega), show (o + l * 16777216) / 2 ^ 24 = l by omega]
theorem kw_or {o l : Nat} (h : isPk o) (hl : l ≤ 4) : nI o ||| (nI l <<< (nI 24 &&& 31)) = kw o l := by
  have h1 := h.1
  have e : nI l <<< (nI 24 &&& 31) = nI (2 ^ 24 * l) := by
    rcases (by omega : l = 0 ∨ l = 1 ∨ l = 2 ∨ l = 3 ∨ l = 4) with q | q | q | q | q <;> rw [q] <;> decide +kernel
  rw [e]
  unfold kw
  have e2 : o + l * 16777216 = o ||| 2 ^ 24 * l := by
    rw [Nat.or_comm, ← Nat.two_pow_add_eq_or_of_lt (show o < 2 ^ 24 by omega)]
    omega
  rw [e2]
  apply Int32.toBitVec_inj.mp
  rw [Int32.toBitVec_or]
  show BitVec.ofNat 32 o ||| BitVec.ofNat 32 (2 ^ 24 * l) = BitVec.ofNat 32 (o ||| 2 ^ 24 * l)
  apply BitVec.eq_of_toNat_eq
  rw [BitVec.toNat_or, BitVec.toNat_ofNat, BitVec.toNat_ofNat, BitVec.toNat_ofNat, Nat.or_mod_two_pow]
theorem kw_in {o l p m : Nat} (h : isPk o) (k : isPk p) (hl : l ≤ 4) (hm : m ≤ 4) (e : kw o l = kw p m) : o = p ∧ l = m := by
  have h1 := h.1
  have h2 := k.1
  unfold kw at e
  have := (mI_inj (by omega) (by omega)).mp e
  omega
def tK (f : Nat → Int32) (s o l : Nat) : Prop := f s = kw o l ∧ isPk o ∧ l ≤ 4
def tI (f : Nat → Int32) : Prop := (∀ s, s < 8192 → f s = 0 ∨ ∃ o l, tK f s o l) ∧ (∀ s t o l m, s < 8192 → t < 8192 → tK f s o l → tK f t o m → s = t) ∧ ∀ s o l, s < 8192 → tK f s o l → ∃ d, d < 8192 ∧ s = (hs o + d) % 8192 ∧ ∀ e, e < d → f ((hs o + e) % 8192) ≠ 0
theorem tK.ne {f : Nat → Int32} {s o l : Nat} (h : tK f s o l) : f s ≠ 0 := by
  rw [h.1]
  exact kw_ne h.2.1 h.2.2
theorem tK.mv {f f' : Nat → Int32} {s o l : Nat} (h : tK f s o l) (e : f s ≠ 0 → f' s = f s) : tK f' s o l := ⟨(e h.ne).trans h.1, h.2⟩
theorem gat_n {f : Nat → Int32} {s : Nat} (h : s < 8192) : gat f (nI s) = f s := by
  unfold gat
  rw [if_pos (inb_nI (by omega) (by omega)), mI_cl (by omega)]
theorem gsl_to {f : Nat → Int32} {o n : Nat} (hno : ∀ e, e < n → f ((hs o + e) % 8192) ≠ 0 ∧ f ((hs o + e) % 8192) &&& nI 16777215 ≠ nI o) (hend : f ((hs o + n) % 8192) = 0 ∨ f ((hs o + n) % 8192) &&& nI 16777215 = nI o) : ∀ (m e k : Nat), e + m = n → m < k → gsl f (nI o) k (nI ((hs o + e) % 8192)) = nI ((hs o + n) % 8192)
  | 0, e, 0, _, hk => absurd hk (by omega)
  | 0, e, k + 1, he, _ => by
    obtain rfl : e = n := by omega
    rw [gsl_s, gat_n (Nat.mod_lt _ (by decide))]
    rcases hend with q | q
    · rw [if_pos q]
    · by_cases z : f ((hs o + e) % 8192) = 0
      · rw [if_pos z]
      · rw [if_neg z, if_pos q]
  | m + 1, e, 0, _, hk => absurd hk (by omega)
  | m + 1, e, k + 1, he, hk => by
    have h := hno e (by omega)
    rw [gsl_s, gat_n (Nat.mod_lt _ (by decide)), if_neg h.1, if_neg h.2, mI_add, nand, show (8191 : Nat) = 2 ^ 13 - 1 from rfl, Nat.and_two_pow_sub_one_eq_mod, show ((hs o + e) % 8192 + 1) % 2 ^ 13 = (hs o + (e + 1)) % 8192 by omega]
    exact gsl_to hno hend m (e + 1) k (by omega) (by omega)
theorem gslot_to {f : Nat → Int32} {o n : Nat} (hn : n < 8192) (hno : ∀ e, e < n → f ((hs o + e) % 8192) ≠ 0 ∧ f ((hs o + e) % 8192) &&& nI 16777215 ≠ nI o) (hend : f ((hs o + n) % 8192) = 0 ∨ f ((hs o + n) % 8192) &&& nI 16777215 = nI o) : gslot f (nI o) = nI ((hs o + n) % 8192) := by
  have h := hs_is o
  have e : hs o = (hs o + 0) % 8192 := by omega
  unfold gslot
  rw [h.1]
  have k := gsl_to hno hend n 0 8192 (Nat.zero_add n) hn
  rw [← e] at k
  exact k
theorem tI.keyne {f : Nat → Int32} (h : tI f) {o s : Nat} (ho : isPk o) (hs_ : s < 8192) (hne : f s ≠ 0) (hn : ∀ l, ¬ tK f s o l) : f s &&& nI 16777215 ≠ nI o := fun e => by
  rcases h.1 s hs_ with q | ⟨p, l, k⟩
  · exact hne q
  · rw [k.1, kw_key k.2.1] at e
    have h1 := k.2.1.1
    have h2 := ho.1
    have := (mI_inj (by omega) (by omega)).mp e
    rw [this] at k
    exact hn l k
/-- what is kept is found -/
theorem lk_yes {f : Nat → Int32} (h : tI f) {s o l : Nat} (hs_ : s < 8192) (k : tK f s o l) : gslot f (nI o) = nI s := by
  obtain ⟨d, hd, e, hp⟩ := h.2.2 s o l hs_ k
  rw [e]
  refine gslot_to hd (fun i hi => ⟨hp i hi, h.keyne k.2.1 (Nat.mod_lt _ (by decide)) (hp i hi) (fun m km => ?_)⟩) (Or.inr ?_)
  · have := h.2.1 s _ o l m hs_ (Nat.mod_lt _ (by decide)) k km
    omega
  · rw [← e, k.1, kw_key k.2.1]
theorem lst {p : Nat → Prop} : ∀ n, p n → ∃ m, m ≤ n ∧ p m ∧ ∀ i, i < m → ¬ p i := by
  intro n
  induction n using Nat.strongRecOn with
  | _ n ih =>
    intro h
    by_cases q : ∃ i, i < n ∧ p i
    · obtain ⟨i, h1, h2⟩ := q
      obtain ⟨m, h3, h4⟩ := ih i h1 h2
      exact ⟨m, by omega, h4⟩
    · exact ⟨n, Nat.le_refl n, h, fun i hi hp => q ⟨i, hi, hp⟩⟩
/-- what isn't leads to a free place -/
theorem lk_no {f : Nat → Int32} (h : tI f) {o z : Nat} (ho : isPk o) (hz : z < 8192) (z0 : f z = 0) (hn : ∀ s l, s < 8192 → ¬ tK f s o l) : ∃ d, d < 8192 ∧ f ((hs o + d) % 8192) = 0 ∧ (∀ e, e < d → f ((hs o + e) % 8192) ≠ 0) ∧ gslot f (nI o) = nI ((hs o + d) % 8192) := by
  have hh := (hs_is o).2
  have h1 : f ((hs o + (z + 8192 - hs o) % 8192) % 8192) = 0 := by
    rw [show (hs o + (z + 8192 - hs o) % 8192) % 8192 = z by omega]
    exact z0
  obtain ⟨d, h2, h3, h4⟩ := lst (p := fun d => f ((hs o + d) % 8192) = 0) _ h1
  have hd : d < 8192 := by omega
  exact ⟨d, hd, h3, h4, gslot_to hd (fun e he => ⟨h4 e he, h.keyne ho (Nat.mod_lt _ (by decide)) (h4 e he) (fun l => hn _ l (Nat.mod_lt _ (by decide)))⟩) (Or.inl h3)⟩
theorem gkept_y {f : Nat → Int32} (h : tI f) {s o l : Nat} (hs_ : s < 8192) (k : tK f s o l) : gkept f (nI o) = kw o l := by
  unfold gkept
  rw [lk_yes h hs_ k, gat_n hs_, k.1]
theorem gkept_n {f : Nat → Int32} (h : tI f) {o z : Nat} (ho : isPk o) (hz : z < 8192) (z0 : f z = 0) (hn : ∀ s l, s < 8192 → ¬ tK f s o l) : gkept f (nI o) = 0 := by
  obtain ⟨d, _, h2, _, h4⟩ := lk_no h ho hz z0 hn
  unfold gkept
  rw [h4, gat_n (Nat.mod_lt _ (by decide)), h2]
theorem tK_u {f : Nat → Int32} {t p g s o l : Nat} (hp : isPk p) (hg : g ≤ 4) (k : tK (upd f t (kw p g)) s o l) : (s = t ∧ o = p ∧ l = g) ∨ (s ≠ t ∧ tK f s o l) := by
  by_cases q : s = t
  · have e := k.1
    rw [q, upd_s] at e
    have := kw_in hp k.2.1 hg k.2.2 e
    exact Or.inl ⟨q, this.1.symm, this.2.symm⟩
  · refine Or.inr ⟨q, ?_, k.2⟩
    rw [← k.1, upd_n q]
theorem keep_y {f : Nat → Int32} (h : tI f) {s o l : Nat} {g : Int32} (hs_ : s < 8192) (k : tK f s o l) : gkeep f (nI o) g = f := by
  unfold gkeep
  rw [lk_yes h hs_ k, mI_cl (by omega), if_neg (fun q => k.ne q.2)]
theorem keep_n {f : Nat → Int32} (h : tI f) {o z g : Nat} (ho : isPk o) (hg : g ≤ 4) (hz : z < 8192) (z0 : f z = 0) (hn : ∀ s l, s < 8192 → ¬ tK f s o l) : ∃ t, t < 8192 ∧ f t = 0 ∧ gkeep f (nI o) (nI g) = upd f t (kw o g) ∧ tI (upd f t (kw o g)) := by
  obtain ⟨d, h1, h2, h3, h4⟩ := lk_no h ho hz z0 hn
  have ht : (hs o + d) % 8192 < 8192 := Nat.mod_lt _ (by decide)
  generalize hte : (hs o + d) % 8192 = t at *
  have hnz : ∀ s, f s ≠ 0 → upd f t (kw o g) s ≠ 0 := fun s q => by
    by_cases y : s = t
    · rw [y, upd_s]; exact kw_ne ho hg
    · rw [upd_n y]; exact q
  refine ⟨t, ht, h2, ?_, fun s hs_ => ?_, fun s u p l m h5 h6 k1 k2 => ?_, fun s p l h5 k => ?_⟩
  · unfold gkeep
    rw [h4, mI_cl (by omega), if_pos ⟨inb_nI (by omega) (by omega), h2⟩, kw_or ho hg]
  · by_cases y : s = t
    · exact Or.inr ⟨o, g, by rw [y, upd_s], ho, hg⟩
    · refine (h.1 s hs_).imp (fun q => ?_) (fun ⟨p, l, k⟩ => ⟨p, l, k.mv (fun _ => upd_n y)⟩)
      rw [upd_n y]; exact q
  · rcases tK_u ho hg k1 with ⟨a1, a2, a3⟩ | ⟨a1, a2⟩ <;> rcases tK_u ho hg k2 with ⟨b1, b2, b3⟩ | ⟨b1, b2⟩
    · rw [a1, b1]
    · rw [a2] at b2; exact absurd b2 (hn u m h6)
    · rw [b2] at a2; exact absurd a2 (hn s l h5)
    · exact h.2.1 s u p l m h5 h6 a2 b2
  · rcases tK_u ho hg k with ⟨a1, a2, a3⟩ | ⟨a1, a2⟩
    · rw [a1, a2]
      exact ⟨d, h1, hte.symm, fun e he => hnz _ (h3 e he)⟩
    · obtain ⟨d', c1, c2, c3⟩ := h.2.2 s p l h5 a2
      exact ⟨d', c1, c2, fun e he => hnz _ (c3 e he)⟩
/-- at most g gates; all of less are there -/
def tP (g : Nat) (f : Nat → Int32) : Prop := tI f ∧ (∀ s o l, s < 8192 → tK f s o l → l ≤ g ∧ LV l o) ∧ ∀ o l, l < g → l ≤ 4 → LV l o → ∃ s, s < 8192 ∧ tK f s o l
theorem tP.z {g : Nat} {f : Nat → Int32} (h : tP g f) : ∃ z, z < 8192 ∧ f z = 0 := by
  by_cases q : ∃ z, z < 8192 ∧ f z = 0
  · exact q
  · exfalso
    have ex : ∀ s, ∃ o, s < 8192 → ∃ l, tK f s o l := fun s => by
      by_cases y : s < 8192
      · rcases h.1.1 s y with z | ⟨o, l, k⟩
        · exact absurd ⟨s, y, z⟩ q
        · exact ⟨o, fun _ => ⟨l, k⟩⟩
      · exact ⟨0, fun z => absurd z y⟩
    have hc := fun i => Classical.choose_spec (ex i)
    obtain ⟨i, j, h1, h2, h3⟩ := kn_pg (n := 8192) (fun i => Classical.choose (ex i)) (by decide) (fun i hi => by
      obtain ⟨l, k⟩ := hc i hi
      exact ⟨l, k.2.2, (h.2.1 i _ l hi k).2.1⟩)
    obtain ⟨l, k1⟩ := hc i (by omega)
    obtain ⟨m, k2⟩ := hc j h2
    have e : Classical.choose (ex i) = Classical.choose (ex j) := h3
    rw [e] at k1
    have := h.1.2.1 i j _ l m (by omega) h2 k1 k2
    omega
def xtd (f f' : Nat → Int32) : Prop := ∀ s, f s ≠ 0 → f' s = f s
theorem xtd.rf (f : Nat → Int32) : xtd f f := fun _ _ => rfl
theorem xtd.tr {f g k : Nat → Int32} (a : xtd f g) (b : xtd g k) : xtd f k := fun s h => (b s (by rw [a s h]; exact h)).trans (a s h)
def tH (f : Nat → Int32) (o : Nat) : Prop := ∃ s l, s < 8192 ∧ tK f s o l
theorem tH.mv {f f' : Nat → Int32} {o : Nat} (e : xtd f f') : tH f o → tH f' o
  | ⟨s, l, a, k⟩ => ⟨s, l, a, k.mv (e s)⟩
theorem keep_P {g p : Nat} {f : Nat → Int32} (h : tP g f) (hg : g ≤ 4) (hp : rch g p) : tP g (gkeep f (nI p) (nI g)) ∧ xtd f (gkeep f (nI p) (nI g)) ∧ tH (gkeep f (nI p) (nI g)) p := by
  by_cases q : tH f p
  · obtain ⟨s, l, h1, k⟩ := id q
    rw [keep_y h.1 h1 k]
    exact ⟨h, xtd.rf f, q⟩
  · have hn : ∀ s l, s < 8192 → ¬ tK f s p l := fun s l h1 k => q ⟨s, l, h1, k⟩
    have pk := hp.pk
    obtain ⟨z, hz, z0⟩ := h.z
    obtain ⟨t, h1, h2, h3, h4⟩ := keep_n h.1 pk hg hz z0 hn
    obtain ⟨m, _, hm⟩ := rch_8 pk
    have hmg : m = g := by
      rcases Nat.lt_trichotomy m g with y | y | y
      · obtain ⟨s, h5, k⟩ := h.2.2 p m y (by omega) hm
        exact absurd k (hn s m h5)
      · exact y
      · exact absurd hp (hm.2 g y)
    rw [hmg] at hm
    have ex : xtd f (upd f t (kw p g)) := fun s hne => upd_n (fun e => hne (by rw [e]; exact h2))
    rw [h3]
    refine ⟨⟨h4, fun s o l hs_ k => ?_, fun o l hl h4_ hv => ?_⟩, ex, t, g, h1, upd_s, pk, hg⟩
    · rcases tK_u pk hg k with ⟨a1, a2, a3⟩ | ⟨_, a2⟩
      · rw [a2, a3]; exact ⟨Nat.le_refl g, hm⟩
      · exact h.2.1 s o l hs_ a2
    · obtain ⟨s, h5, k⟩ := h.2.2 o l hl h4_ hv
      exact ⟨s, h5, k.mv (ex s)⟩
theorem gbit {l c : Nat} (hl : l < 3) (hc : c < 8) : (nI c &&& (nI 1 <<< (nI l &&& 31)) = 0) ↔ isG (8 * l + c) := by
  have k : (List.range 3).all (fun l => (List.range 8).all fun c => decide (decide (nI c &&& (nI 1 <<< (nI l &&& 31)) = 0) = decide (8 * l + c < 24 ∧ (8 * l + c) % 8 / 2 ^ ((8 * l + c) / 8) % 2 = 0))) = true := by decide +kernel
  exact decide_eq_decide.mp (of_decide_eq_true (List.all_eq_true.mp (List.all_eq_true.mp k l (List.mem_range.mpr hl)) c (List.mem_range.mpr hc)))
theorem kfI_P {g x l : Nat} (hg : g + 1 ≤ 4) (hl : l < 3) (hx : rch g x) : ∀ (k c : Nat) (f : Nat → Int32), c + k = 8 → tP (g + 1) f → tP (g + 1) (gkfI (nI x) (nI (g + 1)) l k c f) ∧ xtd f (gkfI (nI x) (nI (g + 1)) l k c f) ∧ ∀ c', c ≤ c' → c' < 8 → isG (8 * l + c') → tH (gkfI (nI x) (nI (g + 1)) l k c f) (wth (8 * l + c') x)
  | 0, c, f, hc, h => ⟨h, xtd.rf f, fun c' h1 h2 _ => absurd h1 (by omega)⟩
  | k + 1, c, f, hc, h => by
    rw [gkfI]
    have e : gfol (nI x) (nI 8 * nI l + nI c) = nI (wth (8 * l + c) x) := by
      rw [mI_mul, mI_add]
      exact gfol_w (by omega) hx.pk.1
    by_cases q : isG (8 * l + c)
    · rw [if_pos ((gbit hl (by omega)).mpr q), e]
      obtain ⟨a1, a2, a3⟩ := keep_P (p := wth (8 * l + c) x) h hg ⟨x, _, hx, q, rfl⟩
      obtain ⟨b1, b2, b3⟩ := kfI_P hg hl hx k (c + 1) _ (by omega) a1
      refine ⟨b1, a2.tr b2, fun c' h1 h2 h3 => ?_⟩
      by_cases y : c' = c
      · rw [y]; exact a3.mv b2
      · exact b3 c' (by omega) h2 h3
    · rw [if_neg (fun z => q ((gbit hl (by omega)).mp z))]
      obtain ⟨b1, b2, b3⟩ := kfI_P hg hl hx k (c + 1) f (by omega) h
      refine ⟨b1, b2, fun c' h1 h2 h3 => ?_⟩
      by_cases y : c' = c
      · rw [y] at h3; exact absurd h3 q
      · exact b3 c' (by omega) h2 h3
theorem kfO_P {g x : Nat} (hg : g + 1 ≤ 4) (hx : rch g x) : ∀ (k l : Nat) (f : Nat → Int32), l + k = 3 → tP (g + 1) f → tP (g + 1) (gkfO (nI x) (nI (g + 1)) k l f) ∧ xtd f (gkfO (nI x) (nI (g + 1)) k l f) ∧ ∀ l' c', l ≤ l' → l' < 3 → c' < 8 → isG (8 * l' + c') → tH (gkfO (nI x) (nI (g + 1)) k l f) (wth (8 * l' + c') x)
  | 0, l, f, hl, h => ⟨h, xtd.rf f, fun l' c' h1 h2 _ _ => absurd h1 (by omega)⟩
  | k + 1, l, f, hl, h => by
    rw [gkfO]
    obtain ⟨a1, a2, a3⟩ := kfI_P hg (by omega : l < 3) hx 8 0 f rfl h
    obtain ⟨b1, b2, b3⟩ := kfO_P hg hx k (l + 1) _ (by omega) a1
    refine ⟨b1, a2.tr b2, fun l' c' h1 h2 h3 h4 => ?_⟩
    by_cases y : l' = l
    · rw [y] at h4 ⊢; exact (a3 c' (Nat.zero_le _) h3 h4).mv b2
    · exact b3 l' c' (by omega) h2 h3 h4
theorem kf_P {g x : Nat} (hg : g + 1 ≤ 4) (hx : rch g x) {f : Nat → Int32} (h : tP (g + 1) f) : tP (g + 1) (gkf (nI x) (nI (g + 1)) f) ∧ xtd f (gkf (nI x) (nI (g + 1)) f) ∧ ∀ a, isG a → tH (gkf (nI x) (nI (g + 1)) f) (wth a x) := by
  obtain ⟨b1, b2, b3⟩ := kfO_P hg hx 3 0 f rfl h
  refine ⟨b1, b2, fun a ha => ?_⟩
  have e : 8 * (a / 8) + a % 8 = a := by omega
  have := b3 (a / 8) (a % 8) (Nat.zero_le _) (by have := ha.1; omega) (by omega) (by rw [e]; exact ha)
  rw [e] at this
  exact this
theorem fiI_P {g : Nat} (hg : g + 1 ≤ 4) : ∀ (k i : Nat) (f : Nat → Int32), i + k = 8192 → tP (g + 1) f → tP (g + 1) (gfiI (g + 1) k i f) ∧ xtd f (gfiI (g + 1) k i f) ∧ ∀ s, i ≤ s → s < 8192 → ∀ o, tK f s o g → ∀ a, isG a → tH (gfiI (g + 1) k i f) (wth a o)
  | 0, i, f, hi, h => ⟨h, xtd.rf f, fun s h1 h2 => absurd h1 (by omega)⟩
  | k + 1, i, f, hi, h => by
    rw [gfiI]
    rcases h.1.1 i (by omega) with z | ⟨o, l, ko⟩
    · rw [if_pos z]
      obtain ⟨b1, b2, b3⟩ := fiI_P hg k (i + 1) f (by omega) h
      refine ⟨b1, b2, fun s h1 h2 p kp => ?_⟩
      by_cases y : s = i
      · rw [y] at kp; exact absurd z kp.ne
      · exact b3 s (by omega) h2 p kp
    · rw [if_neg ko.ne]
      have lvl : (f i >>> (nI 24 &&& 31) = nI (g + 1 - 1)) ↔ l = g := by
        rw [ko.1, kw_lv ko.2.1 ko.2.2, mI_inj (by have := ko.2.2; omega) (by omega), Nat.add_sub_cancel]
      by_cases w : l = g
      · rw [if_pos (lvl.mpr w), ko.1, kw_key ko.2.1]
        have hr := (h.2.1 i o l (by omega) ko).2.1
        rw [w] at hr
        obtain ⟨a1, a2, a3⟩ := kf_P hg hr h
        obtain ⟨b1, b2, b3⟩ := fiI_P hg k (i + 1) _ (by omega) a1
        refine ⟨b1, a2.tr b2, fun s h1 h2 p kp a ha => ?_⟩
        by_cases y : s = i
        · rw [y] at kp
          have e := (kw_in kp.2.1 ko.2.1 kp.2.2 ko.2.2 (kp.1.symm.trans ko.1)).1
          rw [e]
          exact (a3 a ha).mv b2
        · exact b3 s (by omega) h2 p (kp.mv (a2 s)) a ha
      · rw [if_neg (fun z => w (lvl.mp z))]
        obtain ⟨b1, b2, b3⟩ := fiI_P hg k (i + 1) f (by omega) h
        refine ⟨b1, b2, fun s h1 h2 p kp a ha => ?_⟩
        by_cases y : s = i
        · rw [y] at kp
          exact absurd (kw_in kp.2.1 ko.2.1 kp.2.2 ko.2.2 (kp.1.symm.trans ko.1)).2.symm w
        · exact b3 s (by omega) h2 p kp a ha
theorem pass_P {g : Nat} (hg : g + 1 ≤ 4) {f : Nat → Int32} (h : tP (g + 1) f) : tP (g + 2) (gfiI (g + 1) 8192 0 f) := by
  obtain ⟨b1, b2, b3⟩ := fiI_P hg 8192 0 f rfl h
  refine ⟨b1.1, fun s o l h1 k => ⟨by have := (b1.2.1 s o l h1 k).1; omega, (b1.2.1 s o l h1 k).2⟩, fun o l hl h4 hv => ?_⟩
  by_cases q : l < g + 1
  · exact b1.2.2 o l q h4 hv
  · obtain rfl : l = g + 1 := by omega
    obtain ⟨p, a, hp, ha, e⟩ := hv.1
    have lp : LV g p := ⟨hp, fun j hj hr => hv.2 (j + 1) (by omega) ⟨p, a, hr, ha, e⟩⟩
    obtain ⟨s, h1, k⟩ := h.2.2 p g (by omega) (by omega) lp
    obtain ⟨t, m, h2, k2⟩ := b3 s (Nat.zero_le _) h1 p k a ha
    rw [← e] at k2
    have := (b1.2.1 t o m h2 k2).2.one hv
    rw [this] at k2
    exact ⟨t, h2, k2⟩
theorem fiO_P : ∀ (k g : Nat) (f : Nat → Int32), g + k = 4 → tP (g + 1) f → tP 5 (gfiO k (g + 1) f)
  | 0, g, f, hg, h => by
    obtain rfl : g = 4 := by omega
    exact h
  | k + 1, g, f, hg, h => by
    rw [gfiO_s]
    exact fiO_P k (g + 1) _ (by omega) (pass_P (by omega) h)
theorem tP_0 : tP 0 (fun _ => 0) := ⟨⟨fun _ _ => Or.inl rfl, fun s t o l m _ _ k => absurd rfl k.ne, fun s o l _ k => absurd rfl k.ne⟩, fun s o l _ k => absurd rfl k.ne, fun o l h => absurd h (Nat.not_lt_zero l)⟩
/-- the table, when it is filled -/
theorem tP_T : tP 5 (gfill fun _ => 0) := by
  obtain ⟨a1, a2, s, l, h1, k⟩ := keep_P tP_0 (by omega) (show rch 0 idN from rfl)
  have e : idN = 16434824 := by decide +kernel
  have v0 : LV 0 idN := ⟨rfl, fun j hj => absurd hj (Nat.not_lt_zero j)⟩
  have b : tP 1 (gkeep (fun _ => 0) (nI idN) (nI 0)) := by
    refine ⟨a1.1, fun s o l h2 k2 => ⟨by have := (a1.2.1 s o l h2 k2).1; omega, (a1.2.1 s o l h2 k2).2⟩, fun o m hm _ hv => ?_⟩
    obtain rfl : m = 0 := by omega
    have eo : o = idN := hv.1
    have := (a1.2.1 s _ l h1 k).2.one v0
    rw [this] at k
    rw [eo]
    exact ⟨s, h1, k⟩
  have c := fiO_P 4 0 _ rfl b
  rw [e] at c
  exact c
theorem T_y {o k : Nat} (hk : k ≤ 4) (h : LV k o) : gkept (gfill fun _ => 0) (nI o) = kw o k := by
  obtain ⟨s, h1, h2⟩ := tP_T.2.2 o k (by omega) hk h
  exact gkept_y tP_T.1 h1 h2
theorem T_n {o k : Nat} (hk : 4 < k) (h : LV k o) : gkept (gfill fun _ => 0) (nI o) = 0 := by
  obtain ⟨z, hz, z0⟩ := tP_T.z
  refine gkept_n tP_T.1 h.1.pk hz z0 (fun s l h1 k1 => ?_)
  have := (tP_T.2.1 s o l h1 k1).2.one h
  have := k1.2.2
  omega
