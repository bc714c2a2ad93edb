/-! Tables: how many values come to the end, and the most that become one. -/
/-- how often x is among the first -/
def cnI (lf : Nat → Int32) (x : Int32) : Nat → Nat
  | 0 => 0
  | k + 1 => cnI lf x k + (if lf k = x then 1 else 0)
def mxA (lf : Nat → Int32) (c : Nat) : Nat → Nat
  | 0 => 0
  | i + 1 => max (mxA lf c i) (cnI lf (lf i) c)
def pmA (lf : Nat → Int32) : Nat → Nat
  | 0 => 0
  | i + 1 => max (pmA lf i) (cnI lf (lf i) (i + 1))
theorem cnI_le (lf : Nat → Int32) (x : Int32) : ∀ k, cnI lf x k ≤ k
  | 0 => Nat.le_refl 0
  | k + 1 => by
    have := cnI_le lf x k
    rw [cnI]
    split <;> omega
theorem cnI_mo (lf : Nat → Int32) (x : Int32) (k : Nat) : ∀ d, cnI lf x k ≤ cnI lf x (k + d)
  | 0 => Nat.le_refl _
  | d + 1 => Nat.le_trans (cnI_mo lf x k d) (Nat.le_add_right _ _)
theorem cnI_last (lf : Nat → Int32) (x : Int32) : ∀ c, cnI lf x c = 0 ∨ ∃ k, k < c ∧ lf k = x ∧ cnI lf x c = cnI lf x (k + 1)
  | 0 => Or.inl rfl
  | c + 1 => by
    by_cases q : lf c = x
    · exact Or.inr ⟨c, Nat.lt_succ_self c, q, rfl⟩
    · have e : cnI lf x (c + 1) = cnI lf x c := by rw [cnI, if_neg q]; rfl
      rcases cnI_last lf x c with h | ⟨k, h1, h2, h3⟩
      · exact Or.inl (e.trans h)
      · exact Or.inr ⟨k, by omega, h2, e.trans h3⟩
theorem pmA_le (lf : Nat → Int32) (m : Nat) : ∀ i, (∀ k, k < i → cnI lf (lf k) (k + 1) ≤ m) → pmA lf i ≤ m
  | 0, _ => Nat.zero_le m
  | i + 1, h => by
    have h1 := pmA_le lf m i (fun k hk => h k (by omega))
    have h2 := h i (Nat.lt_succ_self i)
    rw [pmA]
    exact Nat.max_le.mpr ⟨h1, h2⟩
theorem mxA_le (lf : Nat → Int32) (m c : Nat) : ∀ i, (∀ k, k < i → cnI lf (lf k) c ≤ m) → mxA lf c i ≤ m
  | 0, _ => Nat.zero_le m
  | i + 1, h => by
    have h1 := mxA_le lf m c i (fun k hk => h k (by omega))
    have h2 := h i (Nat.lt_succ_self i)
    rw [mxA]
    exact Nat.max_le.mpr ⟨h1, h2⟩
theorem pmA_ge (lf : Nat → Int32) : ∀ i k, k < i → cnI lf (lf k) (k + 1) ≤ pmA lf i
  | 0, k, h => absurd h (Nat.not_lt_zero k)
  | i + 1, k, h => by
    rw [pmA]
    by_cases q : k = i
    · subst q; exact Nat.le_max_right _ _
    · exact Nat.le_trans (pmA_ge lf i k (by omega)) (Nat.le_max_left _ _)
theorem mxA_ge (lf : Nat → Int32) (c : Nat) : ∀ i k, k < i → cnI lf (lf k) c ≤ mxA lf c i
  | 0, k, h => absurd h (Nat.not_lt_zero k)
  | i + 1, k, h => by
    rw [mxA]
    by_cases q : k = i
    · subst q; exact Nat.le_max_right _ _
    · exact Nat.le_trans (mxA_ge lf c i k (by omega)) (Nat.le_max_left _ _)
theorem mx_pm (lf : Nat → Int32) (c : Nat) : mxA lf c c = pmA lf c := by
  refine Nat.le_antisymm (mxA_le lf _ c c fun k hk => ?_) (pmA_le lf _ c fun k hk => ?_)
  · rcases cnI_last lf (lf k) c with h | ⟨k', h1, h2, h3⟩
    · rw [h]; exact Nat.zero_le _
    · rw [h3, ← h2]
      exact pmA_ge lf c k' h1
  · have h1 := cnI_mo lf (lf k) (k + 1) (c - (k + 1))
    rw [show k + 1 + (c - (k + 1)) = c by omega] at h1
    exact Nat.le_trans h1 (mxA_ge lf c c k hk)
theorem cnI_cg {lf lg : Nat → Int32} {x : Int32} : ∀ (k : Nat), (∀ j, j < k → lf j = lg j) → cnI lf x k = cnI lg x k
  | 0, _ => rfl
  | k + 1, h => by rw [cnI, cnI, cnI_cg k (fun j hj => h j (by omega)), h k (Nat.lt_succ_self k)]
theorem pmA_cg {lf lg : Nat → Int32} : ∀ (i : Nat), (∀ j, j < i → lf j = lg j) → pmA lf i = pmA lg i
  | 0, _ => rfl
  | i + 1, h => by rw [pmA, pmA, pmA_cg i (fun j hj => h j (by omega)), h i (Nat.lt_succ_self i), cnI_cg (i + 1) h]
theorem mxA_cg {lf lg : Nat → Int32} {c : Nat} (hc : ∀ j, j < c → lf j = lg j) : ∀ (i : Nat), i ≤ c → mxA lf c i = mxA lg c i
  | 0, _ => rfl
  | i + 1, h => by rw [mxA, mxA, mxA_cg hc i (by omega), hc i (by omega), cnI_cg c hc]
theorem pmA_bd (lf : Nat → Int32) (i : Nat) : pmA lf i ≤ i := pmA_le lf i i fun k hk => Nat.le_trans (cnI_le lf _ _) (by omega)
theorem mxA_bd (lf : Nat → Int32) (c i : Nat) : mxA lf c i ≤ c := mxA_le lf c c i fun k hk => cnI_le lf _ _
/-- the values that came of the first i tries -/
def tS (F : Nat → Option Int32) : Nat → Nat × (Nat → Int32)
  | 0 => (0, fun _ => 0)
  | i + 1 => match F i with
    | some x => ((tS F i).1 + 1, upd (tS F i).2 (tS F i).1 x)
    | none => tS F i
theorem tS_le (F : Nat → Option Int32) : ∀ i, (tS F i).1 ≤ i
  | 0 => Nat.le_refl 0
  | i + 1 => by
    have := tS_le F i
    rw [tS]
    split
    · show (tS F i).1 + 1 ≤ i + 1
      omega
    · omega
theorem tS_s {F : Nat → Option Int32} {i : Nat} {x : Int32} (h : F i = some x) : tS F (i + 1) = ((tS F i).1 + 1, upd (tS F i).2 (tS F i).1 x) := by rw [tS, h]
theorem tS_pm {F : Nat → Option Int32} {i : Nat} {x : Int32} {af : Nat → Int32} (h : F i = some x) (ha : ∀ k, k < (tS F (i + 1)).1 → af k = (tS F (i + 1)).2 k) : max (pmA (tS F i).2 (tS F i).1) (cnI af x (tS F (i + 1)).1) = pmA (tS F (i + 1)).2 (tS F (i + 1)).1 := by
  rw [cnI_cg _ ha, tS_s h]
  show max _ (cnI (upd (tS F i).2 (tS F i).1 x) x ((tS F i).1 + 1)) = max (pmA (upd (tS F i).2 (tS F i).1 x) (tS F i).1) (cnI (upd (tS F i).2 (tS F i).1 x) (upd (tS F i).2 (tS F i).1 x (tS F i).1) ((tS F i).1 + 1))
  rw [show upd (tS F i).2 (tS F i).1 x (tS F i).1 = x from if_pos rfl, pmA_cg (lf := upd (tS F i).2 (tS F i).1 x) (lg := (tS F i).2) _ (fun k hk => if_neg (by omega))]
theorem tS_n {F : Nat → Option Int32} {i : Nat} (h : F i = none) : tS F (i + 1) = tS F i := by rw [tS, h]
/-- what becomes of a variable that is y at first -/
def tF (np : Nat) (K : Nat → Nat) (X : Nat → Nat → Nat → Nat) (q j : Nat) (v st : Nat → Int32) (t : Nat) (y : Nat) : Option Int32 :=
  if edd K (rns np K X 500 ((upd v j (nI y), st, t), bgn K q true (fun _ => 0) (fun _ => 0) (fun _ => false))).2.1.2 = true then some ((rns np K X 500 ((upd v j (nI y), st, t), bgn K q true (fun _ => 0) (fun _ => 0) (fun _ => false))).2.1.1.1 j) else none
theorem x_wrkT {h : mj_H} {np : Nat} {K : Nat → Nat} {X : Nat → Nat → Nat → Nat} {gs pl : Value} {sd be : Int64} (h0 : mj_rd h 0 = some (xC_ gs pl sd be)) (hl : cLb h np K X) {p : Int32} (hpr : p.toInt < 0 ∨ (np : Int) ≤ p.toInt) {v : Int32} : mj_run 1 203 (0, [some (.ref 0), some (.int p), some (.int v), none, none], [], h) (.inr h.length, h ++ [.inr (14, [])]) := by
  refine s_aldn (p' := 1) rfl rfl rfl ?_
  refine s_gf (p' := 4) rfl h0 rfl rfl ?_
  refine s_ildn (p' := 5) rfl rfl rfl ?_
  refine s_callV (p' := 8) (ls0 := [_, _]) rfl rfl rfl rfl rfl (mj_rcv_is hl.2.1) rfl (x_hasF hl.2.1 hl.1 hpr) (by first | decide | omega) rfl ?_
  refine s_if (p' := 11) false rfl (by decide +kernel) rfl ?_
  exact s_thr rfl (Nat.le_of_ble_eq_true rfl) rfl
theorem x_wrkV {h : mj_H} {np : Nat} {K : Nat → Nat} {X : Nat → Nat → Nat → Nat} {gs pl : Value} {sd be : Int64} (h0 : mj_rd h 0 = some (xC_ gs pl sd be)) (hl : cLb h np K X) {q : Nat} (hq : q < np) {v : Nat} (hv : v < 65536) (hvb : vB v = false) : mj_run 1 203 (0, [some (.ref 0), some (.int (nI q)), some (.int (nI v)), none, none], [], h) (.inr h.length, h ++ [.inr (13, [])]) := by
  refine s_aldn (p' := 1) rfl rfl rfl ?_
  refine s_gf (p' := 4) rfl h0 rfl rfl ?_
  refine s_ildn (p' := 5) rfl rfl rfl ?_
  refine s_callV (p' := 8) (ls0 := [_, _]) rfl rfl rfl rfl rfl (mj_rcv_is hl.2.1) rfl (x_lhas hl.2.1 hl.1 (by have := hl.1; omega)) (by first | decide | omega) rfl ?_
  refine s_if (p' := 21) true rfl (by rw [decide_eq_true hq]; decide +kernel) rfl ?_
  refine s_ildn (p' := 22) rfl rfl rfl ?_
  refine s_callV (p' := 25) (ls0 := [_]) rfl rfl rfl rfl rfl rfl rfl (x_isc hv) (by first | decide | omega) rfl ?_
  refine s_if (p' := 28) false rfl (by rw [hvb]; decide +kernel) rfl ?_
  exact s_thr rfl (Nat.le_of_ble_eq_true rfl) rfl
theorem x_alkT {h : mj_H} {np : Nat} {K : Nat → Nat} {X : Nat → Nat → Nat → Nat} {gs pl : Value} {sd be : Int64} (h0 : mj_rd h 0 = some (xC_ gs pl sd be)) (hl : cLb h np K X) {p : Int32} (hpr : p.toInt < 0 ∨ (np : Int) ≤ p.toInt) {v : Int32} : mj_run 1 205 (0, [some (.ref 0), some (.int p), some (.int v), none, none, none], [], h) (.inr h.length, h ++ [.inr (14, [])]) := by
  refine s_aldn (p' := 1) rfl rfl rfl ?_
  refine s_gf (p' := 4) rfl h0 rfl rfl ?_
  refine s_ildn (p' := 5) rfl rfl rfl ?_
  refine s_callV (p' := 8) (ls0 := [_, _]) rfl rfl rfl rfl rfl (mj_rcv_is hl.2.1) rfl (x_hasF hl.2.1 hl.1 hpr) (by first | decide | omega) rfl ?_
  refine s_if (p' := 11) false rfl (by decide +kernel) rfl ?_
  exact s_thr rfl (Nat.le_of_ble_eq_true rfl) rfl
theorem x_alkV {h : mj_H} {np : Nat} {K : Nat → Nat} {X : Nat → Nat → Nat → Nat} {gs pl : Value} {sd be : Int64} (h0 : mj_rd h 0 = some (xC_ gs pl sd be)) (hl : cLb h np K X) {q : Nat} (hq : q < np) {v : Nat} (hv : v < 65536) (hvb : vB v = false) : mj_run 1 205 (0, [some (.ref 0), some (.int (nI q)), some (.int (nI v)), none, none, none], [], h) (.inr h.length, h ++ [.inr (13, [])]) := by
  refine s_aldn (p' := 1) rfl rfl rfl ?_
  refine s_gf (p' := 4) rfl h0 rfl rfl ?_
  refine s_ildn (p' := 5) rfl rfl rfl ?_
  refine s_callV (p' := 8) (ls0 := [_, _]) rfl rfl rfl rfl rfl (mj_rcv_is hl.2.1) rfl (x_lhas hl.2.1 hl.1 (by have := hl.1; omega)) (by first | decide | omega) rfl ?_
  refine s_if (p' := 21) true rfl (by rw [decide_eq_true hq]; decide +kernel) rfl ?_
  refine s_ildn (p' := 22) rfl rfl rfl ?_
  refine s_callV (p' := 25) (ls0 := [_]) rfl rfl rfl rfl rfl rfl rfl (x_isc hv) (by first | decide | omega) rfl ?_
  refine s_if (p' := 28) false rfl (by rw [hvb]; decide +kernel) rfl ?_
  exact s_thr rfl (Nat.le_of_ble_eq_true rfl) rfl
theorem x_wrL {np q j : Nat} {v st : Nat → Int32} {t : Nat} {gs pl : Value} {sd be : Int64} {K : Nat → Nat} {X : Nat → Nat → Nat → Nat} (hp : pOk np K X) (hq : q < np) (hj : j < 8) : ∀ (n i : Nat) (h : mj_H), i + n = 16 → mj_rd h 0 = some (xC_ gs pl sd be) → cSt h 375 (v, st, t) → (∃ s0, cSt h 378 s0) → (∃ b r z, cRb h 387 378 b r z) → cLb h np K X → mj_Wp 12 203 (43, [some (.ref 0), some (.int (nI q)), some (.int (nI (97 + j))), some (.int (nI (tS (tF np K X q j v st t) i).1)), some (.int (nI i))], [], h) (mz_V fun rv h' => rv = .int (nI (tS (tF np K X q j v st t) 16).1) ∧ (∃ s0, cSt h' 378 s0) ∧ (∃ b r z, cRb h' 387 378 b r z) ∧ mz_mo (cML 387 378) 0 0 h h')
  | 0, i, h, hi, h0, hS, hT, hR, hl => by
    obtain rfl : i = 16 := by omega
    refine s_ild (p' := 45) rfl rfl rfl ?_
    refine s_bip (p' := 47) rfl rfl ?_
    refine s_icmp (p' := 73) true rfl (by decide +kernel) rfl ?_
    refine s_ildn (p' := 74) rfl rfl rfl ?_
    refine s_iret rfl rfl ?_
    exact ⟨_, _, rfl, rfl, hT, hR, mz_mo.rf _ _ _ _⟩
  | n + 1, i, h, hi, h0, hS, ⟨s0, hT⟩, ⟨b, ⟨p, l, c, w, cp, cl, cw⟩, z, hR⟩, hl => by
    have ih := x_wrL (sd := sd) (be := be) (gs := gs) (pl := pl) (v := v) (st := st) (t := t) hp hq hj n (i + 1)
    have hle := tS_le (tF np K X q j v st t) i
    refine s_ild (p' := 45) rfl rfl rfl ?_
    refine s_bip (p' := 47) rfl rfl ?_
    refine s_icmp (p' := 50) false rfl ((ci_ge (by omega) (by omega)).trans (decide_eq_false (by omega))) rfl ?_
    refine s_aldn (p' := 51) rfl rfl rfl ?_
    refine s_ildn (p' := 52) rfl rfl rfl ?_
    refine s_ildn (p' := 53) rfl rfl rfl ?_
    refine s_bip (p' := 55) rfl rfl ?_
    refine s_sp (p' := 56) (ls' := _) rfl rfl rfl ?_
    rw [mI_sub (by omega), show 97 + j - 97 = j by omega]
    refine s_ild (p' := 58) rfl rfl rfl ?_
    refine s_callEV (p' := 61) (ls0 := [_, _, _, _]) rfl rfl rfl rfl rfl (mj_rcv_is h0) rfl (x_try0 hp h0 hS hT hR hl hq hj (y := nI i)) rfl rfl ?_
    rintro _ h1 ⟨rfl, s1, r1, m1⟩
    have z1 := m1.1 0 (by decide) _ h0
    have q1 := hS.fr m1.1 (by decide) (by decide) (by decide)
    have hl1 := hl.fr m1.1 (fun x hx => cML_ge (by decide) (by decide) hx)
    by_cases qe : edd K (rns np K X 500 ((upd v j (nI i), st, t), bgn K q true (fun _ => 0) (fun _ => 0) (fun _ => false))).2.1.2 = true
    · refine s_if (p' := 64) false rfl (by rw [qe]; decide +kernel) rfl ?_
      refine s_inc (p' := 67) (ls' := [_, _, _, _, _]) rfl rfl rfl rfl rfl ?_
      have eF : (tF np K X q j v st t) i = some ((rns np K X 500 ((upd v j (nI i), st, t), bgn K q true (fun _ => 0) (fun _ => 0) (fun _ => false))).2.1.1.1 j) := if_pos qe
      rw [mI_add, show (tS (tF np K X q j v st t) i).1 + 1 = (tS (tF np K X q j v st t) (i + 1)).1 by rw [tS_s eF]]
      refine s_inc (p' := 70) (ls' := [_, _, _, _, _]) rfl rfl rfl rfl rfl ?_
      rw [mI_add]
      refine s_goto (p' := 43) rfl rfl ?_
      exact (ih h1 (by omega) z1 q1 ⟨_, s1⟩ ⟨_, _, _, r1.b⟩ hl1).imp fun o ho => by
        obtain ⟨rv, h', e, e2, a1, a2, m2⟩ := ho
        exact ⟨rv, h', e, e2, a1, a2, mo00 m1 m2⟩
    · refine s_if (p' := 67) true rfl (by rw [Bool.eq_false_iff.mpr qe]; decide +kernel) rfl ?_
      refine s_inc (p' := 70) (ls' := [_, _, _, _, _]) rfl rfl rfl rfl rfl ?_
      have eF : (tF np K X q j v st t) i = none := if_neg qe
      rw [mI_add, show (tS (tF np K X q j v st t) i).1 = (tS (tF np K X q j v st t) (i + 1)).1 by rw [tS_n eF]]
      refine s_goto (p' := 43) rfl rfl ?_
      exact (ih h1 (by omega) z1 q1 ⟨_, s1⟩ ⟨_, _, _, r1.b⟩ hl1).imp fun o ho => by
        obtain ⟨rv, h', e, e2, a1, a2, m2⟩ := ho
        exact ⟨rv, h', e, e2, a1, a2, mo00 m1 m2⟩
theorem x_wrk {h : mj_H} {np : Nat} {K : Nat → Nat} {X : Nat → Nat → Nat → Nat} {gs pl : Value} {sd be : Int64} (h0 : mj_rd h 0 = some (xC_ gs pl sd be)) (hl : cLb h np K X) (hp : pOk np K X) {q j : Nat} (hq : q < np) (hj : j < 8) {v st : Nat → Int32} {t : Nat} (hS : cSt h 375 (v, st, t)) (hT : ∃ s0, cSt h 378 s0) (hR : ∃ b r z, cRb h 387 378 b r z) : mj_Wp 12 203 (0, [some (.ref 0), some (.int (nI q)), some (.int (nI (97 + j))), none, none], [], h) (mz_V fun rv h' => rv = .int (nI (tS (tF np K X q j v st t) 16).1) ∧ (∃ s0, cSt h' 378 s0) ∧ (∃ b r z, cRb h' 387 378 b r z) ∧ mz_mo (cML 387 378) 0 0 h h') := by
  refine s_aldn (p' := 1) rfl rfl rfl ?_
  refine s_gf (p' := 4) rfl h0 rfl rfl ?_
  refine s_ildn (p' := 5) rfl rfl rfl ?_
  refine s_callV (p' := 8) (ls0 := [_, _]) rfl rfl rfl rfl rfl (mj_rcv_is hl.2.1) rfl (x_lhas hl.2.1 hl.1 (by have := hl.1; omega)) (by first | decide | omega) rfl ?_
  refine s_if (p' := 21) true rfl (by rw [decide_eq_true hq]; decide +kernel) rfl ?_
  refine s_ildn (p' := 22) rfl rfl rfl ?_
  refine s_callV (p' := 25) (ls0 := [_]) rfl rfl rfl rfl rfl rfl rfl (x_isc (c := 97 + j) (by omega)) (by first | decide | omega) rfl ?_
  refine s_if (p' := 38) true rfl (by rw [show vB (97 + j) = true from decide_eq_true (by omega)]; decide +kernel) rfl ?_
  refine s_con (p' := 39) rfl rfl ?_
  refine s_istn (p' := 40) (ls' := [_, _, _, _, _]) rfl rfl rfl rfl ?_
  refine s_con (p' := 41) rfl rfl ?_
  refine s_ist (p' := 43) (ls' := [_, _, _, _, _]) rfl rfl rfl rfl ?_
  exact x_wrL hp hq hj 16 0 h rfl h0 hS hT hR hl
theorem x_cofL {h : mj_H} {gs pl : Value} {sd be : Int64} (h0 : mj_rd h 0 = some (xC_ gs pl sd be)) {rf : Nat → Int32} (h8 : mj_rd h 398 = some (.inl (0, (16, .inl rf)))) {x : Int32} {c : Nat} (hc : c ≤ 16) : ∀ (n i : Nat), i + n = c → mj_run 0 206 (5, [some (.ref 0), some (.int x), some (.int (nI c)), some (.int (nI (cnI rf x i))), some (.int (nI i))], [], h) (.inl (some (.int (nI (cnI rf x c)))), h)
  | 0, i, hi => by
    obtain rfl : i = c := by omega
    refine s_ild (p' := 7) rfl rfl rfl ?_
    refine s_ildn (p' := 8) rfl rfl rfl ?_
    refine s_icmp (p' := 41) true rfl ((ci_ge (by omega) (by omega)).trans (decide_eq_true (by omega))) rfl ?_
    refine s_ildn (p' := 42) rfl rfl rfl ?_
    exact s_iret rfl rfl rfl
  | n + 1, i, hi => by
    have ih := x_cofL h0 h8 (x := x) hc n (i + 1) (by omega)
    have hle := cnI_le rf x i
    refine s_ild (p' := 7) rfl rfl rfl ?_
    refine s_ildn (p' := 8) rfl rfl rfl ?_
    refine s_icmp (p' := 11) false rfl ((ci_ge (by omega) (by omega)).trans (decide_eq_false (by omega))) rfl ?_
    refine s_ild (p' := 13) rfl rfl rfl ?_
    refine s_aldn (p' := 14) rfl rfl rfl ?_
    refine s_gf (p' := 17) rfl h0 rfl rfl ?_
    refine s_len (p' := 18) rfl (mj_rdA_is h8 (by decide)) (by decide) rfl ?_
    refine s_icmp (p' := 21) false rfl ((ci_ge (by omega) (by omega)).trans (decide_eq_false (by omega))) rfl ?_
    refine s_aldn (p' := 22) rfl rfl rfl ?_
    refine s_gf (p' := 25) rfl h0 rfl rfl ?_
    refine s_ild (p' := 27) rfl rfl rfl ?_
    refine s_ial (p' := 28) rfl h8 (inb_nI (by omega) (by omega)) rfl ?_
    rw [mI_cl (by omega)]
    refine s_ildn (p' := 29) rfl rfl rfl ?_
    by_cases qe : rf i = x
    · refine s_icmp (p' := 32) false rfl (decide_eq_false (fun e => e qe)) rfl ?_
      refine s_inc (p' := 35) (ls' := [_, _, _, _, _]) rfl rfl rfl rfl rfl ?_
      rw [mI_add, show cnI rf x i + 1 = cnI rf x (i + 1) by rw [cnI, if_pos qe]]
      refine s_inc (p' := 38) (ls' := [_, _, _, _, _]) rfl rfl rfl rfl rfl ?_
      rw [mI_add]
      refine s_goto (p' := 5) rfl rfl ?_
      exact ih
    · refine s_icmp (p' := 35) true rfl (decide_eq_true qe) rfl ?_
      refine s_inc (p' := 38) (ls' := [_, _, _, _, _]) rfl rfl rfl rfl rfl ?_
      rw [mI_add, show cnI rf x i = cnI rf x (i + 1) by rw [cnI, if_neg qe]; rfl]
      refine s_goto (p' := 5) rfl rfl ?_
      exact ih
theorem x_cof {h : mj_H} {gs pl : Value} {sd be : Int64} (h0 : mj_rd h 0 = some (xC_ gs pl sd be)) {rf : Nat → Int32} (h8 : mj_rd h 398 = some (.inl (0, (16, .inl rf)))) {x : Int32} {c : Nat} (hc : c ≤ 16) : mj_run 0 206 (0, [some (.ref 0), some (.int x), some (.int (nI c)), none, none], [], h) (.inl (some (.int (nI (cnI rf x c)))), h) := by
  refine s_con (p' := 1) rfl rfl ?_
  refine s_istn (p' := 2) (ls' := [_, _, _, _, _]) rfl rfl rfl rfl ?_
  refine s_con (p' := 3) rfl rfl ?_
  refine s_ist (p' := 5) (ls' := [_, _, _, _, _]) rfl rfl rfl rfl ?_
  exact x_cofL h0 h8 hc c 0 (Nat.zero_add c)
theorem mx_i {a b : Nat} (ha : a < 2147483648) (hb : b < 2147483648) : (if nI a < nI b then nI b else nI a) = nI (max a b) := by
  have e : nI a < nI b ↔ a < b := by rw [Int32.lt_iff_toInt_lt, mI_ti ha, mI_ti hb]; omega
  by_cases q : a < b
  · rw [if_pos (e.mpr q), Nat.max_eq_right (Nat.le_of_lt q)]
  · rw [if_neg (fun z => q (e.mp z)), Nat.max_eq_left (by omega)]
theorem x_alM {h : mj_H} {gs pl : Value} {sd be : Int64} (h0 : mj_rd h 0 = some (xC_ gs pl sd be)) {rf : Nat → Int32} (h8 : mj_rd h 398 = some (.inl (0, (16, .inl rf)))) {c : Nat} (hc : c ≤ 16) {l1 l2 : Option Value} : ∀ (n i : Nat), i + n = c → mj_run 1 205 (105, [some (.ref 0), l1, l2, some (.int (nI c)), some (.int (nI (mxA rf c i))), some (.int (nI i))], [], h) (.inl (some (.int (nI (mxA rf c c)))), h)
  | 0, i, hi => by
    obtain rfl : i = c := by omega
    refine s_ild (p' := 107) rfl rfl rfl ?_
    refine s_ildn (p' := 108) rfl rfl rfl ?_
    refine s_icmp (p' := 146) true rfl ((ci_ge (by omega) (by omega)).trans (decide_eq_true (by omega))) rfl ?_
    refine s_ild (p' := 148) rfl rfl rfl ?_
    exact s_iret rfl rfl rfl
  | n + 1, i, hi => by
    have ih := x_alM h0 h8 hc (l1 := l1) (l2 := l2) n (i + 1) (by omega)
    have hb1 := mxA_bd rf c i
    have hb2 := cnI_le rf (rf i) c
    refine s_ild (p' := 107) rfl rfl rfl ?_
    refine s_ildn (p' := 108) rfl rfl rfl ?_
    refine s_icmp (p' := 111) false rfl ((ci_ge (by omega) (by omega)).trans (decide_eq_false (by omega))) rfl ?_
    refine s_ild (p' := 113) rfl rfl rfl ?_
    refine s_aldn (p' := 114) rfl rfl rfl ?_
    refine s_gf (p' := 117) rfl h0 rfl rfl ?_
    refine s_len (p' := 118) rfl (mj_rdA_is h8 (by decide)) (by decide) rfl ?_
    refine s_icmp (p' := 121) false rfl ((ci_ge (by omega) (by omega)).trans (decide_eq_false (by omega))) rfl ?_
    refine s_ild (p' := 123) rfl rfl rfl ?_
    refine s_aldn (p' := 124) rfl rfl rfl ?_
    refine s_aldn (p' := 125) rfl rfl rfl ?_
    refine s_gf (p' := 128) rfl h0 rfl rfl ?_
    refine s_ild (p' := 130) rfl rfl rfl ?_
    refine s_ial (p' := 131) rfl h8 (inb_nI (by omega) (by omega)) rfl ?_
    rw [mI_cl (by omega)]
    refine s_ildn (p' := 132) rfl rfl rfl ?_
    refine s_callV (p' := 135) (ls0 := [_, _, _, _, _]) rfl rfl rfl rfl rfl (mj_rcv_is h0) rfl (x_cof h0 h8 hc) (by first | decide | omega) rfl ?_
    refine s_primV (p' := 138) (q := 4) rfl rfl rfl rfl rfl rfl rfl rfl ?_
    rw [mx_i (by omega) (by omega), show max (mxA rf c i) (cnI rf (rf i) c) = mxA rf c (i + 1) from rfl]
    refine s_ist (p' := 140) (ls' := [_, _, _, _, _, _]) rfl rfl rfl rfl ?_
    refine s_inc (p' := 143) (ls' := [_, _, _, _, _, _]) rfl rfl rfl rfl rfl ?_
    rw [mI_add]
    refine s_goto (p' := 105) rfl rfl ?_
    exact ih
theorem x_alL {np q j : Nat} {v st : Nat → Int32} {t : Nat} {gs pl : Value} {sd be : Int64} {K : Nat → Nat} {X : Nat → Nat → Nat → Nat} (hp : pOk np K X) (hq : q < np) (hj : j < 8) : ∀ (n i : Nat) (h : mj_H) (rf : Nat → Int32) (l5 : Option Value), i + n = 16 → mj_rd h 398 = some (.inl (0, (16, .inl rf))) → (∀ k, k < (tS (tF np K X q j v st t) i).1 → rf k = (tS (tF np K X q j v st t) i).2 k) → mj_rd h 0 = some (xC_ gs pl sd be) → cSt h 375 (v, st, t) → (∃ s0, cSt h 378 s0) → (∃ b r z, cRb h 387 378 b r z) → cLb h np K X → mj_Wp 12 205 (43, [some (.ref 0), some (.int (nI q)), some (.int (nI (97 + j))), some (.int (nI (tS (tF np K X q j v st t) i).1)), some (.int (nI i)), l5], [], h) (mz_V fun rv h' => rv = .int (nI (mxA (tS (tF np K X q j v st t) 16).2 (tS (tF np K X q j v st t) 16).1 (tS (tF np K X q j v st t) 16).1)) ∧ (∃ s0, cSt h' 378 s0) ∧ (∃ b r z, cRb h' 387 378 b r z) ∧ (∃ rf, mj_rd h' 398 = some (.inl (0, (16, .inl rf)))) ∧ mz_mo (398 :: cML 387 378) 0 0 h h')
  | 0, i, h, rf, l5, hi, h8, hrf, h0, hS, hT, hR, hl => by
    obtain rfl : i = 16 := by omega
    have hle := tS_le (tF np K X q j v st t) 16
    refine s_ild (p' := 45) rfl rfl rfl ?_
    refine s_bip (p' := 47) rfl rfl ?_
    refine s_icmp (p' := 99) true rfl (by decide +kernel) rfl ?_
    refine s_con (p' := 100) rfl rfl ?_
    refine s_ist (p' := 102) (ls' := [_, _, _, _, _, _]) rfl rfl rfl rfl ?_
    refine s_con (p' := 103) rfl rfl ?_
    refine s_ist (p' := 105) (ls' := [_, _, _, _, _, _]) rfl rfl rfl rfl ?_
    refine mj_Wp.mono (k := 1) ?_ (by decide)
    refine (x_alM h0 h8 hle (tS (tF np K X q j v st t) 16).1 0 (Nat.zero_add _)).imp ?_
    rintro _ rfl
    exact ⟨_, _, rfl, by rw [mxA_cg hrf _ (Nat.le_refl _)], hT, hR, ⟨_, h8⟩, mz_mo.rf _ _ _ _⟩
  | n + 1, i, h, rf, l5, hi, h8, hrf, h0, hS, ⟨s0, hT⟩, ⟨b, ⟨p, l, c, w, cp, cl, cw⟩, z, hR⟩, hl => by
    have ih := x_alL (sd := sd) (be := be) (gs := gs) (pl := pl) (v := v) (st := st) (t := t) hp hq hj n (i + 1)
    have hle := tS_le (tF np K X q j v st t) i
    refine s_ild (p' := 45) rfl rfl rfl ?_
    refine s_bip (p' := 47) rfl rfl ?_
    refine s_icmp (p' := 50) false rfl ((ci_ge (by omega) (by omega)).trans (decide_eq_false (by omega))) rfl ?_
    refine s_aldn (p' := 51) rfl rfl rfl ?_
    refine s_ildn (p' := 52) rfl rfl rfl ?_
    refine s_ildn (p' := 53) rfl rfl rfl ?_
    refine s_bip (p' := 55) rfl rfl ?_
    refine s_sp (p' := 56) (ls' := _) rfl rfl rfl ?_
    rw [mI_sub (by omega), show 97 + j - 97 = j by omega]
    refine s_ild (p' := 58) rfl rfl rfl ?_
    refine s_callEV (p' := 61) (ls0 := [_, _, _, _]) rfl rfl rfl rfl rfl (mj_rcv_is h0) rfl (x_try0 hp h0 hS hT hR hl hq hj (y := nI i)) rfl rfl ?_
    rintro _ h1 ⟨rfl, s1, r1, m1⟩
    have z1 := m1.1 0 (by decide) _ h0
    have q1 := hS.fr m1.1 (by decide) (by decide) (by decide)
    have hl1 := hl.fr m1.1 (fun x hx => cML_ge (by decide) (by decide) hx)
    have g1 := m1.1 398 (by decide) _ h8
    by_cases qe : edd K (rns np K X 500 ((upd v j (nI i), st, t), bgn K q true (fun _ => 0) (fun _ => 0) (fun _ => false))).2.1.2 = true
    · refine s_if (p' := 64) false rfl (by rw [qe]; decide +kernel) rfl ?_
      refine s_ildn (p' := 65) rfl rfl rfl ?_
      refine s_aldn (p' := 66) rfl rfl rfl ?_
      refine s_gf (p' := 69) rfl z1 rfl rfl ?_
      refine s_len (p' := 70) rfl (mj_rdA_is g1 (by decide)) (by decide) rfl ?_
      refine s_icmp (p' := 73) false rfl ((ci_ge (by omega) (by omega)).trans (decide_eq_false (by omega))) rfl ?_
      refine s_aldn (p' := 74) rfl rfl rfl ?_
      refine s_gf (p' := 77) rfl z1 rfl rfl ?_
      refine s_ildn (p' := 78) rfl rfl rfl ?_
      refine s_aldn (p' := 79) rfl rfl rfl ?_
      refine s_gf (p' := 82) rfl z1 rfl rfl ?_
      refine s_ildn (p' := 83) rfl rfl rfl ?_
      refine s_bip (p' := 85) rfl rfl ?_
      refine s_sp (p' := 86) (ls' := _) rfl rfl rfl ?_
      rw [mI_sub (by omega), show 97 + j - 97 = j by omega]
      refine s_callV (p' := 89) (ls0 := [_, _]) rfl rfl rfl rfl rfl (mj_rcv_is s1.1) rfl (x_val (by decide) s1 hj) (by first | decide | omega) rfl ?_
      refine s_ias (p' := 90) rfl (by decide) g1 (inb_nI (by omega) (by omega)) rfl ?_
      rw [mI_cl (by omega)]
      have eF : (tF np K X q j v st t) i = some ((rns np K X 500 ((upd v j (nI i), st, t), bgn K q true (fun _ => 0) (fun _ => 0) (fun _ => false))).2.1.1.1 j) := if_pos qe
      generalize hg : List.set h1 398 _ = h2
      have m2 : mz_mo [398] 0 0 h1 h2 := by rw [← hg]; exact mz_mo.s (mz_mo.rf _ _ _ _) (by decide) g1 rfl (Or.inl (by simp))
      have g2 : mj_rd h2 398 = some (.inl (0, (16, .inl (upd rf (tS (tF np K X q j v st t) i).1 ((rns np K X 500 ((upd v j (nI i), st, t), bgn K q true (fun _ => 0) (fun _ => 0) (fun _ => false))).2.1.1.1 j))))) := by rw [← hg]; exact rd_set (by decide) g1
      clear hg
      have z2 := m2.1 0 (by decide) _ z1
      have q2 := q1.fr m2.1 (by decide) (by decide) (by decide)
      have s2 := s1.fr m2.1 (by decide) (by decide) (by decide)
      have r2 := r1.fr m2.1 (by decide)
      have hl2 := hl1.fr m2.1 (fun x hx => by rw [List.mem_singleton] at hx; omega)
      have m12 : mz_mo (398 :: cML 387 378) 0 0 h h2 := mo00 (m1.wk (fun y hy => Or.inl (List.mem_cons_of_mem _ hy)) (Nat.le_refl _) (Nat.le_refl _)) (m2.wk (fun y hy => Or.inl (by rw [List.mem_singleton] at hy; rw [hy]; exact List.mem_cons_self)) (Nat.le_refl _) (Nat.le_refl _))
      have hrf2 : ∀ k, k < (tS (tF np K X q j v st t) (i + 1)).1 → upd rf (tS (tF np K X q j v st t) i).1 ((rns np K X 500 ((upd v j (nI i), st, t), bgn K q true (fun _ => 0) (fun _ => 0) (fun _ => false))).2.1.1.1 j) k = (tS (tF np K X q j v st t) (i + 1)).2 k := by
        intro k hk
        rw [tS_s eF] at hk ⊢
        have hk : k < (tS (tF np K X q j v st t) i).1 + 1 := hk
        show upd rf (tS (tF np K X q j v st t) i).1 _ k = upd (tS (tF np K X q j v st t) i).2 (tS (tF np K X q j v st t) i).1 _ k
        unfold upd
        by_cases qk : k = (tS (tF np K X q j v st t) i).1
        · rw [if_pos qk, if_pos qk]
        · rw [if_neg qk, if_neg qk]
          exact hrf k (by omega)
      refine s_inc (p' := 93) (ls' := [_, _, _, _, _, _]) rfl rfl rfl rfl rfl ?_
      rw [mI_add, show (tS (tF np K X q j v st t) i).1 + 1 = (tS (tF np K X q j v st t) (i + 1)).1 by rw [tS_s eF]]
      refine s_inc (p' := 96) (ls' := [_, _, _, _, _, _]) rfl rfl rfl rfl rfl ?_
      rw [mI_add]
      refine s_goto (p' := 43) rfl rfl ?_
      exact (ih h2 _ l5 (by omega) g2 hrf2 z2 q2 ⟨_, s2⟩ ⟨_, _, _, r2.b⟩ hl2).imp fun o ho => by
        obtain ⟨rv, h', e1, e2, a1, a2, a3, m2⟩ := ho
        exact ⟨rv, h', e1, e2, a1, a2, a3, mo00 m12 m2⟩
    · refine s_if (p' := 93) true rfl (by rw [Bool.eq_false_iff.mpr qe]; decide +kernel) rfl ?_
      refine s_inc (p' := 96) (ls' := [_, _, _, _, _, _]) rfl rfl rfl rfl rfl ?_
      have eF : (tF np K X q j v st t) i = none := if_neg qe
      rw [mI_add, show (tS (tF np K X q j v st t) i).1 = (tS (tF np K X q j v st t) (i + 1)).1 by rw [tS_n eF]]
      refine s_goto (p' := 43) rfl rfl ?_
      exact (ih h1 rf l5 (by omega) g1 (by rw [tS_n eF]; exact hrf) z1 q1 ⟨_, s1⟩ ⟨_, _, _, r1.b⟩ hl1).imp fun o ho => by
        obtain ⟨rv, h', e1, e2, a1, a2, a3, m2⟩ := ho
        exact ⟨rv, h', e1, e2, a1, a2, a3, mo00 (m1.wk (fun y hy => Or.inl (List.mem_cons_of_mem _ hy)) (Nat.le_refl _) (Nat.le_refl _)) m2⟩
theorem x_alk {h : mj_H} {np : Nat} {K : Nat → Nat} {X : Nat → Nat → Nat → Nat} {gs pl : Value} {sd be : Int64} (h0 : mj_rd h 0 = some (xC_ gs pl sd be)) (hl : cLb h np K X) (hp : pOk np K X) {q j : Nat} (hq : q < np) (hj : j < 8) {v st : Nat → Int32} {t : Nat} (hS : cSt h 375 (v, st, t)) (hT : ∃ s0, cSt h 378 s0) (hR : ∃ b r z, cRb h 387 378 b r z) {rf : Nat → Int32} (h8 : mj_rd h 398 = some (.inl (0, (16, .inl rf)))) : mj_Wp 12 205 (0, [some (.ref 0), some (.int (nI q)), some (.int (nI (97 + j))), none, none, none], [], h) (mz_V fun rv h' => rv = .int (nI (mxA (tS (tF np K X q j v st t) 16).2 (tS (tF np K X q j v st t) 16).1 (tS (tF np K X q j v st t) 16).1)) ∧ (∃ s0, cSt h' 378 s0) ∧ (∃ b r z, cRb h' 387 378 b r z) ∧ (∃ rf, mj_rd h' 398 = some (.inl (0, (16, .inl rf)))) ∧ mz_mo (398 :: cML 387 378) 0 0 h h') := by
  refine s_aldn (p' := 1) rfl rfl rfl ?_
  refine s_gf (p' := 4) rfl h0 rfl rfl ?_
  refine s_ildn (p' := 5) rfl rfl rfl ?_
  refine s_callV (p' := 8) (ls0 := [_, _]) rfl rfl rfl rfl rfl (mj_rcv_is hl.2.1) rfl (x_lhas hl.2.1 hl.1 (by have := hl.1; omega)) (by first | decide | omega) rfl ?_
  refine s_if (p' := 21) true rfl (by rw [decide_eq_true hq]; decide +kernel) rfl ?_
  refine s_ildn (p' := 22) rfl rfl rfl ?_
  refine s_callV (p' := 25) (ls0 := [_]) rfl rfl rfl rfl rfl rfl rfl (x_isc (c := 97 + j) (by omega)) (by first | decide | omega) rfl ?_
  refine s_if (p' := 38) true rfl (by rw [show vB (97 + j) = true from decide_eq_true (by omega)]; decide +kernel) rfl ?_
  refine s_con (p' := 39) rfl rfl ?_
  refine s_istn (p' := 40) (ls' := [_, _, _, _, _, _]) rfl rfl rfl rfl ?_
  refine s_con (p' := 41) rfl rfl ?_
  refine s_ist (p' := 43) (ls' := [_, _, _, _, _, _]) rfl rfl rfl rfl ?_
  exact x_alL hp hq hj 16 0 h rf none rfl h8 (fun k hk => absurd hk (Nat.not_lt_zero k)) h0 hS hT hR hl
theorem y_tblT {I : Nat → Prop} {h : mj_H} {np : Nat} {K : Nat → Nat} {X : Nat → Nat → Nat → Nat} (hl : yLb I h np K X) (hn : np ≤ 6) {th : Int32} {sd be : Int64} {ty wa nw nx : Value} (h4 : mj_rd h 400 = some (yC_ th ty sd be wa nw nx)) (hI4 : ¬ I 400) {p : Int32} (hpr : p.toInt < 0 ∨ (np : Int) ≤ p.toInt) {u y : Int32} : mj_Wp 4 414 (0, [some (.ref 400), some (.int p), some (.int u), some (.int y), none, none, none, none, none, none, none], [], h) (mz_V fun rv h' => rv = .int (nI 0) ∧ mj_rd h' 400 = some (yC_ (nI 1) ty sd be wa nw nx) ∧ mz_mo [400] 0 0 h h') := by
  refine s_aldn (p' := 1) rfl rfl rfl ?_
  refine s_aldn (p' := 2) rfl rfl rfl ?_
  refine s_ildn (p' := 3) rfl rfl rfl ?_
  refine s_callV (p' := 6) (ls0 := [_, _]) rfl rfl rfl rfl rfl (mj_rcv_is h4) rfl (y_ispF hl hn hpr) (by first | decide | omega) rfl ?_
  refine s_if (p' := 9) false rfl (by decide +kernel) rfl ?_
  refine s_con (p' := 10) rfl rfl ?_
  refine s_goto (p' := 25) rfl rfl ?_
  refine c_call (p' := 28) (kc := 3) (ls0 := [_, _]) rfl rfl rfl rfl rfl (mj_rcv_is h4) rfl rfl rfl ?_
  refine s_aldn (p' := 1) rfl rfl rfl ?_
  refine s_ildn (p' := 2) rfl rfl rfl ?_
  refine s_pf (p' := 5) (fs' := [_, _, _, _, _, _, _, _, _, _, _]) rfl (by decide) h4 (Nat.blt_eq.mp rfl) rfl rfl rfl ?_
  have hlx := yLb.th (th' := nI 1) (ty' := ty) (sd' := sd) (be' := be) (wa' := wa) (nw' := nw) (nx' := nx) hl h4 hI4
  have mx := m4s (th' := nI 1) (ty' := ty) (sd' := sd) (be' := be) (wa' := wa) (nw' := nw) (nx' := nx) h4
  have y1 : mj_rd (List.set h 400 (yC_ (nI 1) ty sd be wa nw nx)) 400 = some (yC_ (nI 1) ty sd be wa nw nx) := rd_set (by decide) h4
  generalize hg : List.set h 400 _ = k1 at *
  clear hg
  refine s_ildn (p' := 6) rfl rfl rfl ?_
  refine s_if (p' := 9) false rfl (by decide +kernel) rfl ?_
  refine s_con (p' := 10) rfl rfl ?_
  refine s_goto (p' := 14) rfl rfl ?_
  refine c_iret rfl rfl ?_
  refine s_if (p' := 31) false rfl (by decide +kernel) rfl ?_
  refine s_con (p' := 32) rfl rfl ?_
  refine s_iret rfl rfl ?_
  exact ⟨_, _, rfl, rfl, y1, mx⟩
theorem y_tblV {I : Nat → Prop} {h : mj_H} {np : Nat} {K : Nat → Nat} {X : Nat → Nat → Nat → Nat} (hl : yLb I h np K X) (hn : np ≤ 6) {th : Int32} {sd be : Int64} {ty wa nw nx : Value} (h4 : mj_rd h 400 = some (yC_ th ty sd be wa nw nx)) (hI4 : ¬ I 400) {q v : Nat} (hq : q < np) {y : Int32} (hv : v < 65536) (hvb : vB v = false) : mj_Wp 4 414 (0, [some (.ref 400), some (.int (nI q)), some (.int (nI v)), some (.int y), none, none, none, none, none, none, none], [], h) (mz_V fun rv h' => rv = .int (nI 0) ∧ mj_rd h' 400 = some (yC_ (nI 2) ty sd be wa nw nx) ∧ mz_mo [400] 0 0 h h') := by
  refine s_aldn (p' := 1) rfl rfl rfl ?_
  refine s_aldn (p' := 2) rfl rfl rfl ?_
  refine s_ildn (p' := 3) rfl rfl rfl ?_
  refine s_callV (p' := 6) (ls0 := [_, _]) rfl rfl rfl rfl rfl (mj_rcv_is h4) rfl (y_isp hl hn hq) (by first | decide | omega) rfl ?_
  refine s_if (p' := 13) true rfl (by decide +kernel) rfl ?_
  refine s_ildn (p' := 14) rfl rfl rfl ?_
  refine s_callV (p' := 17) (ls0 := [_]) rfl rfl rfl rfl rfl rfl rfl (y_isvC hv) (by first | decide | omega) rfl ?_
  refine s_if (p' := 20) false rfl (by rw [hvb]; decide +kernel) rfl ?_
  refine s_con (p' := 21) rfl rfl ?_
  refine s_goto (p' := 25) rfl rfl ?_
  refine c_call (p' := 28) (kc := 3) (ls0 := [_, _]) rfl rfl rfl rfl rfl (mj_rcv_is h4) rfl rfl rfl ?_
  refine s_aldn (p' := 1) rfl rfl rfl ?_
  refine s_ildn (p' := 2) rfl rfl rfl ?_
  refine s_pf (p' := 5) (fs' := [_, _, _, _, _, _, _, _, _, _, _]) rfl (by decide) h4 (Nat.blt_eq.mp rfl) rfl rfl rfl ?_
  have hlx := yLb.th (th' := nI 2) (ty' := ty) (sd' := sd) (be' := be) (wa' := wa) (nw' := nw) (nx' := nx) hl h4 hI4
  have mx := m4s (th' := nI 2) (ty' := ty) (sd' := sd) (be' := be) (wa' := wa) (nw' := nw) (nx' := nx) h4
  have y1 : mj_rd (List.set h 400 (yC_ (nI 2) ty sd be wa nw nx)) 400 = some (yC_ (nI 2) ty sd be wa nw nx) := rd_set (by decide) h4
  generalize hg : List.set h 400 _ = k1 at *
  clear hg
  refine s_ildn (p' := 6) rfl rfl rfl ?_
  refine s_if (p' := 9) false rfl (by decide +kernel) rfl ?_
  refine s_con (p' := 10) rfl rfl ?_
  refine s_goto (p' := 14) rfl rfl ?_
  refine c_iret rfl rfl ?_
  refine s_if (p' := 31) false rfl (by decide +kernel) rfl ?_
  refine s_con (p' := 32) rfl rfl ?_
  refine s_iret rfl rfl ?_
  exact ⟨_, _, rfl, rfl, y1, mx⟩
theorem y_smC {h : mj_H} {A : Nat} {af : Nat → Int32} (hA : mj_rd h A = some (.inl (0, (16, .inl af)))) {c : Nat} (hc : c ≤ 16) {x : Int32} {k : Nat} {P : mj_O × mj_H → Prop} {l0 l1 l2 l3 l6 l7 : Option Value} (hn : mj_Wp k 414 (124, [l0, l1, l2, l3, some (.ref A), some (.int (nI c)), l6, l7, some (.int x), some (.int (nI (cnI af x c))), some (.int (nI c))], [], h) P) : ∀ (n i : Nat), i + n = c → mj_Wp k 414 (91, [l0, l1, l2, l3, some (.ref A), some (.int (nI c)), l6, l7, some (.int x), some (.int (nI (cnI af x i))), some (.int (nI i))], [], h) P
  | 0, i, hi => by
    obtain rfl : i = c := by omega
    refine s_ild (p' := 93) rfl rfl rfl ?_
    refine s_ild (p' := 95) rfl rfl rfl ?_
    refine s_icmp (p' := 124) true rfl ((ci_ge (by omega) (by omega)).trans (decide_eq_true (by omega))) rfl ?_
    exact hn
  | n + 1, i, hi => by
    have ih := y_smC hA hc hn n (i + 1) (by omega)
    have hle := cnI_le af x i
    refine s_ild (p' := 93) rfl rfl rfl ?_
    refine s_ild (p' := 95) rfl rfl rfl ?_
    refine s_icmp (p' := 98) false rfl ((ci_ge (by omega) (by omega)).trans (decide_eq_false (by omega))) rfl ?_
    refine s_ild (p' := 100) rfl rfl rfl ?_
    refine s_ald (p' := 102) rfl rfl rfl ?_
    refine s_ild (p' := 104) rfl rfl rfl ?_
    refine s_ial (p' := 105) rfl hA (inb_nI (by omega) (by omega)) rfl ?_
    rw [mI_cl (by omega)]
    refine s_ild (p' := 107) rfl rfl rfl ?_
    by_cases qe : af i = x
    · refine s_icmp (p' := 110) false rfl (decide_eq_false (fun e => e qe)) rfl ?_
      refine s_con (p' := 111) rfl rfl ?_
      refine s_goto (p' := 115) rfl rfl ?_
      refine s_sp (p' := 116) (ls' := _) rfl rfl rfl ?_
      rw [mI_add, show cnI af x i + 1 = cnI af x (i + 1) by rw [cnI, if_pos qe]]
      refine s_ist (p' := 118) (ls' := [_, _, _, _, _, _, _, _, _, _, _]) rfl rfl rfl rfl ?_
      refine s_inc (p' := 121) (ls' := [_, _, _, _, _, _, _, _, _, _, _]) rfl rfl rfl rfl rfl ?_
      rw [mI_add]
      refine s_goto (p' := 91) rfl rfl ?_
      exact ih
    · refine s_icmp (p' := 114) true rfl (decide_eq_true qe) rfl ?_
      refine s_con (p' := 115) rfl rfl ?_
      refine s_sp (p' := 116) (ls' := _) rfl rfl rfl ?_
      rw [mI_add, show cnI af x i + 0 = cnI af x (i + 1) by rw [cnI, if_neg qe]]
      refine s_ist (p' := 118) (ls' := [_, _, _, _, _, _, _, _, _, _, _]) rfl rfl rfl rfl ?_
      refine s_inc (p' := 121) (ls' := [_, _, _, _, _, _, _, _, _, _, _]) rfl rfl rfl rfl rfl ?_
      rw [mI_add]
      refine s_goto (p' := 91) rfl rfl ?_
      exact ih
theorem y_tbL {np q j : Nat} {v0 st0 : Nat → Int32} {t0 : Nat} {I : Nat → Prop} {sd be : Int64} {ty wa nw nx : Value} {K : Nat → Nat} {X : Nat → Nat → Nat → Nat} (hn : np ≤ 6) (hp : pOk np K X) (hq : q < np) (hj : j < 8) (hI4 : ¬ I 400) (hI : ∀ x, x ∈ wML 402 → ¬ I x) {N A : Nat} (hIl : ∀ a, I a → a < N) (hN : 414 ≤ N) (hA1 : N ≤ A) {l3 : Bool} : ∀ (n i : Nat) (h : mj_H) (af : Nat → Int32) (l8 l9 l10 : Option Value), i + n = 16 → (∃ th, mj_rd h 400 = some (yC_ th ty sd be wa nw nx)) → mj_rd h A = some (.inl (0, (16, .inl af))) → (∀ k, k < (tS (tF np K X q j v0 st0 t0) i).1 → af k = (tS (tF np K X q j v0 st0 t0) i).2 k) → A < h.length → yLb I h np K X → yWb h 402 (v0, st0, t0) → h.length + 20 * n + 20 < mj_CB → mj_Wp 20 414 (48, [some (.ref 400), some (.int (nI q)), some (.int (nI (97 + j))), some (.int (nI (bN l3))), some (.ref A), some (.int (nI (tS (tF np K X q j v0 st0 t0) i).1)), some (.int (nI (pmA (tS (tF np K X q j v0 st0 t0) i).2 (tS (tF np K X q j v0 st0 t0) i).1))), some (.int (nI i)), l8, l9, l10], [], h) (mz_V fun rv h' => rv = .int (nI (if l3 = true then pmA (tS (tF np K X q j v0 st0 t0) 16).2 (tS (tF np K X q j v0 st0 t0) 16).1 else (tS (tF np K X q j v0 st0 t0) 16).1)) ∧ mj_rd h' 400 = some (yC_ (nI 0) ty sd be wa nw nx) ∧ mz_mo [400, A] (8 * n) (106 * n) h h')
  | 0, i, h, af, l8, l9, l10, hi, ⟨th, h4⟩, hA, haf, hA2, hl, hy, hb => by
    obtain rfl : i = 16 := by omega
    have a := m4s (th' := nI 0) (ty' := ty) (sd' := sd) (be' := be) (wa' := wa) (nw' := nw) (nx' := nx) h4
    have y1 : mj_rd (List.set h 400 (yC_ (nI 0) ty sd be wa nw nx)) 400 = some (yC_ (nI 0) ty sd be wa nw nx) := rd_set (by decide) h4
    have m9 := a.wk (L' := [400, A]) (k := 0) (z := 0) (fun y hy => Or.inl (by rw [List.mem_singleton] at hy; rw [hy]; exact List.mem_cons_self)) (Nat.le_refl _) (Nat.le_refl _)
    cases l3 with
    | true =>
      refine s_ild (p' := 50) rfl rfl rfl ?_
      refine s_bip (p' := 52) rfl rfl ?_
      refine s_icmp (p' := 139) true rfl (by decide +kernel) rfl ?_
      refine s_aldn (p' := 140) rfl rfl rfl ?_
      refine s_con (p' := 141) rfl rfl ?_
      refine s_pf (p' := 144) (fs' := [_, _, _, _, _, _, _, _, _, _, _]) rfl (by decide) h4 (Nat.blt_eq.mp rfl) rfl rfl rfl ?_
      refine s_ildn (p' := 145) rfl rfl rfl ?_
      refine s_if (p' := 148) false rfl (by decide +kernel) rfl ?_
      refine s_ild (p' := 150) rfl rfl rfl ?_
      refine s_goto (p' := 155) rfl rfl ?_
      refine s_iret rfl rfl ?_
      exact ⟨_, _, rfl, rfl, y1, m9⟩
    | false =>
      refine s_ild (p' := 50) rfl rfl rfl ?_
      refine s_bip (p' := 52) rfl rfl ?_
      refine s_icmp (p' := 139) true rfl (by decide +kernel) rfl ?_
      refine s_aldn (p' := 140) rfl rfl rfl ?_
      refine s_con (p' := 141) rfl rfl ?_
      refine s_pf (p' := 144) (fs' := [_, _, _, _, _, _, _, _, _, _, _]) rfl (by decide) h4 (Nat.blt_eq.mp rfl) rfl rfl rfl ?_
      refine s_ildn (p' := 145) rfl rfl rfl ?_
      refine s_if (p' := 153) true rfl (by decide +kernel) rfl ?_
      refine s_ild (p' := 155) rfl rfl rfl ?_
      refine s_iret rfl rfl ?_
      exact ⟨_, _, rfl, rfl, y1, m9⟩
  | n + 1, i, h, af, l8, l9, l10, hi, ⟨th, h4⟩, hA, haf, hA2, hl, hy, hb => by
    have ih := y_tbL (sd := sd) (be := be) (ty := ty) (wa := wa) (nw := nw) (nx := nx) (v0 := v0) (st0 := st0) (t0 := t0) hn hp hq hj hI4 hI hIl hN hA1 (l3 := l3) n (i + 1)
    have hle := tS_le (tF np K X q j v0 st0 t0) i
    have hbd := pmA_bd (tS (tF np K X q j v0 st0 t0) i).2 (tS (tF np K X q j v0 st0 t0) i).1
    have hIl2 : ∀ a, I a → a < h.length := fun a ha => by have := hIl a ha; omega
    have hAI : ¬ I A := fun q => by have := hIl A q; omega
    cases qe : edd K (rns np K X 500 ((upd v0 j (nI i), st0, t0), bgn K q true (fun _ => 0) (fun _ => 0) (fun _ => false))).2.1.2 with
    | true =>
      refine s_ild (p' := 50) rfl rfl rfl ?_
      refine s_bip (p' := 52) rfl rfl ?_
      refine s_icmp (p' := 55) false rfl ((ci_ge (by omega) (by omega)).trans (decide_eq_false (by omega))) rfl ?_
      refine s_aldn (p' := 56) rfl rfl rfl ?_
      refine s_ildn (p' := 57) rfl rfl rfl ?_
      refine s_ildn (p' := 58) rfl rfl rfl ?_
      refine s_ild (p' := 60) rfl rfl rfl ?_
      refine s_callEV (p' := 63) (ls0 := [_, _, _, _, _]) rfl rfl rfl rfl rfl (mj_rcv_is h4) rfl (y_img hl hn h4 hI4 hI hIl2 (by omega) (by omega) hp hq hj (y := nI i) (fun _ => 0) (fun _ => 0) (fun _ => false) hy qe) rfl rfl ?_
      rintro _ h1 ⟨rfl, zz, m1⟩
      have z1 := zz
      have g1 := m1.1 A (by rw [List.mem_singleton]; omega) _ hA
      have hl1 := hl.gn m1.1 ⟨_, _, _, _, _, _, _, _, _, _, z1⟩ (fun x hx => by rw [List.mem_singleton] at hx; subst hx; exact ⟨hI4, by decide, _, h4, fun y e => by cases e⟩)
      have y1 := hy.fr m1.1 (fun x hx => by rw [List.mem_singleton] at hx; omega)
      have hm1 := mo_le m1
      have m1' := m1.wk (L' := [400, A]) (k := 8) (z := 106) (fun y hy => Or.inl (by rw [List.mem_singleton] at hy; rw [hy]; exact List.mem_cons_self)) (Nat.le_refl _) (Nat.le_refl _)
      refine s_ist (p' := 65) (ls' := [_, _, _, _, _, _, _, _, _, _, _]) rfl rfl rfl rfl ?_
      refine s_aldn (p' := 66) rfl rfl rfl ?_
      refine s_gf (p' := 69) rfl z1 rfl rfl ?_
      refine s_if (p' := 75) true rfl (by decide +kernel) rfl ?_
      refine s_ald (p' := 77) rfl rfl rfl ?_
      refine s_ild (p' := 79) rfl rfl rfl ?_
      refine s_ild (p' := 81) rfl rfl rfl ?_
      refine s_ias (p' := 82) rfl (by omega) g1 (inb_nI (by omega) (by omega)) rfl ?_
      rw [mI_cl (by omega)]
      have eF : (tF np K X q j v0 st0 t0) i = some ((rns np K X 500 ((upd v0 j (nI i), st0, t0), bgn K q true (fun _ => 0) (fun _ => 0) (fun _ => false))).2.1.1.1 j) := if_pos qe
      generalize hg : List.set h1 A _ = h2
      have m2 : mz_mo [A] 0 0 h1 h2 := by rw [← hg]; exact mz_mo.s (mz_mo.rf _ _ _ _) (by omega) g1 rfl (Or.inl (by simp))
      have g2 : mj_rd h2 A = some (.inl (0, (16, .inl (upd af (tS (tF np K X q j v0 st0 t0) i).1 ((rns np K X 500 ((upd v0 j (nI i), st0, t0), bgn K q true (fun _ => 0) (fun _ => 0) (fun _ => false))).2.1.1.1 j))))) := by rw [← hg]; exact rd_set (by omega) g1
      clear hg
      have z2 := m2.1 400 (by rw [List.mem_singleton]; omega) _ z1
      have hl2 := hl1.gn m2.1 ⟨_, _, _, _, _, _, _, _, _, _, z2⟩ (fun x hx => by rw [List.mem_singleton] at hx; subst hx; exact ⟨hAI, by omega, _, g1, fun y e => by cases e⟩)
      have y2 := y1.fr m2.1 (fun x hx => by rw [List.mem_singleton] at hx; omega)
      have hm2 := mo_le m2
      have m12 : mz_mo [400, A] 8 106 h h2 := m1'.tr m2 (fun y hy => Or.inl (by rw [List.mem_singleton] at hy; rw [hy]; simp)) (Nat.le_refl _) (Nat.le_refl _)
      have haf2 : ∀ k, k < (tS (tF np K X q j v0 st0 t0) (i + 1)).1 → upd af (tS (tF np K X q j v0 st0 t0) i).1 ((rns np K X 500 ((upd v0 j (nI i), st0, t0), bgn K q true (fun _ => 0) (fun _ => 0) (fun _ => false))).2.1.1.1 j) k = (tS (tF np K X q j v0 st0 t0) (i + 1)).2 k := by
        intro k hk
        rw [tS_s eF] at hk ⊢
        have hk : k < (tS (tF np K X q j v0 st0 t0) i).1 + 1 := hk
        show upd af (tS (tF np K X q j v0 st0 t0) i).1 _ k = upd (tS (tF np K X q j v0 st0 t0) i).2 (tS (tF np K X q j v0 st0 t0) i).1 _ k
        unfold upd
        by_cases qk : k = (tS (tF np K X q j v0 st0 t0) i).1
        · rw [if_pos qk, if_pos qk]
        · rw [if_neg qk, if_neg qk]
          exact haf k (by omega)
      refine s_inc (p' := 85) (ls' := [_, _, _, _, _, _, _, _, _, _, _]) rfl rfl rfl rfl rfl ?_
      rw [mI_add, show (tS (tF np K X q j v0 st0 t0) i).1 + 1 = (tS (tF np K X q j v0 st0 t0) (i + 1)).1 by rw [tS_s eF]]
      refine s_con (p' := 86) rfl rfl ?_
      refine s_ist (p' := 88) (ls' := [_, _, _, _, _, _, _, _, _, _, _]) rfl rfl rfl rfl ?_
      refine s_con (p' := 89) rfl rfl ?_
      refine s_ist (p' := 91) (ls' := [_, _, _, _, _, _, _, _, _, _, _]) rfl rfl rfl rfl ?_
      refine y_smC g2 (by have := tS_le (tF np K X q j v0 st0 t0) (i + 1); omega) ?_ (tS (tF np K X q j v0 st0 t0) (i + 1)).1 0 (Nat.zero_add _)
      refine s_ild (p' := 126) rfl rfl rfl ?_
      refine s_ild (p' := 128) rfl rfl rfl ?_
      refine s_primV (p' := 131) (q := 4) rfl rfl rfl rfl rfl rfl rfl rfl ?_
      rw [mx_i (by have := pmA_bd (tS (tF np K X q j v0 st0 t0) i).2 (tS (tF np K X q j v0 st0 t0) i).1; omega) (by have := cnI_le (upd af (tS (tF np K X q j v0 st0 t0) i).1 ((rns np K X 500 ((upd v0 j (nI i), st0, t0), bgn K q true (fun _ => 0) (fun _ => 0) (fun _ => false))).2.1.1.1 j)) ((rns np K X 500 ((upd v0 j (nI i), st0, t0), bgn K q true (fun _ => 0) (fun _ => 0) (fun _ => false))).2.1.1.1 j) (tS (tF np K X q j v0 st0 t0) (i + 1)).1; have := tS_le (tF np K X q j v0 st0 t0) (i + 1); omega), tS_pm eF haf2]
      refine s_ist (p' := 133) (ls' := [_, _, _, _, _, _, _, _, _, _, _]) rfl rfl rfl rfl ?_
      refine s_inc (p' := 136) (ls' := [_, _, _, _, _, _, _, _, _, _, _]) rfl rfl rfl rfl rfl ?_
      rw [mI_add]
      refine s_goto (p' := 48) rfl rfl ?_
      exact (ih h2 _ _ _ _ (by omega) ⟨_, z2⟩ g2 haf2 (by omega) hl2 y2 (by omega)).imp fun o ho => by
        obtain ⟨rv, h', e1, e2, a3, m2⟩ := ho
        exact ⟨rv, h', e1, e2, a3, m12.tr m2 (fun y hy => Or.inl hy) (by omega) (by omega)⟩
    | false =>
      refine s_ild (p' := 50) rfl rfl rfl ?_
      refine s_bip (p' := 52) rfl rfl ?_
      refine s_icmp (p' := 55) false rfl ((ci_ge (by omega) (by omega)).trans (decide_eq_false (by omega))) rfl ?_
      refine s_aldn (p' := 56) rfl rfl rfl ?_
      refine s_ildn (p' := 57) rfl rfl rfl ?_
      refine s_ildn (p' := 58) rfl rfl rfl ?_
      refine s_ild (p' := 60) rfl rfl rfl ?_
      refine s_callEV (p' := 63) (ls0 := [_, _, _, _, _]) rfl rfl rfl rfl rfl (mj_rcv_is h4) rfl (y_imgE hl hn h4 hI4 hI hIl2 (by omega) (by omega) hp hq hj (y := nI i) (fun _ => 0) (fun _ => 0) (fun _ => false) hy qe) rfl rfl ?_
      rintro _ h1 ⟨rfl, zz, m1⟩
      have z1 := zz
      have g1 := m1.1 A (by rw [List.mem_singleton]; omega) _ hA
      have hl1 := hl.gn m1.1 ⟨_, _, _, _, _, _, _, _, _, _, z1⟩ (fun x hx => by rw [List.mem_singleton] at hx; subst hx; exact ⟨hI4, by decide, _, h4, fun y e => by cases e⟩)
      have y1 := hy.fr m1.1 (fun x hx => by rw [List.mem_singleton] at hx; omega)
      have hm1 := mo_le m1
      have m1' := m1.wk (L' := [400, A]) (k := 8) (z := 106) (fun y hy => Or.inl (by rw [List.mem_singleton] at hy; rw [hy]; exact List.mem_cons_self)) (Nat.le_refl _) (Nat.le_refl _)
      refine s_ist (p' := 65) (ls' := [_, _, _, _, _, _, _, _, _, _, _]) rfl rfl rfl rfl ?_
      refine s_aldn (p' := 66) rfl rfl rfl ?_
      refine s_gf (p' := 69) rfl z1 rfl rfl ?_
      refine s_if (p' := 72) false rfl (by decide +kernel) rfl ?_
      have eF : (tF np K X q j v0 st0 t0) i = none := if_neg (by rw [qe]; decide)
      refine s_goto (p' := 133) rfl rfl ?_
      refine s_inc (p' := 136) (ls' := [_, _, _, _, _, _, _, _, _, _, _]) rfl rfl rfl rfl rfl ?_
      rw [mI_add, show (tS (tF np K X q j v0 st0 t0) i).1 = (tS (tF np K X q j v0 st0 t0) (i + 1)).1 by rw [tS_n eF], show (tS (tF np K X q j v0 st0 t0) i).2 = (tS (tF np K X q j v0 st0 t0) (i + 1)).2 by rw [tS_n eF]]
      refine s_goto (p' := 48) rfl rfl ?_
      exact (ih h1 af _ _ _ (by omega) ⟨_, z1⟩ g1 (by rw [tS_n eF]; exact haf) (by omega) hl1 y1 (by omega)).imp fun o ho => by
        obtain ⟨rv, h', e1, e2, a3, m2⟩ := ho
        exact ⟨rv, h', e1, e2, a3, m1'.tr m2 (fun y hy => Or.inl hy) (by omega) (by omega)⟩
theorem y_tbl {I : Nat → Prop} {h : mj_H} {np : Nat} {K : Nat → Nat} {X : Nat → Nat → Nat → Nat} (hl : yLb I h np K X) (hn : np ≤ 6) {th : Int32} {sd be : Int64} {ty wa nw nx : Value} (h4 : mj_rd h 400 = some (yC_ th ty sd be wa nw nx)) (hI4 : ¬ I 400) (hI : ∀ x, x ∈ wML 402 → ¬ I x) (hIl : ∀ a, I a → a < h.length) (hN : 414 ≤ h.length) (hb : h.length + 400 < mj_CB) (hp : pOk np K X) {q : Nat} (hq : q < np) {v0 st0 : Nat → Int32} {t0 j : Nat} (hj : j < 8) {l3 : Bool} (hy : yWb h 402 (v0, st0, t0)) : mj_Wp 20 414 (0, [some (.ref 400), some (.int (nI q)), some (.int (nI (97 + j))), some (.int (nI (bN l3))), none, none, none, none, none, none, none], [], h) (mz_V fun rv h' => rv = .int (nI (if l3 = true then pmA (tS (tF np K X q j v0 st0 t0) 16).2 (tS (tF np K X q j v0 st0 t0) 16).1 else (tS (tF np K X q j v0 st0 t0) 16).1)) ∧ mj_rd h' 400 = some (yC_ (nI 0) ty sd be wa nw nx) ∧ mz_mo [400] 129 1712 h h') := by
  refine s_aldn (p' := 1) rfl rfl rfl ?_
  refine s_aldn (p' := 2) rfl rfl rfl ?_
  refine s_ildn (p' := 3) rfl rfl rfl ?_
  refine s_callV (p' := 6) (ls0 := [_, _]) rfl rfl rfl rfl rfl (mj_rcv_is h4) rfl (y_isp hl hn hq) (by first | decide | omega) rfl ?_
  refine s_if (p' := 13) true rfl (by decide +kernel) rfl ?_
  refine s_ildn (p' := 14) rfl rfl rfl ?_
  refine s_callV (p' := 17) (ls0 := [_]) rfl rfl rfl rfl rfl rfl rfl (y_isvC (v := 97 + j) (by omega)) (by first | decide | omega) rfl ?_
  refine s_if (p' := 24) true rfl (by rw [show vB (97 + j) = true from decide_eq_true (by omega)]; decide +kernel) rfl ?_
  refine s_con (p' := 25) rfl rfl ?_
  refine c_call (p' := 28) (kc := 3) (ls0 := [_, _]) rfl rfl rfl rfl rfl (mj_rcv_is h4) rfl rfl rfl ?_
  refine s_aldn (p' := 1) rfl rfl rfl ?_
  refine s_ildn (p' := 2) rfl rfl rfl ?_
  refine s_pf (p' := 5) (fs' := [_, _, _, _, _, _, _, _, _, _, _]) rfl (by decide) h4 (Nat.blt_eq.mp rfl) rfl rfl rfl ?_
  have hlx := yLb.th (th' := nI 0) (ty' := ty) (sd' := sd) (be' := be) (wa' := wa) (nw' := nw) (nx' := nx) hl h4 hI4
  have mx := m4s (th' := nI 0) (ty' := ty) (sd' := sd) (be' := be) (wa' := wa) (nw' := nw) (nx' := nx) h4
  have y1 : mj_rd (List.set h 400 (yC_ (nI 0) ty sd be wa nw nx)) 400 = some (yC_ (nI 0) ty sd be wa nw nx) := rd_set (by decide) h4
  generalize hg : List.set h 400 _ = k1 at *
  clear hg
  refine s_ildn (p' := 6) rfl rfl rfl ?_
  refine s_if (p' := 13) true rfl (by decide +kernel) rfl ?_
  refine s_con (p' := 14) rfl rfl ?_
  refine c_iret rfl rfl ?_
  refine s_if (p' := 33) true rfl (by decide +kernel) rfl ?_
  refine s_bip (p' := 35) rfl rfl ?_
  refine s_naz (p' := 37) (a := h.length) (n := 16) rfl (mx.leq rfl) rfl rfl ?_
  have w1 := hy.fr mx.1 (fun x hx => by rw [List.mem_singleton] at hx; omega)
  have ln1 : k1.length = h.length := mx.leq rfl
  generalize hg : k1 ++ [_] = k2
  have ma : mz_mo [] 1 16 k1 k2 := by rw [← hg]; exact mz_mo.ap [] k1 _
  have g2 : mj_rd k2 h.length = some (.inl (0, (16, .inl (fun _ => 0)))) := by rw [← hg]; exact rd_nw (Nat.blt_eq.mpr (by omega)) ln1
  clear hg
  have hl2 := hlx.ap ma.1
  have y2 := w1.fr ma.1 (fun x hx => absurd hx List.not_mem_nil)
  have z2 := ma.1 400 List.not_mem_nil _ y1
  have ln2 := rd_len (by omega) g2
  have hma := mo_le ma
  refine s_ast (p' := 39) (ls' := [_, _, _, _, _, _, _, _, _, _, _]) rfl rfl rfl rfl ?_
  refine s_con (p' := 40) rfl rfl ?_
  refine s_ist (p' := 42) (ls' := [_, _, _, _, _, _, _, _, _, _, _]) rfl rfl rfl rfl ?_
  refine s_con (p' := 43) rfl rfl ?_
  refine s_ist (p' := 45) (ls' := [_, _, _, _, _, _, _, _, _, _, _]) rfl rfl rfl rfl ?_
  refine s_con (p' := 46) rfl rfl ?_
  refine s_ist (p' := 48) (ls' := [_, _, _, _, _, _, _, _, _, _, _]) rfl rfl rfl rfl ?_
  refine (y_tbL hn hp hq hj hI4 hI (N := h.length) hIl hN (Nat.le_refl _) (l3 := l3) 16 0 k2 _ none none none rfl ⟨_, z2⟩ g2 (fun k hk => absurd hk (Nat.not_lt_zero k)) ln2 hl2 y2 (by omega)).imp ?_
  rintro o ⟨rv, h', e1, e2, a3, m2⟩
  exact ⟨rv, h', e1, e2, a3, mx.tr ((ma.wk (L' := [400]) (k := 1) (z := 16) (fun y hy => by cases hy) (Nat.le_refl _) (Nat.le_refl _)).tr m2 (L := [400]) (k := 129) (z := 1712) (fun y hy => by simp only [List.mem_cons, List.not_mem_nil, or_false] at hy ⊢; omega) (by omega) (by omega)) (fun y hy => Or.inl hy) (Nat.le_refl _) (Nat.le_refl _)⟩
