/-! Circuits as permutations: iterates, cycles. -/
theorem gt_gt {g v : Nat} (hg : g < 24) (hc : g % 8 / 2 ^ (g / 8) % 2 = 0) (hv : v < 8) : gt g (gt g v) = v :=
  of_decide_eq_true (gtall_of (P := fun g v => decide (g % 8 / 2 ^ (g / 8) % 2 = 0 → gt g (gt g v) = v)) (by decide +kernel) hg hv) hc
/-- gates told apart from what is no gate: the line isn't among its controls -/
def isG (g : Nat) : Prop := g < 24 ∧ g % 8 / 2 ^ (g / 8) % 2 = 0
theorem thr_inj {G : Nat → Nat} {n : Nat} (hG : ∀ j, j < n → isG (G j)) : ∀ (k j v w : Nat), j + k = n → v < 8 → w < 8 → thr G k j v = thr G k j w → v = w
  | 0, _, _, _, _, _, _, e => e
  | k + 1, j, v, w, hj, hv, hw, e => by
    have hg := hG j (by omega)
    have := thr_inj hG k (j + 1) _ _ (by omega) (gt_lt hg.1 hv) (gt_lt hg.1 hw) e
    rw [← gt_gt hg.1 hg.2 hv, this, gt_gt hg.1 hg.2 hw]
/-- more pigeons than holes -/
theorem pgh : ∀ (m n : Nat) (f : Nat → Nat), m < n → (∀ i, i < n → f i < m) → ∃ i j, i < j ∧ j < n ∧ f i = f j
  | 0, n, f, hm, hf => absurd (hf 0 hm) (Nat.not_lt_zero _)
  | m + 1, n, f, hm, hf => by
    by_cases hx : ∃ i, i < n - 1 ∧ f i = f (n - 1)
    · obtain ⟨i, h1, h2⟩ := hx
      exact ⟨i, n - 1, h1, by omega, h2⟩
    · have hne : ∀ i, i < n - 1 → f i ≠ f (n - 1) := fun i h e => hx ⟨i, h, e⟩
      obtain ⟨i, j, h1, h2, h3⟩ := pgh m (n - 1) (fun i => if f i > f (n - 1) then f i - 1 else f i) (by omega) (fun i hi => by
        have a := hf i (by omega)
        have b := hf (n - 1) (by omega)
        have c := hne i hi
        show (if f i > f (n - 1) then f i - 1 else f i) < m
        split <;> omega)
      refine ⟨i, j, h1, by omega, ?_⟩
      have a := hne i (by omega)
      have b := hne j h2
      have h3' : (if f i > f (n - 1) then f i - 1 else f i) = (if f j > f (n - 1) then f j - 1 else f j) := h3
      split at h3' <;> split at h3' <;> omega
/-- iterates -/
def it (P : Nat → Nat) : Nat → Nat → Nat
  | 0, v => v
  | k + 1, v => P (it P k v)
section ITS
variable {P : Nat → Nat}
theorem it_lt (hP : ∀ v, v < 8 → P v < 8) : ∀ (k v : Nat), v < 8 → it P k v < 8
  | 0, _, hv => hv
  | k + 1, v, hv => hP _ (it_lt hP k v hv)
theorem it_add : ∀ (a b v : Nat), it P (a + b) v = it P a (it P b v)
  | 0, b, v => by rw [Nat.zero_add]; rfl
  | a + 1, b, v => by rw [Nat.succ_add]; exact congrArg P (it_add a b v)
theorem it_inj (hP : ∀ v, v < 8 → P v < 8) (hI : ∀ v w, v < 8 → w < 8 → P v = P w → v = w) : ∀ (k v w : Nat), v < 8 → w < 8 → it P k v = it P k w → v = w
  | 0, _, _, _, _, e => e
  | k + 1, v, w, hv, hw, e => it_inj hP hI k v w hv hw (hI _ _ (it_lt hP k v hv) (it_lt hP k w hw) e)
theorem it_ret (hP : ∀ v, v < 8 → P v < 8) (hI : ∀ v w, v < 8 → w < 8 → P v = P w → v = w) {v : Nat} (hv : v < 8) : ∃ m, 1 ≤ m ∧ m ≤ 8 ∧ it P m v = v := by
  obtain ⟨i, j, h1, h2, h3⟩ := pgh 8 9 (fun i => it P i v) (by omega) (fun i _ => it_lt hP i v hv)
  refine ⟨j - i, by omega, by omega, ?_⟩
  have h3' : it P i v = it P j v := h3
  rw [show j = i + (j - i) by omega, it_add] at h3'
  exact (it_inj hP hI i _ _ hv (it_lt hP _ _ hv) h3').symm
/-- the least way back from m on -/
def cyk (P : Nat → Nat) (v : Nat) : Nat → Nat → Nat
  | 0, m => m
  | k + 1, m => if it P m v = v then m else cyk P v k (m + 1)
def cy (P : Nat → Nat) (v : Nat) : Nat := cyk P v 7 1
theorem cyk_is {v : Nat} : ∀ (k m : Nat), (∃ j, m ≤ j ∧ j ≤ m + k ∧ it P j v = v) → m ≤ cyk P v k m ∧ cyk P v k m ≤ m + k ∧ it P (cyk P v k m) v = v ∧ ∀ i, m ≤ i → i < cyk P v k m → it P i v ≠ v
  | 0, m, ⟨j, h1, h2, h3⟩ => by
    obtain rfl : j = m := by omega
    exact ⟨Nat.le_refl _, Nat.le_refl _, h3, fun i a b => absurd b (by show ¬ i < j; omega)⟩
  | k + 1, m, ⟨j, h1, h2, h3⟩ => by
    by_cases hm : it P m v = v
    · have e : cyk P v (k + 1) m = m := if_pos hm
      rw [e]
      exact ⟨Nat.le_refl _, by omega, hm, fun i a b => absurd b (by omega)⟩
    · have e : cyk P v (k + 1) m = cyk P v k (m + 1) := if_neg hm
      rw [e]
      have hj : m ≠ j := fun e => hm (e ▸ h3)
      obtain ⟨a, b, c, d⟩ := cyk_is k (m + 1) ⟨j, by omega, by omega, h3⟩
      exact ⟨by omega, by omega, c, fun i h1 h2 => if e : i = m then e ▸ hm else d i (by omega) h2⟩
theorem cy_is (hP : ∀ v, v < 8 → P v < 8) (hI : ∀ v w, v < 8 → w < 8 → P v = P w → v = w) {v : Nat} (hv : v < 8) : 1 ≤ cy P v ∧ cy P v ≤ 8 ∧ it P (cy P v) v = v ∧ ∀ i, 1 ≤ i → i < cy P v → it P i v ≠ v := by
  obtain ⟨m, h1, h2, h3⟩ := it_ret hP hI hv
  exact cyk_is 7 1 ⟨m, h1, by omega, h3⟩
theorem it_mod (hP : ∀ v, v < 8 → P v < 8) (hI : ∀ v w, v < 8 → w < 8 → P v = P w → v = w) {v : Nat} (hv : v < 8) : ∀ (k : Nat), it P k v = it P (k % cy P v) v := by
  intro k
  induction k using Nat.strongRecOn with
  | _ k ih =>
    have hc := cy_is hP hI hv
    by_cases hk : k < cy P v
    · rw [Nat.mod_eq_of_lt hk]
    · have e := ih (k - cy P v) (by omega)
      rw [show k = (k - cy P v) + cy P v by omega, it_add, hc.2.2.1, e, Nat.add_mod_right]
/-- the least of its cycle -/
def lec (P : Nat → Nat) (v : Nat) : Prop := ∀ i, 1 ≤ i → i < cy P v → v < it P i v
theorem lec_iff (hP : ∀ v, v < 8 → P v < 8) (hI : ∀ v w, v < 8 → w < 8 → P v = P w → v = w) {v : Nat} (hv : v < 8) : lec P v ↔ ∀ i, i < 8 → ¬ it P (i + 1) v < v := by
  have hc := cy_is hP hI hv
  constructor
  · intro h i hi hl
    rw [it_mod hP hI hv] at hl
    have hm := Nat.mod_lt (i + 1) (show cy P v > 0 by omega)
    by_cases h0 : (i + 1) % cy P v = 0
    · rw [h0] at hl
      exact absurd hl (Nat.lt_irrefl v)
    · have := h _ (by omega) hm
      omega
  · intro h i h1 h2
    have a := h (i - 1) (by omega)
    rw [show i - 1 + 1 = i by omega] at a
    have b := hc.2.2.2 i h1 h2
    omega
/-! how many elements have the cycle length m -/
def cnt (q : Nat → Bool) : Nat → Nat
  | 0 => 0
  | k + 1 => (if q k then 1 else 0) + cnt q k
theorem cnt_pg (q : Nat → Bool) : ∀ (k m : Nat) (f : Nat → Nat), (∀ i, i < m → f i < k ∧ q (f i) = true) → (∀ i j, i < m → j < m → f i = f j → i = j) → m ≤ cnt q k
  | 0, m, f, hf, _ => by
    cases m with
    | zero => exact Nat.le_refl _
    | succ m => exact absurd (hf 0 (by omega)).1 (Nat.not_lt_zero _)
  | k + 1, m, f, hf, hi => by
    show m ≤ (if q k then 1 else 0) + cnt q k
    by_cases hk : ∃ i, i < m ∧ f i = k
    · obtain ⟨i, h1, h2⟩ := hk
      have hq : q k = true := h2 ▸ (hf i h1).2
      have := cnt_pg q k (m - 1) (fun j => if j < i then f j else f (j + 1)) (fun j hj => by
        show (if j < i then f j else f (j + 1)) < k ∧ q (if j < i then f j else f (j + 1)) = true
        split
        · have a := hf j (by omega)
          have b : f j ≠ k := fun e => by have := hi j i (by omega) h1 (e.trans h2.symm); omega
          exact ⟨by omega, a.2⟩
        · have a := hf (j + 1) (by omega)
          have b : f (j + 1) ≠ k := fun e => by have := hi (j + 1) i (by omega) h1 (e.trans h2.symm); omega
          exact ⟨by omega, a.2⟩) (fun a b ha hb e => by
        have e' : (if a < i then f a else f (a + 1)) = (if b < i then f b else f (b + 1)) := e
        split at e' <;> split at e'
        · exact hi _ _ (by omega) (by omega) e'
        · have := hi _ _ (by omega) (by omega) e'; omega
        · have := hi _ _ (by omega) (by omega) e'; omega
        · have := hi _ _ (by omega) (by omega) e'; omega)
      rw [if_pos hq]
      omega
    · have := cnt_pg q k m f (fun i h => ⟨by have a := (hf i h).1; have b : f i ≠ k := fun e => hk ⟨i, h, e⟩; omega, (hf i h).2⟩) hi
      omega
end ITS
/-! the least number that all cycle lengths divide -/
def ock (c : Nat → Nat) : Nat → Nat → Nat → Nat
  | 0, _, a => a
  | k + 1, v, a => ock c k (v + 1) (Nat.lcm a (c v))
theorem ock_iff (c : Nat → Nat) : ∀ (k v a b : Nat), ock c k v a ∣ b ↔ a ∣ b ∧ ∀ w, v ≤ w → w < v + k → c w ∣ b
  | 0, v, a, b => ⟨fun h => ⟨h, fun w h1 h2 => absurd h2 (by omega)⟩, fun h => h.1⟩
  | k + 1, v, a, b => by
    rw [ock, ock_iff c k]
    constructor
    · rintro ⟨h1, h2⟩
      refine ⟨Nat.dvd_trans (Nat.dvd_lcm_left _ _) h1, fun w a1 a2 => ?_⟩
      by_cases e : w = v
      · rw [e]
        exact Nat.dvd_trans (Nat.dvd_lcm_right _ _) h1
      · exact h2 w (by omega) (by omega)
    · rintro ⟨h1, h2⟩
      exact ⟨Nat.lcm_dvd h1 (h2 v (Nat.le_refl _) (by omega)), fun w a1 a2 => h2 w (by omega) (by omega)⟩
theorem ock_pos (c : Nat → Nat) : ∀ (k v a : Nat), 0 < a → (∀ w, v ≤ w → w < v + k → 0 < c w) → 0 < ock c k v a
  | 0, _, _, ha, _ => ha
  | k + 1, v, a, ha, h => ock_pos c k (v + 1) _ (Nat.lcm_pos ha (h v (Nat.le_refl _) (by omega))) (fun w h1 h2 => h w (by omega) (by omega))
theorem cnt_ex (q : Nat → Bool) : ∀ (k : Nat), 0 < cnt q k → ∃ v, v < k ∧ q v = true
  | 0, h => absurd h (Nat.lt_irrefl 0)
  | k + 1, h => by
    by_cases e : q k = true
    · exact ⟨k, by omega, e⟩
    · have h' : 0 < (if q k then 1 else 0) + cnt q k := h
      rw [if_neg e, Nat.zero_add] at h'
      obtain ⟨v, a, b⟩ := cnt_ex q k h'
      exact ⟨v, by omega, b⟩
theorem cnt_in (q : Nat → Bool) : ∀ (k v : Nat), v < k → q v = true → 0 < cnt q k
  | 0, v, h, _ => absurd h (Nat.not_lt_zero v)
  | k + 1, v, h, hq => by
    show 0 < (if q k then 1 else 0) + cnt q k
    by_cases e : v = k
    · rw [← e, if_pos hq]
      omega
    · have := cnt_in q k v (by omega) hq
      omega
theorem cnt_sum (c : Nat → Nat) : ∀ (k : Nat), (∀ v, v < k → 1 ≤ c v ∧ c v ≤ 8) → cnt (fun v => c v == 1) k + cnt (fun v => c v == 2) k + cnt (fun v => c v == 3) k + cnt (fun v => c v == 4) k + cnt (fun v => c v == 5) k + cnt (fun v => c v == 6) k + cnt (fun v => c v == 7) k + cnt (fun v => c v == 8) k = k
  | 0, _ => rfl
  | k + 1, h => by
    have ih := cnt_sum c k (fun v hv => h v (by omega))
    have hc := h k (by omega)
    have e : ∀ m, cnt (fun v => c v == m) (k + 1) = (if c k = m then 1 else 0) + cnt (fun v => c v == m) k := fun m => by
      show (if (c k == m) = true then 1 else 0) + cnt (fun v => c v == m) k = _
      by_cases e : c k = m
      · rw [if_pos e, if_pos (beq_iff_eq.mpr e)]
      · rw [if_neg e, if_neg (fun q => e (beq_iff_eq.mp q))]
    rw [e 1, e 2, e 3, e 4, e 5, e 6, e 7, e 8]
    obtain e | e | e | e | e | e | e | e : c k = 1 ∨ c k = 2 ∨ c k = 3 ∨ c k = 4 ∨ c k = 5 ∨ c k = 6 ∨ c k = 7 ∨ c k = 8 := by omega
    all_goals
      rw [e]
      simp
      omega
theorem cyk_cg {P : Nat → Nat} {v w : Nat} (h : ∀ m, it P m v = v ↔ it P m w = w) : ∀ (k m : Nat), cyk P v k m = cyk P w k m
  | 0, _ => rfl
  | k + 1, m => by
    show (if it P m v = v then m else cyk P v k (m + 1)) = (if it P m w = w then m else cyk P w k (m + 1))
    rw [cyk_cg h k]
    by_cases e : it P m v = v
    · rw [if_pos e, if_pos ((h m).mp e)]
    · rw [if_neg e, if_neg (fun q => e ((h m).mpr q))]
theorem lcm_bd : ∀ b1 b2 b3 b4 b5 b6 b7 b8 : Bool, cond b1 1 0 + cond b2 2 0 + cond b3 3 0 + cond b4 4 0 + cond b5 5 0 + cond b6 6 0 + cond b7 7 0 + cond b8 8 0 ≤ 8 → Nat.lcm (Nat.lcm (Nat.lcm (Nat.lcm (Nat.lcm (Nat.lcm (Nat.lcm (Nat.lcm 1 (cond b1 1 1)) (cond b2 2 1)) (cond b3 3 1)) (cond b4 4 1)) (cond b5 5 1)) (cond b6 6 1)) (cond b7 7 1)) (cond b8 8 1) ≤ 15 := by decide +kernel
section OCT
variable {P : Nat → Nat}
theorem cy_sh (hP : ∀ v, v < 8 → P v < 8) (hI : ∀ v w, v < 8 → w < 8 → P v = P w → v = w) {v : Nat} (hv : v < 8) (i : Nat) : cy P (it P i v) = cy P v := by
  refine cyk_cg (fun m => ?_) 7 1
  have e : it P m (it P i v) = it P i (it P m v) := by rw [← it_add, Nat.add_comm, it_add]
  rw [e]
  constructor
  · exact fun h => it_inj hP hI i _ _ (it_lt hP m v hv) hv h
  · exact fun h => by rw [h]
theorem cy_cnt (hP : ∀ v, v < 8 → P v < 8) (hI : ∀ v w, v < 8 → w < 8 → P v = P w → v = w) (m : Nat) (h : 0 < cnt (fun v => cy P v == m) 8) : m ≤ cnt (fun v => cy P v == m) 8 := by
  obtain ⟨v, hv, e⟩ := cnt_ex _ 8 h
  have e : cy P v = m := by simpa using e
  have hc := cy_is hP hI hv
  refine cnt_pg _ 8 m (fun i => it P i v) (fun i hi => ⟨it_lt hP i v hv, ?_⟩) (fun i j hi hj hij => ?_)
  · show (cy P (it P i v) == m) = true
    rw [cy_sh hP hI hv, e, beq_self_eq_true]
  · have hn : ∀ a b, a < b → b < m → it P a v = it P b v → False := fun a b hab hb he => by
      rw [show b = a + (b - a) by omega, it_add] at he
      exact hc.2.2.2 (b - a) (by omega) (by omega) (it_inj hP hI a _ _ hv (it_lt hP _ _ hv) he).symm
    rcases Nat.lt_trichotomy i j with a | a | a
    · exact (hn i j a hj hij).elim
    · exact a
    · exact (hn j i a hi hij.symm).elim
/-- the order -/
def oc (P : Nat → Nat) : Nat := ock (cy P) 8 0 1
theorem cond_le {n m : Nat} (h : 0 < n → m ≤ n) : cond (decide (0 < n)) m 0 ≤ n := by
  by_cases e : 0 < n
  · rw [decide_eq_true e]
    exact h e
  · rw [decide_eq_false e]
    exact Nat.zero_le n
theorem oc_pos (hP : ∀ v, v < 8 → P v < 8) (hI : ∀ v w, v < 8 → w < 8 → P v = P w → v = w) : 0 < oc P := ock_pos _ 8 0 1 (by decide) (fun w _ h => (cy_is hP hI (by omega)).1)
theorem oc_le (hP : ∀ v, v < 8 → P v < 8) (hI : ∀ v w, v < 8 → w < 8 → P v = P w → v = w) : oc P ≤ 15 := by
  have hs := cnt_sum (cy P) 8 (fun v hv => ⟨(cy_is hP hI hv).1, (cy_is hP hI hv).2.1⟩)
  have hb : ∀ m, cond (decide (0 < cnt (fun v => cy P v == m) 8)) m 0 ≤ cnt (fun v => cy P v == m) 8 := fun m => cond_le (cy_cnt hP hI m)
  have h15 : ock (fun m => cond (decide (0 < cnt (fun v => cy P v == m) 8)) m 1) 8 1 1 ≤ 15 := lcm_bd (decide (0 < cnt (fun v => cy P v == 1) 8)) (decide (0 < cnt (fun v => cy P v == 2) 8)) (decide (0 < cnt (fun v => cy P v == 3) 8)) (decide (0 < cnt (fun v => cy P v == 4) 8)) (decide (0 < cnt (fun v => cy P v == 5) 8)) (decide (0 < cnt (fun v => cy P v == 6) 8)) (decide (0 < cnt (fun v => cy P v == 7) 8)) (decide (0 < cnt (fun v => cy P v == 8) 8)) (by
    have := hb 1; have := hb 2; have := hb 3; have := hb 4; have := hb 5; have := hb 6; have := hb 7; have := hb 8
    omega)
  have hd := (ock_iff (fun m => cond (decide (0 < cnt (fun v => cy P v == m) 8)) m 1) 8 1 1 _).mp (Nat.dvd_refl _)
  have hp : 0 < ock (fun m => cond (decide (0 < cnt (fun v => cy P v == m) 8)) m 1) 8 1 1 := ock_pos _ 8 1 1 (by decide) (fun w h1 _ => by
    show 0 < cond _ w 1
    cases decide (0 < cnt (fun v => cy P v == w) 8)
    · exact Nat.one_pos
    · exact h1)
  refine Nat.le_trans (Nat.le_of_dvd hp ?_) h15
  refine (ock_iff (cy P) 8 0 1 _).mpr ⟨Nat.one_dvd _, fun v _ hv => ?_⟩
  have hv : v < 8 := by omega
  have hc := cy_is hP hI hv
  have := hd.2 (cy P v) hc.1 (by omega)
  rw [decide_eq_true (cnt_in (fun w => cy P w == cy P v) 8 v hv (beq_self_eq_true _))] at this
  exact this
end OCT

/-- grown by at most k cells and z slots; all that stood stays -/
def mz_gr (k z : Nat) (h h' : mj_H) : Prop := mz_ext h h' ∧ h.length ≤ h'.length ∧ h'.length ≤ h.length + k ∧ mj_sz h' ≤ mj_sz h + z
theorem mz_gr.rf (k z : Nat) (h : mj_H) : mz_gr k z h h := ⟨mz_ext.rf h, Nat.le_refl _, Nat.le_add_right _ _, Nat.le_add_right _ _⟩
theorem mz_gr.tr {k z a x b y : Nat} {h g l : mj_H} (e : mz_gr a x h g) (f : mz_gr b y g l) (hk : a + b ≤ k) (hz : x + y ≤ z) : mz_gr k z h l :=
  ⟨e.1.tr f.1, Nat.le_trans e.2.1 f.2.1, by have := e.2.2.1; have := f.2.2.1; omega, by have := e.2.2.2; have := f.2.2.2; omega⟩
theorem mz_gr.ap {z : Nat} {h : mj_H} {c : mj_C} (hc : mj_cs c ≤ z) : mz_gr 1 z h (h ++ [c]) :=
  ⟨fun _ _ q => rd_app q, by rw [List.length_append]; exact Nat.le_add_right _ _, by rw [List.length_append]; exact Nat.le_refl _, by rw [mj_sz_push]; omega⟩
theorem mz_ext.A {h h' : mj_H} (e : mz_ext h h') {a : Nat} {x : Nat × vp_A} (hr : mj_rdA h a = some x) : mj_rdA h' a = some x := by
  unfold mj_rdA at hr ⊢
  cases hc : mj_rd h a with
  | none =>
    rw [hc] at hr
    cases hr
  | some c =>
    rw [e _ _ hc]
    rw [hc] at hr
    exact hr
/-- the reference's gates -/
def yC (x Lr n : Nat) (G : Nat → Nat) (h : mj_H) : Prop := ∃ (E cap : Nat) (mc : Int32) (ef : Nat → Option Nat) (a0 a1 a2 a3 a4 a5 a7 a8 a9 a10 : Value), mj_rd h x = some (.inr (17, [a0, a1, a2, a3, a4, a5, .ref Lr, a7, a8, a9, a10])) ∧ mj_rd h Lr = some (.inr (18, [.ref E, .int (nI n), .int mc])) ∧ mj_rdA h E = some (6, (cap, .inr (.inr (.inr (.inr ef))))) ∧ n ≤ cap ∧ cap < 1000 ∧ ∀ j, j < n → ef j = some (1000138 + G j)
theorem yC.ext {x Lr n : Nat} {G : Nat → Nat} {h h' : mj_H} (e : mz_ext h h') : yC x Lr n G h → yC x Lr n G h'
  | ⟨E, cap, mc, ef, a0, a1, a2, a3, a4, a5, a7, a8, a9, a10, h1, h2, h3, h4⟩ => ⟨E, cap, mc, ef, a0, a1, a2, a3, a4, a5, a7, a8, a9, a10, e _ _ h1, e _ _ h2, e.A h3, h4⟩
theorem yC.rcv {x Lr n : Nat} {G : Nat → Nat} {h : mj_H} {as : List Value} : yC x Lr n G h → mj_rcv 18 (.ref x :: as) h = true
  | ⟨_, _, _, _, _, _, _, _, _, _, _, _, _, _, h1, _⟩ => mj_rcv_is h1
theorem nar1 {n : Nat} (h : n ≤ 1) : mj_nar 1 (nI n) = true := by
  obtain rfl | rfl : n = 0 ∨ n = 1 := by omega
  · decide +kernel
  · decide +kernel
theorem y_goG {x Lr n : Nat} {G : Nat → Nat} {h : mj_H} (hC : yC x Lr n G h) (hG : ∀ j, j < n → isG (G j)) (hn : n ≤ 24) (hb : h.length + 10 < mj_CB) {v : Nat} (hv : v < 8) : mj_Wp 3 427 (0, [some (.ref x), some (.int (nI v)), none, none, none], [], h) (mz_V fun r h' => r = .int (nI (thr G n 0 v)) ∧ mz_gr 1 4 h h') := by
  obtain ⟨E, cap, mc, ef, a0, a1, a2, a3, a4, a5, a7, a8, a9, a10, h1, h2, h3, h4, h5, h6⟩ := hC
  refine (y_go (N := h.length) rfl hb h2 h3 (fun j hj => ⟨h6 j hj, (hG j hj).1⟩) hn h4 h5 h1 hv).imp ?_
  rintro o ⟨r, g, e, hr, lr, hg⟩
  exact ⟨r, g, e, hr, by rw [hg]; exact mz_gr.ap (Nat.le_refl _)⟩
section CYC
variable {n : Nat} {G : Nat → Nat}
theorem P_lt (hG : ∀ j, j < n → isG (G j)) {v : Nat} (hv : v < 8) : thr G n 0 v < 8 := thr_lt (fun j hj => (hG j hj).1) n 0 v (by omega) hv
theorem P_inj (hG : ∀ j, j < n → isG (G j)) {v w : Nat} (hv : v < 8) (hw : w < 8) (e : thr G n 0 v = thr G n 0 w) : v = w := thr_inj hG n 0 v w (by omega) hv hw e
end CYC
theorem x_cylL {h : mj_H} {C R : Nat} {o1 o2 mf : Value} {rf : Nat → Int32} {G : Nat → Nat} {n : Nat} (hC : mj_rd h C = some (.inr (9, [.ref R, o1, o2, .int (nI n), mf]))) (hR : mj_rd h R = some (.inl (0, (24, .inl rf)))) (hG1 : ∀ j, j < n → rf j = nI (G j)) (hG : ∀ j, j < n → isG (G j)) (hn : n ≤ 24) {v : Nat} (hv : v < 8) : ∀ (j t : Nat), t + j = cy (thr G n 0) v → 1 ≤ t → mj_run 2 57 (8, [some (.ref C), some (.int (nI v)), some (.int (nI t)), some (.int (nI (it (thr G n 0) t v)))], [], h) (.inl (some (.int (nI (cy (thr G n 0) v)))), h)
  | 0, t, hj, ht => by
    have hl : ∀ k, it (thr G n 0) k v < 8 := fun k => it_lt (fun v hv => P_lt hG hv) k v hv
    have hc := cy_is (P := thr G n 0) (fun v hv => P_lt hG hv) (fun v w hv hw => P_inj hG hv hw) hv
    have e : t = cy (thr G n 0) v := by omega
    have e2 : it (thr G n 0) t v = v := e ▸ hc.2.2.1
    refine s_ildn (p' := 9) rfl rfl rfl ?_
    refine s_bip (p' := 11) rfl rfl ?_
    by_cases q : t = 8
    · refine s_icmp (p' := 31) true rfl ((ci_ge (by omega) (by omega)).trans (decide_eq_true (by omega))) rfl ?_
      refine s_ildn (p' := 32) rfl rfl rfl ?_
      exact s_iret rfl rfl (by rw [e])
    · refine s_icmp (p' := 14) false rfl ((ci_ge (by omega) (by omega)).trans (decide_eq_false (by omega))) rfl ?_
      refine s_ildn (p' := 15) rfl rfl rfl ?_
      refine s_ildn (p' := 16) rfl rfl rfl ?_
      refine s_icmp (p' := 31) true rfl ((ci_eq (by have := hl t; omega) (by omega)).trans (decide_eq_true e2)) rfl ?_
      refine s_ildn (p' := 32) rfl rfl rfl ?_
      exact s_iret rfl rfl (by rw [e])
  | j + 1, t, hj, ht => by
    have hl : ∀ k, it (thr G n 0) k v < 8 := fun k => it_lt (fun v hv => P_lt hG hv) k v hv
    have hc := cy_is (P := thr G n 0) (fun v hv => P_lt hG hv) (fun v w hv hw => P_inj hG hv hw) hv
    have e2 : it (thr G n 0) t v ≠ v := hc.2.2.2 t ht (by omega)
    have ih := x_cylL hC hR hG1 hG hn hv j (t + 1) (by omega) (by omega)
    have hlt := hl t
    refine s_ildn (p' := 9) rfl rfl rfl ?_
    refine s_bip (p' := 11) rfl rfl ?_
    refine s_icmp (p' := 14) false rfl ((ci_ge (by omega) (by omega)).trans (decide_eq_false (by omega))) rfl ?_
    refine s_ildn (p' := 15) rfl rfl rfl ?_
    refine s_ildn (p' := 16) rfl rfl rfl ?_
    refine s_icmp (p' := 19) false rfl ((ci_eq (by omega) (by omega)).trans (decide_eq_false e2)) rfl ?_
    refine s_aldn (p' := 20) rfl rfl rfl ?_
    refine s_ildn (p' := 21) rfl rfl rfl ?_
    refine s_callV (p' := 24) (ls0 := [_, _, _, _]) rfl rfl rfl rfl rfl (mj_rcv_is (by repeat (first | assumption | refine rd_app ?_ | rw [rd_setn (by first | assumption | omega)] | apply rd_set (by first | assumption | decide)))) rfl (x_out hC hR (fun j hj => ⟨hG1 j hj, (hG j hj).1⟩) hn (hl t)) (by decide) rfl ?_
    refine s_istn (p' := 25) (ls' := [_, _, _, _]) rfl rfl rfl rfl ?_
    refine s_inc (p' := 28) (ls' := [_, _, _, _]) rfl rfl rfl rfl rfl ?_
    rw [mI_add]
    refine s_goto (p' := 8) rfl rfl ?_
    exact ih
theorem x_cyl {h : mj_H} {C R : Nat} {o1 o2 mf : Value} {rf : Nat → Int32} {G : Nat → Nat} {n : Nat} (hC : mj_rd h C = some (.inr (9, [.ref R, o1, o2, .int (nI n), mf]))) (hR : mj_rd h R = some (.inl (0, (24, .inl rf)))) (hG1 : ∀ j, j < n → rf j = nI (G j)) (hG : ∀ j, j < n → isG (G j)) (hn : n ≤ 24) {v : Nat} (hv : v < 8) : mj_run 2 57 (0, [some (.ref C), some (.int (nI v)), none, none], [], h) (.inl (some (.int (nI (cy (thr G n 0) v)))), h) := by
  have hl : ∀ k, it (thr G n 0) k v < 8 := fun k => it_lt (fun v hv => P_lt hG hv) k v hv
  have hc := cy_is (P := thr G n 0) (fun v hv => P_lt hG hv) (fun v w hv hw => P_inj hG hv hw) hv
  refine s_con (p' := 1) rfl rfl ?_
  refine s_istn (p' := 2) (ls' := [_, _, _, _]) rfl rfl rfl rfl ?_
  refine s_aldn (p' := 3) rfl rfl rfl ?_
  refine s_ildn (p' := 4) rfl rfl rfl ?_
  refine s_callV (p' := 7) (ls0 := [_, _, _, _]) rfl rfl rfl rfl rfl (mj_rcv_is (by repeat (first | assumption | refine rd_app ?_ | rw [rd_setn (by first | assumption | omega)] | apply rd_set (by first | assumption | decide)))) rfl (x_out hC hR (fun j hj => ⟨hG1 j hj, (hG j hj).1⟩) hn (hv)) (by decide) rfl ?_
  refine s_istn (p' := 8) (ls' := [_, _, _, _]) rfl rfl rfl rfl ?_
  exact x_cylL hC hR hG1 hG hn hv (cy (thr G n 0) v - 1) 1 (by omega) (Nat.le_refl 1)
theorem x_lecL {h : mj_H} {C R : Nat} {o1 o2 mf : Value} {rf : Nat → Int32} {G : Nat → Nat} {n : Nat} (hC : mj_rd h C = some (.inr (9, [.ref R, o1, o2, .int (nI n), mf]))) (hR : mj_rd h R = some (.inl (0, (24, .inl rf)))) (hG1 : ∀ j, j < n → rf j = nI (G j)) (hG : ∀ j, j < n → isG (G j)) (hn : n ≤ 24) {v b : Nat} (hv : v < 8) (hb : b = 1 ∧ lec (thr G n 0) v ∨ b = 0 ∧ ¬ lec (thr G n 0) v) : ∀ (j i : Nat), i + j = 8 → (∀ k, k < i → ¬ it (thr G n 0) (k + 1) v < v) → mj_run 2 55 (4, [some (.ref C), some (.int (nI v)), some (.int (nI (it (thr G n 0) i v))), some (.int (nI i))], [], h) (.inl (some (.int (nI b))), h)
  | 0, i, hj, hk => by
    have hl : ∀ k, it (thr G n 0) k v < 8 := fun k => it_lt (fun v hv => P_lt hG hv) k v hv
    have hc := cy_is (P := thr G n 0) (fun v hv => P_lt hG hv) (fun v w hv hw => P_inj hG hv hw) hv
    have hi := lec_iff (P := thr G n 0) (fun v hv => P_lt hG hv) (fun v w hv hw => P_inj hG hv hw) hv
    have e : b = 1 := by
      rcases hb with hb | hb
      · exact hb.1
      · exact absurd (hi.mpr fun k hk2 => hk k (by omega)) hb.2
    subst e
    refine s_ildn (p' := 5) rfl rfl rfl ?_
    refine s_bip (p' := 7) rfl rfl ?_
    refine s_icmp (p' := 29) true rfl ((ci_ge (by omega) (by omega)).trans (decide_eq_true (by omega))) rfl ?_
    refine s_con (p' := 30) rfl rfl ?_
    exact s_iret rfl rfl rfl
  | j + 1, i, hj, hk => by
    have hl : ∀ k, it (thr G n 0) k v < 8 := fun k => it_lt (fun v hv => P_lt hG hv) k v hv
    have hc := cy_is (P := thr G n 0) (fun v hv => P_lt hG hv) (fun v w hv hw => P_inj hG hv hw) hv
    have hi := lec_iff (P := thr G n 0) (fun v hv => P_lt hG hv) (fun v w hv hw => P_inj hG hv hw) hv
    have ih := x_lecL hC hR hG1 hG hn hv hb j (i + 1) (by omega)
    have hlt : it (thr G n 0) (i + 1) v < 8 := hl (i + 1)
    refine s_ildn (p' := 5) rfl rfl rfl ?_
    refine s_bip (p' := 7) rfl rfl ?_
    refine s_icmp (p' := 10) false rfl ((ci_ge (by omega) (by omega)).trans (decide_eq_false (by omega))) rfl ?_
    refine s_aldn (p' := 11) rfl rfl rfl ?_
    refine s_ildn (p' := 12) rfl rfl rfl ?_
    refine s_callV (p' := 15) (ls0 := [_, _, _, _]) rfl rfl rfl rfl rfl (mj_rcv_is (by repeat (first | assumption | refine rd_app ?_ | rw [rd_setn (by first | assumption | omega)] | apply rd_set (by first | assumption | decide)))) rfl (x_out hC hR (fun j hj => ⟨hG1 j hj, (hG j hj).1⟩) hn (hl i)) (by decide) rfl ?_
    refine s_istn (p' := 16) (ls' := [_, _, _, _]) rfl rfl rfl rfl ?_
    refine s_ildn (p' := 17) rfl rfl rfl ?_
    refine s_ildn (p' := 18) rfl rfl rfl ?_
    show mj_Wp 2 55 (18, _, .int (nI v) :: .int (nI (it (thr G n 0) (i + 1) v)) :: [], h) _
    by_cases q : it (thr G n 0) (i + 1) v < v
    · refine s_icmp (p' := 21) false rfl ((ci_ge (by omega) (by omega)).trans (decide_eq_false (by omega))) rfl ?_
      refine s_con (p' := 22) rfl rfl ?_
      exact s_iret rfl rfl (by rw [show b = 0 from by rcases hb with hb | hb; exact absurd q (hi.mp hb.2 i (by omega)); exact hb.1])
    · refine s_icmp (p' := 23) true rfl ((ci_ge (by omega) (by omega)).trans (decide_eq_true (by omega))) rfl ?_
      refine s_inc (p' := 26) (ls' := [_, _, _, _]) rfl rfl rfl rfl rfl ?_
      rw [mI_add]
      refine s_goto (p' := 4) rfl rfl ?_
      exact ih (fun k hk2 => if e : k = i then e ▸ q else hk k (by omega))
theorem x_lec {h : mj_H} {C R : Nat} {o1 o2 mf : Value} {rf : Nat → Int32} {G : Nat → Nat} {n : Nat} (hC : mj_rd h C = some (.inr (9, [.ref R, o1, o2, .int (nI n), mf]))) (hR : mj_rd h R = some (.inl (0, (24, .inl rf)))) (hG1 : ∀ j, j < n → rf j = nI (G j)) (hG : ∀ j, j < n → isG (G j)) (hn : n ≤ 24) {v b : Nat} (hv : v < 8) (hb : b = 1 ∧ lec (thr G n 0) v ∨ b = 0 ∧ ¬ lec (thr G n 0) v) : mj_run 2 55 (0, [some (.ref C), some (.int (nI v)), none, none], [], h) (.inl (some (.int (nI b))), h) := by
  refine s_ildn (p' := 1) rfl rfl rfl ?_
  refine s_istn (p' := 2) (ls' := [_, _, _, _]) rfl rfl rfl rfl ?_
  refine s_con (p' := 3) rfl rfl ?_
  refine s_istn (p' := 4) (ls' := [_, _, _, _]) rfl rfl rfl rfl ?_
  exact x_lecL hC hR hG1 hG hn hv hb 8 0 (by omega) (fun k hk => absurd hk (Nat.not_lt_zero k))
/-- a sum from place v on -/
def smf (f : Nat → Nat) : Nat → Nat → Nat
  | 0, _ => 0
  | j + 1, v => f v + smf f j (v + 1)
theorem x_csL {h : mj_H} {C R : Nat} {o1 o2 mf : Value} {rf : Nat → Int32} {G : Nat → Nat} {n : Nat} (hC : mj_rd h C = some (.inr (9, [.ref R, o1, o2, .int (nI n), mf]))) (hR : mj_rd h R = some (.inl (0, (24, .inl rf)))) (hG1 : ∀ j, j < n → rf j = nI (G j)) (hG : ∀ j, j < n → isG (G j)) (hn : n ≤ 24) {bf : Nat → Nat} (hb : ∀ v, v < 8 → bf v = 1 ∧ lec (thr G n 0) v ∨ bf v = 0 ∧ ¬ lec (thr G n 0) v) {U : Nat} {u0 u1 u2 u3 u4 u5 u6 u7 u8 u10 u11 u12 u13 u14 u15 u16 : Value} (hU : mj_rd h U = some (.inr (0, [u0, u1, u2, u3, u4, u5, u6, u7, u8, .ref C, u10, u11, u12, u13, u14, u15, u16]))) : ∀ (j v s : Nat), v + j = 8 → s ≤ v → mj_run 3 54 (4, [some (.ref U), some (.int (nI s)), some (.int (nI v))], [], h) (.inl (some (.int (nI (s + smf bf j v)))), h)
  | 0, v, s, hj, hs => by
    refine s_ildn (p' := 5) rfl rfl rfl ?_
    refine s_bip (p' := 7) rfl rfl ?_
    refine s_icmp (p' := 30) true rfl ((ci_ge (by omega) (by omega)).trans (decide_eq_true (by omega))) rfl ?_
    refine s_ildn (p' := 31) rfl rfl rfl ?_
    exact s_iret rfl rfl rfl
  | j + 1, v, s, hj, hs => by
    have hv : v < 8 := by omega
    have hbv := hb v hv
    have ih0 := x_csL hC hR hG1 hG hn hb hU j (v + 1) s (by omega) (by omega)
    have ih1 := x_csL hC hR hG1 hG hn hb hU j (v + 1) (s + 1) (by omega) (by omega)
    refine s_ildn (p' := 5) rfl rfl rfl ?_
    refine s_bip (p' := 7) rfl rfl ?_
    refine s_icmp (p' := 10) false rfl ((ci_ge (by omega) (by omega)).trans (decide_eq_false (by omega))) rfl ?_
    refine s_aldn (p' := 11) rfl rfl rfl ?_
    refine s_gf (p' := 14) rfl hU rfl rfl ?_
    refine s_ildn (p' := 15) rfl rfl rfl ?_
    refine s_callV (p' := 18) (ls0 := [_, _, _, _]) rfl rfl rfl rfl rfl (mj_rcv_is (by repeat (first | assumption | refine rd_app ?_ | rw [rd_setn (by first | assumption | omega)] | apply rd_set (by first | assumption | decide)))) rfl (x_lec hC hR hG1 hG hn hv hbv) (by decide) rfl ?_
    by_cases q : bf v = 0
    · refine s_if (p' := 24) true rfl ((cz_eq (by omega)).trans (decide_eq_true (by omega))) rfl ?_
      refine s_inc (p' := 27) (ls' := [_, _, _]) rfl rfl rfl rfl rfl ?_
      rw [mI_add]
      refine s_goto (p' := 4) rfl rfl ?_
      refine ih0.eq ?_
      rw [show smf bf (j + 1) v = bf v + smf bf j (v + 1) from rfl, q, Nat.zero_add]
    · refine s_if (p' := 21) false rfl ((cz_eq (by omega)).trans (decide_eq_false (by omega))) rfl ?_
      refine s_inc (p' := 24) (ls' := [_, _, _]) rfl rfl rfl rfl rfl ?_
      rw [mI_add]
      refine s_inc (p' := 27) (ls' := [_, _, _]) rfl rfl rfl rfl rfl ?_
      rw [mI_add]
      refine s_goto (p' := 4) rfl rfl ?_
      refine ih1.eq ?_
      rw [show smf bf (j + 1) v = bf v + smf bf j (v + 1) from rfl, show bf v = 1 by omega, Nat.add_assoc]
theorem x_cs {h : mj_H} {C R : Nat} {o1 o2 mf : Value} {rf : Nat → Int32} {G : Nat → Nat} {n : Nat} (hC : mj_rd h C = some (.inr (9, [.ref R, o1, o2, .int (nI n), mf]))) (hR : mj_rd h R = some (.inl (0, (24, .inl rf)))) (hG1 : ∀ j, j < n → rf j = nI (G j)) (hG : ∀ j, j < n → isG (G j)) (hn : n ≤ 24) {bf : Nat → Nat} (hb : ∀ v, v < 8 → bf v = 1 ∧ lec (thr G n 0) v ∨ bf v = 0 ∧ ¬ lec (thr G n 0) v) {U : Nat} {u0 u1 u2 u3 u4 u5 u6 u7 u8 u10 u11 u12 u13 u14 u15 u16 : Value} (hU : mj_rd h U = some (.inr (0, [u0, u1, u2, u3, u4, u5, u6, u7, u8, .ref C, u10, u11, u12, u13, u14, u15, u16]))) : mj_run 3 54 (0, [some (.ref U), none, none], [], h) (.inl (some (.int (nI (smf bf 8 0)))), h) := by
  refine s_con (p' := 1) rfl rfl ?_
  refine s_istn (p' := 2) (ls' := [_, _, _]) rfl rfl rfl rfl ?_
  refine s_con (p' := 3) rfl rfl ?_
  refine s_istn (p' := 4) (ls' := [_, _, _]) rfl rfl rfl rfl ?_
  refine (x_csL hC hR hG1 hG hn hb hU 8 0 0 (by omega) (Nat.le_refl 0)).eq ?_
  rw [Nat.zero_add]
theorem y_cylL {x Lr n : Nat} {G : Nat → Nat} (hG : ∀ j, j < n → isG (G j)) (hn : n ≤ 24) {v : Nat} (hv : v < 8) : ∀ (j t : Nat) (h : mj_H), t + j = cy (thr G n 0) v → 1 ≤ t → yC x Lr n G h → h.length + j + 10 < mj_CB → mj_Wp 4 453 (8, [some (.ref x), some (.int (nI v)), some (.int (nI t)), some (.int (nI (it (thr G n 0) t v)))], [], h) (mz_V fun r h' => r = .int (nI (cy (thr G n 0) v)) ∧ mz_gr (j) (4 * (j)) h h')
  | 0, t, h, hj, ht, hC, hb => by
    have hl : ∀ k, it (thr G n 0) k v < 8 := fun k => it_lt (fun v hv => P_lt hG hv) k v hv
    have hc := cy_is (P := thr G n 0) (fun v hv => P_lt hG hv) (fun v w hv hw => P_inj hG hv hw) hv
    have e : t = cy (thr G n 0) v := by omega
    have e2 : it (thr G n 0) t v = v := e ▸ hc.2.2.1
    have hlt := hl t
    refine s_ildn (p' := 9) rfl rfl rfl ?_
    refine s_ildn (p' := 10) rfl rfl rfl ?_
    refine s_icmp (p' := 25) true rfl ((ci_eq (by omega) (by omega)).trans (decide_eq_true e2)) rfl ?_
    refine s_ildn (p' := 26) rfl rfl rfl ?_
    refine s_iret rfl rfl ?_
    exact ⟨_, _, rfl, by rw [e], mz_gr.rf _ _ _⟩
  | j + 1, t, h, hj, ht, hC, hb => by
    have hl : ∀ k, it (thr G n 0) k v < 8 := fun k => it_lt (fun v hv => P_lt hG hv) k v hv
    have hc := cy_is (P := thr G n 0) (fun v hv => P_lt hG hv) (fun v w hv hw => P_inj hG hv hw) hv
    have e2 : it (thr G n 0) t v ≠ v := hc.2.2.2 t ht (by omega)
    have hlt := hl t
    have ih := y_cylL (x := x) (Lr := Lr) hG hn hv j (t + 1)
    refine s_ildn (p' := 9) rfl rfl rfl ?_
    refine s_ildn (p' := 10) rfl rfl rfl ?_
    refine s_icmp (p' := 13) false rfl ((ci_eq (by omega) (by omega)).trans (decide_eq_false e2)) rfl ?_
    refine s_aldn (p' := 14) rfl rfl rfl ?_
    refine s_ildn (p' := 15) rfl rfl rfl ?_
    refine s_callEV (p' := 18) (ls0 := [_, _, _, _, _]) rfl rfl rfl rfl rfl hC.rcv rfl (y_goG hC hG hn (by omega) (hl t)) rfl rfl ?_
    rintro _ h1 ⟨rfl, g1⟩
    have hC1 := hC.ext g1.1
    have gl := g1.2.2.1
    refine s_istn (p' := 19) (ls' := [_, _, _, _]) rfl rfl rfl rfl ?_
    refine s_inc (p' := 22) (ls' := [_, _, _, _]) rfl rfl rfl rfl rfl ?_
    rw [mI_add]
    refine s_goto (p' := 8) rfl rfl ?_
    refine (ih h1 (by omega) (by omega) hC1 (by omega)).imp ?_
    rintro o ⟨r, h2, e, hr, g2⟩
    exact ⟨r, h2, e, hr, g1.tr g2 (by omega) (by omega)⟩
theorem y_cyl {x Lr n : Nat} {G : Nat → Nat} (hG : ∀ j, j < n → isG (G j)) (hn : n ≤ 24) {h : mj_H} (hC : yC x Lr n G h) (hb : h.length + 20 < mj_CB) {v : Nat} (hv : v < 8) : mj_Wp 4 453 (0, [some (.ref x), some (.int (nI v)), none, none], [], h) (mz_V fun r h' => r = .int (nI (cy (thr G n 0) v)) ∧ mz_gr (8) (4 * (8)) h h') := by
  have hl : ∀ k, it (thr G n 0) k v < 8 := fun k => it_lt (fun v hv => P_lt hG hv) k v hv
  have hc := cy_is (P := thr G n 0) (fun v hv => P_lt hG hv) (fun v w hv hw => P_inj hG hv hw) hv
  refine s_con (p' := 1) rfl rfl ?_
  refine s_istn (p' := 2) (ls' := [_, _, _, _]) rfl rfl rfl rfl ?_
  refine s_aldn (p' := 3) rfl rfl rfl ?_
  refine s_ildn (p' := 4) rfl rfl rfl ?_
  refine s_callEV (p' := 7) (ls0 := [_, _, _, _, _]) rfl rfl rfl rfl rfl hC.rcv rfl (y_goG hC hG hn (by omega) (hv)) rfl rfl ?_
  rintro _ h1 ⟨rfl, g1⟩
  have hC1 := hC.ext g1.1
  have gl := g1.2.2.1
  refine s_istn (p' := 8) (ls' := [_, _, _, _]) rfl rfl rfl rfl ?_
  refine (y_cylL hG hn hv (cy (thr G n 0) v - 1) 1 h1 (by omega) (Nat.le_refl 1) hC1 (by omega)).imp ?_
  rintro o ⟨r, h2, e, hr, g2⟩
  exact ⟨r, h2, e, hr, g1.tr g2 (by omega) (by omega)⟩
theorem b_and : ∀ {a b : Nat}, a ≤ 1 → b ≤ 1 → nI a &&& nI b = nI (a * b)
  | 0, 0, _, _ => rfl
  | 0, 1, _, _ => rfl
  | 1, 0, _, _ => rfl
  | 1, 1, _, _ => rfl
  | a + 2, _, h, _ => absurd h (by omega)
  | 0, b + 2, _, h => absurd h (by omega)
  | 1, b + 2, _, h => absurd h (by omega)
theorem y_lecL {x Lr n : Nat} {G : Nat → Nat} (hG : ∀ j, j < n → isG (G j)) (hn : n ≤ 24) {v b : Nat} (hv : v < 8) (hb : b = 1 ∧ lec (thr G n 0) v ∨ b = 0 ∧ ¬ lec (thr G n 0) v) : ∀ (j t f : Nat) (h : mj_H), t + j = cy (thr G n 0) v → 1 ≤ t → (f = 1 ∧ (∀ i, 1 ≤ i → i < t → v < it (thr G n 0) i v) ∨ f = 0 ∧ ¬ lec (thr G n 0) v) → yC x Lr n G h → h.length + j + 10 < mj_CB → mj_Wp 4 451 (8, [some (.ref x), some (.int (nI v)), some (.int (nI (it (thr G n 0) t v))), some (.int (nI f))], [], h) (mz_V fun r h' => r = .int (nI (b)) ∧ mz_gr (j) (4 * (j)) h h')
  | 0, t, f, h, hj, ht, hf, hC, hb2 => by
    have hl : ∀ k, it (thr G n 0) k v < 8 := fun k => it_lt (fun v hv => P_lt hG hv) k v hv
    have hc := cy_is (P := thr G n 0) (fun v hv => P_lt hG hv) (fun v w hv hw => P_inj hG hv hw) hv
    have e : t = cy (thr G n 0) v := by omega
    have e2 : it (thr G n 0) t v = v := e ▸ hc.2.2.1
    have hlt := hl t
    have ef : f = b := by
      rcases hf with hf | hf <;> rcases hb with hb | hb
      · omega
      · exact absurd (fun i a b => hf.2 i a (by omega) : lec (thr G n 0) v) hb.2
      · exact absurd hb.2 hf.2
      · omega
    refine s_ildn (p' := 9) rfl rfl rfl ?_
    refine s_ildn (p' := 10) rfl rfl rfl ?_
    refine s_icmp (p' := 35) true rfl ((ci_eq (by omega) (by omega)).trans (decide_eq_true e2)) rfl ?_
    refine s_ildn (p' := 36) rfl rfl rfl ?_
    refine s_iret rfl (nar1 (by omega)) ?_
    exact ⟨_, _, rfl, by rw [ef], mz_gr.rf _ _ _⟩
  | j + 1, t, f, h, hj, ht, hf, hC, hb2 => by
    have hl : ∀ k, it (thr G n 0) k v < 8 := fun k => it_lt (fun v hv => P_lt hG hv) k v hv
    have hc := cy_is (P := thr G n 0) (fun v hv => P_lt hG hv) (fun v w hv hw => P_inj hG hv hw) hv
    have e2 : it (thr G n 0) t v ≠ v := hc.2.2.2 t ht (by omega)
    have hlt := hl t
    have ih := y_lecL (x := x) (Lr := Lr) hG hn hv hb j (t + 1)
    have hf1 : f ≤ 1 := by omega
    refine s_ildn (p' := 9) rfl rfl rfl ?_
    refine s_ildn (p' := 10) rfl rfl rfl ?_
    refine s_icmp (p' := 13) false rfl ((ci_eq (by omega) (by omega)).trans (decide_eq_false e2)) rfl ?_
    refine s_ildn (p' := 14) rfl rfl rfl ?_
    refine s_ildn (p' := 15) rfl rfl rfl ?_
    refine s_ildn (p' := 16) rfl rfl rfl ?_
    by_cases q : it (thr G n 0) t v ≤ v
    · refine s_icmp (p' := 23) true rfl ((ci_le (by omega) (by omega)).trans (decide_eq_true (by omega))) rfl ?_
      refine s_con (p' := 24) rfl rfl ?_
      rw [show it (thr G n 0) t v = it (thr G n 0) t v from rfl]
      refine s_sp (p' := 25) (ls' := _) rfl rfl rfl ?_
      rw [b_and hf1 (by omega)]
      refine s_istn (p' := 26) (ls' := [_, _, _, _]) rfl rfl rfl rfl ?_
      refine s_aldn (p' := 27) rfl rfl rfl ?_
      refine s_ildn (p' := 28) rfl rfl rfl ?_
      refine s_callEV (p' := 31) (ls0 := [_, _, _, _, _]) rfl rfl rfl rfl rfl hC.rcv rfl (y_goG hC hG hn (by omega) (hl t)) rfl rfl ?_
      rintro _ h1 ⟨rfl, g1⟩
      have hC1 := hC.ext g1.1
      have gl := g1.2.2.1
      refine s_istn (p' := 32) (ls' := [_, _, _, _]) rfl rfl rfl rfl ?_
      refine s_goto (p' := 8) rfl rfl ?_
      refine (ih (f * 0) h1 (by omega) (by omega) (Or.inr ⟨by omega, fun hl => absurd (hl t ht (by omega)) (Nat.not_lt.mpr q)⟩) hC1 (by omega)).imp ?_
      rintro o ⟨r, h2, e, hr, g2⟩
      exact ⟨r, h2, e, hr, g1.tr g2 (by omega) (by omega)⟩
    · refine s_icmp (p' := 19) false rfl ((ci_le (by omega) (by omega)).trans (decide_eq_false (by omega))) rfl ?_
      refine s_con (p' := 20) rfl rfl ?_
      refine s_goto (p' := 24) rfl rfl ?_
      refine s_sp (p' := 25) (ls' := _) rfl rfl rfl ?_
      rw [b_and hf1 (by omega)]
      have q1 : v < it (thr G n 0) t v := by omega
      refine s_istn (p' := 26) (ls' := [_, _, _, _]) rfl rfl rfl rfl ?_
      refine s_aldn (p' := 27) rfl rfl rfl ?_
      refine s_ildn (p' := 28) rfl rfl rfl ?_
      refine s_callEV (p' := 31) (ls0 := [_, _, _, _, _]) rfl rfl rfl rfl rfl hC.rcv rfl (y_goG hC hG hn (by omega) (hl t)) rfl rfl ?_
      rintro _ h1 ⟨rfl, g1⟩
      have hC1 := hC.ext g1.1
      have gl := g1.2.2.1
      refine s_istn (p' := 32) (ls' := [_, _, _, _]) rfl rfl rfl rfl ?_
      refine s_goto (p' := 8) rfl rfl ?_
      refine (ih (f * 1) h1 (by omega) (by omega) (by
        rcases hf with hf | hf
        · exact Or.inl ⟨by omega, fun i a b => if e : i = t then e ▸ q1 else hf.2 i a (by omega)⟩
        · exact Or.inr ⟨by omega, hf.2⟩) hC1 (by omega)).imp ?_
      rintro o ⟨r, h2, e, hr, g2⟩
      exact ⟨r, h2, e, hr, g1.tr g2 (by omega) (by omega)⟩
theorem y_lec {x Lr n : Nat} {G : Nat → Nat} (hG : ∀ j, j < n → isG (G j)) (hn : n ≤ 24) {h : mj_H} (hC : yC x Lr n G h) (hb2 : h.length + 20 < mj_CB) {v b : Nat} (hv : v < 8) (hb : b = 1 ∧ lec (thr G n 0) v ∨ b = 0 ∧ ¬ lec (thr G n 0) v) : mj_Wp 4 451 (0, [some (.ref x), some (.int (nI v)), none, none], [], h) (mz_V fun r h' => r = .int (nI (b)) ∧ mz_gr (8) (4 * (8)) h h') := by
  have hl : ∀ k, it (thr G n 0) k v < 8 := fun k => it_lt (fun v hv => P_lt hG hv) k v hv
  have hc := cy_is (P := thr G n 0) (fun v hv => P_lt hG hv) (fun v w hv hw => P_inj hG hv hw) hv
  refine s_aldn (p' := 1) rfl rfl rfl ?_
  refine s_ildn (p' := 2) rfl rfl rfl ?_
  refine s_callEV (p' := 5) (ls0 := [_, _, _, _, _]) rfl rfl rfl rfl rfl hC.rcv rfl (y_goG hC hG hn (by omega) (hv)) rfl rfl ?_
  rintro _ h1 ⟨rfl, g1⟩
  have hC1 := hC.ext g1.1
  have gl := g1.2.2.1
  refine s_istn (p' := 6) (ls' := [_, _, _, _]) rfl rfl rfl rfl ?_
  refine s_con (p' := 7) rfl rfl ?_
  refine s_istn (p' := 8) (ls' := [_, _, _, _]) rfl rfl rfl rfl ?_
  refine (y_lecL hG hn hv hb (cy (thr G n 0) v - 1) 1 1 h1 (by omega) (Nat.le_refl 1) (Or.inl ⟨rfl, fun i a b => absurd b (by omega)⟩) hC1 (by omega)).imp ?_
  rintro o ⟨r, h2, e, hr, g2⟩
  exact ⟨r, h2, e, hr, g1.tr g2 (by omega) (by omega)⟩
theorem y_csL {x Lr n : Nat} {G : Nat → Nat} (hG : ∀ j, j < n → isG (G j)) (hn : n ≤ 24) {bf : Nat → Nat} (hb : ∀ v, v < 8 → bf v = 1 ∧ lec (thr G n 0) v ∨ bf v = 0 ∧ ¬ lec (thr G n 0) v) {Q : mj_O × mj_H → Prop} : ∀ (j v s : Nat) (h : mj_H), v + j = 8 → s ≤ v → yC x Lr n G h → h.length + 8 * j + 20 < mj_CB → (∀ h', mz_gr (8 * j) (4 * (8 * j)) h h' → mj_Wp 5 450 (37, [some (.ref x), some (.int (nI (s + smf bf j v))), some (.int (nI 8))], [], h') Q) → mj_Wp 5 450 (9, [some (.ref x), some (.int (nI s)), some (.int (nI v))], [], h) Q
  | 0, v, s, h, hj, hs, hC, hb2, hq => by
    obtain rfl : v = 8 := by omega
    refine s_ildn (p' := 10) rfl rfl rfl ?_
    refine s_bip (p' := 12) rfl rfl ?_
    refine s_icmp (p' := 37) true rfl ((ci_ge (by omega) (by omega)).trans (decide_eq_true (by omega))) rfl ?_
    exact hq h (mz_gr.rf _ _ _)
  | j + 1, v, s, h, hj, hs, hC, hb2, hq => by
    have hv : v < 8 := by omega
    have hbv := hb v hv
    have ih := y_csL (x := x) (Lr := Lr) hG hn hb (Q := Q) j (v + 1)
    refine s_ildn (p' := 10) rfl rfl rfl ?_
    refine s_bip (p' := 12) rfl rfl ?_
    refine s_icmp (p' := 15) false rfl ((ci_ge (by omega) (by omega)).trans (decide_eq_false (by omega))) rfl ?_
    refine s_ildn (p' := 16) rfl rfl rfl ?_
    refine s_aldn (p' := 17) rfl rfl rfl ?_
    refine s_ildn (p' := 18) rfl rfl rfl ?_
    refine s_callEV (p' := 21) (ls0 := [_, _, _, _]) rfl rfl rfl rfl rfl hC.rcv rfl (y_lec hG hn hC (by omega) hv hbv) rfl rfl ?_
    rintro _ h1 ⟨rfl, g1⟩
    have hC1 := hC.ext g1.1
    have gl := g1.2.2.1
    by_cases q : bf v = 0
    · refine s_if (p' := 28) true rfl ((cz_eq (by omega)).trans (decide_eq_true (by omega))) rfl ?_
      refine s_con (p' := 29) rfl rfl ?_
      refine s_sp (p' := 30) (ls' := _) rfl rfl rfl ?_
      rw [mI_add]
      refine s_istn (p' := 31) (ls' := [_, _, _]) rfl rfl rfl rfl ?_
      refine s_inc (p' := 34) (ls' := [_, _, _]) rfl rfl rfl rfl rfl ?_
      rw [mI_add]
      refine s_goto (p' := 9) rfl rfl ?_
      refine ih (s + 0) h1 (by omega) (by omega) hC1 (by omega) (fun h2 g2 => ?_)
      have := hq h2 (g1.tr g2 (by omega) (by omega))
      rw [show smf bf (j + 1) v = bf v + smf bf j (v + 1) from rfl, q, ← Nat.add_assoc] at this
      exact this
    · refine s_if (p' := 24) false rfl ((cz_eq (by omega)).trans (decide_eq_false (by omega))) rfl ?_
      refine s_con (p' := 25) rfl rfl ?_
      refine s_goto (p' := 29) rfl rfl ?_
      refine s_sp (p' := 30) (ls' := _) rfl rfl rfl ?_
      rw [mI_add]
      refine s_istn (p' := 31) (ls' := [_, _, _]) rfl rfl rfl rfl ?_
      refine s_inc (p' := 34) (ls' := [_, _, _]) rfl rfl rfl rfl rfl ?_
      rw [mI_add]
      refine s_goto (p' := 9) rfl rfl ?_
      refine ih (s + 1) h1 (by omega) (by omega) hC1 (by omega) (fun h2 g2 => ?_)
      have := hq h2 (g1.tr g2 (by omega) (by omega))
      rw [show smf bf (j + 1) v = bf v + smf bf j (v + 1) from rfl, show bf v = 1 by omega, ← Nat.add_assoc] at this
      exact this
