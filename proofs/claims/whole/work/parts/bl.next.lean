/-! From a level to the next. -/
theorem lvQ.G {L x : Nat} (hx : rch L x) : ∀ (k g : Nat) (s : gS), g + k = 24 → lvQ L s → lvQ L (sgG x k g s) ∧ (∀ g', g ≤ g' → g' < 24 → isG g' → (sgG x k g s).1 (lr (wth g' x)) ≠ 0) ∧ ∀ p, s.1 p ≠ 0 → (sgG x k g s).1 p ≠ 0
  | 0, g, s, h, q => ⟨q, fun g' h1 h2 _ => by omega, fun _ h => h⟩
  | k + 1, g, s, h, q => by
    rw [sgG]
    by_cases z : g % 8 / 2 ^ (g / 8) % 2 = 0
    · rw [if_pos z]
      have hg : isG g := ⟨by omega, z⟩
      obtain ⟨a1, a2, a3⟩ := q.ads (o := wth g x) ⟨x, g, hx, hg, rfl⟩
      obtain ⟨b1, b2, b3⟩ := lvQ.G hx k (g + 1) (adsP s (wth g x)) (by omega) a1
      refine ⟨b1, fun g' h1 h2 h3 => ?_, fun p hp => b3 p (a3 p hp)⟩
      by_cases y : g' = g
      · rw [y]; exact b3 _ a2
      · exact b2 g' (by omega) h2 h3
    · rw [if_neg z]
      obtain ⟨b1, b2, b3⟩ := lvQ.G hx k (g + 1) s (by omega) q
      refine ⟨b1, fun g' h1 h2 h3 => ?_, b3⟩
      by_cases y : g' = g
      · rw [y] at h3; exact absurd h3.2 z
      · exact b2 g' (by omega) h2 h3
theorem lvQ.I {L : Nat} {xs : Nat → Nat} : ∀ (k i : Nat) (s : gS), lvQ L s → (∀ j, i ≤ j → j < i + k → rch L (xs j)) → lvQ L (sgI xs k i s) ∧ (∀ j, i ≤ j → j < i + k → ∀ g, isG g → (sgI xs k i s).1 (lr (wth g (xs j))) ≠ 0) ∧ ∀ p, s.1 p ≠ 0 → (sgI xs k i s).1 p ≠ 0
  | 0, i, s, q, _ => ⟨q, fun j h1 h2 => by omega, fun _ h => h⟩
  | k + 1, i, s, q, h => by
    rw [sgI]
    obtain ⟨a1, a2, a3⟩ := lvQ.G (h i (Nat.le_refl i) (by omega)) 24 0 s rfl q
    obtain ⟨b1, b2, b3⟩ := lvQ.I k (i + 1) (sgG (xs i) 24 0 s) a1 fun j h1 h2 => h j (by omega) (by omega)
    refine ⟨b1, fun j h1 h2 g hg => ?_, fun p hp => b3 p (a3 p hp)⟩
    by_cases y : j = i
    · rw [y]; exact b3 _ (a2 g (Nat.zero_le g) hg.1 hg)
    · exact b2 j (by omega) (by omega) g hg
/-- a level: its rows, the marks -/
def lvI (L : Nat) (b : Nat → Int32) (xs : Nat → Nat) (c : Nat) : Prop := (∀ i, i < c → LV L (xs i)) ∧ (∀ o, LV L o → ∃ i, i < c ∧ xs i = o) ∧ ∀ o, isPk o → (b (lr o) ≠ 0 ↔ ∃ j, j ≤ L ∧ rch j o)
theorem lvI.next {L c : Nat} {b : Nat → Int32} {xs ys : Nat → Nat} (v : lvI L b xs c) : lvI (L + 1) (sgI xs c 0 (b, ys, 0)).1 (sgI xs c 0 (b, ys, 0)).2.1 (sgI xs c 0 (b, ys, 0)).2.2 := by
  have q0 : lvQ L (b, ys, 0) := ⟨fun o ho => (v.2.2 o ho).trans ⟨Or.inl, fun h => h.elim id fun ⟨i, hi, _⟩ => absurd hi (Nat.not_lt_zero i)⟩, fun i hi => absurd hi (Nat.not_lt_zero i)⟩
  obtain ⟨q1, q2, q3⟩ := lvQ.I c 0 (b, ys, 0) q0 fun j _ hj => (v.1 j (by omega)).1
  generalize sgI xs c 0 (b, ys, 0) = s at q1 q2 q3
  have key : ∀ o, LV (L + 1) o → ∃ i, i < s.2.2 ∧ s.2.1 i = o := fun o ho => by
    obtain ⟨p, g, hp, hg, e⟩ := id ho.1
    have hlp : LV L p := ⟨hp, fun j hj h => ho.2 (j + 1) (by omega) ⟨p, g, h, hg, e⟩⟩
    obtain ⟨i, hi, ei⟩ := v.2.1 p hlp
    have m := q2 i (Nat.zero_le i) (by omega) g hg
    rw [ei, ← e] at m
    rcases (q1.1 o ho.1.pk).mp m with ⟨j, hj, h⟩ | h
    · exact absurd h (ho.2 j (by omega))
    · exact h
  refine ⟨q1.2, key, fun o ho => (q1.1 o ho).trans ⟨fun h => ?_, fun ⟨j, hj, h⟩ => ?_⟩⟩
  · rcases h with ⟨j, hj, h⟩ | ⟨i, hi, e⟩
    · exact ⟨j, by omega, h⟩
    · exact ⟨L + 1, Nat.le_refl _, by rw [← e]; exact (q1.2 i hi).1⟩
  · by_cases y : ∃ j, j ≤ L ∧ rch j o
    · exact Or.inl y
    · have e : j = L + 1 := by
        rcases Nat.lt_or_ge j (L + 1) with z | z
        · exact absurd ⟨j, by omega, h⟩ y
        · omega
      rw [e] at h
      exact Or.inr (key o ⟨h, fun i hi z => y ⟨i, by omega, z⟩⟩)
theorem wth_wth {g o : Nat} (hg : isG g) (ho : o < 16777216) : wth g (wth g o) = o := by
  refine Eq.trans (wS_cg 8 fun j hj => ?_) (wS_eq ho)
  show gt g (vP (wth g o) j) = vP o j
  rw [show vP (wth g o) j = gt g (vP o j) from wS_at 8 (fun i _ => gt_lt hg.1 (vP_lt o i)) j hj]
  exact gt_gt hg.1 hg.2 (vP_lt o j)
theorem rch_w : ∀ (gs : List Nat) (o : Nat), isPk o → (∀ g, g ∈ gs → isG g) → wdF (rwL (vP o) 0 8) gs = idL → rch gs.length o
  | [], o, ho, _, h => by
    have e : rwL (vP o) 0 8 = rwL (fun j => j) 0 8 := h
    have e2 := rwL_inj 8 0 e
    show o = idN
    rw [← wS_eq ho.1]
    exact wS_cg 8 fun j hj => e2 j (Nat.zero_le j) (by omega)
  | g :: gs, o, ho, hg, h => by
    have hgg := hg g List.mem_cons_self
    have ih := rch_w gs (wth g o) (ho.g hgg) (fun x hx => hg x (List.mem_cons_of_mem _ hx)) (by rw [rwL_wth hgg.1]; exact h)
    exact ⟨wth g o, g, ih, hgg, (wth_wth hgg ho.1).symm⟩
/-- within eight -/
theorem rch_8 {o : Nat} (ho : isPk o) : ∃ k, k ≤ 8 ∧ LV k o := by
  obtain ⟨gs, h1, h2, h3⟩ := lg_8 ho.2
  have h := rch_w gs o ho h2 h3
  have key : ∀ n, rch n o → ∃ k, k ≤ n ∧ LV k o := by
    intro n
    induction n using Nat.strongRecOn with
    | ind n ih =>
      intro hn
      by_cases z : ∃ j, j < n ∧ rch j o
      · obtain ⟨j, hj, hr⟩ := z
        obtain ⟨k, hk, hl⟩ := ih j hj hr
        exact ⟨k, by omega, hl⟩
      · exact ⟨n, Nat.le_refl n, hn, fun j hj hr => z ⟨j, hj, hr⟩⟩
  obtain ⟨k, hk, hl⟩ := key _ h
  exact ⟨k, by omega, hl⟩
theorem LV.one {k j o : Nat} (h : LV k o) (h2 : LV j o) : k = j := by
  rcases Nat.lt_trichotomy k j with q | q | q
  · exact absurd h.1 (h2.2 k q)
  · exact q
  · exact absurd h2.1 (h.2 j q)
