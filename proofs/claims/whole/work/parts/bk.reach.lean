/-! Rows reached by gates. -/
def idN : Nat := wS (fun j => j) 8
def isPk (o : Nat) : Prop := o < 16777216 ∧ (rwL (vP o) 0 8).Perm idL
theorem wS_eq {o : Nat} (h : o < 16777216) : wS (vP o) 8 = o := by
  simp only [wS, vP]
  omega
theorem isPk.id : isPk idN := by
  refine ⟨by decide, ?_⟩
  have e : rwL (vP idN) 0 8 = rwL (fun j => j) 0 8 := rwL_cg 8 0 fun j _ h => wS_at 8 (fun i hi => hi) j (by omega)
  rw [e, rwL_id]
theorem rwL_wth {g : Nat} (hg : g < 24) (p : Nat) : rwL (vP (wth g p)) 0 8 = (rwL (vP p) 0 8).map (gt g) := by
  rw [rwL_map]
  exact rwL_cg 8 0 fun j _ h => wS_at 8 (fun i _ => gt_lt hg (vP_lt p i)) j (by omega)
theorem isPk.g {g p : Nat} (hg : isG g) (h : isPk p) : isPk (wth g p) := ⟨wth_lt hg.1 p, by rw [rwL_wth hg.1]; exact pm_gt hg h.2⟩
theorem isPk.inj {o p : Nat} (h : isPk o) (k : isPk p) (e : lr o = lr p) : o = p := by
  have e2 := lrk_inj _ _ (h.2.trans k.2.symm) e
  have e3 := rwL_inj 8 0 e2
  rw [← wS_eq h.1, ← wS_eq k.1]
  exact wS_cg 8 fun i hi => e3 i (Nat.zero_le i) (by omega)
/-- reached by just so many gates -/
def rch : Nat → Nat → Prop
  | 0, o => o = idN
  | k + 1, o => ∃ p g, rch k p ∧ isG g ∧ o = wth g p
theorem rch.pk : ∀ {k o : Nat}, rch k o → isPk o
  | 0, _, h => by rw [show _ = idN from h]; exact isPk.id
  | k + 1, _, ⟨p, g, h, hg, e⟩ => by rw [e]; exact (rch.pk h).g hg
def LV (k o : Nat) : Prop := rch k o ∧ ∀ j, j < k → ¬ rch j o
/-- marks and the list while the next level is made -/
def lvQ (L : Nat) (s : gS) : Prop := (∀ o, isPk o → (s.1 (lr o) ≠ 0 ↔ (∃ j, j ≤ L ∧ rch j o) ∨ ∃ i, i < s.2.2 ∧ s.2.1 i = o)) ∧ ∀ i, i < s.2.2 → LV (L + 1) (s.2.1 i)
theorem lvQ.ads {L : Nat} {s : gS} (q : lvQ L s) {o : Nat} (ho : rch (L + 1) o) : lvQ L (adsP s o) ∧ (adsP s o).1 (lr o) ≠ 0 ∧ ∀ p, s.1 p ≠ 0 → (adsP s o).1 p ≠ 0 := by
  have po := ho.pk
  unfold adsP
  by_cases z : s.1 (lr o) = 0
  · rw [if_pos z]
    have hno : ¬ ((∃ j, j ≤ L ∧ rch j o) ∨ ∃ i, i < s.2.2 ∧ s.2.1 i = o) := fun h => (q.1 o po).mpr h z
    have hlv : LV (L + 1) o := ⟨ho, fun j hj h => hno (Or.inl ⟨j, by omega, h⟩)⟩
    refine ⟨⟨fun p pp => ?_, fun i hi => ?_⟩, ?_, fun p hp => ?_⟩
    · show upd s.1 (lr o) (nI 1) (lr p) ≠ 0 ↔ _ ∨ ∃ i, i < s.2.2 + 1 ∧ upN s.2.1 s.2.2 o i = p
      by_cases y : lr p = lr o
      · have e := pp.inj po y
        rw [y, upd_s]
        exact ⟨fun _ => Or.inr ⟨s.2.2, by omega, (if_pos rfl : upN s.2.1 s.2.2 o s.2.2 = o).trans e.symm⟩, fun _ => nI1⟩
      · rw [upd_n y, q.1 p pp]
        refine or_congr Iff.rfl ⟨fun ⟨i, h1, h2⟩ => ⟨i, by omega, (if_neg (by omega) : upN s.2.1 s.2.2 o i = s.2.1 i).trans h2⟩, fun ⟨i, h1, h2⟩ => ?_⟩
        by_cases w : i = s.2.2
        · rw [w, show upN s.2.1 s.2.2 o s.2.2 = o from if_pos rfl] at h2
          exact absurd (by rw [h2]) y
        · rw [show upN s.2.1 s.2.2 o i = s.2.1 i from if_neg w] at h2
          exact ⟨i, by omega, h2⟩
    · have hi : i < s.2.2 + 1 := hi
      show LV (L + 1) (upN s.2.1 s.2.2 o i)
      by_cases w : i = s.2.2
      · rw [show upN s.2.1 s.2.2 o i = o from if_pos w]; exact hlv
      · rw [show upN s.2.1 s.2.2 o i = s.2.1 i from if_neg w]; exact q.2 i (by omega)
    · show upd s.1 (lr o) (nI 1) (lr o) ≠ 0
      rw [upd_s]; exact nI1
    · show upd s.1 (lr o) (nI 1) p ≠ 0
      by_cases y : p = lr o
      · rw [y, upd_s]; exact nI1
      · rw [upd_n y]; exact hp
  · rw [if_neg z]
    exact ⟨q, z, fun _ h => h⟩
