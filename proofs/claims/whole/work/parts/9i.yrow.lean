/-! Rows of statements in the reference's cells. -/
def Mv (I J : Nat → Prop) (L : List Nat) (h g : mj_H) : Prop := mz_fr L h g ∧ (∀ a, I a → a < mj_CB) ∧ ∀ a, I a → a < h.length → a ∉ L ∧ J a
theorem Mv.lt {I J : Nat → Prop} {L : List Nat} {h g : mj_H} {a : Nat} {c : mj_C} (m : Mv I J L h g) (hi : I a) (hr : mj_rd h a = some c) : a < h.length := by
  have := m.2.1 a hi
  rcases rdN hr with q | q
  · exact q
  · omega
theorem Mv.rd {I J : Nat → Prop} {L : List Nat} {h g : mj_H} {a : Nat} {c : mj_C} (m : Mv I J L h g) (hi : I a) (hr : mj_rd h a = some c) : mj_rd g a = some c := m.1 a (m.2.2 a hi (m.lt hi hr)).1 c hr
theorem Mv.j {I J : Nat → Prop} {L : List Nat} {h g : mj_H} {a : Nat} {c : mj_C} (m : Mv I J L h g) (hi : I a) (hr : mj_rd h a = some c) : J a := (m.2.2 a hi (m.lt hi hr)).2
theorem ySu.mv {I J : Nat → Prop} {L : List Nat} {h g : mj_H} {S t p u : Nat} (m : Mv I J L h g) : ySu I h S t p u → ySu J g S t p u
  | ⟨V, N, vf, nf, sg, k, s, i1, i2, i3, r⟩ => ⟨V, N, vf, nf, sg, k, ⟨m.rd i1 s.1, m.rd i2 s.2.1, m.rd i3 s.2.2.1, s.2.2.2⟩, m.j i1 s.1, m.j i2 s.2.1, m.j i3 s.2.2.1, r⟩
theorem ySim.mv {I J : Nat → Prop} {L : List Nat} {h g : mj_H} {A : Nat → Nat} {p : Nat} (m : Mv I J L h g) : ySim I h A p → ySim J g A p
  | ⟨b, i, s, v, r, w, u, zz⟩ => ⟨b, m.j i r, s, v, m.rd i r, w, fun e => (u e).imp fun _ q => ⟨q.1, q.2.mv m⟩, zz⟩
theorem ySim.cg {I : Nat → Prop} {h : mj_H} {A B : Nat → Nat} {p : Nat} (e : ∀ q, q < 8 → A q = B q) (s : ySim I h A p) : ySim I h B p := by
  unfold ySim at s ⊢
  rw [← e 0 (by decide), ← e 1 (by decide), ← e 2 (by decide), ← e 3 (by decide), ← e 4 (by decide)]
  exact s
/-- a list at Lr whose objects are parts -/
def rwP (P : Nat → Nat → Nat → Prop) (I : Nat → Prop) (h : mj_H) (Lr k k' : Nat) : Prop := ∃ (E c : Nat) (ps ks : Nat → Nat), yLs h Lr E c ps ∧ I Lr ∧ (I E ∨ E = 1000000) ∧ ks 0 = k ∧ ks c = k' ∧ ∀ j, j < c → I (ps j) ∧ P (ps j) (ks j) (ks (j + 1))
/-- a part that is a bracket -/
def yBr (rw_ : Nat → Nat → Nat → Prop) (I : Nat → Prop) (h : mj_H) (A : Nat → Nat → Nat) (p a b : Nat) : Prop := ∃ (m e S1 S2 R1 R2 : Nat) (s1 s2 : Int32), b = e + 1 ∧ (A a 0 = 91 ∨ A a 0 = 123) ∧ A a 6 = m ∧ A a 7 = e ∧ I p ∧ mj_rd h p = some (ptC (nI (A a 0)) s1 s2 .null (.ref S1) (.ref S2) (.ref R1) (.ref R2)) ∧ ySu I h S1 (A a 2) (A a 3) (A a 4) ∧ ySu I h S2 (A e 2) (A e 3) (A e 4) ∧ rw_ R1 (a + 1) m ∧ rw_ R2 (m + 1) e
def yPt (I : Nat → Prop) (h : mj_H) (A : Nat → Nat → Nat) : Nat → Nat → Nat → Nat → Prop
  | 0, p, a, b => ySim I h (A a) p ∧ b = a + 1
  | d + 1, p, a, b => (ySim I h (A a) p ∧ b = a + 1) ∨ yBr (rwP (yPt I h A d) I h) I h A p a b
abbrev yRow (I : Nat → Prop) (h : mj_H) (A : Nat → Nat → Nat) (d Lr k k' : Nat) : Prop := rwP (yPt I h A d) I h Lr k k'
theorem rwP.mv {P Q : Nat → Nat → Nat → Prop} {I J : Nat → Prop} {L : List Nat} {h g : mj_H} {Lr k k' : Nat} (m : Mv I J L h g) (hP : ∀ p a b, k ≤ a → b ≤ k' → P p a b → Q p a b) (hlt : ∀ p a b, P p a b → a < b) : rwP P I h Lr k k' → rwP Q J g Lr k k'
  | ⟨E, c, ps, ks, l, i1, i2, k0, kc, hj⟩ => by
    have l0 := l
    obtain ⟨cap, mc, ef, l1, l2, l3, l4, l5, l6⟩ := l0
    have hp : ∀ j, j < c → ps j ∉ L ∧ J (ps j) := fun j hjc => by
      obtain ⟨c1, fs, r, _⟩ := (l6 j hjc).2
      exact m.2.2 _ (hj j hjc).1 (m.lt (hj j hjc).1 r)
    have hE : mj_rdA g E = some (6, (cap, objs ef)) ∧ (J E ∨ E = 1000000) := by
      rcases i2 with i2 | i2
      · have hlt := m.lt i2 (rdA_lt l2)
        exact ⟨mz_fr.A m.1 (m.2.2 _ i2 hlt).1 l2, Or.inl (m.2.2 _ i2 hlt).2⟩
      · rw [i2] at l2 ⊢
        exact ⟨l2, Or.inr rfl⟩
    refine ⟨E, c, ps, ks, ⟨cap, mc, ef, m.rd i1 l1, hE.1, l3, l4, l5, fun j hjc => ⟨(l6 j hjc).1, (l6 j hjc).2.fr m.1 (hp j hjc).1⟩⟩, m.j i1 l1, hE.2, k0, kc, fun j hjc => ⟨(hp j hjc).2, ?_⟩⟩
    have hi := ks_in (P := fun a b => ∃ p, P p a b) (fun a b ⟨p, q⟩ => hlt p a b q) (c := c) (ks := ks) (fun i hi => ⟨_, (hj i hi).2⟩) hjc
    exact hP _ _ _ (by omega) (by omega) (hj j hjc).2
theorem rwP.le {P : Nat → Nat → Nat → Prop} {I : Nat → Prop} {h : mj_H} {Lr k k' : Nat} (hlt : ∀ p a b, P p a b → a < b) : rwP P I h Lr k k' → k ≤ k'
  | ⟨E, c, ps, ks, l, i1, i2, k0, kc, hj⟩ => by
    have := ks_mono (P := fun a b => ∃ p, P p a b) (fun a b ⟨p, q⟩ => hlt p a b q) (c := c) (ks := ks) (fun i hi => ⟨_, (hj i hi).2⟩) c 0 (by omega)
    rw [Nat.zero_add] at this
    omega
theorem yPt.lt {I : Nat → Prop} {h : mj_H} {A : Nat → Nat → Nat} : ∀ (d p a b : Nat), yPt I h A d p a b → a < b
  | 0, p, a, b, t => by
    have := t.2
    omega
  | d + 1, p, a, b, t => by
    rcases t with t | ⟨m, e, S1, S2, R1, R2, s1, s2, h1, _, _, _, _, _, _, _, r1, r2⟩
    · have := t.2
      omega
    · have := rwP.le (fun p a b => yPt.lt d p a b) r1
      have := rwP.le (fun p a b => yPt.lt d p a b) r2
      omega
/-- to another heap, other acts that are the same there -/
theorem yPt.mv {I J : Nat → Prop} {L : List Nat} {h g : mj_H} {A B : Nat → Nat → Nat} (m : Mv I J L h g) : ∀ (d p a b : Nat), (∀ j, a ≤ j → j < b → ∀ q, q < 8 → A j q = B j q) → yPt I h A d p a b → yPt J g B d p a b
  | 0, p, a, b, e, t => ⟨(t.1.mv m).cg (e a (Nat.le_refl a) (by have := t.2; omega)), t.2⟩
  | d + 1, p, a, b, e, t => by
    have hl := yPt.lt _ _ _ _ t
    rcases t with t | ⟨m1, e1, S1, S2, R1, R2, s1, s2, h1, h2, h3, h4, h5, h6, h7, h8, r1, r2⟩
    · exact Or.inl ⟨(t.1.mv m).cg (e a (Nat.le_refl a) hl), t.2⟩
    · have g1 := rwP.le (fun p a b => yPt.lt d p a b) r1
      have g2 := rwP.le (fun p a b => yPt.lt d p a b) r2
      have ea := e a (Nat.le_refl a) hl
      have ee := e e1 (by omega) (by omega)
      have h7 := h7.mv m
      have h8 := h8.mv m
      have h6' := m.rd h5 h6
      rw [ea 0 (by decide)] at h2 h6'
      rw [ea 6 (by decide)] at h3
      rw [ea 7 (by decide)] at h4
      rw [ea 2 (by decide), ea 3 (by decide), ea 4 (by decide)] at h7
      rw [ee 2 (by decide), ee 3 (by decide), ee 4 (by decide)] at h8
      exact Or.inr ⟨m1, e1, S1, S2, R1, R2, s1, s2, h1, h2, h3, h4, m.j h5 h6, h6', h7, h8,
        r1.mv m (fun p a' b' q1 q2 t => yPt.mv m d p a' b' (fun j z1 z2 => e j (by omega) (by omega)) t) (fun p a b => yPt.lt d p a b),
        r2.mv m (fun p a' b' q1 q2 t => yPt.mv m d p a' b' (fun j z1 z2 => e j (by omega) (by omega)) t) (fun p a b => yPt.lt d p a b)⟩
theorem yRow.mv {I J : Nat → Prop} {L : List Nat} {h g : mj_H} {A B : Nat → Nat → Nat} {d Lr k k' : Nat} (m : Mv I J L h g) (e : ∀ j, k ≤ j → j < k' → ∀ q, q < 8 → A j q = B j q) (r : yRow I h A d Lr k k') : yRow J g B d Lr k k' :=
  rwP.mv m (fun p a b q1 q2 t => yPt.mv m d p a b (fun j z1 z2 => e j (by omega) (by omega)) t) (fun p a b => yPt.lt d p a b) r
theorem gE_pt {h : mj_H} {p : Nat} {fs : List Value} (hr : mj_rd h p = some (.inr (24, fs))) : gE h p := ⟨24, fs, hr, by decide, by decide⟩
theorem yPt.ge {I : Nat → Prop} {h : mj_H} {A : Nat → Nat → Nat} {d p a b : Nat} (t : yPt I h A d p a b) : gE h p ∧ I p := by
  cases d with
  | zero =>
    obtain ⟨⟨_, i, _, _, r, _⟩, _⟩ := t
    exact ⟨gE_pt r, i⟩
  | succ d =>
    rcases t with ⟨⟨_, i, _, _, r, _⟩, _⟩ | ⟨m1, e1, S1, S2, R1, R2, s1, s2, h1, h2, h3, h4, h5, h6, _⟩
    · exact ⟨gE_pt r, i⟩
    · exact ⟨gE_pt h6, h5⟩
theorem yPt.s {I : Nat → Prop} {h : mj_H} {A : Nat → Nat → Nat} {d p a : Nat} (t : ySim I h (A a) p) : yPt I h A d p a (a + 1) := by
  cases d with
  | zero => exact ⟨t, rfl⟩
  | succ d => exact Or.inl ⟨t, rfl⟩
/-- a statement read: its part -/
def prtQ (fC : Int32 → Int32 → mj_C) (h : mj_H) (x T n c : Nat) (f : Nat → Nat) (op d at_ k : Nat) (P : PR) (o : mj_O × mj_H) : Prop := (∃ (s' : PS) (p : Nat) (h' : mj_H), P = .inr s' ∧ o = (.inl (some (.ref p)), h') ∧ yR h' x T n c f s'.1 op ∧ yPt (frI h) h' s'.2.2 d p k s'.2.1 ∧ mz_mo [x] (5 * (s'.1 - at_)) (80 * (s'.1 - at_)) h h') ∨ (∃ e, P = .inl e ∧ yT fC (5 * (n - at_) + 20) (80 * (n - at_) + 300) h x e o)
/-- a row read: its list -/
def rowQ (fC : Int32 → Int32 → mj_C) (h : mj_H) (x T n c : Nat) (f : Nat → Nat) (op d at_ k : Nat) (P : PR) (o : mj_O × mj_H) : Prop := (∃ (s' : PS) (p : Nat) (h' : mj_H), P = .inr s' ∧ o = (.inl (some (.ref p)), h') ∧ yR h' x T n c f s'.1 op ∧ yRow (frI h) h' s'.2.2 d p k s'.2.1 ∧ mz_mo [x] (5 * (s'.1 - at_) + 2) (80 * (s'.1 - at_) + 83) h h') ∨ (∃ e, P = .inl e ∧ yT fC (5 * (n - at_) + 22) (80 * (n - at_) + 400) h x e o)
/-- the acts of a bracket that was read -/
theorem brk_X {k k2 k3 : Nat} {x2 x3 a : Nat → Nat → Nat} {A1 A2 A3 : Nat → Nat} (h1 : k < k2) (h2 : k2 < k3) (e2 : ∀ j, j < k + 1 → x2 j = adA a k A1 j) (e3 : ∀ j, j < k2 + 1 → x3 j = adA x2 k2 A2 j) :
    (∀ q, q < 5 → lkA (adA x3 k3 A3) k k2 k3 k q = A1 q) ∧ lkA (adA x3 k3 A3) k k2 k3 k 6 = k2 ∧ lkA (adA x3 k3 A3) k k2 k3 k 7 = k3 ∧ (∀ q, q < 5 → lkA (adA x3 k3 A3) k k2 k3 k3 q = A3 q) ∧ (∀ j, k + 1 ≤ j → j < k2 → lkA (adA x3 k3 A3) k k2 k3 j = x2 j) ∧ ∀ j, k2 + 1 ≤ j → j < k3 → lkA (adA x3 k3 A3) k k2 k3 j = x3 j := by
  refine ⟨fun q hq => ?_, ?_, ?_, fun q hq => ?_, fun j q1 q2 => ?_, fun j q1 q2 => ?_⟩
  · have e : adA x3 k3 A3 k = A1 := by rw [adA_n (by omega), e3 k (by omega), adA_n (by omega), e2 k (by omega), adA_at]
    unfold lkA
    rw [if_pos (Or.inl rfl), if_neg (by omega), if_neg (by omega), if_neg (by omega), e]
  · unfold lkA
    rw [if_pos (Or.inl rfl), if_neg (by omega), if_pos rfl]
  · unfold lkA
    rw [if_pos (Or.inl rfl), if_neg (by omega), if_neg (by omega), if_pos rfl]
  · unfold lkA
    rw [if_pos (Or.inr (Or.inr rfl)), if_neg (by omega), if_neg (by omega), if_neg (by omega), adA_at]
  · rw [lkA_n _ (by omega), adA_n (by omega), e3 j (by omega), adA_n (by omega)]
  · rw [lkA_n _ (by omega), adA_n (by omega)]
/-- a row while it is read -/
def rPI (h : mj_H) (Lr E : Nat) (a : Nat) : Prop := frI h a ∧ a ≠ Lr ∧ a ≠ E
def rowI (h g : mj_H) (Lr E c : Nat) (ps ks : Nat → Nat) (A : Nat → Nat → Nat) (d k k1 : Nat) : Prop := yLs g Lr E c ps ∧ frI h Lr ∧ (E = 1000000 ∨ frI h E) ∧ ks 0 = k ∧ ks c = k1 ∧ ∀ j, j < c → rPI h Lr E (ps j) ∧ yPt (rPI h Lr E) g A d (ps j) (ks j) (ks (j + 1))
theorem rowI.P {h g : mj_H} {Lr E c : Nat} {ps ks : Nat → Nat} {A : Nat → Nat → Nat} {d k k1 : Nat} : rowI h g Lr E c ps ks A d k k1 → rwP (yPt (rPI h Lr E) g A d) (frI h) g Lr k k1
  | ⟨l, i1, i2, k0, kc, hj⟩ => ⟨E, c, ps, ks, l, i1, i2.symm, k0, kc, fun j h1 => ⟨(hj j h1).1.1, (hj j h1).2⟩⟩
theorem rowI.fin {h g : mj_H} {Lr E c : Nat} {ps ks : Nat → Nat} {A : Nat → Nat → Nat} {d k k1 : Nat} (r : rowI h g Lr E c ps ks A d k k1) : yRow (frI h) g A d Lr k k1 := by
  obtain ⟨l, i1, i2, k0, kc, hj⟩ := r
  have m : Mv (rPI h Lr E) (frI h) [] g g := ⟨mz_fr.rf _ _, fun a ha => ha.1.2, fun a ha _ => ⟨by simp, ha.1⟩⟩
  exact ⟨E, c, ps, ks, l, i1, i2.symm, k0, kc, fun j h1 => ⟨(hj j h1).1.1, yPt.mv m d _ _ _ (fun _ _ _ _ _ => rfl) (hj j h1).2⟩⟩
theorem rowI.nil {h g : mj_H} {Lr : Nat} {A : Nat → Nat → Nat} {d k : Nat} (hL : mj_rd g Lr = some (alC 1000000 0 (nI 0))) (i : frI h Lr) : rowI h g Lr 1000000 0 (fun _ => 0) (fun _ => k) A d k k :=
  ⟨⟨0, nI 0, fun _ => none, hL, mj_rdA_cst (k_0 _) (by decide), Nat.le_refl 0, by decide, Or.inr ⟨rfl, rfl⟩, fun i hi => absurd hi (Nat.not_lt_zero i)⟩, i, Or.inl rfl, rfl, rfl, fun j hj => absurd hj (Nat.not_lt_zero j)⟩
theorem rowI.mv1 {h g g1 : mj_H} {x Lr E c : Nat} {ps ks : Nat → Nat} {A B : Nat → Nat → Nat} {d k k1 : Nat} (e : mz_fr [x] g g1) (hx : x < h.length) (hA : ∀ j, j < k1 → B j = A j) (r : rowI h g Lr E c ps ks A d k k1) : rowI h g1 Lr E c ps ks B d k k1 := by
  have r0 := r
  obtain ⟨l, i1, i2, k0, kc, hj⟩ := r
  have m : Mv (rPI h Lr E) (rPI h Lr E) [x] g g1 := ⟨e, fun a ha => ha.1.2, fun a ha _ => ⟨by have := ha.1.1; simp only [List.mem_cons, List.not_mem_nil, or_false]; omega, ha⟩⟩
  have h1 : Lr ∉ [x] := by have := i1.1; simp only [List.mem_cons, List.not_mem_nil, or_false]; omega
  have hxb : x ≠ 1000000 := by have := i1.1; have := i1.2; have e1 : mj_CB = 1000000 := rfl; omega
  have h2 : E ∉ [x] := by
    simp only [List.mem_cons, List.not_mem_nil, or_false]
    rcases i2 with i2 | i2
    · omega
    · have := i2.1
      omega
  refine ⟨l.fr e h1 h2 (fun j hjc => ?_), i1, i2, k0, kc, fun j hjc => ⟨(hj j hjc).1, yPt.mv m d _ _ _ (fun i z1 z2 q _ => ?_) (hj j hjc).2⟩⟩
  · have := (hj j hjc).1.1.1
    simp only [List.mem_cons, List.not_mem_nil, or_false]
    omega
  · have := ks_in (P := fun a b => ∃ p, yPt (rPI h Lr E) g A d p a b) (fun a b ⟨p, q⟩ => yPt.lt d p a b q) (c := c) (ks := ks) (fun i hi => ⟨_, (hj i hi).2⟩) hjc
    rw [hA i (by omega)]
theorem rowI.ad {h g g1 g2 : mj_H} {Lr E E' c q K Z : Nat} {ps ks : Nat → Nat} {A : Nat → Nat → Nat} {d k k1 k2 : Nat} (r : rowI h g1 Lr E c ps ks A d k k1) (hl : yLs g2 Lr E' (c + 1) (upN ps c q)) (hE : E' = E ∨ E' = g1.length) (hB : E' < mj_CB) (ml : mz_mo [Lr, E] K Z g1 g2) (pt : yPt (frI g) g1 A d q k1 k2) (hg : h.length ≤ g.length ∧ Lr < g.length ∧ (E = 1000000 ∨ E < g.length)) (h1 : g.length ≤ g1.length) : rowI h g2 Lr E' (c + 1) (upN ps c q) (fun j => if j = c + 1 then k2 else ks j) A d k k2 := by
  obtain ⟨l, i1, i2, k0, kc, hj⟩ := r
  have hl1 : h.length ≤ g1.length := by omega
  have m : Mv (rPI h Lr E) (rPI h Lr E') [Lr, E] g1 g2 := ⟨ml.1, fun a ha => ha.1.2, fun a ha hlt => ⟨by have := ha.2; simp only [List.mem_cons, List.not_mem_nil, or_false]; omega, ha.1, ha.2.1, by have := ha.2.2; omega⟩⟩
  have m2 : Mv (frI g) (rPI h Lr E') [Lr, E] g1 g2 := ⟨ml.1, fun a ha => ha.2, fun a ha hlt => by
    have h3 := ha.1
    have h4 := ha.2
    have e1 : mj_CB = 1000000 := rfl
    exact ⟨by simp only [List.mem_cons, List.not_mem_nil, or_false]; omega, ⟨by omega, h4⟩, by omega, by omega⟩⟩
  have pt2 := yPt.mv m2 d _ _ _ (fun _ _ _ _ _ => rfl) pt
  have hE2 : frI h E' := by
    rcases hE with rfl | rfl
    · rcases i2 with i2 | i2
      · have e1 : mj_CB = 1000000 := rfl
        omega
      · exact i2
    · exact ⟨hl1, hB⟩
  refine ⟨hl, i1, Or.inr hE2, by show (if 0 = c + 1 then k2 else ks 0) = k; rw [if_neg (by omega)]; exact k0, if_pos rfl, fun j hjc => ?_⟩
  show rPI h Lr E' (if j = c then q else ps j) ∧ yPt (rPI h Lr E') g2 A d (if j = c then q else ps j) (if j = c + 1 then k2 else ks j) (if j + 1 = c + 1 then k2 else ks (j + 1))
  rw [if_neg (c := j = c + 1) (by omega)]
  by_cases z : j = c
  · rw [if_pos z, if_pos (by omega), z, kc]
    exact ⟨pt2.ge.2, pt2⟩
  · rw [if_neg z, if_neg (by omega)]
    have t := yPt.mv m d _ _ _ (fun _ _ _ _ _ => rfl) (hj j (by omega)).2
    exact ⟨t.ge.2, t⟩
theorem rowI.cnt {h g : mj_H} {Lr E c : Nat} {ps ks : Nat → Nat} {A : Nat → Nat → Nat} {d k k1 : Nat} (r : rowI h g Lr E c ps ks A d k k1) : k + c ≤ k1 := by
  obtain ⟨l, i1, i2, k0, kc, hj⟩ := r
  have := ks_mono (P := fun a b => ∃ p, yPt (rPI h Lr E) g A d p a b) (fun a b ⟨p, q⟩ => yPt.lt d p a b q) (c := c) (ks := ks) (fun i hi => ⟨_, (hj i hi).2⟩) c 0 (by omega)
  rw [Nat.zero_add] at this
  omega
theorem yR.up2 {h g : mj_H} {x T n c at_ op at' op' P : Nat} {f : Nat → Nat} {fs : List Value} (r : yR h x T n c f at_ op) (e : mz_fr [x, P] h g) (hP : mj_rd h P = some (.inr (24, fs))) (hx : mj_rd g x = some (.inr (22, [.ref T, .int (nI at'), .int (nI op')]))) : yR g x T n c f at' op' := by
  have key : ∀ a c0, mj_rd h a = some c0 → (∀ fs, c0 ≠ .inr (22, fs)) → (∀ fs, c0 ≠ .inr (24, fs)) → a ∉ [x, P] := fun a c0 h1 h2 h3 q => by
    simp only [List.mem_cons, List.not_mem_nil, or_false] at q
    rcases q with rfl | rfl
    · rw [r.1] at h1
      exact h2 _ (Option.some.inj h1).symm
    · rw [hP] at h1
      exact h3 _ (Option.some.inj h1).symm
  refine ⟨hx, r.2.fr e ?_ (fun B rs q => ?_)⟩
  · obtain ⟨_, B, rs, kT, _⟩ := r.2
    exact key T _ kT (fun _ e => by cases e) (fun _ e => by cases e)
  · obtain ⟨_, B', rs', kT, bf, kB, _⟩ := r.2
    rw [kT] at q
    have e2 := Value.ref.inj (List.cons.inj (congrArg Prod.snd (Sum.inr.inj (Option.some.inj q)))).1
    rw [← e2]
    exact key B' _ kB (fun _ e => by cases e) (fun _ e => by cases e)
theorem mvI {L : List Nat} {h0 h g : mj_H} (e : mz_fr L h g) (hl : h0.length ≤ h.length) (hL : ∀ a, a ∈ L → a < h0.length) : Mv (frI h) (frI h0) L h g := ⟨e, fun a ha => ha.2, fun a ha _ => ⟨fun q => by have := hL a q; have := ha.1; omega, by have := ha.1; omega, ha.2⟩⟩
theorem mvR (h : mj_H) (J : Nat → Prop) {I : Nat → Prop} (hI : ∀ a, I a → a < mj_CB) (hj : ∀ a, I a → J a) : Mv I J [] h h := ⟨mz_fr.rf _ _, hI, fun a ha _ => ⟨by simp, hj a ha⟩⟩
theorem y_brk {fC : Int32 → Int32 → mj_C} (HF : HFl fC) {h : mj_H} {x T n c at_ op : Nat} {f : Nat → Nat} (hn : n ≤ 60) (hf : ∀ j, j < n → f j < 65536) (r0 : yR h x T n c f at_ op) (ha : at_ < n) (bx : x < mj_CB) (hb : h.length + 5 * (n - at_) + 50 < mj_CB) {K d k : Nat} {a : Nat → Nat → Nat} {row : Nat → Nat → PS → PR} (hop : op ≤ 6) (hrow : op < 6 → ∀ (en at_ k : Nat) (a : Nat → Nat → Nat) (h : mj_H), en = 124 ∨ en = 58 → at_ ≤ n → yR h x T n c f at_ (op + 1) → h.length + 5 * (n - at_) + 60 < mj_CB → mj_Wp K 303 (0, [some (.ref x), some (.int (nI en)), none], [], h) (rowQ fC h x T n c f (op + 1) d at_ k (row en (op + 1) (at_, k, a)))) (hrb : ∀ en op s, s.1 ≤ n → okR n s (row en op s) ∧ ∀ s', row en op s = .inr s' → chA n f s'.1 = en) {P bc mc ec : Nat} (hPb : P < mj_CB) (hP : mj_rd h P = some (ptC (nI bc) 0 0 .null .null .null .null .null)) (hc : bc = 91 ∧ mc = 124 ∧ ec = 93 ∨ bc = 123 ∧ mc = 47 ∧ ec = 125) : mj_Wp (K + 13) 334 (0, [some (.ref x), some (.ref P)], [], h) (fun o => (∃ (s' : PS) (h' : mj_H), rBrk row (chA n f) bc mc ec op (at_, k, a) = .inr s' ∧ o = (.inl (some (.ref P)), h') ∧ yR h' x T n c f s'.1 op ∧ (∀ I : Nat → Prop, (∀ a, frI h a → I a) → I P → yBr (rwP (yPt I h' s'.2.2 d) I h') I h' s'.2.2 P k s'.2.1) ∧ at_ + 11 ≤ s'.1 ∧ mz_mo [x, P] (5 * (s'.1 - at_) - 5) (80 * (s'.1 - at_) - 40) h h') ∨ (∃ e, rBrk row (chA n f) bc mc ec op (at_, k, a) = .inl e ∧ ∃ (q : Nat) (h' : mj_H), o = (.inr q, h') ∧ q < mj_CB ∧ h.length ≤ q ∧ mj_rd h' q = some (fC (nI e.2) (nI e.1)) ∧ mz_mo [x, P] (5 * (n - at_) + 18) (80 * (n - at_) + 200) h h')) := by
  have hx0 : x < h.length := rd_len (by omega) r0.1
  have hx1 : P < h.length := rd_len (by omega) hP
  have m0 : mz_mo [x, P] 0 0 h h := mz_mo.rf _ _ _ _
  have hPx : P ≠ x := fun e => by rw [e, r0.1] at hP; cases hP
  have h60 : 5 * (n - at_) ≥ 5 := by omega
  refine s_aldn (p' := 1) rfl rfl rfl ?_
  refine s_aldn (p' := 2) rfl rfl rfl ?_
  refine s_gf (p' := 5) rfl r0.1 rfl rfl ?_
  refine s_bip (p' := 7) rfl rfl ?_
  by_cases q6 : 6 ≤ op
  · refine s_icmp (p' := 14) true rfl ((ci_ge (by omega) (by omega)).trans (decide_eq_true (by omega))) rfl ?_
    refine s_con (p' := 15) rfl rfl ?_
    refine s_bip (p' := 17) rfl rfl ?_
    refine c_call (p' := 20) (kc := 1) (ls0 := [_, _, _]) rfl rfl rfl rfl rfl (mj_rcv_is r0.1) rfl rfl rfl ?_
    refine ((y_wt0 HF hn hf r0 (by omega) bx (by omega) (kd := 109) (by decide))).imp ?_
    rintro o tt
    obtain ⟨q, g, rfl, q1, q2, q3, q4⟩ := tt
    have l_ := mo_le m0
    obtain ⟨fs, e23⟩ := HF.1 (nI (109, at_).2) (nI (109, at_).1)
    exact K_u (Nat.blt_eq.mpr q1) (mj_ocl_is (by rw [← e23]; exact q3)) rfl (Or.inr ⟨(109, at_), by unfold rBrk; dsimp only; rw [if_pos q6], q, g, rfl, q1, by omega, q3, m0.tr q4 (fun y hy => by simp only [List.mem_cons, List.not_mem_nil, or_false] at hy ⊢; omega) (by omega) (by omega)⟩)
  · refine s_icmp (p' := 10) false rfl ((ci_ge (by omega) (by omega)).trans (decide_eq_false (by omega))) rfl ?_
    refine s_con (p' := 11) rfl rfl ?_
    refine s_goto (p' := 15) rfl rfl ?_
    refine s_bip (p' := 17) rfl rfl ?_
    refine s_callN (p' := 20) (ls0 := [_, _, _]) rfl rfl rfl rfl rfl (mj_rcv_is r0.1) rfl y_wt1 (by first | decide | omega) rfl ?_
    refine s_aldn (p' := 21) rfl rfl rfl ?_
    refine s_sp (p' := 22) (ls' := _) rfl rfl rfl ?_
    refine s_gf (p' := 25) rfl r0.1 rfl rfl ?_
    refine s_con (p' := 26) rfl rfl ?_
    refine s_sp (p' := 27) (ls' := _) rfl rfl rfl ?_
    rw [mI_add]
    refine s_pf (p' := 30) (fs' := [_, _, _]) rfl bx r0.1 (Nat.blt_eq.mp rfl) rfl rfl rfl ?_
    generalize hg1 : List.set h x _ = h1
    have m1 : mz_mo [x, P] 0 0 h h1 := by rw [← hg1]; exact mz_mo.s m0 (by omega) r0.1 rfl (Or.inl (by simp))
    have l1 : h.length ≤ h1.length := by rw [← hg1, List.length_set]; exact Nat.le_refl _
    have X1 : mj_rd h1 x = some (.inr (22, [.ref T, .int (nI (at_ + 1)), .int (nI op)])) := by rw [← hg1]; exact rd_set (by omega) r0.1
    have P1 : mj_rd h1 P = some (ptC (nI bc) 0 0 .null .null .null .null .null) := by rw [← hg1]; exact (rd_setn (by omega)).trans hP
    clear hg1
    refine s_aldn (p' := 31) rfl rfl rfl ?_
    refine s_sp (p' := 32) (ls' := _) rfl rfl rfl ?_
    refine s_gf (p' := 35) rfl X1 rfl rfl ?_
    refine s_con (p' := 36) rfl rfl ?_
    refine s_sp (p' := 37) (ls' := _) rfl rfl rfl ?_
    rw [mI_add]
    refine s_pf (p' := 40) (fs' := [_, _, _]) rfl bx X1 (Nat.blt_eq.mp rfl) rfl rfl rfl ?_
    generalize hg2 : List.set h1 x _ = h2
    have m2 : mz_mo [x, P] 0 0 h h2 := by rw [← hg2]; exact mz_mo.s m1 (by omega) X1 rfl (Or.inl (by simp))
    have l2 : h1.length ≤ h2.length := by rw [← hg2, List.length_set]; exact Nat.le_refl _
    have X2 : mj_rd h2 x = some (.inr (22, [.ref T, .int (nI (at_ + 1)), .int (nI (op + 1))])) := by rw [← hg2]; exact rd_set (by omega) X1
    have P2 : mj_rd h2 P = some (ptC (nI bc) 0 0 .null .null .null .null .null) := by rw [← hg2]; exact (rd_setn (by omega)).trans P1
    clear hg2
    have r2 : yR h2 x T n c f (at_ + 1) (op + 1) := r0.up2 m2.1 hP X2
    refine s_aldn (p' := 41) rfl rfl rfl ?_
    refine s_aldn (p' := 42) rfl rfl rfl ?_
    refine c_call (p' := 45) (kc := 12) (ls0 := [_, _]) rfl rfl rfl rfl rfl (mj_rcv_is r2.1) rfl rfl rfl ?_
    refine ((y_tst HF hn hf r2 (by omega) bx (by have := mo_le m2; omega))).imp ?_
    rintro _ (⟨t, p, u, a1, S1, h3, e1, rfl, r3, su, l3', ml3⟩ | ⟨e, e1, tt⟩)
    rotate_left
    · obtain ⟨q, g, rfl, q1, q2, q3, q4⟩ := tt
      have l_ := mo_le m2
      obtain ⟨fs, e23⟩ := HF.1 (nI e.2) (nI e.1)
      exact K_u (Nat.blt_eq.mpr q1) (mj_ocl_is (by rw [← e23]; exact q3)) rfl (Or.inr ⟨e, by unfold rBrk; dsimp only; rw [if_neg q6, e1], q, g, rfl, q1, by omega, q3, m2.tr q4 (fun y hy => by simp only [List.mem_cons, List.not_mem_nil, or_false] at hy ⊢; omega) (by omega) (by omega)⟩)
    show mj_Wp _ _ (45, _, _, _) _
    try dsimp only
    have l3 : h2.length ≤ h3.length := ml3.2.1
    have m3 : mz_mo [x, P] (0 + 3) (0 + 8) h h3 := m2.tr ml3 (fun y hy => by simp only [List.mem_cons, List.not_mem_nil, or_false] at hy ⊢; omega) (by omega) (by omega)
    have P3 : mj_rd h3 P = some (ptC (nI bc) 0 0 .null .null .null .null .null) := ml3.1 _ (by simp only [List.mem_cons, List.not_mem_nil, or_false]; omega) _ P2
    have b1 := rTest_b (chA_ok n f) (a := at_ + 1) (by omega) e1
    have sa0 := su.mv (mvR h3 (frI h) (fun a ha => ha.2) (fun a ha => ⟨by have := ha.1; omega, ha.2⟩))
    refine s_pf (p' := 48) (fs' := [_, _, _, _, _, _, _, _]) rfl (by omega) P3 (Nat.blt_eq.mp rfl) rfl rfl rfl ?_
    generalize hg4 : List.set h3 P _ = h4
    have m4 : mz_mo [x, P] (0 + 3) (0 + 8) h h4 := by rw [← hg4]; exact mz_mo.s m3 (by omega) P3 rfl (Or.inl (by simp))
    have l4 : h3.length ≤ h4.length := by rw [← hg4, List.length_set]; exact Nat.le_refl _
    have v4 : Mv (frI h) (frI h) [P] h3 h4 := ⟨by rw [← hg4]; exact mz_fr.s (by simp) (mz_fr.rf _ _), fun a ha => ha.2, fun a ha _ => ⟨by have := ha.1; simp only [List.mem_cons, List.not_mem_nil, or_false]; omega, ha⟩⟩
    have sa_4 := sa0.mv v4
    have X4 : mj_rd h4 x = some (.inr (22, [.ref T, .int (nI a1), .int (nI (op + 1))])) := by rw [← hg4]; exact (rd_setn (by omega)).trans r3.1
    have P4 : mj_rd h4 P = some (ptC (nI bc) 0 0 .null (.ref S1) .null .null .null) := by rw [← hg4]; exact rd_set (by omega) P3
    clear hg4
    have r4 : yR h4 x T n c f a1 (op + 1) := r0.up2 m4.1 hP X4
    refine s_aldn (p' := 49) rfl rfl rfl ?_
    refine s_bip (p' := 51) rfl rfl ?_
    refine s_bip (p' := 53) rfl rfl ?_
    refine c_call (p' := 56) (kc := 7) (ls0 := [_, _, _]) rfl rfl rfl rfl rfl (mj_rcv_is r4.1) rfl rfl rfl ?_
    refine ((y_skp HF hn hf r4 (by omega) bx (by have := mo_le m4; omega) (w := 58) (by decide) (by decide) (by decide))).imp ?_
    rintro _ (⟨q58, h5, rfl, r5, ml5⟩ | ⟨q58, tt⟩)
    rotate_left
    · obtain ⟨q, g, rfl, q1, q2, q3, q4⟩ := tt
      have l_ := mo_le m4
      obtain ⟨fs, e23⟩ := HF.1 (nI (100, a1).2) (nI (100, a1).1)
      exact K_u (Nat.blt_eq.mpr q1) (mj_ocl_is (by rw [← e23]; exact q3)) rfl (Or.inr ⟨(100, a1), by unfold rBrk; dsimp only; rw [if_neg q6, e1]; dsimp only; rw [if_neg q58], q, g, rfl, q1, by omega, q3, m4.tr q4 (fun y hy => by simp only [List.mem_cons, List.not_mem_nil, or_false] at hy ⊢; omega) (by omega) (by omega)⟩)
    show mj_Wp _ _ (56, _, _, _) _
    try dsimp only
    have la1 := (chA_lt hf (a := a1) (by omega)).1
    have l5 : h4.length ≤ h5.length := ml5.2.1
    have m5 : mz_mo [x, P] ((0 + 3) + 0) ((0 + 8) + 0) h h5 := m4.tr ml5 (fun y hy => by simp only [List.mem_cons, List.not_mem_nil, or_false] at hy ⊢; omega) (by omega) (by omega)
    have v5 : Mv (frI h) (frI h) [x] h4 h5 := ⟨ml5.1, fun a ha => ha.2, fun a ha _ => ⟨by have := ha.1; simp only [List.mem_cons, List.not_mem_nil, or_false]; omega, ha⟩⟩
    have sa_5 := sa_4.mv v5
    have P5 : mj_rd h5 P = some (ptC (nI bc) 0 0 .null (.ref S1) .null .null .null) := ml5.1 _ (by simp only [List.mem_cons, List.not_mem_nil, or_false]; omega) _ P4
    refine s_aldn (p' := 57) rfl rfl rfl ?_
    refine s_aldn (p' := 58) rfl rfl rfl ?_
    refine s_bip (p' := 60) rfl rfl ?_
    refine c_call (p' := 63) (kc := K) (ls0 := [_, _, _]) rfl rfl rfl rfl rfl (mj_rcv_is r5.1) rfl (Nat.ble_eq.mpr (by omega)) rfl ?_
    refine ((hrow (by omega) 124 (a1 + 1) (k + 1) (adA a k (ac bc 0 t p u 0 0 0)) h5 (by decide) (by omega) r5 (by have := mo_le m5; omega))).imp ?_
    rintro _ (⟨s6, R1, h6, e2, rfl, r6, rw1, ml6⟩ | ⟨e, e2, tt⟩)
    rotate_left
    · obtain ⟨q, g, rfl, q1, q2, q3, q4⟩ := tt
      have l_ := mo_le m5
      obtain ⟨fs, e23⟩ := HF.1 (nI e.2) (nI e.1)
      exact K_u (Nat.blt_eq.mpr q1) (mj_ocl_is (by rw [← e23]; exact q3)) rfl (Or.inr ⟨e, by unfold rBrk; dsimp only; rw [if_neg q6, e1]; dsimp only; rw [if_pos q58, e2], q, g, rfl, q1, by omega, q3, m5.tr q4 (fun y hy => by simp only [List.mem_cons, List.not_mem_nil, or_false] at hy ⊢; omega) (by omega) (by omega)⟩)
    show mj_Wp _ _ (63, _, _, _) _
    try dsimp only
    obtain ⟨a2, k2, x2⟩ := s6
    have o2 := hrb 124 (op + 1) (a1 + 1, k + 1, adA a k (ac bc 0 t p u 0 0 0)) (by show a1 + 1 ≤ n; omega)
    have o2a := o2.1 _ e2
    have o2b := o2.2 _ e2
    dsimp only at r6 rw1 ml6 o2a o2b
    have la2 := (chA_lt hf (a := a2) (by omega)).1
    have l6 : h5.length ≤ h6.length := ml6.2.1
    have m6 : mz_mo [x, P] (3 + (5 * (a2 - (a1 + 1)) + 2)) (8 + (80 * (a2 - (a1 + 1)) + 83)) h h6 := m5.tr ml6 (fun y hy => by simp only [List.mem_cons, List.not_mem_nil, or_false] at hy ⊢; omega) (by omega) (by omega)
    have v6 : Mv (frI h) (frI h) [x] h5 h6 := ⟨ml6.1, fun a ha => ha.2, fun a ha _ => ⟨by have := ha.1; simp only [List.mem_cons, List.not_mem_nil, or_false]; omega, ha⟩⟩
    have sa_6 := sa_5.mv v6
    have P6 : mj_rd h6 P = some (ptC (nI bc) 0 0 .null (.ref S1) .null .null .null) := ml6.1 _ (by simp only [List.mem_cons, List.not_mem_nil, or_false]; omega) _ P5
    have ra0 := yRow.mv (mvR h6 (frI h) (fun a ha => ha.2) (fun a ha => ⟨by have := ha.1; have := mo_le m5; omega, ha.2⟩)) (fun _ _ _ _ _ => rfl) rw1
    refine s_pf (p' := 66) (fs' := [_, _, _, _, _, _, _, _]) rfl (by omega) P6 (Nat.blt_eq.mp rfl) rfl rfl rfl ?_
    generalize hg7 : List.set h6 P _ = h7
    have m7 : mz_mo [x, P] (3 + (5 * (a2 - (a1 + 1)) + 2)) (8 + (80 * (a2 - (a1 + 1)) + 83)) h h7 := by rw [← hg7]; exact mz_mo.s m6 (by omega) P6 rfl (Or.inl (by simp))
    have l7 : h6.length ≤ h7.length := by rw [← hg7, List.length_set]; exact Nat.le_refl _
    have v7 : Mv (frI h) (frI h) [P] h6 h7 := ⟨by rw [← hg7]; exact mz_fr.s (by simp) (mz_fr.rf _ _), fun a ha => ha.2, fun a ha _ => ⟨by have := ha.1; simp only [List.mem_cons, List.not_mem_nil, or_false]; omega, ha⟩⟩
    have sa_7 := sa_6.mv v7
    have ra_7 := yRow.mv v7 (fun _ _ _ _ _ => rfl) ra0
    have X7 : mj_rd h7 x = some (.inr (22, [.ref T, .int (nI a2), .int (nI (op + 1))])) := by rw [← hg7]; exact (rd_setn (by omega)).trans r6.1
    have P7 : mj_rd h7 P = some (ptC (nI bc) 0 0 .null (.ref S1) .null (.ref R1) .null) := by rw [← hg7]; exact rd_set (by omega) P6
    clear hg7
    have r7 : yR h7 x T n c f a2 (op + 1) := r0.up2 m7.1 hP X7
    refine s_aldn (p' := 67) rfl rfl rfl ?_
    refine s_bip (p' := 69) rfl rfl ?_
    refine s_bip (p' := 71) rfl rfl ?_
    refine c_call (p' := 74) (kc := 7) (ls0 := [_, _, _]) rfl rfl rfl rfl rfl (mj_rcv_is r7.1) rfl rfl rfl ?_
    refine ((y_skp HF hn hf r7 (by omega) bx (by have := mo_le m7; omega) (w := 124) (by decide) (by decide) (by decide))).imp ?_
    rintro _ (⟨_, h8, rfl, r8, ml8⟩ | ⟨qx, tt⟩)
    rotate_left
    · exact absurd o2b qx
    show mj_Wp _ _ (74, _, _, _) _
    try dsimp only
    have l8 : h7.length ≤ h8.length := ml8.2.1
    have m8 : mz_mo [x, P] ((3 + (5 * (a2 - (a1 + 1)) + 2)) + 0) ((8 + (80 * (a2 - (a1 + 1)) + 83)) + 0) h h8 := m7.tr ml8 (fun y hy => by simp only [List.mem_cons, List.not_mem_nil, or_false] at hy ⊢; omega) (by omega) (by omega)
    have v8 : Mv (frI h) (frI h) [x] h7 h8 := ⟨ml8.1, fun a ha => ha.2, fun a ha _ => ⟨by have := ha.1; simp only [List.mem_cons, List.not_mem_nil, or_false]; omega, ha⟩⟩
    have sa_8 := sa_7.mv v8
    have ra_8 := yRow.mv v8 (fun _ _ _ _ _ => rfl) ra_7
    have P8 : mj_rd h8 P = some (ptC (nI bc) 0 0 .null (.ref S1) .null (.ref R1) .null) := ml8.1 _ (by simp only [List.mem_cons, List.not_mem_nil, or_false]; omega) _ P7
    refine s_aldn (p' := 75) rfl rfl rfl ?_
    refine s_aldn (p' := 76) rfl rfl rfl ?_
    refine s_bip (p' := 78) rfl rfl ?_
    refine c_call (p' := 81) (kc := K) (ls0 := [_, _, _]) rfl rfl rfl rfl rfl (mj_rcv_is r8.1) rfl (Nat.ble_eq.mpr (by omega)) rfl ?_
    refine ((hrow (by omega) 58 (a2 + 1) (k2 + 1) (adA x2 k2 (ac mc 0 0 32 0 0 0 0)) h8 (by decide) (by omega) r8 (by have := mo_le m8; omega))).imp ?_
    rintro _ (⟨s9, R2, h9, e3, rfl, r9, rw2, ml9⟩ | ⟨e, e3, tt⟩)
    rotate_left
    · obtain ⟨q, g, rfl, q1, q2, q3, q4⟩ := tt
      have l_ := mo_le m8
      obtain ⟨fs, e23⟩ := HF.1 (nI e.2) (nI e.1)
      exact K_u (Nat.blt_eq.mpr q1) (mj_ocl_is (by rw [← e23]; exact q3)) rfl (Or.inr ⟨e, by unfold rBrk; dsimp only; rw [if_neg q6, e1]; dsimp only; rw [if_pos q58, e2]; dsimp only; rw [e3], q, g, rfl, q1, by omega, q3, m8.tr q4 (fun y hy => by simp only [List.mem_cons, List.not_mem_nil, or_false] at hy ⊢; omega) (by omega) (by omega)⟩)
    show mj_Wp _ _ (81, _, _, _) _
    try dsimp only
    obtain ⟨a3, k3, x3⟩ := s9
    have o3 := hrb 58 (op + 1) (a2 + 1, k2 + 1, adA x2 k2 (ac mc 0 0 32 0 0 0 0)) (by show a2 + 1 ≤ n; omega)
    have o3a := o3.1 _ e3
    have o3b := o3.2 _ e3
    dsimp only at r9 rw2 ml9 o3a o3b
    have la3 := (chA_lt hf (a := a3) (by omega)).1
    have l9 : h8.length ≤ h9.length := ml9.2.1
    have m9 : mz_mo [x, P] (3 + (5 * (a2 - (a1 + 1)) + 2) + (5 * (a3 - (a2 + 1)) + 2)) (8 + (80 * (a2 - (a1 + 1)) + 83) + (80 * (a3 - (a2 + 1)) + 83)) h h9 := m8.tr ml9 (fun y hy => by simp only [List.mem_cons, List.not_mem_nil, or_false] at hy ⊢; omega) (by omega) (by omega)
    have v9 : Mv (frI h) (frI h) [x] h8 h9 := ⟨ml9.1, fun a ha => ha.2, fun a ha _ => ⟨by have := ha.1; simp only [List.mem_cons, List.not_mem_nil, or_false]; omega, ha⟩⟩
    have sa_9 := sa_8.mv v9
    have ra_9 := yRow.mv v9 (fun _ _ _ _ _ => rfl) ra_8
    have P9 : mj_rd h9 P = some (ptC (nI bc) 0 0 .null (.ref S1) .null (.ref R1) .null) := ml9.1 _ (by simp only [List.mem_cons, List.not_mem_nil, or_false]; omega) _ P8
    have rb0 := yRow.mv (mvR h9 (frI h) (fun a ha => ha.2) (fun a ha => ⟨by have := ha.1; have := mo_le m8; omega, ha.2⟩)) (fun _ _ _ _ _ => rfl) rw2
    refine s_pf (p' := 84) (fs' := [_, _, _, _, _, _, _, _]) rfl (by omega) P9 (Nat.blt_eq.mp rfl) rfl rfl rfl ?_
    generalize hg10 : List.set h9 P _ = h10
    have m10 : mz_mo [x, P] (3 + (5 * (a2 - (a1 + 1)) + 2) + (5 * (a3 - (a2 + 1)) + 2)) (8 + (80 * (a2 - (a1 + 1)) + 83) + (80 * (a3 - (a2 + 1)) + 83)) h h10 := by rw [← hg10]; exact mz_mo.s m9 (by omega) P9 rfl (Or.inl (by simp))
    have l10 : h9.length ≤ h10.length := by rw [← hg10, List.length_set]; exact Nat.le_refl _
    have v10 : Mv (frI h) (frI h) [P] h9 h10 := ⟨by rw [← hg10]; exact mz_fr.s (by simp) (mz_fr.rf _ _), fun a ha => ha.2, fun a ha _ => ⟨by have := ha.1; simp only [List.mem_cons, List.not_mem_nil, or_false]; omega, ha⟩⟩
    have sa_10 := sa_9.mv v10
    have ra_10 := yRow.mv v10 (fun _ _ _ _ _ => rfl) ra_9
    have rb_10 := yRow.mv v10 (fun _ _ _ _ _ => rfl) rb0
    have X10 : mj_rd h10 x = some (.inr (22, [.ref T, .int (nI a3), .int (nI (op + 1))])) := by rw [← hg10]; exact (rd_setn (by omega)).trans r9.1
    have P10 : mj_rd h10 P = some (ptC (nI bc) 0 0 .null (.ref S1) .null (.ref R1) (.ref R2)) := by rw [← hg10]; exact rd_set (by omega) P9
    clear hg10
    have r10 : yR h10 x T n c f a3 (op + 1) := r0.up2 m10.1 hP X10
    refine s_aldn (p' := 85) rfl rfl rfl ?_
    refine s_bip (p' := 87) rfl rfl ?_
    refine s_bip (p' := 89) rfl rfl ?_
    refine c_call (p' := 92) (kc := 7) (ls0 := [_, _, _]) rfl rfl rfl rfl rfl (mj_rcv_is r10.1) rfl rfl rfl ?_
    refine ((y_skp HF hn hf r10 (by omega) bx (by have := mo_le m10; omega) (w := 58) (by decide) (by decide) (by decide))).imp ?_
    rintro _ (⟨_, h11, rfl, r11, ml11⟩ | ⟨qx, tt⟩)
    rotate_left
    · exact absurd o3b qx
    show mj_Wp _ _ (92, _, _, _) _
    try dsimp only
    have l11 : h10.length ≤ h11.length := ml11.2.1
    have m11 : mz_mo [x, P] ((3 + (5 * (a2 - (a1 + 1)) + 2) + (5 * (a3 - (a2 + 1)) + 2)) + 0) ((8 + (80 * (a2 - (a1 + 1)) + 83) + (80 * (a3 - (a2 + 1)) + 83)) + 0) h h11 := m10.tr ml11 (fun y hy => by simp only [List.mem_cons, List.not_mem_nil, or_false] at hy ⊢; omega) (by omega) (by omega)
    have v11 : Mv (frI h) (frI h) [x] h10 h11 := ⟨ml11.1, fun a ha => ha.2, fun a ha _ => ⟨by have := ha.1; simp only [List.mem_cons, List.not_mem_nil, or_false]; omega, ha⟩⟩
    have sa_11 := sa_10.mv v11
    have ra_11 := yRow.mv v11 (fun _ _ _ _ _ => rfl) ra_10
    have rb_11 := yRow.mv v11 (fun _ _ _ _ _ => rfl) rb_10
    have P11 : mj_rd h11 P = some (ptC (nI bc) 0 0 .null (.ref S1) .null (.ref R1) (.ref R2)) := ml11.1 _ (by simp only [List.mem_cons, List.not_mem_nil, or_false]; omega) _ P10
    refine s_aldn (p' := 93) rfl rfl rfl ?_
    refine s_aldn (p' := 94) rfl rfl rfl ?_
    refine c_call (p' := 97) (kc := 12) (ls0 := [_, _]) rfl rfl rfl rfl rfl (mj_rcv_is r11.1) rfl rfl rfl ?_
    refine ((y_tst HF hn hf r11 (by omega) bx (by have := mo_le m11; omega))).imp ?_
    rintro _ (⟨t2, p2, u2, a4, S2, h12, e4, rfl, r12, su2, l12', ml12⟩ | ⟨e, e4, tt⟩)
    rotate_left
    · obtain ⟨q, g, rfl, q1, q2, q3, q4⟩ := tt
      have l_ := mo_le m11
      obtain ⟨fs, e23⟩ := HF.1 (nI e.2) (nI e.1)
      exact K_u (Nat.blt_eq.mpr q1) (mj_ocl_is (by rw [← e23]; exact q3)) rfl (Or.inr ⟨e, by unfold rBrk; dsimp only; rw [if_neg q6, e1]; dsimp only; rw [if_pos q58, e2]; dsimp only; rw [e3]; dsimp only; rw [e4], q, g, rfl, q1, by omega, q3, m11.tr q4 (fun y hy => by simp only [List.mem_cons, List.not_mem_nil, or_false] at hy ⊢; omega) (by omega) (by omega)⟩)
    show mj_Wp _ _ (97, _, _, _) _
    try dsimp only
    have l12 : h11.length ≤ h12.length := ml12.2.1
    have m12 : mz_mo [x, P] (((3 + (5 * (a2 - (a1 + 1)) + 2) + (5 * (a3 - (a2 + 1)) + 2)) + 0) + 3) (((8 + (80 * (a2 - (a1 + 1)) + 83) + (80 * (a3 - (a2 + 1)) + 83)) + 0) + 8) h h12 := m11.tr ml12 (fun y hy => by simp only [List.mem_cons, List.not_mem_nil, or_false] at hy ⊢; omega) (by omega) (by omega)
    have v12 : Mv (frI h) (frI h) [x] h11 h12 := ⟨ml12.1, fun a ha => ha.2, fun a ha _ => ⟨by have := ha.1; simp only [List.mem_cons, List.not_mem_nil, or_false]; omega, ha⟩⟩
    have sa_12 := sa_11.mv v12
    have ra_12 := yRow.mv v12 (fun _ _ _ _ _ => rfl) ra_11
    have rb_12 := yRow.mv v12 (fun _ _ _ _ _ => rfl) rb_11
    have P12 : mj_rd h12 P = some (ptC (nI bc) 0 0 .null (.ref S1) .null (.ref R1) (.ref R2)) := ml12.1 _ (by simp only [List.mem_cons, List.not_mem_nil, or_false]; omega) _ P11
    have b4 := rTest_b (chA_ok n f) (a := a3 + 1) (by omega) e4
    have sb0 := su2.mv (mvR h12 (frI h) (fun a ha => ha.2) (fun a ha => ⟨by have := ha.1; have := mo_le m11; omega, ha.2⟩))
    refine s_pf (p' := 100) (fs' := [_, _, _, _, _, _, _, _]) rfl (by omega) P12 (Nat.blt_eq.mp rfl) rfl rfl rfl ?_
    generalize hg13 : List.set h12 P _ = h13
    have m13 : mz_mo [x, P] (((3 + (5 * (a2 - (a1 + 1)) + 2) + (5 * (a3 - (a2 + 1)) + 2)) + 0) + 3) (((8 + (80 * (a2 - (a1 + 1)) + 83) + (80 * (a3 - (a2 + 1)) + 83)) + 0) + 8) h h13 := by rw [← hg13]; exact mz_mo.s m12 (by omega) P12 rfl (Or.inl (by simp))
    have l13 : h12.length ≤ h13.length := by rw [← hg13, List.length_set]; exact Nat.le_refl _
    have v13 : Mv (frI h) (frI h) [P] h12 h13 := ⟨by rw [← hg13]; exact mz_fr.s (by simp) (mz_fr.rf _ _), fun a ha => ha.2, fun a ha _ => ⟨by have := ha.1; simp only [List.mem_cons, List.not_mem_nil, or_false]; omega, ha⟩⟩
    have sa_13 := sa_12.mv v13
    have ra_13 := yRow.mv v13 (fun _ _ _ _ _ => rfl) ra_12
    have rb_13 := yRow.mv v13 (fun _ _ _ _ _ => rfl) rb_12
    have sb_13 := sb0.mv v13
    have X13 : mj_rd h13 x = some (.inr (22, [.ref T, .int (nI a4), .int (nI (op + 1))])) := by rw [← hg13]; exact (rd_setn (by omega)).trans r12.1
    have P13 : mj_rd h13 P = some (ptC (nI bc) 0 0 .null (.ref S1) (.ref S2) (.ref R1) (.ref R2)) := by rw [← hg13]; exact rd_set (by omega) P12
    clear hg13
    have r13 : yR h13 x T n c f a4 (op + 1) := r0.up2 m13.1 hP X13
    refine s_aldn (p' := 101) rfl rfl rfl ?_
    refine s_aldn (p' := 102) rfl rfl rfl ?_
    refine s_gf (p' := 105) rfl P13 rfl rfl ?_
    rcases hc with ⟨rfl, rfl, rfl⟩ | ⟨rfl, rfl, rfl⟩
    · refine s_bip (p' := 107) rfl rfl ?_
      refine s_icmp (p' := 110) false rfl (by decide +kernel) rfl ?_
      refine s_bip (p' := 112) rfl rfl ?_
      refine s_goto (p' := 117) rfl rfl ?_
      refine s_bip (p' := 119) rfl rfl ?_
      refine c_call (p' := 122) (kc := 7) (ls0 := [_, _, _]) rfl rfl rfl rfl rfl (mj_rcv_is r13.1) rfl rfl rfl ?_
      refine ((y_skp HF hn hf r13 (by omega) bx (by have := mo_le m13; omega) (w := 93) (by decide) (by decide) (by decide))).imp ?_
      rintro _ (⟨qe, h14, rfl, r14, ml14⟩ | ⟨qe, tt⟩)
      rotate_left
      · obtain ⟨q, g, rfl, q1, q2, q3, q4⟩ := tt
        have l_ := mo_le m13
        obtain ⟨fs, e23⟩ := HF.1 (nI (120, a4).2) (nI (120, a4).1)
        exact K_u (Nat.blt_eq.mpr q1) (mj_ocl_is (by rw [← e23]; exact q3)) rfl (Or.inr ⟨(120, a4), by unfold rBrk; dsimp only; rw [if_neg q6, e1]; dsimp only; rw [if_pos q58, e2]; dsimp only; rw [e3]; dsimp only; rw [e4]; dsimp only; rw [if_neg qe], q, g, rfl, q1, by omega, q3, m13.tr q4 (fun y hy => by simp only [List.mem_cons, List.not_mem_nil, or_false] at hy ⊢; omega) (by omega) (by omega)⟩)
      show mj_Wp _ _ (122, _, _, _) _
      try dsimp only
      have l14 : h13.length ≤ h14.length := ml14.2.1
      have m14 : mz_mo [x, P] ((((3 + (5 * (a2 - (a1 + 1)) + 2) + (5 * (a3 - (a2 + 1)) + 2)) + 0) + 3) + 0) ((((8 + (80 * (a2 - (a1 + 1)) + 83) + (80 * (a3 - (a2 + 1)) + 83)) + 0) + 8) + 0) h h14 := m13.tr ml14 (fun y hy => by simp only [List.mem_cons, List.not_mem_nil, or_false] at hy ⊢; omega) (by omega) (by omega)
      have v14 : Mv (frI h) (frI h) [x] h13 h14 := ⟨ml14.1, fun a ha => ha.2, fun a ha _ => ⟨by have := ha.1; simp only [List.mem_cons, List.not_mem_nil, or_false]; omega, ha⟩⟩
      have sa_14 := sa_13.mv v14
      have ra_14 := yRow.mv v14 (fun _ _ _ _ _ => rfl) ra_13
      have rb_14 := yRow.mv v14 (fun _ _ _ _ _ => rfl) rb_13
      have sb_14 := sb_13.mv v14
      have P14 : mj_rd h14 P = some (ptC (nI 91) 0 0 .null (.ref S1) (.ref S2) (.ref R1) (.ref R2)) := ml14.1 _ (by simp only [List.mem_cons, List.not_mem_nil, or_false]; omega) _ P13
      refine s_aldn (p' := 123) rfl rfl rfl ?_
      refine s_sp (p' := 124) (ls' := _) rfl rfl rfl ?_
      refine s_gf (p' := 127) rfl r14.1 rfl rfl ?_
      refine s_con (p' := 128) rfl rfl ?_
      refine s_sp (p' := 129) (ls' := _) rfl rfl rfl ?_
      rw [mI_sub (by omega), Nat.add_sub_cancel]
      refine s_pf (p' := 132) (fs' := [_, _, _]) rfl bx r14.1 (Nat.blt_eq.mp rfl) rfl rfl rfl ?_
      generalize hg15 : List.set h14 x _ = h15
      have m15 : mz_mo [x, P] ((((3 + (5 * (a2 - (a1 + 1)) + 2) + (5 * (a3 - (a2 + 1)) + 2)) + 0) + 3) + 0) ((((8 + (80 * (a2 - (a1 + 1)) + 83) + (80 * (a3 - (a2 + 1)) + 83)) + 0) + 8) + 0) h h15 := by rw [← hg15]; exact mz_mo.s m14 (by omega) r14.1 rfl (Or.inl (by simp))
      have l15 : h14.length ≤ h15.length := by rw [← hg15, List.length_set]; exact Nat.le_refl _
      have v15 : Mv (frI h) (frI h) [x] h14 h15 := ⟨by rw [← hg15]; exact mz_fr.s (by simp) (mz_fr.rf _ _), fun a ha => ha.2, fun a ha _ => ⟨by have := ha.1; simp only [List.mem_cons, List.not_mem_nil, or_false]; omega, ha⟩⟩
      have sa_15 := sa_14.mv v15
      have ra_15 := yRow.mv v15 (fun _ _ _ _ _ => rfl) ra_14
      have rb_15 := yRow.mv v15 (fun _ _ _ _ _ => rfl) rb_14
      have sb_15 := sb_14.mv v15
      have X15 : mj_rd h15 x = some (.inr (22, [.ref T, .int (nI (a4 + 1)), .int (nI op)])) := by rw [← hg15]; exact rd_set (by omega) r14.1
      have P15 : mj_rd h15 P = some (ptC (nI 91) 0 0 .null (.ref S1) (.ref S2) (.ref R1) (.ref R2)) := by rw [← hg15]; exact (rd_setn (by omega)).trans P14
      clear hg15
      have r15 : yR h15 x T n c f (a4 + 1) op := r0.up2 m15.1 hP X15
      refine s_aldn (p' := 133) rfl rfl rfl ?_
      refine s_aret rfl ?_
      have X0 := brk_X (k := k) (k2 := k2) (k3 := k3) (x2 := x2) (x3 := x3) (a := a) (A1 := ac 91 0 t p u 0 0 0) (A2 := ac 124 0 0 32 0 0 0 0) (A3 := ac 93 0 t2 p2 u2 0 0 0) (by omega) (by omega) o2a.2.2.2.2 o3a.2.2.2.2
      refine Or.inl ⟨_, h15, by unfold rBrk; dsimp only; rw [if_neg q6, e1]; dsimp only; rw [if_pos q58, e2]; dsimp only; rw [e3]; dsimp only; rw [e4]; dsimp only; rw [if_pos qe], rfl, r15, fun I hI hIP => ?_, by show at_ + 11 ≤ a4 + 1; omega, m15.wk (fun y hy => Or.inl hy) (by show _ ≤ 5 * (a4 + 1 - at_) - 5; omega) (by show _ ≤ 80 * (a4 + 1 - at_) - 40; omega)⟩
      have mI := mvR h15 I (I := frI h) (fun a ha => ha.2) hI
      dsimp only
      generalize lkA (adA x3 k3 (ac 93 0 t2 p2 u2 0 0 0)) k k2 k3 = X at X0 ⊢
      obtain ⟨X1, X2, X3, X4, X5, X6⟩ := X0
      have e0 : X k 0 = 91 := X1 0 (by decide)
      have e2 : X k 2 = t := X1 2 (by decide)
      have e3 : X k 3 = p := X1 3 (by decide)
      have e4 : X k 4 = u := X1 4 (by decide)
      have f2 : X k3 2 = t2 := X4 2 (by decide)
      have f3 : X k3 3 = p2 := X4 3 (by decide)
      have f4 : X k3 4 = u2 := X4 4 (by decide)
      refine ⟨k2, k3, S1, S2, R1, R2, 0, 0, rfl, by omega, X2, X3, hIP, ?_, ?_, ?_, ?_, ?_⟩
      · rw [e0]
        exact P15
      · rw [e2, e3, e4]
        exact sa_15.mv mI
      · rw [f2, f3, f4]
        exact sb_15.mv mI
      · exact yRow.mv mI (fun j z1 z2 q _ => by rw [X5 j z1 z2]) ra_15
      · exact yRow.mv mI (fun j z1 z2 q _ => by rw [X6 j z1 z2]) rb_15
    · refine s_bip (p' := 107) rfl rfl ?_
      refine s_icmp (p' := 115) true rfl (by decide +kernel) rfl ?_
      refine s_bip (p' := 117) rfl rfl ?_
      refine s_bip (p' := 119) rfl rfl ?_
      refine c_call (p' := 122) (kc := 7) (ls0 := [_, _, _]) rfl rfl rfl rfl rfl (mj_rcv_is r13.1) rfl rfl rfl ?_
      refine ((y_skp HF hn hf r13 (by omega) bx (by have := mo_le m13; omega) (w := 125) (by decide) (by decide) (by decide))).imp ?_
      rintro _ (⟨qe, h14, rfl, r14, ml14⟩ | ⟨qe, tt⟩)
      rotate_left
      · obtain ⟨q, g, rfl, q1, q2, q3, q4⟩ := tt
        have l_ := mo_le m13
        obtain ⟨fs, e23⟩ := HF.1 (nI (120, a4).2) (nI (120, a4).1)
        exact K_u (Nat.blt_eq.mpr q1) (mj_ocl_is (by rw [← e23]; exact q3)) rfl (Or.inr ⟨(120, a4), by unfold rBrk; dsimp only; rw [if_neg q6, e1]; dsimp only; rw [if_pos q58, e2]; dsimp only; rw [e3]; dsimp only; rw [e4]; dsimp only; rw [if_neg qe], q, g, rfl, q1, by omega, q3, m13.tr q4 (fun y hy => by simp only [List.mem_cons, List.not_mem_nil, or_false] at hy ⊢; omega) (by omega) (by omega)⟩)
      show mj_Wp _ _ (122, _, _, _) _
      try dsimp only
      have l14 : h13.length ≤ h14.length := ml14.2.1
      have m14 : mz_mo [x, P] ((((3 + (5 * (a2 - (a1 + 1)) + 2) + (5 * (a3 - (a2 + 1)) + 2)) + 0) + 3) + 0) ((((8 + (80 * (a2 - (a1 + 1)) + 83) + (80 * (a3 - (a2 + 1)) + 83)) + 0) + 8) + 0) h h14 := m13.tr ml14 (fun y hy => by simp only [List.mem_cons, List.not_mem_nil, or_false] at hy ⊢; omega) (by omega) (by omega)
      have v14 : Mv (frI h) (frI h) [x] h13 h14 := ⟨ml14.1, fun a ha => ha.2, fun a ha _ => ⟨by have := ha.1; simp only [List.mem_cons, List.not_mem_nil, or_false]; omega, ha⟩⟩
      have sa_14 := sa_13.mv v14
      have ra_14 := yRow.mv v14 (fun _ _ _ _ _ => rfl) ra_13
      have rb_14 := yRow.mv v14 (fun _ _ _ _ _ => rfl) rb_13
      have sb_14 := sb_13.mv v14
      have P14 : mj_rd h14 P = some (ptC (nI 123) 0 0 .null (.ref S1) (.ref S2) (.ref R1) (.ref R2)) := ml14.1 _ (by simp only [List.mem_cons, List.not_mem_nil, or_false]; omega) _ P13
      refine s_aldn (p' := 123) rfl rfl rfl ?_
      refine s_sp (p' := 124) (ls' := _) rfl rfl rfl ?_
      refine s_gf (p' := 127) rfl r14.1 rfl rfl ?_
      refine s_con (p' := 128) rfl rfl ?_
      refine s_sp (p' := 129) (ls' := _) rfl rfl rfl ?_
      rw [mI_sub (by omega), Nat.add_sub_cancel]
      refine s_pf (p' := 132) (fs' := [_, _, _]) rfl bx r14.1 (Nat.blt_eq.mp rfl) rfl rfl rfl ?_
      generalize hg15 : List.set h14 x _ = h15
      have m15 : mz_mo [x, P] ((((3 + (5 * (a2 - (a1 + 1)) + 2) + (5 * (a3 - (a2 + 1)) + 2)) + 0) + 3) + 0) ((((8 + (80 * (a2 - (a1 + 1)) + 83) + (80 * (a3 - (a2 + 1)) + 83)) + 0) + 8) + 0) h h15 := by rw [← hg15]; exact mz_mo.s m14 (by omega) r14.1 rfl (Or.inl (by simp))
      have l15 : h14.length ≤ h15.length := by rw [← hg15, List.length_set]; exact Nat.le_refl _
      have v15 : Mv (frI h) (frI h) [x] h14 h15 := ⟨by rw [← hg15]; exact mz_fr.s (by simp) (mz_fr.rf _ _), fun a ha => ha.2, fun a ha _ => ⟨by have := ha.1; simp only [List.mem_cons, List.not_mem_nil, or_false]; omega, ha⟩⟩
      have sa_15 := sa_14.mv v15
      have ra_15 := yRow.mv v15 (fun _ _ _ _ _ => rfl) ra_14
      have rb_15 := yRow.mv v15 (fun _ _ _ _ _ => rfl) rb_14
      have sb_15 := sb_14.mv v15
      have X15 : mj_rd h15 x = some (.inr (22, [.ref T, .int (nI (a4 + 1)), .int (nI op)])) := by rw [← hg15]; exact rd_set (by omega) r14.1
      have P15 : mj_rd h15 P = some (ptC (nI 123) 0 0 .null (.ref S1) (.ref S2) (.ref R1) (.ref R2)) := by rw [← hg15]; exact (rd_setn (by omega)).trans P14
      clear hg15
      have r15 : yR h15 x T n c f (a4 + 1) op := r0.up2 m15.1 hP X15
      refine s_aldn (p' := 133) rfl rfl rfl ?_
      refine s_aret rfl ?_
      have X0 := brk_X (k := k) (k2 := k2) (k3 := k3) (x2 := x2) (x3 := x3) (a := a) (A1 := ac 123 0 t p u 0 0 0) (A2 := ac 47 0 0 32 0 0 0 0) (A3 := ac 125 0 t2 p2 u2 0 0 0) (by omega) (by omega) o2a.2.2.2.2 o3a.2.2.2.2
      refine Or.inl ⟨_, h15, by unfold rBrk; dsimp only; rw [if_neg q6, e1]; dsimp only; rw [if_pos q58, e2]; dsimp only; rw [e3]; dsimp only; rw [e4]; dsimp only; rw [if_pos qe], rfl, r15, fun I hI hIP => ?_, by show at_ + 11 ≤ a4 + 1; omega, m15.wk (fun y hy => Or.inl hy) (by show _ ≤ 5 * (a4 + 1 - at_) - 5; omega) (by show _ ≤ 80 * (a4 + 1 - at_) - 40; omega)⟩
      have mI := mvR h15 I (I := frI h) (fun a ha => ha.2) hI
      dsimp only
      generalize lkA (adA x3 k3 (ac 125 0 t2 p2 u2 0 0 0)) k k2 k3 = X at X0 ⊢
      obtain ⟨X1, X2, X3, X4, X5, X6⟩ := X0
      have e0 : X k 0 = 123 := X1 0 (by decide)
      have e2 : X k 2 = t := X1 2 (by decide)
      have e3 : X k 3 = p := X1 3 (by decide)
      have e4 : X k 4 = u := X1 4 (by decide)
      have f2 : X k3 2 = t2 := X4 2 (by decide)
      have f3 : X k3 3 = p2 := X4 3 (by decide)
      have f4 : X k3 4 = u2 := X4 4 (by decide)
      refine ⟨k2, k3, S1, S2, R1, R2, 0, 0, rfl, by omega, X2, X3, hIP, ?_, ?_, ?_, ?_, ?_⟩
      · rw [e0]
        exact P15
      · rw [e2, e3, e4]
        exact sa_15.mv mI
      · rw [f2, f3, f4]
        exact sb_15.mv mI
      · exact yRow.mv mI (fun j z1 z2 q _ => by rw [X5 j z1 z2]) ra_15
      · exact yRow.mv mI (fun j z1 z2 q _ => by rw [X6 j z1 z2]) rb_15
theorem rStm_no {row : Nat → Nat → PS → PR} {ch : Nat → Nat} {op : Nat} {s : PS} (h1 : ¬ vB (ch s.1) = true) (h2 : aB (ch s.1) = false) : rStm row ch op s = .inl (115, s.1) := by
  have h2 := of_decide_eq_false h2
  unfold rStm
  rw [if_neg h1, if_neg (by omega), if_neg (by omega), if_neg (by omega), if_neg (by omega)]
theorem rStm_v {row : Nat → Nat → PS → PR} {ch : Nat → Nat} {op : Nat} {s : PS} (h1 : vB (ch s.1) = true) : rStm row ch op s = rChg ch s := if_pos h1
theorem rStm_k {row : Nat → Nat → PS → PR} {ch : Nat → Nat} {op : Nat} {s : PS} (h1 : ch s.1 = 33 ∨ ch s.1 = 63) : rStm row ch op s = if vB (ch (s.1 + 1)) = true then .inr (s.1 + 2, s.2.1 + 1, adA s.2.2 s.2.1 (ac (ch s.1) (ch (s.1 + 1) - 97) 0 32 0 0 0 0)) else .inl (118, s.1 + 1) := by
  unfold rStm
  rw [if_neg (by rw [show vB (ch s.1) = false from decide_eq_false (by omega)]; decide), if_pos h1]
theorem rStm_c {row : Nat → Nat → PS → PR} {ch : Nat → Nat} {op : Nat} {s : PS} (h1 : ch s.1 = 64 ∨ ch s.1 = 36) : rStm row ch op s = if 48 ≤ ch (s.1 + 1) ∧ ch (s.1 + 1) ≤ 53 then .inr (s.1 + 2, s.2.1 + 1, adA s.2.2 s.2.1 (ac (ch s.1) (ch (s.1 + 1) - 48) 0 32 0 0 0 0)) else .inl (110, s.1 + 1) := by
  unfold rStm
  rw [if_neg (by rw [show vB (ch s.1) = false from decide_eq_false (by omega)]; decide), if_neg (by omega), if_pos h1]
theorem ySim.k {I : Nat → Prop} {h : mj_H} {p s v : Nat} (hs : s = 33 ∨ s = 63 ∨ s = 64 ∨ s = 36) (i : I p) (r : mj_rd h p = some (ptC (nI s) (nI v) 0 .null .null .null .null .null)) : ySim I h (ac s v 0 32 0 0 0 0) p :=
  ⟨Bool.eq_false_iff.mpr (brS_f (s := s) (by omega)), i, 0, .null, r, fun e => by have e : s = 126 := e; omega, fun e => by have e : s = 43 ∨ s = 45 ∨ s = 94 := e; omega, Or.inl rfl⟩
theorem bw_5 {c : Nat} (h : c ≤ 70000) : decide (48 ≤ nwc c ∧ nwc c ≤ 53) = decide (48 ≤ c ∧ c ≤ 53) := by
  unfold nwc
  refine decide_eq_decide.mpr ?_
  split <;> omega
theorem y_asg {h : mj_H} {x n at_ : Nat} {f : Nat → Nat} (hf : ∀ j, j < n → f j < 65536) {l2 : Option Value} {k : Nat} {Q : mj_O × mj_H → Prop} (hk : 6 ≤ k) (hq : mj_Wp k 310 (40, [some (.ref x), some (.int (nI (nwc (chA n f at_)))), l2], .int (nI (bN (aB (chA n f at_)))) :: [.ref x], h) Q) : mj_Wp k 310 (22, [some (.ref x), some (.int (nI (nwc (chA n f at_)))), l2], [.ref x], h) Q := by
  refine s_ildn (p' := 23) rfl rfl rfl ?_
  by_cases q0 : nwc (chA n f at_) = 0
  · refine s_if (p' := 39) true rfl ((cz_eq (by have := nwc_65 hf at_; omega)).trans (decide_eq_true q0)) rfl ?_
    refine s_con (p' := 40) rfl rfl ?_
    have q00 := nwc_0.mp q0
    rw [show aB (chA n f at_) = false from decide_eq_false (by omega)] at hq
    exact hq
  · refine s_if (p' := 26) false rfl ((cz_eq (by have := nwc_65 hf at_; omega)).trans (decide_eq_false q0)) rfl ?_
    refine s_sh (p' := 28) (ls' := _) (st' := .ref 1000306 :: _) (h' := _) rfl rfl rfl rfl ?_
    refine s_ildn (p' := 29) rfl rfl rfl ?_
    refine s_callEV (p' := 32) (ls0 := [_, _]) rfl rfl rfl rfl rfl (mj_rcv_is (k_306 _)) rfl ((y_io306 (nwc_65 hf _)).imp (fun o e => (⟨_, _, e, rfl, rfl⟩ : mz_V (fun r g => r = .int (nI (if nwc (chA n f at_) < 256 then fIdx tl_306 (nwc (chA n f at_)) 6 0 else 4294967295)) ∧ g = h) o))) (Nat.ble_eq.mpr (by omega)) rfl ?_
    rintro _ _ ⟨rfl, rfl⟩
    by_cases q : aB (chA n f at_) = true
    · refine s_if (p' := 35) false rfl (by rw [io306_lt (chA_le hf _), q]; rfl) rfl ?_
      refine s_con (p' := 36) rfl rfl ?_
      refine s_goto (p' := 40) rfl rfl ?_
      rw [q] at hq
      exact hq
    · refine s_if (p' := 39) true rfl (by rw [io306_lt (chA_le hf _), Bool.eq_false_iff.mpr q]; rfl) rfl ?_
      refine s_con (p' := 40) rfl rfl ?_
      rw [Bool.eq_false_iff.mpr q] at hq
      exact hq
theorem y_isb {h : mj_H} {P s : Nat} {v1 v2 v3 v4 v5 v6 v7 : Value} (hs : s < 70000) (hP : mj_rd h P = some (.inr (24, [.int (nI s), v1, v2, v3, v4, v5, v6, v7]))) : mj_Wp 0 333 (0, [some (.ref P)], [], h) (fun o => o = (.inl (some (.int (nI (bN (decide (s = 91 ∨ s = 123)))))), h)) := by
  refine s_aldn (p' := 1) rfl rfl rfl ?_
  refine s_gf (p' := 4) rfl hP rfl rfl ?_
  refine s_bip (p' := 6) rfl rfl ?_
  by_cases q1 : s = 91
  · refine s_icmp (p' := 18) true rfl ((ci_eq (by omega) (by omega)).trans (decide_eq_true (by omega))) rfl ?_
    refine s_con (p' := 19) rfl rfl ?_
    refine s_goto (p' := 23) rfl rfl ?_
    exact s_iret rfl rfl (by rw [decide_eq_true (Or.inl q1)]; rfl)
  · refine s_icmp (p' := 9) false rfl ((ci_eq (by omega) (by omega)).trans (decide_eq_false (by omega))) rfl ?_
    refine s_aldn (p' := 10) rfl rfl rfl ?_
    refine s_gf (p' := 13) rfl hP rfl rfl ?_
    refine s_bip (p' := 15) rfl rfl ?_
    by_cases q2 : s = 123
    · refine s_icmp (p' := 18) false rfl ((ci_ne (by omega) (by omega)).trans (decide_eq_false (by omega))) rfl ?_
      refine s_con (p' := 19) rfl rfl ?_
      refine s_goto (p' := 23) rfl rfl ?_
      exact s_iret rfl rfl (by rw [decide_eq_true (Or.inr q2)]; rfl)
    · refine s_icmp (p' := 22) true rfl ((ci_ne (by omega) (by omega)).trans (decide_eq_true (by omega))) rfl ?_
      refine s_con (p' := 23) rfl rfl ?_
      exact s_iret rfl rfl (by rw [decide_eq_false (by omega)]; rfl)
theorem y_prt {fC : Int32 → Int32 → mj_C} (HF : HFl fC) {h : mj_H} {x T n c at_ op : Nat} {f : Nat → Nat} (hn : n ≤ 60) (hf : ∀ j, j < n → f j < 65536) (r0 : yR h x T n c f at_ op) (ha : at_ ≤ n) (bx : x < mj_CB) (hb : h.length + 5 * (n - at_) + 55 < mj_CB) {K d k : Nat} {a : Nat → Nat → Nat} {row : Nat → Nat → PS → PR} (hod : op + d = 6) (hrow : ∀ d', d = d' + 1 → ∀ (en at_ k : Nat) (a : Nat → Nat → Nat) (h : mj_H), en = 124 ∨ en = 58 → at_ ≤ n → yR h x T n c f at_ (op + 1) → h.length + 5 * (n - at_) + 60 < mj_CB → mj_Wp K 303 (0, [some (.ref x), some (.int (nI en)), none], [], h) (rowQ fC h x T n c f (op + 1) d' at_ k (row en (op + 1) (at_, k, a)))) (hrb : ∀ en op s, s.1 ≤ n → okR n s (row en op s) ∧ ∀ s', row en op s = .inr s' → chA n f s'.1 = en) : mj_Wp (K + 14) 310 (0, [some (.ref x), none, none], [], h) (fun o => prtQ fC h x T n c f op d at_ k (rStm row (chA n f) op (at_, k, a)) o) := by
  have hx0 : x < h.length := rd_len (by omega) r0.1
  have m0 : mz_mo [x] 0 0 h h := mz_mo.rf _ _ _ _
  refine s_aldn (p' := 1) rfl rfl rfl ?_
  refine s_callV (p' := 4) (ls0 := [_]) rfl rfl rfl rfl rfl (mj_rcv_is r0.1) rfl (y_now hn hf r0 (by omega)) (by first | decide | omega) rfl ?_
  refine s_istn (p' := 5) (ls' := [_, _, _]) rfl rfl rfl rfl ?_
  refine s_ildn (p' := 6) rfl rfl rfl ?_
  refine s_bip (p' := 8) rfl rfl ?_
  refine s_bip (p' := 10) rfl rfl ?_
  refine s_callV (p' := 13) (ls0 := [_, _, _]) rfl rfl rfl rfl rfl rfl rfl (y_btw (nwc_le (chA_le hf _)) (by decide) (by decide)) (by first | decide | omega) rfl ?_
  rw [bw_v (chA_le hf _)]
  by_cases hv : vB (chA n f at_) = true
  · refine s_if (p' := 16) false rfl (by rw [hv]; rfl) rfl ?_
    refine s_aldn (p' := 17) rfl rfl rfl ?_
    refine c_call (p' := 20) (kc := 12) (ls0 := [_, _, _, _]) rfl rfl rfl rfl rfl (mj_rcv_is r0.1) rfl (Nat.ble_eq.mpr (by omega)) rfl ?_
    refine ((y_upd HF hn hf r0 (by omega) bx (by omega) hv (k := k) (a := a))).imp ?_
    rintro _ (⟨s1, P, h1, e, rfl, r1, ek, sm, ml⟩ | ⟨e, e1, tt⟩)
    rotate_left
    · exact yT_K HF (yT.tr m0 (by omega) (by omega) tt) rfl (fun o t => Or.inr ⟨_, by rw [rStm_v hv, e1], t⟩)
    show mj_Wp _ _ (20, _, _, _) _
    try dsimp only
    have hv2 := vB_lt hv
    have hat := (chA_lt hf (a := at_) (by omega)).1
    have hb1 := rChg_b (chA_ok n f) (s := (at_, k, a)) hat _ e
    dsimp only at hb1
    refine s_aret rfl ?_
    exact Or.inl ⟨s1, P, h1, (rStm_v hv).trans e, rfl, r1, by rw [ek]; exact yPt.s sm, ml.wk (fun y hy => Or.inl hy) (by omega) (by omega)⟩
  · refine s_if (p' := 21) true rfl (by rw [Bool.eq_false_iff.mpr hv]; rfl) rfl ?_
    refine s_aldn (p' := 22) rfl rfl rfl ?_
    refine y_asg hf (by omega) ?_
    refine s_bip (p' := 42) rfl rfl ?_
    refine c_call (p' := 45) (kc := 1) (ls0 := [_, _, _]) rfl rfl rfl rfl rfl (mj_rcv_is r0.1) rfl (Nat.ble_eq.mpr (by omega)) rfl ?_
    refine ((y_wt HF hn hf r0 (by omega) bx (by omega) (b := aB (chA n f at_)) (kd := 115) (by decide))).imp ?_
    rintro _ (⟨qa, rfl⟩ | ⟨q, tt⟩)
    rotate_left
    · exact yT_K HF (yT.tr m0 (by omega) (by omega) tt) rfl (fun o t => Or.inr ⟨_, by rw [rStm_no hv q], t⟩)
    show mj_Wp _ _ (45, _, _, _) _
    try dsimp only
    have qa2 := of_decide_eq_true qa
    have hat := (chA_lt hf (a := at_) (by omega)).1
    rw [nwc_lt (c := chA n f at_) (by omega)]
    refine s_new (p' := 48) rfl rfl rfl ?_
    have l0 : h.length = h.length + 0 := rfl
    generalize hg1 : h ++ [_] = h1
    have l1 : h1.length = h.length + 1 := by rw [← hg1, List.length_append, l0]; rfl
    have X1 : mj_rd h1 x = some (.inr (22, [.ref T, .int (nI at_), .int (nI op)])) := by rw [← hg1]; exact rd_app r0.1
    have P1 : mj_rd h1 h.length = some (.inr (24, [.int 0, .int 0, .int 0, .null, .null, .null, .null, .null])) := by rw [← hg1]; exact rd_nw (Nat.blt_eq.mpr (by omega)) l0
    have m1 : mz_mo [x] 1 8 h h1 := by rw [← hg1]; exact m0.tr (mz_mo.ap [x] _ _) (fun y hy => Or.inl hy) (by omega) (by show 0 + 8 ≤ 8; omega)
    clear hg1
    refine s_sp (p' := 49) (ls' := _) rfl rfl rfl ?_
    refine s_ildn (p' := 50) rfl rfl rfl ?_
    refine s_callN (p' := 53) (ls0 := [_, _]) rfl rfl rfl rfl rfl (mj_rcv_is P1) rfl (y_pti (by omega) (by omega) P1) (by first | decide | omega) rfl ?_
    generalize hg2 : List.set h1 h.length _ = h2
    have l2 : h2.length = h.length + 1 := by rw [← hg2, List.length_set, l1]
    have m2 : mz_mo [x] 1 8 h h2 := by rw [← hg2]; exact mz_mo.s m1 (by omega) P1 rfl (Or.inr (by omega))
    have X2 : mj_rd h2 x = some (.inr (22, [.ref T, .int (nI at_), .int (nI op)])) := by rw [← hg2]; exact (rd_setn (by omega)).trans X1
    have P2 : mj_rd h2 h.length = some (ptC (nI (chA n f at_)) 0 0 .null .null .null .null .null) := by rw [← hg2]; exact rd_set (by omega) P1
    clear hg2
    have r2 : yR h2 x T n c f at_ op := r0.up m2.1 X2
    refine s_astn (p' := 54) (ls' := [_, _, _]) rfl rfl rfl rfl ?_
    refine s_aldn (p' := 55) rfl rfl rfl ?_
    refine s_callV (p' := 58) (ls0 := [_]) rfl rfl rfl rfl rfl (mj_rcv_is P2) rfl (y_isb (by omega) P2) (by first | decide | omega) rfl ?_
    by_cases qb : chA n f at_ = 91 ∨ chA n f at_ = 123
    · refine s_if (p' := 61) false rfl (by rw [decide_eq_true qb]; rfl) rfl ?_
      have hbr : ∃ bc mc ec, chA n f at_ = bc ∧ rStm row (chA n f) op (at_, k, a) = rBrk row (chA n f) bc mc ec op (at_, k, a) ∧ (bc = 91 ∧ mc = 124 ∧ ec = 93 ∨ bc = 123 ∧ mc = 47 ∧ ec = 125) := by
        rcases qb with qb | qb
        · exact ⟨91, 124, 93, qb, rStm_b1 qb, Or.inl ⟨rfl, rfl, rfl⟩⟩
        · exact ⟨123, 47, 125, qb, rStm_b2 qb, Or.inr ⟨rfl, rfl, rfl⟩⟩
      obtain ⟨bc, mc, ec, q1, q2, q3⟩ := hbr
      refine s_aldn (p' := 62) rfl rfl rfl ?_
      refine s_aldn (p' := 63) rfl rfl rfl ?_
      refine c_call (p' := 66) (kc := (K + 13)) (ls0 := [_, _]) rfl rfl rfl rfl rfl (mj_rcv_is r2.1) rfl (Nat.ble_eq.mpr (by omega)) rfl ?_
      refine ((y_brk HF hn hf r2 hat bx (by omega) (d := d - 1) (k := k) (a := a) (row := row) (by omega) (fun z0 en at_ k a h z1 z2 z3 z4 => hrow (d - 1) (by omega) en at_ k a h z1 z2 z3 z4) hrb (by omega) (by rw [← q1]; exact P2) q3)).imp ?_
      rintro _ (⟨s1, h3, e, rfl, r3, br, s11, ml⟩ | ⟨e, e1, q, g, rfl, z1, z2, z3, z4⟩)
      rotate_left
      · obtain ⟨fs, e23⟩ := HF.1 (nI e.2) (nI e.1)
        exact K_u (Nat.blt_eq.mpr z1) (mj_ocl_is (by rw [← e23]; exact z3)) rfl (Or.inr ⟨e, q2.trans e1, q, g, rfl, z1, by omega, z3, m2.tr z4 (fun y hy => by simp only [List.mem_cons, List.not_mem_nil, or_false] at hy ⊢; omega) (by omega) (by omega)⟩)
      show mj_Wp _ _ (66, _, _, _) _
      try dsimp only
      have hb1 := rBrk_b (chA_ok n f) hrb (s := (at_, k, a)) (b := bc) (m := mc) (e := ec) (op := op) hat (by omega) _ e
      dsimp only at hb1
      have hd : d ≠ 0 := fun z => by
        unfold rBrk at e
        rw [if_pos (by omega)] at e
        cases e
      obtain ⟨d, rfl⟩ : ∃ d', d = d' + 1 := ⟨d - 1, by omega⟩
      refine s_aret rfl ?_
      refine Or.inl ⟨s1, h.length, h3, q2.trans e, rfl, r3, Or.inr (br (frI h) (fun a ha => ⟨by have := ha.1; omega, ha.2⟩) ⟨Nat.le_refl _, by omega⟩), m2.tr ml (fun y hy => by simp only [List.mem_cons, List.not_mem_nil, or_false] at hy ⊢; omega) (by omega) (by omega)⟩
    · refine s_if (p' := 67) true rfl (by rw [decide_eq_false qb]; rfl) rfl ?_
      refine s_aldn (p' := 68) rfl rfl rfl ?_
      refine s_sp (p' := 69) (ls' := _) rfl rfl rfl ?_
      refine s_gf (p' := 72) rfl X2 rfl rfl ?_
      refine s_con (p' := 73) rfl rfl ?_
      refine s_sp (p' := 74) (ls' := _) rfl rfl rfl ?_
      rw [mI_add]
      refine s_pf (p' := 77) (fs' := [_, _, _]) rfl bx X2 (Nat.blt_eq.mp rfl) rfl rfl rfl ?_
      generalize hg3 : List.set h2 x _ = h3
      have l3 : h3.length = h.length + 1 := by rw [← hg3, List.length_set, l2]
      have m3 : mz_mo [x] 1 8 h h3 := by rw [← hg3]; exact mz_mo.s m2 (by omega) X2 rfl (Or.inl (by simp))
      have X3 : mj_rd h3 x = some (.inr (22, [.ref T, .int (nI (at_ + 1)), .int (nI op)])) := by rw [← hg3]; exact rd_set (by omega) X2
      have P3 : mj_rd h3 h.length = some (ptC (nI (chA n f at_)) 0 0 .null .null .null .null .null) := by rw [← hg3]; exact (rd_setn (by omega)).trans P2
      clear hg3
      have r3 : yR h3 x T n c f (at_ + 1) op := r0.up m3.1 X3
      refine s_ildn (p' := 78) rfl rfl rfl ?_
      refine s_bip (p' := 80) rfl rfl ?_
      by_cases q33 : chA n f at_ = 33
      · refine s_icmp (p' := 89) true rfl ((ci_eq (by omega) (by omega)).trans (decide_eq_true (by omega))) rfl ?_
        refine s_aldn (p' := 90) rfl rfl rfl ?_
        refine s_aldn (p' := 91) rfl rfl rfl ?_
        refine s_bip (p' := 93) rfl rfl ?_
        refine c_call (p' := 96) (kc := 7) (ls0 := [_, _]) rfl rfl rfl rfl rfl (mj_rcv_is r3.1) rfl (Nat.ble_eq.mpr (by omega)) rfl ?_
        refine ((y_var HF hn hf r3 (by omega) bx (by omega) (by decide))).imp ?_
        rintro _ (⟨q1, h4, rfl, r4, ml4⟩ | ⟨q1, tt⟩)
        rotate_left
        · exact yT_K HF (yT.tr m3 (by omega) (by omega) tt) rfl (fun o t => Or.inr ⟨_, by rw [rStm_k (by dsimp only; omega)]; exact if_neg q1, t⟩)
        show mj_Wp _ _ (96, _, _, _) _
        try dsimp only
        have l4 : h4.length = h.length + 1 := by have := mo_le ml4; have := l3; omega
        have m4 : mz_mo [x] 1 8 h h4 := m3.tr ml4 (fun y hy => by simp only [List.mem_cons, List.not_mem_nil, or_false] at hy ⊢; omega) (by omega) (by omega)
        have P4 : mj_rd h4 h.length = some (ptC (nI (chA n f at_)) 0 0 .null .null .null .null .null) := ml4.1 _ (by simp only [List.mem_cons, List.not_mem_nil, or_false]; omega) _ P3
        refine s_pf (p' := 99) (fs' := [_, _, _, _, _, _, _, _]) rfl (by omega) P4 (Nat.blt_eq.mp rfl) rfl rfl rfl ?_
        generalize hg5 : List.set h4 h.length _ = h5
        have l5 : h5.length = h.length + 1 := by rw [← hg5, List.length_set, l4]
        have m5 : mz_mo [x] 1 8 h h5 := by rw [← hg5]; exact mz_mo.s m4 (by omega) P4 rfl (Or.inr (by omega))
        have X5 : mj_rd h5 x = some (.inr (22, [.ref T, .int (nI (at_ + 1 + 1)), .int (nI op)])) := by rw [← hg5]; exact (rd_setn (by omega)).trans r4.1
        have P5 : mj_rd h5 h.length = some (ptC (nI (chA n f at_)) (nI (chA n f (at_ + 1) - 97)) 0 .null .null .null .null .null) := by rw [← hg5]; exact rd_set (by omega) P4
        clear hg5
        have r5 : yR h5 x T n c f (at_ + 1 + 1) op := r0.up m5.1 X5
        refine s_goto (p' := 140) rfl rfl ?_
        refine s_aldn (p' := 141) rfl rfl rfl ?_
        refine s_aret rfl ?_
        refine Or.inl ⟨_, h.length, h5, by rw [rStm_k (by dsimp only; omega)]; exact if_pos q1, rfl, r5, ?_, m5.wk (fun y hy => Or.inl hy) (by show 1 ≤ 5 * (at_ + 2 - at_); omega) (by show 8 ≤ 80 * (at_ + 2 - at_); omega)⟩
        refine yPt.s ?_
        dsimp only
        rw [adA_at]
        exact ySim.k (by omega) ⟨Nat.le_refl _, by omega⟩ P5
      · refine s_icmp (p' := 83) false rfl ((ci_eq (by omega) (by omega)).trans (decide_eq_false (by omega))) rfl ?_
        refine s_ildn (p' := 84) rfl rfl rfl ?_
        refine s_bip (p' := 86) rfl rfl ?_
        by_cases q63 : chA n f at_ = 63
        · refine s_icmp (p' := 89) false rfl ((ci_ne (by omega) (by omega)).trans (decide_eq_false (by omega))) rfl ?_
          refine s_aldn (p' := 90) rfl rfl rfl ?_
          refine s_aldn (p' := 91) rfl rfl rfl ?_
          refine s_bip (p' := 93) rfl rfl ?_
          refine c_call (p' := 96) (kc := 7) (ls0 := [_, _]) rfl rfl rfl rfl rfl (mj_rcv_is r3.1) rfl (Nat.ble_eq.mpr (by omega)) rfl ?_
          refine ((y_var HF hn hf r3 (by omega) bx (by omega) (by decide))).imp ?_
          rintro _ (⟨q1, h4, rfl, r4, ml4⟩ | ⟨q1, tt⟩)
          rotate_left
          · exact yT_K HF (yT.tr m3 (by omega) (by omega) tt) rfl (fun o t => Or.inr ⟨_, by rw [rStm_k (by dsimp only; omega)]; exact if_neg q1, t⟩)
          show mj_Wp _ _ (96, _, _, _) _
          try dsimp only
          have l4 : h4.length = h.length + 1 := by have := mo_le ml4; have := l3; omega
          have m4 : mz_mo [x] 1 8 h h4 := m3.tr ml4 (fun y hy => by simp only [List.mem_cons, List.not_mem_nil, or_false] at hy ⊢; omega) (by omega) (by omega)
          have P4 : mj_rd h4 h.length = some (ptC (nI (chA n f at_)) 0 0 .null .null .null .null .null) := ml4.1 _ (by simp only [List.mem_cons, List.not_mem_nil, or_false]; omega) _ P3
          refine s_pf (p' := 99) (fs' := [_, _, _, _, _, _, _, _]) rfl (by omega) P4 (Nat.blt_eq.mp rfl) rfl rfl rfl ?_
          generalize hg5 : List.set h4 h.length _ = h5
          have l5 : h5.length = h.length + 1 := by rw [← hg5, List.length_set, l4]
          have m5 : mz_mo [x] 1 8 h h5 := by rw [← hg5]; exact mz_mo.s m4 (by omega) P4 rfl (Or.inr (by omega))
          have X5 : mj_rd h5 x = some (.inr (22, [.ref T, .int (nI (at_ + 1 + 1)), .int (nI op)])) := by rw [← hg5]; exact (rd_setn (by omega)).trans r4.1
          have P5 : mj_rd h5 h.length = some (ptC (nI (chA n f at_)) (nI (chA n f (at_ + 1) - 97)) 0 .null .null .null .null .null) := by rw [← hg5]; exact rd_set (by omega) P4
          clear hg5
          have r5 : yR h5 x T n c f (at_ + 1 + 1) op := r0.up m5.1 X5
          refine s_goto (p' := 140) rfl rfl ?_
          refine s_aldn (p' := 141) rfl rfl rfl ?_
          refine s_aret rfl ?_
          refine Or.inl ⟨_, h.length, h5, by rw [rStm_k (by dsimp only; omega)]; exact if_pos q1, rfl, r5, ?_, m5.wk (fun y hy => Or.inl hy) (by show 1 ≤ 5 * (at_ + 2 - at_); omega) (by show 8 ≤ 80 * (at_ + 2 - at_); omega)⟩
          refine yPt.s ?_
          dsimp only
          rw [adA_at]
          exact ySim.k (by omega) ⟨Nat.le_refl _, by omega⟩ P5
        · refine s_icmp (p' := 102) true rfl ((ci_ne (by omega) (by omega)).trans (decide_eq_true (by omega))) rfl ?_
          refine s_aldn (p' := 103) rfl rfl rfl ?_
          refine s_aldn (p' := 104) rfl rfl rfl ?_
          refine s_callV (p' := 107) (ls0 := [_]) rfl rfl rfl rfl rfl (mj_rcv_is r3.1) rfl (y_now hn hf r3 (by omega)) (by first | decide | omega) rfl ?_
          refine s_bip (p' := 109) rfl rfl ?_
          refine s_bip (p' := 111) rfl rfl ?_
          refine s_callV (p' := 114) (ls0 := [_, _, _]) rfl rfl rfl rfl rfl rfl rfl (y_btw (nwc_le (chA_le hf _)) (by decide) (by decide)) (by first | decide | omega) rfl ?_
          rw [bw_5 (chA_le hf _)]
          refine s_bip (p' := 116) rfl rfl ?_
          refine c_call (p' := 119) (kc := 1) (ls0 := [_, _, _]) rfl rfl rfl rfl rfl (mj_rcv_is r3.1) rfl (Nat.ble_eq.mpr (by omega)) rfl ?_
          refine ((y_wt HF hn hf r3 (by omega) bx (by omega) (b := decide (48 ≤ chA n f (at_ + 1) ∧ chA n f (at_ + 1) ≤ 53)) (kd := 110) (by decide))).imp ?_
          rintro _ (⟨q1, rfl⟩ | ⟨q1, tt⟩)
          rotate_left
          · exact yT_K HF (yT.tr m3 (by omega) (by omega) tt) rfl (fun o t => Or.inr ⟨_, by rw [rStm_c (by dsimp only; omega)]; exact if_neg (of_decide_eq_false q1), t⟩)
          show mj_Wp _ _ (119, _, _, _) _
          try dsimp only
          have q1 := of_decide_eq_true q1
          refine s_aldn (p' := 120) rfl rfl rfl ?_
          refine s_aldn (p' := 121) rfl rfl rfl ?_
          refine s_callV (p' := 124) (ls0 := [_]) rfl rfl rfl rfl rfl (mj_rcv_is r3.1) rfl (y_now hn hf r3 (by omega)) (by first | decide | omega) rfl ?_
          rw [nwc_lt (by omega)]
          refine s_bip (p' := 126) rfl rfl ?_
          refine s_sp (p' := 127) (ls' := _) rfl rfl rfl ?_
          rw [mI_sub (by omega)]
          refine s_pf (p' := 130) (fs' := [_, _, _, _, _, _, _, _]) rfl (by omega) P3 (Nat.blt_eq.mp rfl) rfl rfl rfl ?_
          generalize hg4 : List.set h3 h.length _ = h4
          have l4 : h4.length = h.length + 1 := by rw [← hg4, List.length_set, l3]
          have m4 : mz_mo [x] 1 8 h h4 := by rw [← hg4]; exact mz_mo.s m3 (by omega) P3 rfl (Or.inr (by omega))
          have X4 : mj_rd h4 x = some (.inr (22, [.ref T, .int (nI (at_ + 1)), .int (nI op)])) := by rw [← hg4]; exact (rd_setn (by omega)).trans X3
          have P4 : mj_rd h4 h.length = some (ptC (nI (chA n f at_)) (nI (chA n f (at_ + 1) - 48)) 0 .null .null .null .null .null) := by rw [← hg4]; exact rd_set (by omega) P3
          clear hg4
          refine s_aldn (p' := 131) rfl rfl rfl ?_
          refine s_sp (p' := 132) (ls' := _) rfl rfl rfl ?_
          refine s_gf (p' := 135) rfl X4 rfl rfl ?_
          refine s_con (p' := 136) rfl rfl ?_
          refine s_sp (p' := 137) (ls' := _) rfl rfl rfl ?_
          rw [mI_add]
          refine s_pf (p' := 140) (fs' := [_, _, _]) rfl bx X4 (Nat.blt_eq.mp rfl) rfl rfl rfl ?_
          generalize hg5 : List.set h4 x _ = h5
          have l5 : h5.length = h.length + 1 := by rw [← hg5, List.length_set, l4]
          have m5 : mz_mo [x] 1 8 h h5 := by rw [← hg5]; exact mz_mo.s m4 (by omega) X4 rfl (Or.inl (by simp))
          have X5 : mj_rd h5 x = some (.inr (22, [.ref T, .int (nI (at_ + 1 + 1)), .int (nI op)])) := by rw [← hg5]; exact rd_set (by omega) X4
          have P5 : mj_rd h5 h.length = some (ptC (nI (chA n f at_)) (nI (chA n f (at_ + 1) - 48)) 0 .null .null .null .null .null) := by rw [← hg5]; exact (rd_setn (by omega)).trans P4
          clear hg5
          have r5 : yR h5 x T n c f (at_ + 1 + 1) op := r0.up m5.1 X5
          refine s_aldn (p' := 141) rfl rfl rfl ?_
          refine s_aret rfl ?_
          refine Or.inl ⟨_, h.length, h5, by rw [rStm_c (by dsimp only; omega)]; exact if_pos q1, rfl, r5, ?_, m5.wk (fun y hy => Or.inl hy) (by show 1 ≤ 5 * (at_ + 2 - at_); omega) (by show 8 ≤ 80 * (at_ + 2 - at_); omega)⟩
          refine yPt.s ?_
          dsimp only
          rw [adA_at]
          exact ySim.k (by omega) ⟨Nat.le_refl _, by omega⟩ P5
theorem y_ise {h : mj_H} {x T n c at_ op en : Nat} {f : Nat → Nat} (hn : n ≤ 60) (hf : ∀ j, j < n → f j < 65536) (r0 : yR h x T n c f at_ op) (ha : at_ ≤ n) (hen : en = 124 ∨ en = 58 ∨ en = 70000) : mj_run 7 304 (0, [some (.ref x), some (.int (nI (nwc en)))], [], h) (.inl (some (.int (nI (bN (decide (chA n f at_ = en)))))), h) := by
  refine s_ildn (p' := 1) rfl rfl rfl ?_
  by_cases q : en = 70000
  · refine s_if (p' := 4) false rfl ((cz_ne (by unfold nwc; split <;> omega)).trans (decide_eq_false (by rw [q]; decide))) rfl ?_
    refine s_aldn (p' := 5) rfl rfl rfl ?_
    refine s_gf (p' := 8) rfl r0.1 rfl rfl ?_
    refine s_aldn (p' := 9) rfl rfl rfl ?_
    refine s_gf (p' := 12) rfl r0.1 rfl rfl ?_
    refine s_callV (p' := 15) (ls0 := [_]) rfl rfl rfl rfl rfl r0.rT rfl (y_lenG r0.2 (by omega)) (by first | decide | omega) rfl ?_
    by_cases q2 : at_ = n
    · refine s_icmp (p' := 18) false rfl ((ci_ne (by omega) (by omega)).trans (decide_eq_false (by omega))) rfl ?_
      refine s_con (p' := 19) rfl rfl ?_
      refine s_goto (p' := 39) rfl rfl ?_
      exact s_iret rfl rfl (by rw [decide_eq_true (by rw [q]; exact if_neg (by omega))]; rfl)
    · refine s_icmp (p' := 22) true rfl ((ci_ne (by omega) (by omega)).trans (decide_eq_true (by omega))) rfl ?_
      refine s_con (p' := 23) rfl rfl ?_
      refine s_goto (p' := 39) rfl rfl ?_
      exact s_iret rfl rfl (by rw [decide_eq_false (by rw [q]; have := hf at_ (by omega); unfold chA; rw [if_pos (by omega)]; omega)]; rfl)
  · refine s_if (p' := 26) true rfl ((cz_ne (by unfold nwc; split <;> omega)).trans (decide_eq_true (by rw [nwc_lt (by omega)]; omega))) rfl ?_
    refine s_aldn (p' := 27) rfl rfl rfl ?_
    refine s_callV (p' := 30) (ls0 := [_]) rfl rfl rfl rfl rfl (mj_rcv_is r0.1) rfl (y_now hn hf r0 (by omega)) (by first | decide | omega) rfl ?_
    refine s_ildn (p' := 31) rfl rfl rfl ?_
    by_cases q2 : chA n f at_ = en
    · refine s_icmp (p' := 34) false rfl ((ci_ne (by have := nwc_65 hf at_; omega) (by unfold nwc; split <;> omega)).trans (decide_eq_false (fun e => e (by rw [q2])))) rfl ?_
      refine s_con (p' := 35) rfl rfl ?_
      refine s_goto (p' := 39) rfl rfl ?_
      exact s_iret rfl rfl (by rw [decide_eq_true q2]; rfl)
    · refine s_icmp (p' := 38) true rfl ((ci_ne (by have := nwc_65 hf at_; omega) (by unfold nwc; split <;> omega)).trans (decide_eq_true (fun e => q2 (by rw [nwc_lt (c := en) (by omega)] at e; exact (nwc_eq (by omega) (by omega)).mp e)))) rfl ?_
      refine s_con (p' := 39) rfl rfl ?_
      exact s_iret rfl rfl (by rw [decide_eq_false q2]; rfl)
theorem y_rwl {fC : Int32 → Int32 → mj_C} (HF : HFl fC) {h : mj_H} {x T n c at_ op k en Lr : Nat} {f : Nat → Nat} (hn : n ≤ 60) (hf : ∀ j, j < n → f j < 65536) (bx : x < h.length) (hb : h.length + 5 * (n - at_) + 60 < mj_CB) {K d : Nat} {row : Nat → Nat → PS → PR} (hod : op + d = 6) (hen : en = 124 ∨ en = 58 ∨ en = 70000) (hL : Lr = h.length) {a0 op0 : Nat} (rh : yR h x T n c f a0 op0) (hrow : ∀ d', d = d' + 1 → ∀ (en at_ k : Nat) (a : Nat → Nat → Nat) (h : mj_H), en = 124 ∨ en = 58 → at_ ≤ n → yR h x T n c f at_ (op + 1) → h.length + 5 * (n - at_) + 60 < mj_CB → mj_Wp K 303 (0, [some (.ref x), some (.int (nI en)), none], [], h) (rowQ fC h x T n c f (op + 1) d' at_ k (row en (op + 1) (at_, k, a)))) (hrb : ∀ en op s, s.1 ≤ n → okR n s (row en op s) ∧ ∀ s', row en op s = .inr s' → chA n f s'.1 = en) : ∀ (i : Nat) (s : PS) (E cc : Nat) (ps ks : Nat → Nat) (g : mj_H), 61 ≤ i + s.1 → at_ ≤ s.1 → s.1 ≤ n → 2 * s.2.1 + at_ ≤ s.1 + 2 * k → yR g x T n c f s.1 op → rowI h g Lr E cc ps ks s.2.2 d k s.2.1 → Lr < g.length → (E = 1000000 ∨ E < g.length) → mz_mo [x] (5 * (s.1 - at_) + 2) (80 * (s.1 - at_) + 83) h g → mj_Wp (K + 15) 303 (29, [some (.ref x), some (.int (nI (nwc en))), some (.ref Lr)], [], g) (rowQ fC h x T n c f op d at_ k (if chA n f s.1 = en then .inr s else if chA n f s.1 = 59 then rLp (rStm row (chA n f) op) (chA n f) en i (s.1 + 1, s.2) else .inl (101, s.1)))
  | 0, s, E, cc, ps, ks, g, h1, h2, h3, h4, r0, ri, hLg, hEg, m => by omega
  | i + 1, s, E, cc, ps, ks, g, h1, h2, h3, h4, r0, ri, hLg, hEg, m => by
    have ih := y_rwl (k := k) HF hn hf bx hb hod hen hL rh hrow hrb i
    refine s_aldn (p' := 30) rfl rfl rfl ?_
    refine s_callV (p' := 33) (ls0 := [_]) rfl rfl rfl rfl rfl (mj_rcv_is r0.1) rfl (y_now hn hf r0 (by omega)) (by first | decide | omega) rfl ?_
    refine s_bip (p' := 35) rfl rfl ?_
    by_cases q59 : chA n f s.1 = 59
    · refine s_icmp (p' := 38) false rfl ((ci_ne (by have := nwc_65 hf s.1; omega) (by omega)).trans (decide_eq_false (fun e => e ((nwc_eq (by omega) (by omega)).mpr q59)))) rfl ?_
      refine s_aldn (p' := 39) rfl rfl rfl ?_
      refine s_sp (p' := 40) (ls' := _) rfl rfl rfl ?_
      refine s_gf (p' := 43) rfl r0.1 rfl rfl ?_
      refine s_con (p' := 44) rfl rfl ?_
      refine s_sp (p' := 45) (ls' := _) rfl rfl rfl ?_
      rw [mI_add]
      refine s_pf (p' := 48) (fs' := [_, _, _]) rfl (by omega) r0.1 (Nat.blt_eq.mp rfl) rfl rfl rfl ?_
      generalize hg1 : List.set g x _ = g1
      have r1 : yR g1 x T n c f (s.1 + 1) op := by rw [← hg1]; exact r0.up (mz_fr.s (by simp) (mz_fr.rf _ _)) (rd_set (by omega) r0.1)
      have m1 : mz_mo [x] (5 * (s.1 - at_) + 2) (80 * (s.1 - at_) + 83) h g1 := by rw [← hg1]; exact mz_mo.s m (by omega) r0.1 rfl (Or.inl (by simp))
      have ri1 : rowI h g1 Lr E cc ps ks s.2.2 d k s.2.1 := by rw [← hg1]; exact ri.mv1 (mz_fr.s (by simp) (mz_fr.rf _ _)) bx (fun _ _ => rfl)
      have gl1 : g1.length = g.length := by rw [← hg1, List.length_set]
      clear hg1
      have hs59 : s.1 < n := (chA_lt hf (a := s.1) (by omega)).1
      refine s_aldn (p' := 49) rfl rfl rfl ?_
      refine s_aldn (p' := 50) rfl rfl rfl ?_
      refine c_call (p' := 53) (kc := (K + 14)) (ls0 := [_, _, _]) rfl rfl rfl rfl rfl (mj_rcv_is r1.1) rfl (Nat.ble_eq.mpr (by omega)) rfl ?_
      refine ((y_prt HF hn hf r1 (by omega) (by omega) (by have := mo_le m1; omega) (d := d) (k := s.2.1) (a := s.2.2) (row := row) hod hrow hrb)).imp ?_
      rintro _ (⟨s2, p, g2, e2, rfl, r2, pt, ml2⟩ | ⟨e, e2, tt⟩)
      rotate_left
      · refine yT_K HF (yT.tr m1 (by omega) (by omega) tt) rfl (fun o t => Or.inr ⟨e, ?_, t⟩)
        rw [if_neg (by omega), if_pos q59, rLp, e2]
      show mj_Wp _ _ (53, _, _, _) _
      try dsimp only
      have ob := rStm_b (chA_ok n f) hrb (op := op) (s := (s.1 + 1, s.2)) hs59 _ e2
      dsimp only at ob ml2 pt
      have ptl := yPt.lt _ _ _ _ pt
      have ri2 := ri1.mv1 (B := s2.2.2) ml2.1 bx (fun j hj => ob.2.2.2.2 j hj)
      have m2 : mz_mo [x] (5 * (s.1 - at_) + 2 + 5 * (s2.1 - (s.1 + 1))) (80 * (s.1 - at_) + 83 + 80 * (s2.1 - (s.1 + 1))) h g2 := m1.tr ml2 (fun y hy => Or.inl hy) (by omega) (by omega)
      have cn := ri2.cnt
      have bL : Lr < mj_CB := by omega
      refine s_callEV (p' := 58) (ls0 := [_, _]) rfl rfl rfl rfl rfl (by obtain ⟨_, _, _, z, _⟩ := ri2.1; exact mj_rcv_is z) rfl (y_ad bL (by have := mo_le m2; omega) (by omega) ri2.1 pt.ge.1) (Nat.ble_eq.mpr (by omega)) rfl ?_
      rintro _ g3 ⟨rfl, E3, yl3, hE3, bE3, ml3⟩
      have gl2 := mo_le ml2
      have gl3 := mo_le ml3
      have hEl : E3 = 1000000 ∨ E3 < g3.length := by obtain ⟨_, _, _, _, z2, _⟩ := yl3; have z3 := rdN (rdA_lt z2); omega
      have ri3 := ri2.ad (g := g1) yl3 hE3 bE3 ml3 pt ⟨by have := mo_le m1; omega, by omega, by omega⟩ gl2.1
      have hEx : E ∉ [x] ∧ Lr ∉ [x] := by
        have := ri.2.1.1
        have e1 : mj_CB = 1000000 := rfl
        simp only [List.mem_cons, List.not_mem_nil, or_false]
        refine ⟨?_, by omega⟩
        rcases ri.2.2.1 with z | z
        · omega
        · have := z.1
          omega
      have fx : mz_fr [x] h g3 := fun y hy c0 hc0 => by
        by_cases y1 : y = 1000000
        · rw [y1] at hc0 ⊢
          exact hc0
        · have hlt := rdN hc0
          refine ml3.1 y ?_ _ (m2.1 y hy _ hc0)
          simp only [List.mem_cons, List.not_mem_nil, or_false]
          have e1 : mj_CB = 1000000 := rfl
          rcases ri.2.2.1 with z | z
          · omega
          · have := z.1
            omega
      have m3 : mz_mo [x] (5 * (s2.1 - at_) + 2) (80 * (s2.1 - at_) + 83) h g3 := ⟨fx, by have := mo_le m2; omega, by have := m2.2.2.1; have := ml3.2.2.1; omega, by have := m2.2.2.2; have := ml3.2.2.2; omega⟩
      have r3 : yR g3 x T n c f s2.1 op := rh.up m3.1 (ml3.1 x (by simp only [List.mem_cons, List.not_mem_nil, or_false] at hEx ⊢; omega) _ r2.1)
      refine s_sp (p' := 59) (ls' := _) rfl rfl rfl ?_
      refine s_goto (p' := 29) rfl rfl ?_
      rw [if_neg (by omega), if_pos q59, rLp, e2]
      exact ih s2 E3 (cc + 1) _ _ g3 (by omega) (by omega) ob.2.1 (by omega) r3 ri3 (by omega) (by omega) m3
    · refine s_icmp (p' := 62) true rfl ((ci_ne (by have := nwc_65 hf s.1; omega) (by omega)).trans (decide_eq_true (fun e => q59 ((nwc_eq (by omega) (by omega)).mp e)))) rfl ?_
      refine s_aldn (p' := 63) rfl rfl rfl ?_
      refine s_aldn (p' := 64) rfl rfl rfl ?_
      refine s_ildn (p' := 65) rfl rfl rfl ?_
      refine s_callV (p' := 68) (ls0 := [_, _]) rfl rfl rfl rfl rfl (mj_rcv_is r0.1) rfl (y_ise hn hf r0 h3 hen) (by first | decide | omega) rfl ?_
      refine s_bip (p' := 70) rfl rfl ?_
      refine c_call (p' := 73) (kc := 1) (ls0 := [_, _, _]) rfl rfl rfl rfl rfl (mj_rcv_is r0.1) rfl (Nat.ble_eq.mpr (by omega)) rfl ?_
      refine ((y_wt HF hn hf r0 (by omega) (by omega) (by have := mo_le m; omega) (b := decide (chA n f s.1 = en)) (kd := 101) (by decide))).imp ?_
      rintro _ (⟨q1, rfl⟩ | ⟨q1, tt⟩)
      rotate_left
      · exact yT_K HF (yT.tr m (by omega) (by omega) tt) rfl (fun o t => Or.inr ⟨_, by rw [if_neg (of_decide_eq_false q1), if_neg q59], t⟩)
      show mj_Wp _ _ (73, _, _, _) _
      try dsimp only
      refine s_aldn (p' := 74) rfl rfl rfl ?_
      refine s_aret rfl ?_
      exact Or.inl ⟨s, Lr, g, if_pos (of_decide_eq_true q1), rfl, r0, ri.fin, m⟩
theorem y_row1 {fC : Int32 → Int32 → mj_C} (HF : HFl fC) {h : mj_H} {x T n c at_ op : Nat} {f : Nat → Nat} (hn : n ≤ 60) (hf : ∀ j, j < n → f j < 65536) (r0 : yR h x T n c f at_ op) (ha : at_ ≤ n) (bx : x < mj_CB) (hb : h.length + 5 * (n - at_) + 60 < mj_CB) {K d k en : Nat} {a : Nat → Nat → Nat} {row : Nat → Nat → PS → PR} (hod : op + d = 6) (hen : en = 124 ∨ en = 58 ∨ en = 70000) (hrow : ∀ d', d = d' + 1 → ∀ (en at_ k : Nat) (a : Nat → Nat → Nat) (h : mj_H), en = 124 ∨ en = 58 → at_ ≤ n → yR h x T n c f at_ (op + 1) → h.length + 5 * (n - at_) + 60 < mj_CB → mj_Wp K 303 (0, [some (.ref x), some (.int (nI en)), none], [], h) (rowQ fC h x T n c f (op + 1) d' at_ k (row en (op + 1) (at_, k, a)))) (hrb : ∀ en op s, s.1 ≤ n → okR n s (row en op s) ∧ ∀ s', row en op s = .inr s' → chA n f s'.1 = en) : mj_Wp (K + 15) 303 (0, [some (.ref x), some (.int (nI (nwc en))), none], [], h) (rowQ fC h x T n c f op d at_ k (if chA n f at_ = en then .inr (at_, k, a) else rLp (rStm row (chA n f) op) (chA n f) en 60 (at_, k, a))) := by
  have hx0 : x < h.length := rd_len (by omega) r0.1
  have m0 : mz_mo [x] 0 0 h h := mz_mo.rf _ _ _ _
  have l0 : h.length = h.length + 0 := rfl
  refine s_new (p' := 3) rfl rfl rfl ?_
  generalize hg1 : h ++ [_] = h1
  have l1 : h1.length = h.length + 1 := by rw [← hg1, List.length_append, l0]; rfl
  have X1 : mj_rd h1 x = some (.inr (22, [.ref T, .int (nI at_), .int (nI op)])) := by rw [← hg1]; exact rd_app r0.1
  have L1 : mj_rd h1 h.length = some (.inr (18, [.null, .int 0, .int 0])) := by rw [← hg1]; exact rd_nw (Nat.blt_eq.mpr (by omega)) l0
  have m1 : mz_mo [x] 1 3 h h1 := by rw [← hg1]; exact m0.tr (mz_mo.ap [x] _ _) (fun y hy => Or.inl hy) (by omega) (by show 0 + 3 ≤ 3; omega)
  clear hg1
  refine s_sp (p' := 4) (ls' := _) rfl rfl rfl ?_
  refine s_callN (p' := 7) (ls0 := [_]) rfl rfl rfl rfl rfl (mj_rcv_is L1) rfl (y_ini (by omega) L1) (by first | decide | omega) rfl ?_
  generalize hg2 : List.set h1 h.length _ = h2
  have l2 : h2.length = h.length + 1 := by rw [← hg2, List.length_set, l1]
  have m2 : mz_mo [x] 1 3 h h2 := by rw [← hg2]; exact mz_mo.s m1 (by omega) L1 rfl (Or.inr (by omega))
  have X2 : mj_rd h2 x = some (.inr (22, [.ref T, .int (nI at_), .int (nI op)])) := by rw [← hg2]; exact (rd_setn (by omega)).trans X1
  have L2 : mj_rd h2 h.length = some (alC 1000000 0 (nI 0)) := by rw [← hg2]; exact rd_set (by omega) L1
  clear hg2
  have r2 : yR h2 x T n c f at_ op := r0.up m2.1 X2
  refine s_astn (p' := 8) (ls' := [_, _, _]) rfl rfl rfl rfl ?_
  refine s_aldn (p' := 9) rfl rfl rfl ?_
  refine s_ildn (p' := 10) rfl rfl rfl ?_
  refine s_callV (p' := 13) (ls0 := [_, _]) rfl rfl rfl rfl rfl (mj_rcv_is r2.1) rfl (y_ise hn hf r2 ha hen) (by first | decide | omega) rfl ?_
  by_cases qe : chA n f at_ = en
  · refine s_if (p' := 16) false rfl (by rw [decide_eq_true qe]; rfl) rfl ?_
    refine s_aldn (p' := 17) rfl rfl rfl ?_
    refine s_aret rfl ?_
    exact Or.inl ⟨(at_, k, a), h.length, h2, if_pos qe, rfl, r2, (rowI.nil L2 ⟨Nat.le_refl _, by omega⟩).fin, m2.wk (fun y hy => Or.inl hy) (by omega) (by omega)⟩
  · refine s_if (p' := 18) true rfl (by rw [decide_eq_false qe]; rfl) rfl ?_
    refine s_aldn (p' := 19) rfl rfl rfl ?_
    refine s_aldn (p' := 20) rfl rfl rfl ?_
    refine c_call (p' := 23) (kc := (K + 14)) (ls0 := [_, _, _]) rfl rfl rfl rfl rfl (mj_rcv_is r2.1) rfl (Nat.ble_eq.mpr (by omega)) rfl ?_
    refine ((y_prt HF hn hf r2 ha bx (by omega) (d := d) (k := k) (a := a) (row := row) hod hrow hrb)).imp ?_
    rintro _ (⟨s2, p, h3, e2, rfl, r3, pt, ml⟩ | ⟨e, e2, tt⟩)
    rotate_left
    · exact yT_K HF (yT.tr m2 (by omega) (by omega) tt) rfl (fun o t => Or.inr ⟨e, by rw [if_neg qe, rLp, e2], t⟩)
    show mj_Wp _ _ (23, _, _, _) _
    try dsimp only
    have ob := rStm_b (chA_ok n f) hrb (op := op) (s := (at_, k, a)) ha _ e2
    dsimp only at ob ml pt
    have ptl := yPt.lt _ _ _ _ pt
    have ri1 := rowI.nil (h := h) (A := s2.2.2) (d := d) (k := k) L2 ⟨Nat.le_refl _, by omega⟩
    have ri2 := ri1.mv1 (B := s2.2.2) ml.1 hx0 (fun j hj => rfl)
    have m3 : mz_mo [x] (1 + 5 * (s2.1 - at_)) (3 + 80 * (s2.1 - at_)) h h3 := m2.tr ml (fun y hy => Or.inl hy) (by omega) (by omega)
    refine s_callEV (p' := 28) (ls0 := [_, _]) rfl rfl rfl rfl rfl (by obtain ⟨_, _, _, z, _⟩ := ri2.1; exact mj_rcv_is z) rfl (y_ad (by omega) (by have := mo_le m3; omega) (by omega) ri2.1 pt.ge.1) (Nat.ble_eq.mpr (by omega)) rfl ?_
    rintro _ g3 ⟨rfl, E3, yl3, hE3, bE3, ml3⟩
    have gl2 := mo_le ml
    have gl3 := mo_le ml3
    have hEl : E3 = 1000000 ∨ E3 < g3.length := by obtain ⟨_, _, _, _, z2, _⟩ := yl3; have z3 := rdN (rdA_lt z2); omega
    have ri3 := ri2.ad (g := h2) yl3 hE3 bE3 ml3 pt ⟨by omega, by omega, Or.inl rfl⟩ gl2.1
    have fx : mz_fr [x] h g3 := fun y hy c0 hc0 => by
      by_cases y1 : y = 1000000
      · rw [y1] at hc0 ⊢
        exact hc0
      · have hlt := rdN hc0
        refine ml3.1 y ?_ _ (m3.1 y hy _ hc0)
        simp only [List.mem_cons, List.not_mem_nil, or_false]
        have e1 : mj_CB = 1000000 := rfl
        omega
    have m4 : mz_mo [x] (5 * (s2.1 - at_) + 2) (80 * (s2.1 - at_) + 83) h g3 := ⟨fx, by have := mo_le m3; omega, by have := m3.2.2.1; have := ml3.2.2.1; omega, by have := m3.2.2.2; have := ml3.2.2.2; omega⟩
    have r4 : yR g3 x T n c f s2.1 op := r0.up m4.1 (ml3.1 x (by have e1 : mj_CB = 1000000 := rfl; simp only [List.mem_cons, List.not_mem_nil, or_false]; omega) _ r3.1)
    refine s_sp (p' := 29) (ls' := _) rfl rfl rfl ?_
    rw [if_neg qe, rLp, e2]
    exact y_rwl HF hn hf hx0 hb hod hen rfl r0 hrow hrb 59 s2 E3 1 _ _ g3 (by omega) (by omega) ob.2.1 (by omega) r4 ri3 (by omega) (by omega) m4
theorem y_row {fC : Int32 → Int32 → mj_C} (HF : HFl fC) {x T n c : Nat} {f : Nat → Nat} (hn : n ≤ 60) (hf : ∀ j, j < n → f j < 65536) (bx : x < mj_CB) : ∀ (d op en at_ k : Nat) (a : Nat → Nat → Nat) (h : mj_H), op + d = 6 → (en = 124 ∨ en = 58 ∨ en = 70000) → at_ ≤ n → yR h x T n c f at_ op → h.length + 5 * (n - at_) + 60 < mj_CB → mj_Wp (20 * d + 40) 303 (0, [some (.ref x), some (.int (nI (nwc en))), none], [], h) (rowQ fC h x T n c f op d at_ k (rRw (chA n f) (d + 2) en op (at_, k, a)))
  | d, op, en, at_, k, a, h, hod, hen, ha, r0, hb => by
    rw [rRw]
    cases d with
    | zero => exact mj_Wp.mono (y_row1 HF hn hf r0 ha bx hb (K := 20) hod hen (fun d' h => absurd h (by omega)) (fun en op s hs => rRw_b (chA_ok n f) 1 en op s hs)) (by omega)
    | succ d =>
      refine mj_Wp.mono (y_row1 HF hn hf r0 ha bx hb (K := 20 * d + 40) hod hen (fun d' hd en at_ k a h h1 h2 h3 h4 => ?_) (fun en op s hs => rRw_b (chA_ok n f) (d + 2) en op s hs)) (by omega)
      obtain rfl : d = d' := by omega
      have := y_row HF hn hf bx d (op + 1) en at_ k a h (by omega) (by omega) h2 h3 h4
      rw [nwc_lt (c := en) (by omega)] at this
      exact this
theorem y_all {fC : Int32 → Int32 → mj_C} (HF : HFl fC) {h : mj_H} {x T n c : Nat} {f : Nat → Nat} (hn : n ≤ 60) (hf : ∀ j, j < n → f j < 65536) (r0 : yR h x T n c f 0 0) (bx : x < mj_CB) (hb : h.length + 400 < mj_CB) : mj_Wp 161 302 (0, [some (.ref x)], [], h) (rowQ fC h x T n c f 0 6 0 0 (rAll n f)) := by
  refine s_aldn (p' := 1) rfl rfl rfl ?_
  refine s_con (p' := 2) rfl rfl ?_
  refine c_call (p' := 5) (kc := 160) (ls0 := [_, _, _]) rfl rfl rfl rfl rfl (mj_rcv_is r0.1) rfl rfl rfl ?_
  refine ((y_row HF hn hf bx 6 0 70000 0 0 (fun _ _ => 0) h rfl (Or.inr (Or.inr rfl)) (Nat.zero_le n) r0 (by omega))).imp ?_
  rintro o (⟨s', p, h', e, rfl, r1, rw1, ml⟩ | ⟨e, e1, tt⟩)
  · show mj_Wp _ _ (5, _, _, _) _
    refine s_aret rfl ?_
    exact Or.inl ⟨s', p, h', e, rfl, r1, rw1, ml⟩
  · exact yT_K HF tt rfl (fun o t => Or.inr ⟨e, e1, t⟩)
