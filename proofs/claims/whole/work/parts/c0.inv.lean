/-! The state between calls: its parts, and what leaves them as they are. -/
theorem fr_cut {L : List Nat} {h g : mj_H} (e : mz_fr L h g) : mz_fr (L.filter fun x => decide (x < mj_CB)) h g := fun a ha c hc => by
  by_cases q : a < mj_CB
  · exact e a (fun q2 => ha (List.mem_filter.mpr ⟨q2, decide_eq_true q⟩)) c hc
  · exact (rdc (h := h) (Nat.le_of_not_lt q)).trans hc
theorem mem_cut {L : List Nat} {x : Nat} (h : x ∈ L.filter fun x => decide (x < mj_CB)) : x ∈ L ∧ x < mj_CB :=
  ⟨(List.mem_filter.mp h).1, of_decide_eq_true (List.mem_filter.mp h).2⟩
theorem fr_len {L : List Nat} {h g : mj_H} (e : mz_fr L h g) (hb : h.length ≤ mj_CB) (hx : ∀ x, x ∈ L → x < h.length → x < g.length) : h.length ≤ g.length := by
  by_cases z : h.length = 0
  · omega
  · have hr : mj_rd h (h.length - 1) = some (h[h.length - 1]'(by omega)) := by
      unfold mj_rd
      rw [if_pos (by omega)]
      exact List.getElem?_eq_getElem (by omega)
    by_cases q : h.length - 1 ∈ L
    · have := hx _ q (by omega)
      omega
    · have := rd_len (by omega) (e _ q _ hr)
      omega
/-- a colour for some addresses, the others as they were -/
theorem recol (P : Nat → Prop) (c : Nat) (own : Nat → Nat) : ∃ own' : Nat → Nat, ∀ a, (P a → own' a = c) ∧ (¬ P a → own' a = own a) :=
  ⟨fun a => @ite _ (P a) (Classical.propDecidable _) c (own a), fun a => ⟨fun h => @if_pos _ (Classical.propDecidable _) h _ _ _, fun h => @if_neg _ (Classical.propDecidable _) h _ _ _⟩⟩
/-- who owns what was made later: 1 the array of the procedures' list, 2 that of the gates' list, 3 the line of pebbles, 4 the search, 8 what is typed, 9 procedures -/
def wO (own : Nat → Nat) (h : mj_H) : Prop := ∀ a, own a ≠ 0 → 414 ≤ a ∧ a < h.length
theorem yStr.rd {h : mj_H} {T n c : Nat} {f : Nat → Nat} : yStr h T n c f → ∃ (B : Nat) (rs : List Value), mj_rd h T = some (.inr (21, .ref B :: rs))
  | ⟨_, B, rs, r, _⟩ => ⟨B, .int (nI c) :: rs, r⟩
/-- what is typed -/
def pTy (own : Nat → Nat) (h : mj_H) (ty : Value) : Prop := ∃ (n : Nat) (f : Nat → Nat) (c Y : Nat), ty = .ref Y ∧ n ≤ 60 ∧ (∀ j, j < n → f j < 65536) ∧ cPx h 1 n f ∧ yStr h Y n c f ∧ 414 ≤ Y ∧ (Y < mj_CB → own Y = 8) ∧ ∀ (C : Nat) (rs : List Value), mj_rd h Y = some (.inr (21, .ref C :: rs)) → 414 ≤ C ∧ (C < mj_CB → own C = 8)
theorem pTy.fr {own own' : Nat → Nat} {L : List Nat} {h g : mj_H} {ty : Value} (e : mz_fr L h g) (hL : ∀ x, x ∈ L → (x < 1 ∨ 38 ≤ x) ∧ own x ≠ 8) (ho : ∀ a, own a = 8 → own' a = 8) : pTy own h ty → pTy own' g ty
  | ⟨n, f, c, Y, e1, e2, e3, e4, e5, e6, e7, e8⟩ => by
    have k := fr_cut e
    have hY : Y ∉ L.filter (fun x => decide (x < mj_CB)) := fun q => (hL Y (mem_cut q).1).2 (e7 (mem_cut q).2)
    have hB : ∀ (B : Nat) (rs : List Value), mj_rd h Y = some (.inr (21, .ref B :: rs)) → B ∉ L.filter (fun x => decide (x < mj_CB)) := fun B rs r q => (hL B (mem_cut q).1).2 ((e8 B rs r).2 (mem_cut q).2)
    obtain ⟨B0, rs0, r0⟩ := e5.rd
    refine ⟨n, f, c, Y, e1, e2, e3, e4.fr k (fun x hx => by have := (hL x (mem_cut hx).1).1; omega), e5.fr k hY hB, e6, fun q => ho _ (e7 q), fun C rs r => ?_⟩
    have r1 := k Y hY _ r0
    rw [r1] at r
    have e : @Eq Nat B0 C := Value.ref.inj (List.cons.inj (Prod.mk.inj (Sum.inr.inj (Option.some.inj r))).2).1
    rw [← e]
    exact ⟨(e8 B0 rs0 r0).1, fun q => ho _ ((e8 B0 rs0 r0).2 q)⟩
theorem yLi.frm {I J : Nat → Prop} {L : List Nat} {h g : mj_H} {np Ep : Nat} {N : Nat → Nat} {F : Nat → Nat → Nat} {K : Nat → Nat} {X : Nat → Nat → Nat → Nat} {PF : Nat → Nat} (l : yLi I h np N F K X PF Ep) (m : Mv I J L h g) (h1 : 401 ∉ L) (h2 : Ep ∉ L) (hJ : ∀ a, J a → a < mj_CB) : yLi J g np N F K X PF Ep :=
  ⟨l.1.fr m.1 h1 h2 (fun j hj => by
    obtain ⟨_, r⟩ := (l.2.2 j hj).D
    exact (m.2.2 _ (l.2.2 j hj).i (m.lt (l.2.2 j hj).i r)).1), hJ, fun p hp => (l.2.2 p hp).mv m⟩
theorem yPrF.cgF {I : Nat → Prop} {h : mj_H} {D n k : Nat} {f f' : Nat → Nat} {x : Nat → Nat → Nat} (e : ∀ j, j < n → f j = f' j) : yPrF I h D n f k x → yPrF I h D n f' k x
  | ⟨Lr, Tx, La, Ea, F, a1, a2, a3, a4, a5, a6, a7, a8⟩ => ⟨Lr, Tx, La, Ea, F, a1, a2, a3, a4, a5, a6, a7.cg e, a8⟩
theorem yLi.cgF {I : Nat → Prop} {h : mj_H} {np Ep : Nat} {N : Nat → Nat} {F F' : Nat → Nat → Nat} {K : Nat → Nat} {X : Nat → Nat → Nat → Nat} {PF : Nat → Nat} (e : ∀ p, p < np → ∀ j, j < N p → F p j = F' p j) (l : yLi I h np N F K X PF Ep) : yLi I h np N F' K X PF Ep :=
  ⟨l.1, l.2.1, fun p hp => (l.2.2 p hp).cgF (e p hp)⟩
/-- the procedures -/
def pLi (own : Nat → Nat) (h : mj_H) (np : Nat) (K : Nat → Nat) (X : Nat → Nat → Nat → Nat) : Prop := ∃ (N : Nat → Nat) (F : Nat → Nat → Nat) (PF : Nat → Nat) (Ep : Nat), cLi h np N F K X ∧ yLi (fun a => own a = 9) h np N F K X PF Ep ∧ lOk np N F K X ∧ (Ep < mj_CB → own Ep = 1)
theorem pLi.fr {own own' : Nat → Nat} {L : List Nat} {h g : mj_H} {np : Nat} {K : Nat → Nat} {X : Nat → Nat → Nat → Nat} (e : mz_fr L h g) (hL : ∀ x, x ∈ L → (x < 38 ∨ 299 ≤ x) ∧ x ≠ 401 ∧ own x ≠ 9 ∧ own x ≠ 1) (h9 : ∀ a, own a = 9 → own' a = 9) (hc : ∀ a, own' a = 9 → a < mj_CB) (h1 : ∀ a, own a = 1 → own' a = 1) : pLi own h np K X → pLi own' g np K X
  | ⟨N, F, PF, Ep, a, b, c, d⟩ => by
    have k := fr_cut e
    refine ⟨N, F, PF, Ep, a.fr k (fun x hx => by have := (hL x (mem_cut hx).1).1; omega), b.frm ⟨k, b.2.1, fun x hx _ => ⟨fun q => ?_, h9 x hx⟩⟩ (fun q => ?_) (fun q => ?_) hc, c, fun q => h1 _ (d q)⟩
    · exact (hL x (mem_cut q).1).2.2.1 hx
    · exact (hL _ (mem_cut q).1).2.1 rfl
    · exact (hL _ (mem_cut q).1).2.2.2 (d (mem_cut q).2)
theorem lOk.pOk {np : Nat} {N : Nat → Nat} {F : Nat → Nat → Nat} {K : Nat → Nat} {X : Nat → Nat → Nat → Nat} (h : lOk np N F K X) (hn : np ≤ 6) : pOk np K X := ⟨hn, fun p hp => by
  obtain ⟨h1, h2, h3⟩ := h p hp
  have t := rAll_t h2 h3
  exact ⟨rAll_K h1 h2 h3, fun j hj => t.1.act j (Nat.zero_le j) hj⟩⟩
theorem cRb.fr {h g : mj_H} {L : List Nat} {R S b : Nat} {r : SR} {z : CZ} (a : cRb h R S b r z) (e : mz_fr L h g) (hL : ∀ x, x ∈ L → x < R ∨ R + 6 ≤ x) : cRb g R S b r z := by
  have no : ∀ i, i < 6 → R + i ∉ L := fun i hi hx => by have := hL _ hx; omega
  exact ⟨e _ (no 0 (by decide)) _ a.1, a.2.1.fr e (no 1 (by decide)) (no 2 (by decide)) (no 3 (by decide)), a.2.2.fr e (no 4 (by decide)) (no 5 (by decide))⟩
/-- the store and the run -/
def pRu (h : mj_H) (np : Nat) (K : Nat → Nat) : Prop := ∃ s : SV, cSt h 375 s ∧ ((yWb h 402 s ∧ (∃ r, cRb h 381 375 0 r z0) ∧ ∃ cn, mj_rd h 402 = some (wrB 402 s.2.2 cn (nI 4294967295))) ∨ ∃ (r : SR) (z : CZ), cRn h 381 375 r z ∧ yWl h 402 (s, r) z ∧ wfR np K r ∧ nrm K r ∧ (z = z0 ∨ edd K r = false) ∧ z.2.1 < 65536 ∧ z.2.2.2.1 < 65536)
theorem pRu.fr {L : List Nat} {h g : mj_H} {np : Nat} {K : Nat → Nat} (e : mz_fr L h g) (hL : ∀ x, x ∈ L → x < 375 ∨ 378 ≤ x ∧ x < 381 ∨ 387 ≤ x ∧ x < 402 ∨ 410 ≤ x) : pRu h np K → pRu g np K
  | ⟨s, a, b⟩ => by
    have no : ∀ i, (375 ≤ i ∧ i < 378 ∨ 402 ≤ i ∧ i < 410) → i ∉ L := fun i hi hx => by have := hL _ hx; omega
    refine ⟨s, a.fr e (no _ (by decide)) (no _ (by decide)) (no _ (by decide)), ?_⟩
    rcases b with ⟨b1, ⟨r, b2⟩, cn, b3⟩ | ⟨r, z, b1, b2, b3⟩
    · exact Or.inl ⟨b1.fr e (fun x hx => by have := hL x hx; omega), ⟨r, b2.fr e (fun x hx => by have := hL x hx; omega)⟩, cn, e _ (no _ (by decide)) _ b3⟩
    · exact Or.inr ⟨r, z, b1.fr e (fun x hx => by have := hL x hx; omega), b2.fr e (fun x hx => by have := hL x hx; omega), b3⟩
theorem edg_K {K K' : Nat → Nat} {r : SR} (h : K r.1 = K' r.1) : edg K r = edg K' r := by
  obtain ⟨p, l, c, w, x⟩ := r
  unfold edg
  dsimp only at h ⊢
  rw [h]
/-- one procedure more -/
theorem pRu.up {h : mj_H} {np k : Nat} {K : Nat → Nat} : pRu h np K → pRu h (np + 1) (updN3 K np k)
  | ⟨s, a, b⟩ => by
    refine ⟨s, a, b.imp id ?_⟩
    rintro ⟨r, z, b1, b2, b3, b4, b5⟩
    obtain ⟨p, l, c, w, cp, cl, cw⟩ := r
    obtain ⟨q1, q2, q3, q4⟩ := b3
    have eK : ∀ q, q < np → updN3 K np k q = K q := fun q hq => updN3_n (by omega)
    have eg := edg_K (r := (p, l, c, w, cp, cl, cw)) (eK p q1).symm
    refine ⟨(p, l, c, w, cp, cl, cw), z, b1, b2, ⟨by omega, by rw [eK p q1]; exact q2, q3, fun d hd => ⟨by have := (q4 d hd).1; omega, by rw [eK _ (q4 d hd).1]; exact (q4 d hd).2⟩⟩, ?_, ?_⟩
    · unfold nrm
      rw [← eg]
      exact b4
    · unfold edd
      rw [← eg]
      exact b5
/-- the trial store and its run -/
def pTr (h : mj_H) : Prop := (∃ s0, cSt h 378 s0) ∧ ∃ b r z, cRb h 387 378 b r z
theorem pTr.fr {L : List Nat} {h g : mj_H} (e : mz_fr L h g) (hL : ∀ x, x ∈ L → x < 378 ∨ 381 ≤ x ∧ x < 387 ∨ 393 ≤ x) : pTr h → pTr g
  | ⟨⟨s, a⟩, b, r, z, c⟩ => ⟨⟨s, a.fr e (fun q => by have := hL _ q; omega) (fun q => by have := hL _ q; omega) (fun q => by have := hL _ q; omega)⟩, b, r, z, c.fr e (fun x hx => by have := hL x hx; omega)⟩
/-- the circuit -/
def pCi (own : Nat → Nat) (h : mj_H) : Prop := ∃ (g E : Nat) (G : Nat → Nat) (rf : Nat → Int32) (mf : Value), g ≤ 24 ∧ mj_rd h 393 = some (.inr (9, [.ref 394, .ref 395, .ref 396, .int (nI g), mf])) ∧ mj_rd h 394 = some (.inl (0, (24, .inl rf))) ∧ yLs h 410 E g (gI G) ∧ (∀ j, j < g → rf j = nI (G j) ∧ isG (G j)) ∧ (E < mj_CB → own E = 2)
theorem pCi.fr {own own' : Nat → Nat} {L : List Nat} {h g : mj_H} (e : mz_fr L h g) (hL : ∀ x, x ∈ L → (x < 393 ∨ 395 ≤ x) ∧ x ≠ 410 ∧ own x ≠ 2) (ho : ∀ a, own a = 2 → own' a = 2) : pCi own h → pCi own' g
  | ⟨n, E, G, rf, mf, a1, a2, a3, a4, a5, a6⟩ => by
    have k := fr_cut e
    have no : ∀ i, (393 ≤ i ∧ i < 395 ∨ i = 410) → i ∉ L := fun i hi hx => by have := hL _ hx; omega
    refine ⟨n, E, G, rf, mf, a1, e _ (no _ (by decide)) _ a2, e _ (no _ (by decide)) _ a3, a4.fr k (fun q => no 410 (by decide) (mem_cut q).1) (fun q => (hL _ (mem_cut q).1).2.2 (a6 (mem_cut q).2)) (fun j _ q => ?_), a5, fun q => ho _ (a6 q)⟩
    have e1 : mj_CB = 1000000 := rfl
    have q2 : 1000138 + G j < mj_CB := (mem_cut q).2
    omega
/-- images -/
def pIm (h : mj_H) : Prop := ∃ (im jm : Nat → Int32) (IM : Nat → Nat), mj_rd h 397 = some (.inl (0, (8, .inl im))) ∧ mj_rd h 411 = some (.inl (0, (8, .inl jm))) ∧ (∀ j, j < 8 → im j = nI (IM j) ∧ IM j < 8) ∧ ∀ j, j < 8 → jm j = nI (IM j) ∧ IM j < 8
theorem pIm.fr {L : List Nat} {h g : mj_H} (e : mz_fr L h g) (hL : ∀ x, x ∈ L → x ≠ 397 ∧ x ≠ 411) : pIm h → pIm g
  | ⟨im, jm, IM, a, b, c⟩ => ⟨im, jm, IM, e _ (fun q => (hL _ q).1 rfl) _ a, e _ (fun q => (hL _ q).2 rfl) _ b, c⟩
/-- rows for a while -/
def pSc (h : mj_H) : Prop := (∃ f : Nat → Int32, mj_rd h 395 = some (.inl (0, (8, .inl f)))) ∧ (∃ f : Nat → Int32, mj_rd h 396 = some (.inl (0, (24, .inl f)))) ∧ (∃ f : Nat → Int32, mj_rd h 398 = some (.inl (0, (16, .inl f)))) ∧ ∃ f : Nat → Int32, mj_rd h 399 = some (.inl (0, (8, .inl f)))
theorem pSc.fr {L : List Nat} {h g : mj_H} (e : mz_fr L h g) (hL : ∀ x, x ∈ L → x < 395 ∨ x = 397 ∨ 400 ≤ x) : pSc h → pSc g
  | ⟨⟨f1, a1⟩, ⟨f2, a2⟩, ⟨f3, a3⟩, f4, a4⟩ => ⟨⟨f1, e _ (fun q => by have := hL _ q; omega) _ a1⟩, ⟨f2, e _ (fun q => by have := hL _ q; omega) _ a2⟩, ⟨f3, e _ (fun q => by have := hL _ q; omega) _ a3⟩, f4, e _ (fun q => by have := hL _ q; omega) _ a4⟩
/-- where the law's answers stand -/
def pOu (h : mj_H) : Prop := (∃ ou : Nat → Int64, mj_rd h 412 = some (outC ou)) ∧ ∃ ou : Nat → UInt64, mj_rd h 413 = some (.inl (5, (1, .inr (.inr (.inr (.inl ou))))))
theorem pOu.fr {L : List Nat} {h g : mj_H} (e : mz_fr L h g) (hL : ∀ x, x ∈ L → x < 412 ∨ 414 ≤ x) : pOu h → pOu g
  | ⟨⟨f1, a1⟩, f2, a2⟩ => ⟨⟨f1, e _ (fun q => by have := hL _ q; omega) _ a1⟩, f2, e _ (fun q => by have := hL _ q; omega) _ a2⟩
theorem pOu.f2 {L : List Nat} {h g : mj_H} (e : mz_fr L h g) (hL : ∀ x, x ∈ L → x ≠ 413) (hn : ∃ ou : Nat → Int64, mj_rd g 412 = some (outC ou)) : pOu h → pOu g
  | ⟨_, f2, a2⟩ => ⟨hn, f2, e _ (fun q => hL _ q rfl) _ a2⟩
/-- texts for a while -/
def pSo (h : mj_H) : Prop := (∃ n f, cPx h 299 n f) ∧ (∃ n f, cPx h 336 n f) ∧ ∃ l, cTl h 373 374 l
theorem pSo.fr {L : List Nat} {h g : mj_H} (e : mz_fr L h g) (hL : ∀ x, x ∈ L → x < 299 ∨ 375 ≤ x) : pSo h → pSo g
  | ⟨⟨n, f, a⟩, ⟨n2, f2, a2⟩, l, a3⟩ => ⟨⟨n, f, a.fr e (fun x hx => by have := hL x hx; omega)⟩, ⟨n2, f2, a2.fr e (fun x hx => by have := hL x hx; omega)⟩, l, a3.fr e (fun q => by have := hL _ q; omega) (fun q => by have := hL _ q; omega)⟩
/-- the line of pebbles -/
def pPb (own : Nat → Nat) (h : mj_H) (pl : Value) : Prop := pl = .null ∨ ∃ (P M W : Nat), pl = .ref P ∧ pbX h P M W ∧ own P = 3 ∧ own M = 3 ∧ own W = 3 ∧ M ≠ P ∧ W ≠ P ∧ M ≠ W
theorem pPb.fr {own own' : Nat → Nat} {L : List Nat} {h g : mj_H} {pl : Value} (e : mz_fr L h g) (hL : ∀ x, x ∈ L → own x ≠ 3) (ho : ∀ a, own a = 3 → own' a = 3) : pPb own h pl → pPb own' g pl := fun a => a.imp id (by
  rintro ⟨P, M, W, a1, ⟨m, w, fl, b1, b2, b3⟩, a3, a4, a5, a6⟩
  exact ⟨P, M, W, a1, ⟨m, w, fl, e _ (fun q => hL _ q a3) _ b1, e _ (fun q => hL _ q a4) _ b2, e _ (fun q => hL _ q a5) _ b3⟩, ho _ a3, ho _ a4, ho _ a5, a6⟩)
/-- the searches for least gates -/
def pLg (own : Nat → Nat) (h : mj_H) (gs wa nw nx : Value) (rz : Nat) : Prop := (gs = .null ∧ wa = .null ∧ nw = .null ∧ nx = .null ∧ rz = 129300) ∨ ∃ (S T W A V : Nat) (b f1 f2 : Nat → Int32), gs = .ref S ∧ wa = .ref W ∧ nw = .ref A ∧ nx = .ref V ∧ rz = 0 ∧ mj_rd h S = some (.inr (10, [.ref T])) ∧ mj_rd h T = some (.inl (0, (8192, .inl (gfill fun _ => 0)))) ∧ mj_rd h W = some (.inl (2, (40320, .inl b))) ∧ mj_rd h A = some (.inl (0, (40320, .inl f1))) ∧ mj_rd h V = some (.inl (0, (40320, .inl f2))) ∧ own S = 4 ∧ own T = 4 ∧ own W = 4 ∧ own A = 4 ∧ own V = 4 ∧ A ≠ V
theorem pLg.fr {own own' : Nat → Nat} {L : List Nat} {h g : mj_H} {gs wa nw nx : Value} {rz : Nat} (e : mz_fr L h g) (hL : ∀ x, x ∈ L → own x ≠ 4) (ho : ∀ a, own a = 4 → own' a = 4) : pLg own h gs wa nw nx rz → pLg own' g gs wa nw nx rz := fun a => a.imp id (by
  rintro ⟨S, T, W, A, V, b, f1, f2, a1, a2, a3, a4, a5, b1, b2, b3, b4, b5, c1, c2, c3, c4, c5, d⟩
  exact ⟨S, T, W, A, V, b, f1, f2, a1, a2, a3, a4, a5, e _ (fun q => hL _ q c1) _ b1, e _ (fun q => hL _ q c2) _ b2, e _ (fun q => hL _ q c3) _ b3, e _ (fun q => hL _ q c4) _ b4, e _ (fun q => hL _ q c5) _ b5, ho _ c1, ho _ c2, ho _ c3, ho _ c4, ho _ c5, d⟩)
/-- the state before the j-th call -/
def wJ (own : Nat → Nat) (th : Int32) (sd be : Int64) (gs pl ty wa nw nx : Value) (np : Nat) (K : Nat → Nat) (X : Nat → Nat → Nat → Nat) (rz j : Nat) (h : mj_H) : Prop :=
  wO own h ∧ mj_rd h 0 = some (xC_ gs pl sd be) ∧ mj_rd h 400 = some (yC_ th ty sd be wa nw nx) ∧ pTy own h ty ∧ pLi own h np K X ∧ pRu h np K ∧ pTr h ∧ pCi own h ∧ pIm h ∧ pSc h ∧ pOu h ∧ pSo h ∧ pPb own h pl ∧ pLg own h gs wa nw nx rz ∧ j ≤ 512 ∧ h.length + 1500 * (6 - np) ≤ 9424 + 1150 * j ∧ mj_sz h + 38000 * (6 - np) + rz ≤ 365300 + 13500 * j
def wI (j : Nat) (h : mj_H) : Prop := ∃ own th sd be gs pl ty wa nw nx np K X rz, wJ own th sd be gs pl ty wa nw nx np K X rz j h
theorem pLi.np {own : Nat → Nat} {h : mj_H} {np : Nat} {K : Nat → Nat} {X : Nat → Nat → Nat → Nat} : pLi own h np K X → np ≤ 6
  | ⟨_, _, _, _, a, _⟩ => a.1
theorem wO.len {own : Nat → Nat} {h g : mj_H} (w : wO own h) (l : h.length ≤ g.length) : wO own g := fun a ha => ⟨(w a ha).1, Nat.lt_of_lt_of_le (w a ha).2 l⟩
theorem wO.z {own : Nat → Nat} {h : mj_H} (w : wO own h) {a : Nat} (ha : a < 414) : own a = 0 := by
  by_cases q : own a = 0
  · exact q
  · have := (w a q).1
    omega
theorem wJ.len {own : Nat → Nat} {th : Int32} {sd be : Int64} {gs pl ty wa nw nx : Value} {np : Nat} {K : Nat → Nat} {X : Nat → Nat → Nat → Nat} {rz j : Nat} {h : mj_H} (w : wJ own th sd be gs pl ty wa nw nx np K X rz j h) : 414 ≤ h.length ∧ h.length + 2000 < mj_CB := by
  obtain ⟨_, _, _, _, _, _, _, _, _, _, ⟨_, _, a⟩, _, _, _, b, c, _⟩ := w
  have e1 : mj_CB = 1000000 := rfl
  have := rd_len (by decide) a
  omega
/-- a round that changes nothing but what the law and the reference say of the last call -/
theorem wJ.q {own : Nat → Nat} {th th' : Int32} {sd be : Int64} {gs pl ty wa nw nx : Value} {np : Nat} {K : Nat → Nat} {X : Nat → Nat → Nat → Nat} {rz j : Nat} {h g : mj_H} (w : wJ own th sd be gs pl ty wa nw nx np K X rz j h) {L : List Nat} (e : mz_fr L h g) (hL : ∀ x, x ∈ L → x = 400 ∨ x = 412 ∨ x = 413) (h4 : mj_rd g 400 = some (yC_ th' ty sd be wa nw nx)) (o : pOu g) (l1 : g.length ≤ h.length + 1150) (z1 : mj_sz g ≤ mj_sz h + 13500) (hj : j < 512) : wI (j + 1) g := by
  have ln := w.len
  obtain ⟨w1, w2, w3, w4, w5, w6, w7, w8, w9, wa', wb, wc, wd, we, wf, wg, wh⟩ := w
  have e1 : mj_CB = 1000000 := rfl
  have l2 : 413 < g.length := by obtain ⟨_, _, q⟩ := o; exact rd_len (by decide) q
  have le := fr_len e (by omega) (fun x hx _ => by have := hL x hx; omega)
  have hz : ∀ x, x ∈ L → own x = 0 := fun x hx => w1.z (by have := hL x hx; omega)
  exact ⟨own, th', sd, be, gs, pl, ty, wa, nw, nx, np, K, X, rz, w1.len le, e _ (fun q => by have := hL _ q; omega) _ w2, h4,
    w4.fr e (fun x hx => by have := hL x hx; have := hz x hx; omega) (fun _ q => q),
    w5.fr e (fun x hx => by have := hL x hx; have := hz x hx; omega) (fun _ q => q) (fun a q => by have := (w1 a (by omega)).2; omega) (fun _ q => q),
    w6.fr e (fun x hx => by have := hL x hx; omega), w7.fr e (fun x hx => by have := hL x hx; omega),
    w8.fr e (fun x hx => by have := hL x hx; have := hz x hx; omega) (fun _ q => q), w9.fr e (fun x hx => by have := hL x hx; omega), wa'.fr e (fun x hx => by have := hL x hx; omega), o, wc.fr e (fun x hx => by have := hL x hx; omega),
    wd.fr e (fun x hx => by have := hz x hx; omega) (fun _ q => q), we.fr e (fun x hx => by have := hz x hx; omega) (fun _ q => q), by omega, by omega, by omega⟩
