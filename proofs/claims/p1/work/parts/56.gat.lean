/-! The least gates: the class's search, as it goes. -/
theorem inb_ok {s : Int32} {N : Nat} (hN : N < 2147483648) (h1 : ¬ s < 0) (h2 : ¬ nI N ≤ s) : mj_inb s N = true := by
  refine mj_inb_is ?_
  rintro (q | q)
  · exact h1 q
  · rw [Int32.lt_iff_toInt_lt] at h1
    rw [Int32.le_iff_toInt_le, mI_ti hN] at h2
    have h0 : (0 : Int32).toInt = 0 := rfl
    rw [h0] at h1
    have q : N ≤ s.toInt.toNat := q
    omega
theorem inb_no1 {s : Int32} {N : Nat} (h1 : s < 0) : mj_inb s N = false := by
  unfold mj_inb
  rw [decide_eq_true h1]
  rfl
theorem inb_no2 {s : Int32} {N : Nat} (hN : N < 2147483648) (h2 : nI N ≤ s) : mj_inb s N = false := by
  unfold mj_inb
  have h3 : N ≤ s.toNatClampNeg := by
    show N ≤ s.toInt.toNat
    rw [Int32.le_iff_toInt_le, mI_ti hN] at h2
    omega
  rw [decide_eq_true h3, Bool.not_true, Bool.and_false]
/-- a gate on a value -/
def gpass (g v : Int32) : Int32 := if v &&& (g &&& nI 7) = g &&& nI 7 then v ^^^ (nI 1 <<< ((g >>> (nI 3 &&& 31)) &&& 31)) else v
def gfolI (o g : Int32) : Nat → Nat → Int32 → Int32
  | 0, _, r => r
  | k + 1, v, r => gfolI o g k (v + 1) (r ||| (gpass g ((o >>> ((nI 3 * nI v) &&& 31)) &&& nI 7) <<< ((nI 3 * nI v) &&& 31)))
def gfol (o g : Int32) : Int32 := gfolI o g 8 0 (nI 0)
def gat (f : Nat → Int32) (s : Int32) : Int32 := if mj_inb s 8192 = true then f s.toNatClampNeg else nI 0
def gsl (f : Nat → Int32) (o : Int32) : Nat → Int32 → Int32
  | 0, s => s
  | k + 1, s => if gat f s = 0 then s else if gat f s &&& nI 16777215 = o then s else gsl f o k ((s + nI 1) &&& nI 8191)
def gslot (f : Nat → Int32) (o : Int32) : Int32 := gsl f o 8192 (bcu (o * nI 2654435761) (nI 19))
def gkept (f : Nat → Int32) (o : Int32) : Int32 := gat f (gslot f o)
def gkeep (f : Nat → Int32) (o g : Int32) : Nat → Int32 := if mj_inb (gslot f o) 8192 = true ∧ f (gslot f o).toNatClampNeg = 0 then upd f (gslot f o).toNatClampNeg (o ||| (g <<< (nI 24 &&& 31))) else f
def gkfI (o g : Int32) (l : Nat) : Nat → Nat → (Nat → Int32) → (Nat → Int32)
  | 0, _, f => f
  | k + 1, c, f => gkfI o g l k (c + 1) (if nI c &&& (nI 1 <<< (nI l &&& 31)) = 0 then gkeep f (gfol o (nI 8 * nI l + nI c)) g else f)
def gkfO (o g : Int32) : Nat → Nat → (Nat → Int32) → (Nat → Int32)
  | 0, _, f => f
  | k + 1, l, f => gkfO o g k (l + 1) (gkfI o g l 8 0 f)
def gkf (o g : Int32) (f : Nat → Int32) : Nat → Int32 := gkfO o g 3 0 f
def gfiI (g : Nat) : Nat → Nat → (Nat → Int32) → (Nat → Int32)
  | 0, _, f => f
  | k + 1, i, f => gfiI g k (i + 1) (if f i = 0 then f else if f i >>> (nI 24 &&& 31) = nI (g - 1) then gkf (f i &&& nI 16777215) (nI g) f else f)
def gfiO : Nat → Nat → (Nat → Int32) → (Nat → Int32)
  | 0, _, f => f
  | k + 1, g, f => gfiO k (g + 1) (gfiI g 8192 0 f)
theorem gfiO_s (k g : Nat) (f : Nat → Int32) : gfiO (k + 1) g f = gfiO k (g + 1) (gfiI g 8192 0 f) := by rw [gfiO]
def gfill (f : Nat → Int32) : Nat → Int32 := gfiO 4 1 (gkeep f (nI 16434824) (nI 0))
theorem x_pass {h : mj_H} {g v : Int32} : mj_run 0 39 (0, [some (.int g), some (.int v), none], [], h) (.inl (some (.int (gpass g v))), h) := by
  refine s_ildn (p' := 1) rfl rfl rfl ?_
  refine s_bip (p' := 3) rfl rfl ?_
  refine s_sp (p' := 4) (ls' := _) rfl rfl rfl ?_
  refine s_istn (p' := 5) (ls' := [_, _, _]) rfl rfl rfl rfl ?_
  refine s_ildn (p' := 6) rfl rfl rfl ?_
  refine s_ildn (p' := 7) rfl rfl rfl ?_
  refine s_sp (p' := 8) (ls' := _) rfl rfl rfl ?_
  refine s_ildn (p' := 9) rfl rfl rfl ?_
  by_cases q : v &&& (g &&& nI 7) = g &&& nI 7
  · refine s_icmp (p' := 12) false rfl (decide_eq_false (fun z => z q)) rfl ?_
    refine s_ildn (p' := 13) rfl rfl rfl ?_
    refine s_con (p' := 14) rfl rfl ?_
    refine s_ildn (p' := 15) rfl rfl rfl ?_
    refine s_con (p' := 16) rfl rfl ?_
    refine s_sp (p' := 17) (ls' := _) rfl rfl rfl ?_
    refine s_sp (p' := 18) (ls' := _) rfl rfl rfl ?_
    refine s_sp (p' := 19) (ls' := _) rfl rfl rfl ?_
    refine s_goto (p' := 23) rfl rfl ?_
    exact s_iret rfl rfl (by unfold gpass; rw [if_pos q])
  · refine s_icmp (p' := 22) true rfl (decide_eq_true q) rfl ?_
    refine s_ildn (p' := 23) rfl rfl rfl ?_
    exact s_iret rfl rfl (by unfold gpass; rw [if_neg q])
theorem x_folL {h : mj_H} {o g : Int32} : ∀ (k v : Nat) (r : Int32), v + k = 8 → mj_run 1 51 (4, [some (.int o), some (.int g), some (.int r), some (.int (nI v))], [], h) (.inl (some (.int (gfolI o g k v r))), h)
  | 0, v, r, hv => by
    refine s_ildn (p' := 5) rfl rfl rfl ?_
    refine s_bip (p' := 7) rfl rfl ?_
    refine s_icmp (p' := 35) true rfl ((ci_ge (by omega) (by omega)).trans (decide_eq_true (by omega))) rfl ?_
    refine s_ildn (p' := 36) rfl rfl rfl ?_
    exact s_iret rfl rfl rfl
  | k + 1, v, r, hv => by
    have ih := x_folL (h := h) (o := o) (g := g) k
    refine s_ildn (p' := 5) rfl rfl rfl ?_
    refine s_bip (p' := 7) rfl rfl ?_
    refine s_icmp (p' := 10) false rfl ((ci_ge (by omega) (by omega)).trans (decide_eq_false (by omega))) rfl ?_
    refine s_ildn (p' := 11) rfl rfl rfl ?_
    refine s_ildn (p' := 12) rfl rfl rfl ?_
    refine s_ildn (p' := 13) rfl rfl rfl ?_
    refine s_con (p' := 14) rfl rfl ?_
    refine s_ildn (p' := 15) rfl rfl rfl ?_
    refine s_sp (p' := 16) (ls' := _) rfl rfl rfl ?_
    refine s_sp (p' := 17) (ls' := _) rfl rfl rfl ?_
    refine s_bip (p' := 19) rfl rfl ?_
    refine s_sp (p' := 20) (ls' := _) rfl rfl rfl ?_
    refine s_callV (p' := 23) (ls0 := [_, _, _]) rfl rfl rfl rfl rfl rfl rfl x_pass (by decide) rfl ?_
    refine s_con (p' := 24) rfl rfl ?_
    refine s_ildn (p' := 25) rfl rfl rfl ?_
    refine s_sp (p' := 26) (ls' := _) rfl rfl rfl ?_
    refine s_sp (p' := 27) (ls' := _) rfl rfl rfl ?_
    refine s_sp (p' := 28) (ls' := _) rfl rfl rfl ?_
    refine s_istn (p' := 29) (ls' := [_, _, _, _]) rfl rfl rfl rfl ?_
    refine s_inc (p' := 32) (ls' := [_, _, _, _]) rfl rfl rfl rfl rfl ?_
    rw [mI_add]
    refine s_goto (p' := 4) rfl rfl ?_
    exact ih (v + 1) _ (by omega)
theorem x_fol {h : mj_H} {o g : Int32} : mj_run 1 51 (0, [some (.int o), some (.int g), none, none], [], h) (.inl (some (.int (gfol o g))), h) := by
  refine s_con (p' := 1) rfl rfl ?_
  refine s_istn (p' := 2) (ls' := [_, _, _, _]) rfl rfl rfl rfl ?_
  refine s_con (p' := 3) rfl rfl ?_
  refine s_istn (p' := 4) (ls' := [_, _, _, _]) rfl rfl rfl rfl ?_
  exact x_folL 8 0 (nI 0) rfl
theorem x_ins {h : mj_H} {S T : Nat} {f : Nat → Int32} (hS : mj_rd h S = some (.inr (10, [.ref T]))) (hT : mj_rd h T = some (.inl (0, (8192, .inl f)))) {s : Int32} : mj_run 0 47 (0, [some (.ref S), some (.int s)], [], h) (.inl (some (.int (gat f s))), h) := by
  refine s_ildn (p' := 1) rfl rfl rfl ?_
  by_cases q : s < 0
  · refine s_if (p' := 22) true rfl (decide_eq_true q) rfl ?_
    refine s_con (p' := 23) rfl rfl ?_
    exact s_iret rfl rfl (by unfold gat; rw [if_neg (by rw [inb_no1 q]; decide)])
  · refine s_if (p' := 4) false rfl (decide_eq_false q) rfl ?_
    refine s_ildn (p' := 5) rfl rfl rfl ?_
    refine s_aldn (p' := 6) rfl rfl rfl ?_
    refine s_gf (p' := 9) rfl (by repeat (first | assumption | refine rd_app ?_ | rw [rd_setn (by first | assumption | omega)] | apply rd_set (by first | assumption | decide))) rfl rfl ?_
    refine s_len (p' := 10) rfl (mj_rdA_is (by repeat (first | assumption | refine rd_app ?_ | rw [rd_setn (by first | assumption | omega)] | apply rd_set (by first | assumption | decide))) (by decide)) (by decide) rfl ?_
    by_cases q2 : nI 8192 ≤ s
    · refine s_icmp (p' := 22) true rfl (decide_eq_true q2) rfl ?_
      refine s_con (p' := 23) rfl rfl ?_
      exact s_iret rfl rfl (by unfold gat; rw [if_neg (by rw [inb_no2 (by omega) q2]; decide)])
    · refine s_icmp (p' := 13) false rfl (decide_eq_false q2) rfl ?_
      refine s_aldn (p' := 14) rfl rfl rfl ?_
      refine s_gf (p' := 17) rfl (by repeat (first | assumption | refine rd_app ?_ | rw [rd_setn (by first | assumption | omega)] | apply rd_set (by first | assumption | decide))) rfl rfl ?_
      refine s_ildn (p' := 18) rfl rfl rfl ?_
      refine s_ial (p' := 19) rfl (by repeat (first | assumption | refine rd_app ?_ | rw [rd_setn (by first | assumption | omega)] | apply rd_set (by first | assumption | decide))) (inb_ok (by omega) q q2) rfl ?_
      refine s_goto (p' := 23) rfl rfl ?_
      exact s_iret rfl rfl (by unfold gat; rw [if_pos (inb_ok (by omega) q q2)])
theorem x_slL {h : mj_H} {S T : Nat} {f : Nat → Int32} (hS : mj_rd h S = some (.inr (10, [.ref T]))) (hT : mj_rd h T = some (.inl (0, (8192, .inl f)))) {o : Int32} : ∀ (k i : Nat) (s : Int32), i + k = 8192 → mj_run 1 46 (10, [some (.ref S), some (.int o), some (.int s), some (.int (nI i))], [], h) (.inl (some (.int (gsl f o k s))), h)
  | 0, i, s, hi => by
    refine s_ildn (p' := 11) rfl rfl rfl ?_
    refine s_sip (p' := 14) rfl rfl ?_
    refine s_icmp (p' := 51) true rfl ((ci_ge (by omega) (by omega)).trans (decide_eq_true (by omega))) rfl ?_
    refine s_ildn (p' := 52) rfl rfl rfl ?_
    exact s_iret rfl rfl rfl
  | k + 1, i, s, hi => by
    have ih := x_slL hS hT (o := o) k
    refine s_ildn (p' := 11) rfl rfl rfl ?_
    refine s_sip (p' := 14) rfl rfl ?_
    refine s_icmp (p' := 17) false rfl ((ci_ge (by omega) (by omega)).trans (decide_eq_false (by omega))) rfl ?_
    refine s_aldn (p' := 18) rfl rfl rfl ?_
    refine s_ildn (p' := 19) rfl rfl rfl ?_
    refine s_callV (p' := 22) (ls0 := [_, _]) rfl rfl rfl rfl rfl (mj_rcv_is (by repeat (first | assumption | refine rd_app ?_ | rw [rd_setn (by first | assumption | omega)] | apply rd_set (by first | assumption | decide)))) rfl (x_ins hS hT) (by decide) rfl ?_
    by_cases q : gat f s = 0
    · refine s_if (p' := 51) true rfl (decide_eq_true q) rfl ?_
      refine s_ildn (p' := 52) rfl rfl rfl ?_
      exact s_iret rfl rfl (by unfold gsl; rw [if_pos q])
    · refine s_if (p' := 25) false rfl (decide_eq_false q) rfl ?_
      refine s_aldn (p' := 26) rfl rfl rfl ?_
      refine s_ildn (p' := 27) rfl rfl rfl ?_
      refine s_callV (p' := 30) (ls0 := [_, _]) rfl rfl rfl rfl rfl (mj_rcv_is (by repeat (first | assumption | refine rd_app ?_ | rw [rd_setn (by first | assumption | omega)] | apply rd_set (by first | assumption | decide)))) rfl (x_ins hS hT) (by decide) rfl ?_
      refine s_sh (p' := 32) (ls' := _) (st' := .int (nI 16777215) :: _) (h' := _) rfl rfl rfl rfl ?_
      refine s_sp (p' := 33) (ls' := _) rfl rfl rfl ?_
      refine s_ildn (p' := 34) rfl rfl rfl ?_
      by_cases q2 : gat f s &&& nI 16777215 = o
      · refine s_icmp (p' := 51) true rfl (decide_eq_true q2) rfl ?_
        refine s_ildn (p' := 52) rfl rfl rfl ?_
        exact s_iret rfl rfl (by unfold gsl; rw [if_neg q, if_pos q2])
      · refine s_icmp (p' := 37) false rfl (decide_eq_false q2) rfl ?_
        refine s_ildn (p' := 38) rfl rfl rfl ?_
        refine s_con (p' := 39) rfl rfl ?_
        refine s_sp (p' := 40) (ls' := _) rfl rfl rfl ?_
        refine s_sip (p' := 43) rfl rfl ?_
        refine s_sp (p' := 44) (ls' := _) rfl rfl rfl ?_
        refine s_istn (p' := 45) (ls' := [_, _, _, _]) rfl rfl rfl rfl ?_
        refine s_inc (p' := 48) (ls' := [_, _, _, _]) rfl rfl rfl rfl rfl ?_
        rw [mI_add]
        refine s_goto (p' := 10) rfl rfl ?_
        rw [show gsl f o (k + 1) s = gsl f o k ((s + nI 1) &&& nI 8191) from by rw [gsl, if_neg q, if_neg q2]]
        exact ih (i + 1) _ (by omega)
theorem x_slot {h : mj_H} {S T : Nat} {f : Nat → Int32} (hS : mj_rd h S = some (.inr (10, [.ref T]))) (hT : mj_rd h T = some (.inl (0, (8192, .inl f)))) {o : Int32} : mj_run 1 46 (0, [some (.ref S), some (.int o), none, none], [], h) (.inl (some (.int (gslot f o))), h) := by
  refine s_ildn (p' := 1) rfl rfl rfl ?_
  refine s_sh (p' := 3) (ls' := _) (st' := .int (nI 2654435761) :: _) (h' := _) rfl rfl rfl rfl ?_
  refine s_sp (p' := 4) (ls' := _) rfl rfl rfl ?_
  refine s_bip (p' := 6) rfl rfl ?_
  refine s_sp (p' := 7) (ls' := _) rfl rfl rfl ?_
  refine s_istn (p' := 8) (ls' := [_, _, _, _]) rfl rfl rfl rfl ?_
  refine s_con (p' := 9) rfl rfl ?_
  refine s_istn (p' := 10) (ls' := [_, _, _, _]) rfl rfl rfl rfl ?_
  exact x_slL hS hT 8192 0 _ rfl
theorem x_kept {h : mj_H} {S T : Nat} {f : Nat → Int32} (hS : mj_rd h S = some (.inr (10, [.ref T]))) (hT : mj_rd h T = some (.inl (0, (8192, .inl f)))) {o : Int32} : mj_run 2 45 (0, [some (.ref S), some (.int o)], [], h) (.inl (some (.int (gkept f o))), h) := by
  refine s_aldn (p' := 1) rfl rfl rfl ?_
  refine s_aldn (p' := 2) rfl rfl rfl ?_
  refine s_ildn (p' := 3) rfl rfl rfl ?_
  refine s_callV (p' := 6) (ls0 := [_, _, _, _]) rfl rfl rfl rfl rfl (mj_rcv_is (by repeat (first | assumption | refine rd_app ?_ | rw [rd_setn (by first | assumption | omega)] | apply rd_set (by first | assumption | decide)))) rfl (x_slot hS hT) (by decide) rfl ?_
  refine s_callV (p' := 9) (ls0 := [_, _]) rfl rfl rfl rfl rfl (mj_rcv_is (by repeat (first | assumption | refine rd_app ?_ | rw [rd_setn (by first | assumption | omega)] | apply rd_set (by first | assumption | decide)))) rfl (x_ins hS hT) (by decide) rfl ?_
  exact s_iret rfl rfl rfl
theorem x_keep {h : mj_H} {S T : Nat} {f : Nat → Int32} (hS : mj_rd h S = some (.inr (10, [.ref T]))) (hT : mj_rd h T = some (.inl (0, (8192, .inl f)))) (bT : T < mj_CB) {o g : Int32} : mj_run 2 49 (0, [some (.ref S), some (.int o), some (.int g), none], [], h) (.inl none, h.set T (.inl (0, (8192, .inl (gkeep f o g))))) := by
  refine s_aldn (p' := 1) rfl rfl rfl ?_
  refine s_ildn (p' := 2) rfl rfl rfl ?_
  refine s_callV (p' := 5) (ls0 := [_, _, _, _]) rfl rfl rfl rfl rfl (mj_rcv_is (by repeat (first | assumption | refine rd_app ?_ | rw [rd_setn (by first | assumption | omega)] | apply rd_set (by first | assumption | decide)))) rfl (x_slot hS hT) (by decide) rfl ?_
  refine s_istn (p' := 6) (ls' := [_, _, _, _]) rfl rfl rfl rfl ?_
  refine s_ildn (p' := 7) rfl rfl rfl ?_
  by_cases q : gslot f o < 0
  · refine s_if (p' := 40) true rfl (decide_eq_true q) rfl ?_
    exact s_ret rfl (by rw [show gkeep f o g = f from if_neg (fun z => by rw [inb_no1 q] at z; cases z.1), set_same bT hT])
  · refine s_if (p' := 10) false rfl (decide_eq_false q) rfl ?_
    refine s_ildn (p' := 11) rfl rfl rfl ?_
    refine s_aldn (p' := 12) rfl rfl rfl ?_
    refine s_gf (p' := 15) rfl (by repeat (first | assumption | refine rd_app ?_ | rw [rd_setn (by first | assumption | omega)] | apply rd_set (by first | assumption | decide))) rfl rfl ?_
    refine s_len (p' := 16) rfl (mj_rdA_is (by repeat (first | assumption | refine rd_app ?_ | rw [rd_setn (by first | assumption | omega)] | apply rd_set (by first | assumption | decide))) (by decide)) (by decide) rfl ?_
    by_cases q2 : nI 8192 ≤ gslot f o
    · refine s_icmp (p' := 40) true rfl (decide_eq_true q2) rfl ?_
      exact s_ret rfl (by rw [show gkeep f o g = f from if_neg (fun z => by rw [inb_no2 (by omega) q2] at z; cases z.1), set_same bT hT])
    · refine s_icmp (p' := 19) false rfl (decide_eq_false q2) rfl ?_
      refine s_aldn (p' := 20) rfl rfl rfl ?_
      refine s_gf (p' := 23) rfl (by repeat (first | assumption | refine rd_app ?_ | rw [rd_setn (by first | assumption | omega)] | apply rd_set (by first | assumption | decide))) rfl rfl ?_
      refine s_ildn (p' := 24) rfl rfl rfl ?_
      refine s_ial (p' := 25) rfl (by repeat (first | assumption | refine rd_app ?_ | rw [rd_setn (by first | assumption | omega)] | apply rd_set (by first | assumption | decide))) (inb_ok (by omega) q q2) rfl ?_
      by_cases q3 : f (gslot f o).toNatClampNeg = 0
      · refine s_if (p' := 28) false rfl (decide_eq_false (fun z => z q3)) rfl ?_
        refine s_aldn (p' := 29) rfl rfl rfl ?_
        refine s_gf (p' := 32) rfl (by repeat (first | assumption | refine rd_app ?_ | rw [rd_setn (by first | assumption | omega)] | apply rd_set (by first | assumption | decide))) rfl rfl ?_
        refine s_ildn (p' := 33) rfl rfl rfl ?_
        refine s_ildn (p' := 34) rfl rfl rfl ?_
        refine s_ildn (p' := 35) rfl rfl rfl ?_
        refine s_bip (p' := 37) rfl rfl ?_
        refine s_sp (p' := 38) (ls' := _) rfl rfl rfl ?_
        refine s_sp (p' := 39) (ls' := _) rfl rfl rfl ?_
        refine s_ias (p' := 40) rfl bT hT (inb_ok (by omega) q q2) rfl ?_
        exact s_ret rfl (by rw [show gkeep f o g = _ from if_pos ⟨inb_ok (by omega) q q2, q3⟩])
      · refine s_if (p' := 40) true rfl (decide_eq_true q3) rfl ?_
        exact s_ret rfl (by rw [show gkeep f o g = f from if_neg (fun z => q3 z.2), set_same bT hT])
theorem x_kfI {S T : Nat} (bT : T < mj_CB) (hST : S ≠ T) {o g : Int32} {l : Nat} (hl : l < 3) {Q : mj_O × mj_H → Prop} : ∀ (k c : Nat) (f : Nat → Int32) (h : mj_H), c + k = 8 → mj_rd h S = some (.inr (10, [.ref T])) → mj_rd h T = some (.inl (0, (8192, .inl f))) → mj_Wp 3 50 (48, [some (.ref S), some (.int o), some (.int g), some (.int (nI l)), some (.int (nI 8))], [], h.set T (.inl (0, (8192, .inl (gkfI o g l k c f))))) Q → mj_Wp 3 50 (10, [some (.ref S), some (.int o), some (.int g), some (.int (nI l)), some (.int (nI c))], [], h) Q
  | 0, c, f, h, hc, hS, hT, hn => by
    obtain rfl : c = 8 := by omega
    rw [show gkfI o g l 0 8 f = f from rfl, set_same bT hT] at hn
    refine s_ild (p' := 12) rfl rfl rfl ?_
    refine s_bip (p' := 14) rfl rfl ?_
    refine s_icmp (p' := 48) true rfl ((ci_ge (by omega) (by omega)).trans (decide_eq_true (by omega))) rfl ?_
    exact hn
  | k + 1, c, f, h, hc, hS, hT, hn => by
    have ih := x_kfI bT hST hl (o := o) (g := g) (Q := Q) k
    refine s_ild (p' := 12) rfl rfl rfl ?_
    refine s_bip (p' := 14) rfl rfl ?_
    refine s_icmp (p' := 17) false rfl ((ci_ge (by omega) (by omega)).trans (decide_eq_false (by omega))) rfl ?_
    refine s_ild (p' := 19) rfl rfl rfl ?_
    refine s_con (p' := 20) rfl rfl ?_
    refine s_ildn (p' := 21) rfl rfl rfl ?_
    refine s_sp (p' := 22) (ls' := _) rfl rfl rfl ?_
    refine s_sp (p' := 23) (ls' := _) rfl rfl rfl ?_
    by_cases q : nI c &&& (nI 1 <<< (nI l &&& 31)) = 0
    · refine s_if (p' := 26) false rfl (decide_eq_false (fun z => z q)) rfl ?_
      refine s_aldn (p' := 27) rfl rfl rfl ?_
      refine s_ildn (p' := 28) rfl rfl rfl ?_
      refine s_bip (p' := 30) rfl rfl ?_
      refine s_ildn (p' := 31) rfl rfl rfl ?_
      refine s_sp (p' := 32) (ls' := _) rfl rfl rfl ?_
      refine s_ild (p' := 34) rfl rfl rfl ?_
      refine s_sp (p' := 35) (ls' := _) rfl rfl rfl ?_
      refine s_callV (p' := 38) (ls0 := [_, _, _, _]) rfl rfl rfl rfl rfl rfl rfl x_fol (by decide) rfl ?_
      refine s_ildn (p' := 39) rfl rfl rfl ?_
      refine s_callN (p' := 42) (ls0 := [_, _, _, _]) rfl rfl rfl rfl rfl (mj_rcv_is (by repeat (first | assumption | refine rd_app ?_ | rw [rd_setn (by first | assumption | omega)] | apply rd_set (by first | assumption | decide)))) rfl (x_keep hS hT bT) (by decide) rfl ?_
      refine s_inc (p' := 45) (ls' := [_, _, _, _, _]) rfl rfl rfl rfl rfl ?_
      rw [mI_add]
      refine s_goto (p' := 10) rfl rfl ?_
      rw [show gkfI o g l (k + 1) c f = gkfI o g l k (c + 1) (gkeep f (gfol o (nI 8 * nI l + nI c)) g) from by rw [gkfI, if_pos q]] at hn
      refine ih (c + 1) _ _ (by omega) ((rd_setn (Ne.symm hST)).trans hS) (rd_set bT hT) ?_
      rw [List.set_set]
      exact hn
    · refine s_if (p' := 42) true rfl (decide_eq_true q) rfl ?_
      refine s_inc (p' := 45) (ls' := [_, _, _, _, _]) rfl rfl rfl rfl rfl ?_
      rw [mI_add]
      refine s_goto (p' := 10) rfl rfl ?_
      rw [show gkfI o g l (k + 1) c f = gkfI o g l k (c + 1) f from by rw [gkfI, if_neg q]] at hn
      exact ih (c + 1) _ _ (by omega) hS hT hn
theorem x_kfO {S T : Nat} (bT : T < mj_CB) (hST : S ≠ T) {o g : Int32} : ∀ (k l : Nat) (l4 : Option Value) (f : Nat → Int32) (h : mj_H), l + k = 3 → mj_rd h S = some (.inr (10, [.ref T])) → mj_rd h T = some (.inl (0, (8192, .inl f))) → mj_run 3 50 (2, [some (.ref S), some (.int o), some (.int g), some (.int (nI l)), l4], [], h) (.inl none, h.set T (.inl (0, (8192, .inl (gkfO o g k l f)))))
  | 0, l, l4, f, h, hl, hS, hT => by
    rw [show gkfO o g 0 l f = f from rfl, set_same bT hT]
    refine s_ildn (p' := 3) rfl rfl rfl ?_
    refine s_con (p' := 4) rfl rfl ?_
    refine s_icmp (p' := 54) true rfl ((ci_ge (by omega) (by omega)).trans (decide_eq_true (by omega))) rfl ?_
    exact s_ret rfl rfl
  | k + 1, l, l4, f, h, hl, hS, hT => by
    have ih := x_kfO bT hST (o := o) (g := g) k
    refine s_ildn (p' := 3) rfl rfl rfl ?_
    refine s_con (p' := 4) rfl rfl ?_
    refine s_icmp (p' := 7) false rfl ((ci_ge (by omega) (by omega)).trans (decide_eq_false (by omega))) rfl ?_
    refine s_con (p' := 8) rfl rfl ?_
    refine s_ist (p' := 10) (ls' := [_, _, _, _, _]) rfl rfl rfl rfl ?_
    refine x_kfI bT hST (show l < 3 by omega) 8 0 f h rfl hS hT ?_
    refine s_inc (p' := 51) (ls' := [_, _, _, _, _]) rfl rfl rfl rfl rfl ?_
    rw [mI_add]
    refine s_goto (p' := 2) rfl rfl ?_
    have hz := ih (l + 1) (some (.int (nI 8))) (gkfI o g l 8 0 f) _ (by omega) ((rd_setn (Ne.symm hST)).trans hS) (rd_set bT hT)
    rw [List.set_set] at hz
    exact hz
theorem x_kf {h : mj_H} {f : Nat → Int32} {S T : Nat} (bT : T < mj_CB) (hST : S ≠ T) {o g : Int32} (hS : mj_rd h S = some (.inr (10, [.ref T]))) (hT : mj_rd h T = some (.inl (0, (8192, .inl f)))) : mj_run 3 50 (0, [some (.ref S), some (.int o), some (.int g), none, none], [], h) (.inl none, h.set T (.inl (0, (8192, .inl (gkf o g f))))) := by
  refine s_con (p' := 1) rfl rfl ?_
  refine s_istn (p' := 2) (ls' := [_, _, _, _, _]) rfl rfl rfl rfl ?_
  exact x_kfO bT hST 3 0 _ f h rfl hS hT
theorem x_fiI {S T : Nat} (bT : T < mj_CB) (hST : S ≠ T) {g : Nat} (hg1 : 1 ≤ g) (hg : g < 100) {Q : mj_O × mj_H → Prop} : ∀ (k i : Nat) (f : Nat → Int32) (h : mj_H), i + k = 8192 → mj_rd h S = some (.inr (10, [.ref T])) → mj_rd h T = some (.inl (0, (8192, .inl f))) → mj_Wp 4 48 (69, [some (.ref S), some (.int (nI g)), some (.int (nI 8192))], [], h.set T (.inl (0, (8192, .inl (gfiI g k i f))))) Q → mj_Wp 4 48 (16, [some (.ref S), some (.int (nI g)), some (.int (nI i))], [], h) Q
  | 0, i, f, h, hi, hS, hT, hn => by
    obtain rfl : i = 8192 := by omega
    rw [show gfiI g 0 8192 f = f from rfl, set_same bT hT] at hn
    refine s_ildn (p' := 17) rfl rfl rfl ?_
    refine s_aldn (p' := 18) rfl rfl rfl ?_
    refine s_gf (p' := 21) rfl (by repeat (first | assumption | refine rd_app ?_ | rw [rd_setn (by first | assumption | omega)] | apply rd_set (by first | assumption | decide))) rfl rfl ?_
    refine s_len (p' := 22) rfl (mj_rdA_is (by repeat (first | assumption | refine rd_app ?_ | rw [rd_setn (by first | assumption | omega)] | apply rd_set (by first | assumption | decide))) (by decide)) (by decide) rfl ?_
    refine s_icmp (p' := 69) true rfl ((ci_ge (by omega) (by omega)).trans (decide_eq_true (by omega))) rfl ?_
    exact hn
  | k + 1, i, f, h, hi, hS, hT, hn => by
    have ih := x_fiI bT hST hg1 hg (Q := Q) k
    refine s_ildn (p' := 17) rfl rfl rfl ?_
    refine s_aldn (p' := 18) rfl rfl rfl ?_
    refine s_gf (p' := 21) rfl (by repeat (first | assumption | refine rd_app ?_ | rw [rd_setn (by first | assumption | omega)] | apply rd_set (by first | assumption | decide))) rfl rfl ?_
    refine s_len (p' := 22) rfl (mj_rdA_is (by repeat (first | assumption | refine rd_app ?_ | rw [rd_setn (by first | assumption | omega)] | apply rd_set (by first | assumption | decide))) (by decide)) (by decide) rfl ?_
    refine s_icmp (p' := 25) false rfl ((ci_ge (by omega) (by omega)).trans (decide_eq_false (by omega))) rfl ?_
    refine s_aldn (p' := 26) rfl rfl rfl ?_
    refine s_gf (p' := 29) rfl (by repeat (first | assumption | refine rd_app ?_ | rw [rd_setn (by first | assumption | omega)] | apply rd_set (by first | assumption | decide))) rfl rfl ?_
    refine s_ildn (p' := 30) rfl rfl rfl ?_
    refine s_ial (p' := 31) rfl (by repeat (first | assumption | refine rd_app ?_ | rw [rd_setn (by first | assumption | omega)] | apply rd_set (by first | assumption | decide))) (inb_nI (by omega) (by omega)) rfl ?_
    rw [mI_cl (by omega)]
    by_cases q : f i = 0
    · refine s_if (p' := 63) true rfl (decide_eq_true q) rfl ?_
      refine s_inc (p' := 66) (ls' := [_, _, _]) rfl rfl rfl rfl rfl ?_
      rw [mI_add]
      refine s_goto (p' := 16) rfl rfl ?_
      rw [show gfiI g (k + 1) i f = gfiI g k (i + 1) f from by rw [gfiI, if_pos q]] at hn
      exact ih (i + 1) _ _ (by omega) hS hT hn
    · refine s_if (p' := 34) false rfl (decide_eq_false q) rfl ?_
      refine s_aldn (p' := 35) rfl rfl rfl ?_
      refine s_gf (p' := 38) rfl (by repeat (first | assumption | refine rd_app ?_ | rw [rd_setn (by first | assumption | omega)] | apply rd_set (by first | assumption | decide))) rfl rfl ?_
      refine s_ildn (p' := 39) rfl rfl rfl ?_
      refine s_ial (p' := 40) rfl (by repeat (first | assumption | refine rd_app ?_ | rw [rd_setn (by first | assumption | omega)] | apply rd_set (by first | assumption | decide))) (inb_nI (by omega) (by omega)) rfl ?_
      rw [mI_cl (by omega)]
      refine s_bip (p' := 42) rfl rfl ?_
      refine s_sp (p' := 43) (ls' := _) rfl rfl rfl ?_
      refine s_ildn (p' := 44) rfl rfl rfl ?_
      refine s_con (p' := 45) rfl rfl ?_
      refine s_sp (p' := 46) (ls' := _) rfl rfl rfl ?_
      rw [mI_sub hg1]
      by_cases q2 : f i >>> (nI 24 &&& 31) = nI (g - 1)
      · refine s_icmp (p' := 49) false rfl (decide_eq_false (fun z => z q2)) rfl ?_
        refine s_aldn (p' := 50) rfl rfl rfl ?_
        refine s_aldn (p' := 51) rfl rfl rfl ?_
        refine s_gf (p' := 54) rfl (by repeat (first | assumption | refine rd_app ?_ | rw [rd_setn (by first | assumption | omega)] | apply rd_set (by first | assumption | decide))) rfl rfl ?_
        refine s_ildn (p' := 55) rfl rfl rfl ?_
        refine s_ial (p' := 56) rfl (by repeat (first | assumption | refine rd_app ?_ | rw [rd_setn (by first | assumption | omega)] | apply rd_set (by first | assumption | decide))) (inb_nI (by omega) (by omega)) rfl ?_
        rw [mI_cl (by omega)]
        refine s_sh (p' := 58) (ls' := _) (st' := .int (nI 16777215) :: _) (h' := _) rfl rfl rfl rfl ?_
        refine s_sp (p' := 59) (ls' := _) rfl rfl rfl ?_
        refine s_ildn (p' := 60) rfl rfl rfl ?_
        refine s_callN (p' := 63) (ls0 := [_, _, _, _, _]) rfl rfl rfl rfl rfl (mj_rcv_is (by repeat (first | assumption | refine rd_app ?_ | rw [rd_setn (by first | assumption | omega)] | apply rd_set (by first | assumption | decide)))) rfl (x_kf bT hST hS hT) (by decide) rfl ?_
        refine s_inc (p' := 66) (ls' := [_, _, _]) rfl rfl rfl rfl rfl ?_
        rw [mI_add]
        refine s_goto (p' := 16) rfl rfl ?_
        rw [show gfiI g (k + 1) i f = gfiI g k (i + 1) (gkf (f i &&& nI 16777215) (nI g) f) from by rw [gfiI, if_neg q, if_pos q2]] at hn
        refine ih (i + 1) _ _ (by omega) ((rd_setn (Ne.symm hST)).trans hS) (rd_set bT hT) ?_
        rw [List.set_set]
        exact hn
      · refine s_icmp (p' := 63) true rfl (decide_eq_true q2) rfl ?_
        refine s_inc (p' := 66) (ls' := [_, _, _]) rfl rfl rfl rfl rfl ?_
        rw [mI_add]
        refine s_goto (p' := 16) rfl rfl ?_
        rw [show gfiI g (k + 1) i f = gfiI g k (i + 1) f from by rw [gfiI, if_neg q, if_neg q2]] at hn
        exact ih (i + 1) _ _ (by omega) hS hT hn
theorem x_fiO {S T : Nat} (bT : T < mj_CB) (hST : S ≠ T) : ∀ (k g : Nat) (l2 : Option Value) (f : Nat → Int32) (h : mj_H), g + k = 5 → 1 ≤ g → mj_rd h S = some (.inr (10, [.ref T])) → mj_rd h T = some (.inl (0, (8192, .inl f))) → mj_run 4 48 (9, [some (.ref S), some (.int (nI g)), l2], [], h) (.inl none, h.set T (.inl (0, (8192, .inl (gfiO k g f)))))
  | 0, g, l2, f, h, hg, hg1, hS, hT => by
    rw [show gfiO 0 g f = f from rfl, set_same bT hT]
    refine s_ildn (p' := 10) rfl rfl rfl ?_
    refine s_con (p' := 11) rfl rfl ?_
    refine s_icmp (p' := 75) true rfl ((ci_gt (by omega) (by omega)).trans (decide_eq_true (by omega))) rfl ?_
    exact s_ret rfl rfl
  | k + 1, g, l2, f, h, hg, hg1, hS, hT => by
    have ih := x_fiO bT hST k
    refine s_ildn (p' := 10) rfl rfl rfl ?_
    refine s_con (p' := 11) rfl rfl ?_
    refine s_icmp (p' := 14) false rfl ((ci_gt (by omega) (by omega)).trans (decide_eq_false (by omega))) rfl ?_
    refine s_con (p' := 15) rfl rfl ?_
    refine s_istn (p' := 16) (ls' := [_, _, _]) rfl rfl rfl rfl ?_
    refine x_fiI bT hST hg1 (by omega) 8192 0 f h rfl hS hT ?_
    refine s_inc (p' := 72) (ls' := [_, _, _]) rfl rfl rfl rfl rfl ?_
    rw [mI_add]
    refine s_goto (p' := 9) rfl rfl ?_
    have hz := ih (g + 1) (some (.int (nI 8192))) (gfiI g 8192 0 f) _ (by omega) (by omega) ((rd_setn (Ne.symm hST)).trans hS) (rd_set bT hT)
    rw [List.set_set, ← gfiO_s] at hz
    exact hz
theorem x_gfill {h : mj_H} {f : Nat → Int32} {S T : Nat} (bT : T < mj_CB) (hST : S ≠ T) (hS : mj_rd h S = some (.inr (10, [.ref T]))) (hT : mj_rd h T = some (.inl (0, (8192, .inl f)))) : mj_run 4 48 (0, [some (.ref S), none, none], [], h) (.inl none, h.set T (.inl (0, (8192, .inl (gfill f))))) := by
  refine s_aldn (p' := 1) rfl rfl rfl ?_
  refine s_sh (p' := 3) (ls' := _) (st' := .int (nI 16434824) :: _) (h' := _) rfl rfl rfl rfl ?_
  refine s_con (p' := 4) rfl rfl ?_
  refine s_callN (p' := 7) (ls0 := [_, _, _, _]) rfl rfl rfl rfl rfl (mj_rcv_is (by repeat (first | assumption | refine rd_app ?_ | rw [rd_setn (by first | assumption | omega)] | apply rd_set (by first | assumption | decide)))) rfl (x_keep hS hT bT) (by decide) rfl ?_
  refine s_con (p' := 8) rfl rfl ?_
  refine s_istn (p' := 9) (ls' := [_, _, _]) rfl rfl rfl rfl ?_
  have hz := x_fiO bT hST 4 1 none (gkeep f (nI 16434824) (nI 0)) _ rfl (by omega) ((rd_setn (c := .inl (0, (8192, .inl (gkeep f (nI 16434824) (nI 0))))) (Ne.symm hST)).trans hS) (rd_set bT hT)
  rw [List.set_set] at hz
  exact hz
