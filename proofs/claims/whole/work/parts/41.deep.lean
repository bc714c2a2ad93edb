/-! More depth of calls says the same. -/
section MJDE
variable {G : mj_G} {rec rec' : Nat → Nat → mj_S → Option (mj_O × mj_H)} {d mi pc q : Nat} {E : mj_E} {ls : mj_L} {st : List Value} {h : mj_H} {o : mj_O × mj_H}
def mj_rrd (rec rec' : Nat → Nat → mj_S → Option (mj_O × mj_H)) : Prop := ∀ d mi S o, rec d mi S = some o → rec' (d + 1) mi S = some o
theorem mj_thr_fd (hr : mj_rrd rec rec') (h0 : mj_thr G rec d mi pc ls q h = some o) : mj_thr G rec' (d + 1) mi pc ls q h = some o := by
  unfold mj_thr at h0 ⊢
  split at h0
  · rename_i hq
    rw [if_pos hq]
    split at h0
    · rename_i ci hc
      try rw [hc]
      try dsimp only
      split at h0
      · rename_i hp hf
        try rw [hf]
        exact hr _ _ _ _ h0
      · rename_i hf
        try rw [hf]
        exact h0
      · cases h0
    · cases h0
  · cases h0
theorem mj_inv_fd (hr : mj_rrd rec rec') (h0 : mj_inv G rec d mi E pc ls st h = some o) : mj_inv G rec' (d + 1) mi E pc ls st h = some o := by
  unfold mj_inv at h0 ⊢
  split at h0
  · rename_i hc
    rw [if_pos hc]
    split at h0
    · rename_i h9
      rw [if_pos h9]
      split at h0
      · rename_i v h1 hp
        try rw [hp]
        exact hr _ _ _ _ h0
      · cases h0
    · rename_i h9
      rw [if_neg h9]
      split at h0
      · rename_i hv
        rw [if_pos hv]
        split at h0
        · cases h0
        · rename_i d'
          split at h0
          · rename_i hl
            try dsimp only
            rw [if_pos hl]
            split at h0
            · rename_i v h1 he
              rw [hr _ _ _ _ he]
              exact hr _ _ _ _ h0
            · rename_i q h1 he
              rw [hr _ _ _ _ he]
              exact mj_thr_fd hr h0
            · cases h0
          · cases h0
      · cases h0
  · cases h0
theorem mj_nx_fd (hr : mj_rrd rec rec') (h0 : mj_nx rec d mi E pc ls st h = some o) : mj_nx rec' (d + 1) mi E pc ls st h = some o := by
  unfold mj_nx at h0 ⊢
  split at h0
  · rename_i F hF
    try rw [hF]
    exact hr _ _ _ _ h0
  · rename_i hF
    try rw [hF]
    try dsimp only
    split at h0
    · rename_i S hS
      try rw [hS]
      exact hr _ _ _ _ h0
    · cases h0
set_option maxRecDepth 10000 in
theorem mj_evI_fd (hr : mj_rrd rec rec') (h0 : mj_evI G rec d mi E pc ls st h = some o) : mj_evI G rec' (d + 1) mi E pc ls st h = some o := by
  obtain ⟨ins, e2⟩ := E
  cases ins with
  | ireturn => exact h0
  | lreturn => exact h0
  | freturn => exact h0
  | dreturn => exact h0
  | areturn => exact h0
  | return_ => exact h0
  | athrow =>
    dsimp only [mj_evI] at h0 ⊢
    obtain ⟨q, r, rfl, h1⟩ := mj_pR_of h0
    exact mj_thr_fd hr h1
  | invokevirtual i =>
    have h1 : mj_inv G rec d mi (.invokevirtual i, e2) pc ls st h = some o := h0
    show mj_inv G rec' (d + 1) mi (.invokevirtual i, e2) pc ls st h = some o
    exact mj_inv_fd hr h1
  | invokespecial i =>
    have h1 : mj_inv G rec d mi (.invokespecial i, e2) pc ls st h = some o := h0
    show mj_inv G rec' (d + 1) mi (.invokespecial i, e2) pc ls st h = some o
    exact mj_inv_fd hr h1
  | invokestatic i =>
    have h1 : mj_inv G rec d mi (.invokestatic i, e2) pc ls st h = some o := h0
    show mj_inv G rec' (d + 1) mi (.invokestatic i, e2) pc ls st h = some o
    exact mj_inv_fd hr h1
  | invokeinterface i k =>
    have h1 : mj_inv G rec d mi (.invokeinterface i k, e2) pc ls st h = some o := h0
    show mj_inv G rec' (d + 1) mi (.invokeinterface i k, e2) pc ls st h = some o
    exact mj_inv_fd hr h1
  | new i =>
    dsimp only [mj_evI] at h0 ⊢
    split at h0
    · rename_i h2
      rw [if_pos h2]
      split at h0
      · rename_i S hS
        try rw [hS]
        exact hr _ _ _ _ h0
      · cases h0
    · rename_i h2
      rw [if_neg h2]
      exact h0
  | _ =>
    dsimp only [mj_evI] at h0 ⊢
    exact mj_nx_fd hr h0
end MJDE
theorem mj_ev_fd (G : mj_G) : ∀ (n : Nat), mj_rrd (mj_ev G n) (mj_ev G n)
  | 0, d, mi, S, o, h => by cases h
  | n + 1, d, mi, S, o, h => by
    unfold mj_ev at h ⊢
    split at h
    · rename_i E hE
      try rw [hE]
      exact mj_evI_fd (mj_ev_fd G n) h
    · cases h
/-- more depth -/
theorem mj_ev_deep {G : mj_G} {n d mi : Nat} {S : mj_S} {o : mj_O × mj_H} (h : mj_ev G n d mi S = some o) : ∀ k, mj_ev G n (d + k) mi S = some o
  | 0 => h
  | k + 1 => mj_ev_fd G n (d + k) mi S o (mj_ev_deep h k)
