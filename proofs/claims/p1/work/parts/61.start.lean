/-! From the entry to the end. -/
/-- YOUR PART: from the entry, for every script of at most 4 ints, the law comes to its end with true ('hflags': the launch's flags, for a law that throws: no stack traces) -/
theorem whole_start {p : Program} {e : Env} {s : State} {m : MethodId} {below : List Frame} {meth : Method} {c : Code} (l : Launch) (hflags : l.flags = flags0) {b L : Nat} {xs : Nat → Int32} (hL : L ≤ 4) (C0 : lw_At p s m meth c b L xs) : W p l e room_1 s m #[Value.ref b] below meth c s.heap [] 0 0 (lw_Z below #[Value.ref b] s) (entryFrame m ([Value.ref b] : List Value).toArray 10) := by
  obtain ⟨n, d, k, h', hd, h0, h1, h2⟩ := p1_fin hL xs
  exact mj_whole l hflags hd h0 (Nat.le_trans h1 (by omega)) (Nat.le_trans h2 (by omega)) C0
