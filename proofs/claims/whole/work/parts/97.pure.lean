/-- the law's pure program answers 1 on every script, within the room -/
theorem whole_pure (xs : Nat → Int32) (L : Nat) (hL : L ≤ 3072) : ∃ MF : zM, (p_L_law xs L).1 z_M0 = some (.inr 1, MF) ∧ z_nx MF ≤ 601024 ∧ z_sl MF ≤ 7293034 := by
  refine whole_of hL (fun k M i hI hi hk => ?_) (fun k M i hI hi hk => ?_) (fun k M i hI hi hk => ?_)
  · obtain ⟨c, sp, ct, cd, ns, nt, np, nc, st, H, S, n, bf, h1, h2⟩ := hI
    exact L_c1 h1 h2 hi hL
  · obtain ⟨c, sp, ct, cd, ns, nt, np, nc, st, H, S, n, bf, h1, h2⟩ := hI
    exact L_c20 h1 h2 hi hL
  · obtain ⟨c, sp, ct, cd, ns, nt, np, nc, st, H, S, n, bf, h1, h2⟩ := hI
    exact L_c21 h1 h2 hi hL
