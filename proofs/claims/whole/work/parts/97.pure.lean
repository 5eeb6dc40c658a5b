/-- the law's pure program answers 1 on every script, within the room -/
theorem whole_pure (xs : Nat → Int32) (L : Nat) (hL : L ≤ 3072) : ∃ MF : zM, (p_L_law xs L).1 z_M0 = some (.inr 1, MF) ∧ z_nx MF ≤ 601024 ∧ z_sl MF ≤ 7293034 := by
  sorry
