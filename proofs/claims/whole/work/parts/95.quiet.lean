/-! ===== PHASE 2: a quiet minute ===== -/
section PRl
variable {ct cd st : Nat → Int32} {ns nt np nc r : Nat}
theorem s_tl_q (h : ∀ t, t < nt → 0 ≤ s_tr st t 0 ∨ ¬ s_tr st t 2 = st 0) : ∀ t, t ≤ nt → s_tl ct st t = st
  | 0, _ => rfl
  | t + 1, ht => by
    rw [s_tl, s_tl_q h t (by omega)]
    split
    · rfl
    · rename_i h0
      rcases h t (by omega) with h1 | h1
      · exact absurd h1 h0
      · rw [if_neg h1]
theorem s_tp_q (h : ∀ p, p < np → ¬ ct (108 + p) = st 0 - st 0 / 1440 * 1440) : ∀ p, p ≤ np → s_tp ct cd nc st p = st
  | 0, _ => rfl
  | p + 1, hp => by rw [s_tp, s_tp_q h p (by omega), if_neg (h p (by omega))]
theorem s_up_id (f : Nat → Int32) (k : Nat) : s_up f k (f k) = f := by
  funext j
  unfold s_up
  split
  · rename_i h; rw [h]
  · rfl
theorem s_cp_id (f : Nat → Int32) (k : Nat) : ∀ i, s_cp f k k i = f
  | 0 => rfl
  | i + 1 => by rw [s_cp, s_cp_id f k i, s_up_id]
theorem s_rl_q (h : ∀ k, k < r → ¬ st (205 + 3 * k) = st 0) : ∀ k, k ≤ r → s_rl ct ns st k = (k, st)
  | 0, _ => rfl
  | k + 1, hk => by
    have ih := s_rl_q h k (by omega)
    unfold s_rl
    rw [ih]
    show (if st (205 + 3 * k) = st 0 then _ else (k + 1, s_cp st k k 3)) = _
    rw [if_neg (h k (by omega)), s_cp_id]
theorem s_rd2_q (h : ∀ k, k < r → ¬ st (205 + 3 * k) = st 0) (hr : st 204 = nI r) : s_rd2 ct ns st r = st := by
  unfold s_rd2
  rw [s_rl_q h r (Nat.le_refl _)]
  show s_up st 204 (nI r) = st
  rw [← hr, s_up_id]
end PRl
