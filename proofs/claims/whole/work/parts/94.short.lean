/-! ===== PHASE 2: rides and drives are short ===== -/
theorem s_ab_ok {x y : Nat} (hx : x < 100) (hy : y < 100) : ∃ z, z < 100 ∧ s_ab (nI x - nI y) = nI z := by
  unfold s_ab
  by_cases h : y ≤ x
  · rw [nI_sub h, if_pos (nI_pos' (by omega))]
    exact ⟨x - y, by omega, rfl⟩
  · have e : nI x - nI y = - nI (y - x) := by rw [← nI_neg_sub (x := x) (y := y) (by omega), Int32.neg_neg]
    have hn : ¬ (0 : Int32) ≤ - nI (y - x) := by
      rw [i_le, Int32.toInt_neg, nI_toInt (by omega)]
      rw [show ((-((y - x : Nat) : Int)).bmod (2 ^ 32)) = -((y - x : Nat) : Int) from Int.bmod_eq_of_le (by omega) (by omega)]
      have : (0 : Int32).toInt = 0 := rfl
      omega
    rw [e, if_neg hn, Int32.neg_neg]
    exact ⟨y - x, by omega, rfl⟩
theorem s_ds_ok {ct cd : Nat → Int32} {ns nt np nc p s : Nat} (hc : c_ok ct cd ns nt np nc) (hp : p < ns) (hs : s < ns) : ∃ z, z < 199 ∧ s_ds ct p s = nI z := by
  obtain ⟨x, y, _, _, hx, hy, _, _, _, ex, ey, _⟩ := hc.2.2.2.1 p hp
  obtain ⟨x2, y2, _, _, hx2, hy2, _, _, _, ex2, ey2, _⟩ := hc.2.2.2.1 s hs
  obtain ⟨u, hu, eu⟩ := s_ab_ok hx hx2
  obtain ⟨v, hv, ev⟩ := s_ab_ok hy hy2
  unfold s_ds
  rw [ex, ex2, ey, ey2, eu, ev, nI_add]
  exact ⟨u + v, by omega, rfl⟩
theorem rd_ok {ct cd : Nat → Int32} {ns nt np nc : Nat} (hc : c_ok ct cd ns nt np nc) : ∀ p s, p < ns → s < ns → ∃ b, 1 ≤ b ∧ b < 10000 ∧ s_rd ct p s = nI b := by
  intro p s hp hs
  obtain ⟨z, hz, ez⟩ := s_ds_ok hc hp hs
  obtain ⟨u, _, _, _, _, hu, _, _, _, _, eu, _⟩ := hc.2.2.2.2.1
  have h1 : z * u ≤ 198 * 99 := Nat.mul_le_mul (by omega) (by omega)
  unfold s_rd
  rw [ez, eu, nI_mul, show (10 : Int32) = nI 10 from rfl, pk_div (by omega) (by decide) (by decide), show (1 : Int32) = nI 1 from rfl, nI_add]
  exact ⟨1 + z * u / 10, by omega, by omega, rfl⟩
theorem dr_ok {ct cd : Nat → Int32} {ns nt np nc : Nat} (hc : c_ok ct cd ns nt np nc) : ∀ p s, p < ns → s < ns → ∃ b, b < 8000 ∧ s_dr ct p s = nI b := by
  intro p s hp hs
  obtain ⟨z, hz, ez⟩ := s_ds_ok hc hp hs
  obtain ⟨_, u, _, _, _, _, hu, _, _, _, _, eu, _⟩ := hc.2.2.2.2.1
  have h1 : z * u ≤ 198 * 99 := Nat.mul_le_mul (by omega) (by omega)
  unfold s_dr
  rw [ez, eu, nI_mul, show (10 : Int32) = nI 10 from rfl, pk_div (by omega) (by decide) (by decide), show (1 : Int32) = nI 1 from rfl, nI_add]
  exact ⟨1 + z * u / 10, by omega, rfl⟩

