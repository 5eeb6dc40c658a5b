/-! ===== PHASE 2: words as numbers ===== -/
/-- the number of the first k letters, base 32 -/
def tz_c (x : Nat → Nat) : Nat → Nat
  | 0 => 0
  | k + 1 => 32 * tz_c x k + x k
section PA56
variable {x d : Nat → Nat} {k m : Nat}
theorem tz_c_pos (hx : ∀ t, t < k → 1 ≤ x t ∧ x t ≤ 31) (hk : 1 ≤ k) : 1 ≤ tz_c x k := by
  cases k with
  | zero => omega
  | succ k =>
    have := (hx k (by omega)).1
    show 1 ≤ 32 * tz_c x k + x k
    omega
theorem tz_c_lt (hx : ∀ t, t < k → 1 ≤ x t ∧ x t ≤ 31) : tz_c x k < 32 ^ k := by
  induction k with
  | zero => exact Nat.one_pos
  | succ k ih =>
    have h1 := ih (fun t ht => hx t (by omega))
    have h2 := (hx k (by omega)).2
    have h3 : 32 ^ (k + 1) = 32 ^ k * 32 := Nat.pow_succ 32 k
    show 32 * tz_c x k + x k < 32 ^ (k + 1)
    rw [h3]
    generalize 32 ^ k = u at h1 ⊢
    omega
theorem tz_c_inj (hx : ∀ t, t < k → 1 ≤ x t ∧ x t ≤ 31) (hd : ∀ t, t < m → 1 ≤ d t ∧ d t ≤ 31) : tz_c x k = tz_c d m ↔ k = m ∧ ∀ t, t < k → x t = d t := by
  induction k generalizing m with
  | zero =>
    cases m with
    | zero => exact ⟨fun _ => ⟨rfl, fun t ht => by omega⟩, fun _ => rfl⟩
    | succ m =>
      have := tz_c_pos hd (by omega)
      refine ⟨fun e => ?_, fun e => by omega⟩
      have e' : (0 : Nat) = tz_c d (m + 1) := e
      omega
  | succ k ih =>
    cases m with
    | zero =>
      have := tz_c_pos hx (by omega)
      refine ⟨fun e => ?_, fun e => by omega⟩
      have e' : tz_c x (k + 1) = 0 := e
      omega
    | succ m =>
      have h1 := hx k (by omega)
      have h2 := hd m (by omega)
      have h3 := ih (m := m) (fun t ht => hx t (by omega)) (fun t ht => hd t (by omega))
      show 32 * tz_c x k + x k = 32 * tz_c d m + d m ↔ _
      constructor
      · intro e
        obtain ⟨g1, g2⟩ := h3.mp (by omega)
        refine ⟨by omega, fun t ht => ?_⟩
        by_cases c : t = k
        · subst c
          have : x t = d m := by omega
          rw [this, g1]
        · exact g2 t (by omega)
      · rintro ⟨g1, g2⟩
        have g3 : k = m := by omega
        subst g3
        have g4 := h3.mpr ⟨rfl, fun t ht => g2 t (by omega)⟩
        have g5 := g2 k (by omega)
        omega
end PA56
