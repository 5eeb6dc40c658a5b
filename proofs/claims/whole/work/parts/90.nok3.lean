/-! ===== PHASE 2: numbers stay in range: riders and rides ===== -/
section PRg
variable {ct cd st st' : Nat → Int32} {ns nt t s p x q j k n r : Nat}
theorem n_ok_co (h : n_ok ct st ns nt) (hns : ns ≤ 8) (hnt : nt ≤ 3) (he : ∀ j, j < 76 → st' j = st j) : n_ok ct st' ns nt := n_ok_fr h (fun k hk => ⟨he _ (by omega), he _ (by omega)⟩) (fun t ht i hi _ => Or.inl (he _ (by omega)))
theorem n_ok_bike (h : n_ok ct st ns nt) (hns : ns ≤ 8) (hnt : nt ≤ 3) (hs : s < ns) {b' : Nat} (hb : st' (6 + s) = nI b') (hle : ∀ br e, st (14 + s) = nI br → br ≤ 20 → ct (26 + s) = nI e → e ≤ 20 → b' + br ≤ e) (he : ∀ j, j < 76 → j ≠ 6 + s → j = 2 ∨ j = 1 ∨ j = 3 ∨ st' j = st j) : n_ok ct st' ns nt := by
  have he' : ∀ j, j < 76 → 6 ≤ j → j ≠ 6 + s → st' j = st j := fun j h1 h2 h3 => by
    rcases he j h1 h3 with h | h | h | h
    · omega
    · omega
    · omega
    · exact h
  obtain ⟨h1, h2, h3⟩ := h
  refine ⟨fun k hk => ?_, fun t ht => ?_, fun t ht q hq e5 => ?_⟩
  · obtain ⟨b, br, e, g1, g2, g3, g4, g5⟩ := h1 k hk
    rw [he' (14 + k) (by omega) (by omega) (by omega)]
    by_cases hks : k = s
    · subst hks
      exact ⟨b', br, e, hb, g2, g3, hle br e g2 (by omega) g3 g5, g5⟩
    · rw [he' (6 + k) (by omega) (by omega) (by omega)]
      exact ⟨b, br, e, g1, g2, g3, g4, g5⟩
  · rw [s_tr_o (he' _ (by omega) (by omega) (by omega))]; exact h2 t ht
  · rw [s_tr_o (he' _ (by omega) (by omega) (by omega))] at e5
    have h := h3 t ht q hq e5
    refine ⟨?_, fun i hi => ?_⟩
    · rw [s_tr_o (he' _ (by omega) (by omega) (by omega))]; exact h.1
    · rw [s_tr_o (he' _ (by omega) (by omega) (by omega))]; exact h.2 i hi
theorem n_ok_fr0 (h : n_ok ct st ns nt) (hs : s < ns) : ∃ b br e, st (6 + s) = nI b ∧ st (14 + s) = nI br ∧ ct (26 + s) = nI e ∧ b + br ≤ e ∧ e ≤ 20 ∧ s_fr ct st s = nI (e - br - b) := by
  obtain ⟨b, br, e, g1, g2, g3, g4, g5⟩ := h.1 s hs
  refine ⟨b, br, e, g1, g2, g3, g4, g5, ?_⟩
  unfold s_fr s_wk
  rw [g1, g2, g3, nI_sub (by omega), nI_sub (by omega)]
theorem n_ok_lnd (h : n_ok ct st ns nt) (hns : ns ≤ 8) (hnt : nt ≤ 3) (hs : s < ns) (hf : ¬ s_fr ct st s ≤ 0) : n_ok ct (s_lnd ct st s) ns nt := by
  obtain ⟨b, br, e, g1, g2, g3, g4, g5, g6⟩ := n_ok_fr0 h hs
  have hpos : 0 < e - br - b := by
    rcases Nat.eq_zero_or_pos (e - br - b) with h0 | h0
    · rw [g6, h0] at hf
      exact absurd (Int32.le_refl _) hf
    · exact h0
  refine n_ok_bike (s := s) (b' := b + 1) h hns hnt hs ?_ ?_ ?_
  · unfold s_lnd
    rw [s_ups, g1, nI_1]
  · intro br' e' h1 h1' h2 h2'
    have e1 : br = br' := (nI_eq (by omega) (by omega)).mp (g2.symm.trans h1)
    have e2 : e = e' := (nI_eq (by omega) (by omega)).mp (g3.symm.trans h2)
    omega
  · intro j hj hjs
    by_cases h2 : j = 2
    · exact Or.inl h2
    · exact Or.inr (Or.inr (Or.inr (s_lnd_o ⟨h2, hjs⟩)))
theorem n_ok_pr (hns : ns ≤ 8) (hnt : nt ≤ 3) : ∀ (A : List zRd) (st : Nat → Int32), n_ok ct st ns nt → (∀ x ∈ A, x.2.2.2 < ns) → n_ok ct (s_pr ct ns A st).2 ns nt
  | [], st, h, _ => h
  | x :: A, st, h, hA => by
    have hx := hA x (List.mem_cons_self ..)
    have hA' := fun y hy => hA y (List.mem_cons_of_mem x hy)
    unfold s_pr
    split
    · split
      · refine n_ok_pr hns hnt A _ (n_ok_fr h (fun k hk => ⟨s_upn _ _ (by omega), s_upn _ _ (by omega)⟩) (fun t ht i hi _ => Or.inl (s_tr_o (s_upn _ _ (by omega))))) hA'
      · rename_i hf
        exact n_ok_pr hns hnt A _ (n_ok_lnd h hns hnt hx hf) hA'
    · exact n_ok_pr hns hnt A _ h hA'
theorem n_ok_beg (h : n_ok ct st ns nt) (hns : ns ≤ 8) (hnt : nt ≤ 3) (hj : j < ns) (hk : k < ns) (h0 : ¬ st (6 + j) = 0) : n_ok ct (s_beg ct cd st n r j k) ns nt := by
  obtain ⟨b, br, e, g1, g2, g3, g4, g5, g6⟩ := n_ok_fr0 h hj
  have hpos : 1 ≤ b := by
    rcases Nat.eq_zero_or_pos b with hb | hb
    · rw [g1, hb] at h0; exact absurd rfl h0
    · exact hb
  have hsv := s_beg_v (ct := ct) (cd := cd) (st := st) (n := n) (r := r) (j := j) (k := k) (by omega) (by omega)
  refine n_ok_bike (s := j) (b' := b - 1) h hns hnt hj ?_ ?_ ?_
  · rw [hsv.2.1, g1, nI_dec' hpos]
  · intro br' e' h1 h1' h2 h2'
    have e1 : br = br' := (nI_eq (by omega) (by omega)).mp (g2.symm.trans h1)
    have e2 : e = e' := (nI_eq (by omega) (by omega)).mp (g3.symm.trans h2)
    omega
  · intro i hi hij
    by_cases h1 : i = 1
    · exact Or.inr (Or.inl h1)
    · by_cases h3 : i = 3
      · exact Or.inr (Or.inr (Or.inl h3))
      · exact Or.inr (Or.inr (Or.inr (s_beg_o (by omega))))
end PRg
