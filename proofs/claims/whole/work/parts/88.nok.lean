/-! ===== PHASE 2: numbers stay in range ===== -/
def n_ok (ct st : Nat → Int32) (ns nt : Nat) : Prop := b_ok ct st ns ∧ l_ok ct st nt ∧ ∀ t, t < nt → ∀ q, q ≤ 6 → s_tr st t 5 = nI q → o_ok st t q
section PRe
variable {ct st : Nat → Int32} {ns nt t s x q : Nat}
theorem s_tr_o {st st' : Nat → Int32} {t' i : Nat} (h : st' (22 + 18 * t' + i) = st (22 + 18 * t' + i)) : s_tr st' t' i = s_tr st t' i := h
theorem n_ok_car (h : n_ok ct st ns nt) (hns : ns ≤ 8) (hnt : nt ≤ 3) (hs : s < ns) (ht : t < nt) (hx : x ≤ 20) : n_ok ct (s_car ct st t s (nI x)) ns nt := by
  obtain ⟨hb, hl, ho⟩ := h
  obtain ⟨b, br, e, h1, h2, h3, h4, h5⟩ := hb s hs
  obtain ⟨u, v, g1, g2, g3, g4⟩ := hl t ht
  have hm := s_mv_ok (ct := ct) (st := st) h1 h2 h3 h4 h5 g1 g2 g3 g4 hx
  have e6 : s_car ct st t s (nI x) (6 + s) = st (6 + s) + s_mv ct st t s (nI x) := by
    unfold s_car
    rw [s_put_o _ _ (by omega), s_ups]
  have e4 : s_tr (s_car ct st t s (nI x)) t 4 = s_tr st t 4 - s_mv ct st t s (nI x) := by
    unfold s_car
    rw [s_put_tr, if_pos rfl]
  refine ⟨fun k hk => ?_, fun t' ht' => ?_, fun t' ht' q hq e5 => ?_⟩
  · by_cases hks : k = s
    · subst hks
      rw [e6, s_car_o (by omega), h1]
      rcases hm with ⟨m, m1, m2, m3⟩ | ⟨m, m1, m2, m3⟩
      · rw [m3]
        exact ⟨b + m, br, e, nI_add _ _, h2, h3, by omega, h5⟩
      · rw [m3]
        exact ⟨b - m, br, e, by rw [← Int32.sub_eq_add_neg, nI_sub m1], h2, h3, by omega, h5⟩
    · rw [s_car_o (by omega), s_car_o (by omega)]
      exact hb k hk
  · by_cases htt : t' = t
    · subst htt
      rw [e4, g1]
      rcases hm with ⟨m, m1, m2, m3⟩ | ⟨m, m1, m2, m3⟩
      · rw [m3]
        exact ⟨u - m, v, nI_sub m1, g2, by omega, g4⟩
      · rw [m3]
        exact ⟨u + m, v, by rw [Int32.sub_neg, nI_add], g2, by omega, g4⟩
    · rw [s_tr_o (s_car_o (by omega))]
      exact hl t' ht'
  · rw [s_tr_o (s_car_o (by omega))] at e5
    have h := ho t' ht' q hq e5
    refine ⟨?_, fun i hi => ?_⟩
    · rw [s_tr_o (s_car_o (by omega))]; exact h.1
    · rw [s_tr_o (s_car_o (by omega))]; exact h.2 i hi
theorem n_ok_drop (h : n_ok ct st ns nt) (hns : ns ≤ 8) (ht : t < nt) (hq : q < 6) (h5 : s_tr st t 5 = nI (q + 1)) : n_ok ct (s_drop st t q) ns nt := by
  obtain ⟨hb, hl, ho⟩ := h
  refine ⟨fun k hk => ?_, fun t' ht' => ?_, fun t' ht' q' hq' e5 => ?_⟩
  · rw [s_drop_o _ _ _ _ (by omega), s_drop_o _ _ _ _ (by omega)]
    exact hb k hk
  · rw [s_tr_o (s_drop_o st t q _ (by omega))]
    exact hl t' ht'
  · by_cases htt : t' = t
    · subst htt
      rw [s_drop_tr _ _ _ _ (by omega), if_pos rfl] at e5
      have eq : q = q' := (nI_eq (by omega) (by omega)).mp e5
      subst eq
      have h := ho t' ht' (q + 1) (by omega) h5
      refine ⟨?_, fun i hi => ?_⟩
      · rw [s_drop_tr _ _ _ _ (by omega), if_neg (by decide), if_neg (by decide)]; exact h.1
      · rw [s_drop_tr _ _ _ _ (by omega), if_neg (by omega), if_pos (by omega)]
        exact h.2 (i + 1) (by omega)
    · rw [s_tr_o (s_drop_o st t q _ (by omega))] at e5
      have h := ho t' ht' q' hq' e5
      refine ⟨?_, fun i hi => ?_⟩
      · rw [s_tr_o (s_drop_o st t q _ (by omega))]; exact h.1
      · rw [s_tr_o (s_drop_o st t q _ (by omega))]; exact h.2 i hi
end PRe
