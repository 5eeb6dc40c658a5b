/-! ===== PHASE 2: a minute of the model ===== -/
section PK4
variable {β : Type} {M : zM} {ct cd g st : Nat → Int32} {i j k n m t q s p l : Nat} {v x : Int32}
theorem s_tun_o {r : Nat} (h : j ≠ 5 ∧ j ≠ 205 + 3 * k ∧ j ≠ 205 + 3 * k + 1) : s_tun ct st n k r j = st j := by
  unfold s_tun
  rw [s_upn _ _ h.2.2, s_upn _ _ h.2.1, s_upn _ _ h.1]
theorem s_lnd_o (h : j ≠ 2 ∧ j ≠ 6 + s) : s_lnd ct st s j = st j := by
  unfold s_lnd
  rw [s_upn _ _ h.2, s_upn _ _ h.1]
theorem s_rl_o (hn : n ≤ 8) (hv : ∀ k, k < m → ∃ s, s < n ∧ st (205 + 3 * k + 1) = nI s) : ∀ k, k ≤ m → ∀ j, (j = 0 ∨ j = 1 ∨ j = 3 ∨ j = 4 ∨ (14 ≤ j ∧ j < 205) ∨ 205 + 3 * k ≤ j) → (s_rl ct n st k).2 j = st j
  | 0, _, _, _ => rfl
  | k + 1, hk, j, hj => by
    have ih := s_rl_o hn hv k (by omega)
    obtain ⟨s, hs, es⟩ := hv k (by omega)
    have e1 : (s_rl ct n st k).2 (205 + 3 * k + 1) = nI s := (ih _ (by omega)).trans es
    have hl := s_rl_le ct n st k
    unfold s_rl
    simp only [e1, ix_nI (show s < 2 ^ 31 by omega)]
    split
    · split
      · show s_cp _ _ _ 3 j = _
        rw [s_cp_o _ _ _ _ _ (by omega), s_tun_o (by omega)]
        exact ih j (by omega)
      · show s_lnd _ _ _ j = _
        rw [s_lnd_o (by omega)]
        exact ih j (by omega)
    · show s_cp _ _ _ 3 j = _
      rw [s_cp_o _ _ _ _ _ (by omega)]
      exact ih j (by omega)
theorem s_set_o (h : j < 22 + 18 * t ∨ 22 + 18 * t + 4 ≤ j) : s_set ct st t p s x j = st j := by
  unfold s_set
  rw [s_put_o _ _ (by omega), s_put_o _ _ (by omega), s_put_o _ _ (by omega), s_put_o _ _ (by omega)]
theorem s_car_o (h : j ≠ 6 + s ∧ j ≠ 22 + 18 * t + 4) : s_car ct st t s x j = st j := by
  unfold s_car
  rw [s_put_o _ _ h.2, s_upn _ _ h.1]
theorem s_go_o (hn : n ≤ 8) (hj : j < 6 ∨ (14 ≤ j ∧ (j < 22 + 18 * t ∨ 22 + 18 * t + 18 ≤ j))) : ∀ q st, t_ok st n t q → s_go ct t q st j = st j := by
  intro q
  induction q with
  | zero => intro st _; rfl
  | succ q ih =>
    intro st hk
    have hq := hk.2.1
    obtain ⟨s, hs, e6⟩ := hk.2.2.2 0 (by omega)
    have e6 : s_tr st t 6 = nI s := e6
    unfold s_go
    split
    · rfl
    · split
      · rw [e6, ix_nI (by omega), ih _ (t_ok_car (by omega) (t_ok_drop hk)), s_car_o (by omega), s_drop_o _ _ _ _ (by omega)]
      · rw [s_set_o (by omega), s_drop_o _ _ _ _ (by omega)]
theorem t_ok_go (hn : n ≤ 8) : ∀ q st, t_ok st n t q → (∃ b, b < 12000 ∧ st 0 = nI b) → (∀ p s, p < n → s < n → ∃ b, b < 8000 ∧ s_dr ct p s = nI b) → ∃ q', t_ok (s_go ct t q st) n t q' := by
  intro q
  induction q with
  | zero => intro st hk _ _; exact ⟨0, hk⟩
  | succ q ih =>
    intro st hk hb hdr
    have hq := hk.2.1
    obtain ⟨s, hs, e6⟩ := hk.2.2.2 0 (by omega)
    have e6 : s_tr st t 6 = nI s := e6
    unfold s_go
    by_cases h0 : s_tr st t 0 < 0
    · rw [if_pos h0]; exact ⟨_, hk⟩
    · rw [if_neg h0]
      have hd := t_ok_drop hk
      by_cases h1 : s_tr st t 6 = s_tr st t 0
      · rw [if_pos h1, e6, ix_nI (by omega)]
        refine ih _ (t_ok_car (by omega) hd) ?_ hdr
        obtain ⟨b, hb1, hb2⟩ := hb
        exact ⟨b, hb1, by rw [s_car_o (by omega), s_drop_o _ _ _ _ (by omega)]; exact hb2⟩
      · rw [if_neg h1, e6, ix_nI (by omega)]
        rcases hk.1 with ⟨p, hp, e0, _, _⟩ | ⟨e0, _⟩
        · rw [e0, ix_nI (by omega)]
          obtain ⟨b, hb1, hb2⟩ := hb
          obtain ⟨c, hc1, hc2⟩ := hdr p s hp hs
          have q0 : ∀ i, s_tr (s_set ct (s_drop st t q) t p s (s_tr st t 7)) t i = if i = 0 then -1 else if i = 3 then s_tr st t 7 else if i = 2 then s_drop st t q 0 + s_dr ct p s else if i = 1 then nI s else s_tr (s_drop st t q) t i := by
            intro i
            unfold s_set
            rw [s_put_tr, s_put_tr, s_put_tr, s_put_tr]
          refine ⟨q, Or.inr ⟨(q0 0).trans (if_pos rfl), ⟨s, hs, (q0 1).trans rfl⟩, b + c, by omega, ?_⟩, by omega, (q0 5).trans hd.2.2.1, fun i hi => ?_⟩
          · rw [q0 2]
            show s_drop st t q 0 + s_dr ct p s = _
            rw [s_drop_o _ _ _ _ (by omega), hb2, hc2, nI_add]
          · rw [q0, if_neg (by omega), if_neg (by omega), if_neg (by omega), if_neg (by omega)]
            exact hd.2.2.2 i hi
        · rw [e0] at h0; exact absurd (by decide) h0
def s_tl (ct st : Nat → Int32) : Nat → Nat → Int32
  | 0 => st
  | t + 1 => if 0 ≤ s_tr (s_tl ct st t) t 0 then s_tl ct st t else if s_tr (s_tl ct st t) t 2 = s_tl ct st t 0 then s_arr ct (s_tl ct st t) t (ix (s_tr (s_tl ct st t) t 5)) (ix (s_tr (s_tl ct st t) t 1)) else s_tl ct st t
theorem t_ok_arr0 (hp : p < n) (hk : t_ok st n t q) : t_ok (s_put (s_put (s_put st t 0 (nI p)) t 1 (-1)) t 2 (-1)) n t q := by
  refine ⟨Or.inl ⟨p, hp, ?_, ?_, ?_⟩, hk.2.1, ?_, fun i hi => ?_⟩
  · rw [s_put_tr, if_neg (by decide), s_put_tr, if_neg (by decide), s_put_tr, if_pos rfl]
  · rw [s_put_tr, if_neg (by decide), s_put_tr, if_pos rfl]
  · rw [s_put_tr, if_pos rfl]
  · rw [s_put_tr, if_neg (by decide), s_put_tr, if_neg (by decide), s_put_tr, if_neg (by decide)]; exact hk.2.2.1
  · rw [s_put_tr, if_neg (by omega), s_put_tr, if_neg (by omega), s_put_tr, if_neg (by omega)]; exact hk.2.2.2 i hi
theorem s_arr_o (hn : n ≤ 8) (hp : p < n) (hk : t_ok st n t q) (hj : j < 6 ∨ (14 ≤ j ∧ (j < 22 + 18 * t ∨ 22 + 18 * t + 18 ≤ j))) : s_arr ct st t q p j = st j := by
  unfold s_arr
  rw [s_go_o hn hj _ _ (t_ok_car (by omega) (t_ok_arr0 hp hk)), s_car_o (by omega), s_put_o _ _ (by omega), s_put_o _ _ (by omega), s_put_o _ _ (by omega)]
theorem t_ok_arr (hn : n ≤ 8) (hp : p < n) (hk : t_ok st n t q) (hb : ∃ b, b < 12000 ∧ st 0 = nI b) (hdr : ∀ p s, p < n → s < n → ∃ b, b < 8000 ∧ s_dr ct p s = nI b) : ∃ q', t_ok (s_arr ct st t q p) n t q' := by
  unfold s_arr
  refine t_ok_go hn _ _ (t_ok_car (by omega) (t_ok_arr0 hp hk)) ?_ hdr
  obtain ⟨b, h1, h2⟩ := hb
  exact ⟨b, h1, by rw [s_car_o (by omega), s_put_o _ _ (by omega), s_put_o _ _ (by omega), s_put_o _ _ (by omega)]; exact h2⟩
theorem t_ok_eq {st' : Nat → Int32} (h : ∀ i, i < 18 → s_tr st' t i = s_tr st t i) (hk : t_ok st n t q) : t_ok st' n t q := by
  obtain ⟨h1, h2, h3, h4⟩ := hk
  refine ⟨?_, h2, by rw [h 5 (by omega)]; exact h3, fun i hi => by rw [h _ (by omega)]; exact h4 i hi⟩
  rw [h 0 (by omega), h 1 (by omega), h 2 (by omega)]
  exact h1
/-- the trucks' loop: the trucks behind are as they were, all keep their form -/
theorem s_tl_ok {d : Nat} (hn : n ≤ 8) (hv : ∀ t, t < d → ∃ q, t_ok st n t q) (hb : ∃ b, b < 12000 ∧ st 0 = nI b) (hdr : ∀ p s, p < n → s < n → ∃ b, b < 8000 ∧ s_dr ct p s = nI b) : ∀ t, t ≤ d → (∀ j, (j < 6 ∨ (14 ≤ j ∧ (j < 22 ∨ 22 + 18 * t ≤ j))) → s_tl ct st t j = st j) ∧ ∀ t', t' < d → ∃ q, t_ok (s_tl ct st t) n t' q := by
  intro t
  induction t with
  | zero => intro _; exact ⟨fun _ _ => rfl, hv⟩
  | succ t ih =>
    intro ht
    obtain ⟨ih1, ih2⟩ := ih (by omega)
    unfold s_tl
    by_cases h0 : 0 ≤ s_tr (s_tl ct st t) t 0
    · rw [if_pos h0]; exact ⟨fun j hj => ih1 j (by omega), ih2⟩
    · rw [if_neg h0]
      by_cases h1 : s_tr (s_tl ct st t) t 2 = s_tl ct st t 0
      · rw [if_pos h1]
        obtain ⟨q, hq⟩ := ih2 t (by omega)
        rcases hq.1 with ⟨p, hp, e0, _, _⟩ | ⟨e0, ⟨p, hp, e1⟩, _⟩
        · rw [e0] at h0; exact absurd (nI_pos' (by omega)) h0
        · have hq6 := hq.2.1
          rw [hq.2.2.1, e1, ix_nI (by omega), ix_nI (by omega)]
          have h00 : s_tl ct st t 0 = st 0 := ih1 0 (by omega)
          refine ⟨fun j hj => ?_, fun t' ht' => ?_⟩
          · rw [s_arr_o hn hp hq (by omega)]; exact ih1 j (by omega)
          · by_cases e : t' = t
            · subst e; exact t_ok_arr hn hp hq (by rw [h00]; exact hb) hdr
            · obtain ⟨q', hq'⟩ := ih2 t' ht'
              exact ⟨q', t_ok_eq (fun i hi => s_arr_o hn hp hq (by omega)) hq'⟩
      · rw [if_neg h1]; exact ⟨fun j hj => ih1 j (by omega), ih2⟩
end PK4
