/-! ===== PHASE 2: numbers stay in range: goOn, arrive, the trucks' loop ===== -/
section PRf
variable {ct st : Nat → Int32} {ns nt t s p x q : Nat}
theorem n_ok_fr {st' : Nat → Int32} (h : n_ok ct st ns nt) (hb : ∀ k, k < ns → st' (6 + k) = st (6 + k) ∧ st' (14 + k) = st (14 + k)) (hl : ∀ t, t < nt → ∀ i, i < 18 → 3 ≤ i → s_tr st' t i = s_tr st t i ∨ (i = 3 ∧ ∃ x, x ≤ 20 ∧ s_tr st' t 3 = nI x)) : n_ok ct st' ns nt := by
  obtain ⟨h1, h2, h3⟩ := h
  have hi : ∀ t, t < nt → ∀ i, i < 18 → 4 ≤ i → s_tr st' t i = s_tr st t i := fun t ht i hi h4 => by
    rcases hl t ht i hi (by omega) with h | h
    · exact h
    · omega
  refine ⟨fun k hk => ?_, fun t ht => ?_, fun t ht q hq e5 => ?_⟩
  · rw [(hb k hk).1, (hb k hk).2]; exact h1 k hk
  · rw [hi t ht 4 (by omega) (by omega)]; exact h2 t ht
  · rw [hi t ht 5 (by omega) (by omega)] at e5
    have h := h3 t ht q hq e5
    refine ⟨?_, fun i hq2 => ?_⟩
    · rcases hl t ht 3 (by omega) (by omega) with h' | ⟨_, h'⟩
      · rw [h']; exact h.1
      · exact h'
    · rw [hi t ht _ (by omega) (by omega)]; exact h.2 i hq2
theorem n_ok_set (h : n_ok ct st ns nt) (hns : ns ≤ 8) (hx : x ≤ 20) : n_ok ct (s_set ct st t p s (nI x)) ns nt := by
  refine n_ok_fr h (fun k hk => ⟨s_set_o (by omega), s_set_o (by omega)⟩) (fun t' ht' i hi h3 => ?_)
  by_cases e : t' = t ∧ i = 3
  · refine Or.inr ⟨e.2, x, hx, ?_⟩
    rw [e.1]
    unfold s_set
    rw [s_put_tr, if_neg (by decide), s_put_tr, if_pos rfl]
  · refine Or.inl (s_tr_o (s_set_o ?_))
    omega
theorem n_ok_go (hns : ns ≤ 8) (hnt : nt ≤ 3) (ht : t < nt) : ∀ q st, t_ok st ns t q → n_ok ct st ns nt → n_ok ct (s_go ct t q st) ns nt := by
  intro q
  induction q with
  | zero => intro st _ h; exact h
  | succ q ih =>
    intro st hk h
    have hq := hk.2.1
    obtain ⟨s, hs, e6⟩ := hk.2.2.2 0 (by omega)
    have e6 : s_tr st t 6 = nI s := e6
    obtain ⟨x, hx, e7⟩ := (h.2.2 t ht (q + 1) hq hk.2.2.1).2 0 (by omega)
    have e7 : s_tr st t 7 = nI x := e7
    unfold s_go
    split
    · exact h
    · split
      · rw [e6, e7, ix_nI (by omega)]
        exact ih _ (t_ok_car (by omega) (t_ok_drop hk)) (n_ok_car (n_ok_drop h hns ht (by omega) hk.2.2.1) hns hnt hs ht hx)
      · rw [e7]
        exact n_ok_set (n_ok_drop h hns ht (by omega) hk.2.2.1) hns hx
theorem n_ok_arr (hns : ns ≤ 8) (hnt : nt ≤ 3) (ht : t < nt) (hp : p < ns) (hk : t_ok st ns t q) (h : n_ok ct st ns nt) : n_ok ct (s_arr ct st t q p) ns nt := by
  obtain ⟨x, hx, e3⟩ := (h.2.2 t ht q hk.2.1 hk.2.2.1).1
  unfold s_arr
  rw [e3]
  refine n_ok_go hns hnt ht _ _ (t_ok_car (by omega) (t_ok_arr0 hp hk)) (n_ok_car (n_ok_fr h (fun k hk => ?_) (fun t' ht' i hi h3 => Or.inl ?_)) hns hnt hp ht hx)
  · rw [s_put_o _ _ (by omega), s_put_o _ _ (by omega), s_put_o _ _ (by omega), s_put_o _ _ (by omega), s_put_o _ _ (by omega), s_put_o _ _ (by omega)]
    exact ⟨rfl, rfl⟩
  · refine s_tr_o ?_
    rw [s_put_o _ _ (by omega), s_put_o _ _ (by omega), s_put_o _ _ (by omega)]
theorem n_ok_tl (hns : ns ≤ 8) (hnt : nt ≤ 3) (hv : ∀ t, t < nt → ∃ q, t_ok st ns t q) (hb : ∃ b, b < 12000 ∧ st 0 = nI b) (hdr : ∀ p s, p < ns → s < ns → ∃ b, b < 8000 ∧ s_dr ct p s = nI b) (h : n_ok ct st ns nt) : ∀ t, t ≤ nt → n_ok ct (s_tl ct st t) ns nt
  | 0, _ => h
  | t + 1, ht => by
    have ih := n_ok_tl hns hnt hv hb hdr h t (by omega)
    obtain ⟨q, hq⟩ := (s_tl_ok (ct := ct) (d := nt) (n := ns) (st := st) hns hv hb hdr t (by omega)).2 t (by omega)
    unfold s_tl
    split
    · exact ih
    · rename_i h0
      split
      · rcases hq.1 with ⟨p, hp, e0, _, _⟩ | ⟨e0, ⟨p, hp, e1⟩, _⟩
        · rw [e0] at h0; exact absurd (nI_pos' (by omega)) h0
        · have hq6 := hq.2.1
          rw [hq.2.2.1, e1, ix_nI (by omega), ix_nI (by omega)]
          exact n_ok_arr hns hnt (by omega) hp hq ih
      · exact ih
end PRf
