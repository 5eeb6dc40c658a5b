/-! ===== PHASE 2: the class knows a word ===== -/
noncomputable def w_body (w : Nat) : Int32 → zP (Int32 ⊕ Int32) := (fun (t5 : Int32) => (z_bd (z_strlen w) (fun v6 => (if v6 ≤ t5 then (z_pu (.inr 1)) else (z_bd (z_gA 1 2 2) (fun v7 => (z_bd (z_gI 1 2 5) (fun v8 => (z_bd (z_aI 10 v7 (v8 + t5)) (fun v9 => (z_bd (z_charAt w t5) (fun v10 => (if v9 = v10 then (z_pu (.inl ((t5 + 1)))) else (z_pu (.inr 0)))))))))))))))
section PA57
variable {β : Type} {M : zM} {F : Nat → Nat → Int32} {b : Nat → Int32} {ch : Nat → Nat} {w len i j k n s e kd0 : Nat}
theorem c_wloop (h : L0 M) (hr : z_r M 2 2 = some 1) (hn : n ≤ 700) (hl : len ≤ 8) (hlen : z_strlen w = z_pu (nI len)) (hch : ∀ t, t < len → z_charAt w (nI t) = z_pu (nI (ch t))) (hb : ∀ j, j < n → F 1 j = b j) (h5 : F 2 5 = nI s) (hs : s + len ≤ n) : ∀ k t, t + k = len → (∀ u, u < t → b (s + u) = nI (ch u)) → ∃ r, (z_lp (w_body w) (nI t)).1 (KI M F) = some (.inr r, KI M F) ∧ (r = 0 ∨ r = 1) ∧ (r = 1 ↔ ∀ u, u < len → b (s + u) = nI (ch u)) := by
  intro k
  induction k with
  | zero =>
    intro t ht hall
    refine ⟨1, z_lp_end ?_, Or.inr rfl, fun _ u hu => hall u (by omega), fun _ => rfl⟩
    unfold w_body
    show (z_bd (z_strlen w) _).1 _ = _
    rw [hlen, b_pu, if_pos (nI_le (by omega) (by omega))]
    rfl
  | succ k ih =>
    intro t ht hall
    have hst : (w_body w (nI t)).1 (KI M F) = (if b (s + t) = nI (ch t) then (z_pu (.inl (nI t + 1)) : zP (Int32 ⊕ Int32)) else z_pu (.inr 0)).1 (KI M F) := by
      unfold w_body
      show (z_bd (z_strlen w) _).1 _ = _
      rw [hlen, b_pu, if_neg (nI_ge (by omega) (by omega)), kb_tx h hr, k0_gI2 h, h5, nI_add, kb_aI h (by omega), hb _ (by omega), hch t (by omega), b_pu]
    by_cases g : b (s + t) = nI (ch t)
    · rw [if_pos g] at hst
      obtain ⟨r, r1, r2, r3⟩ := ih (t + 1) (by omega) (fun u hu => by
        by_cases c : u = t
        · rw [c]; exact g
        · exact hall u (by omega))
      refine ⟨r, (z_lp_step (s' := nI (t + 1)) (M1 := KI M F) ?_).trans r1, r2, r3⟩
      rw [hst, nI_1]
      rfl
    · rw [if_neg g] at hst
      exact ⟨0, z_lp_end hst, Or.inl rfl, fun q => absurd q (by decide), fun q => absurd (q t (by omega)) g⟩
theorem c_isw (h : L0 M) (hr : z_r M 2 2 = some 1) (hn : n ≤ 700) (hl : len ≤ 8) (hlen : z_strlen w = z_pu (nI len)) (hch : ∀ t, t < len → z_charAt w (nI t) = z_pu (nI (ch t))) (hb : ∀ j, j < n → F 1 j = b j) (h5 : F 2 5 = nI s) (h6 : F 2 6 = nI e) (hse : s ≤ e) (hen : e ≤ n) (hk : kd0 < 100) (h7 : F 2 7 = nI kd0) : ∃ r, (p_X1_isWord 2 w).1 (KI M F) = some (.inr r, KI M F) ∧ (r = 0 ∨ r = 1) ∧ (r = 1 ↔ kd0 = 1 ∧ e - s = len ∧ ∀ u, u < len → b (s + u) = nI (ch u)) := by
  unfold p_X1_isWord
  rw [k0_gI2 h, h7]
  by_cases g1 : kd0 = 1
  · rw [if_pos (show nI kd0 = 1 by rw [g1]; rfl), k0_gI2 h, h6, k0_gI2 h, h5, hlen, b_pu, nI_sub hse]
    by_cases g2 : e - s = len
    · rw [if_pos (by rw [g2])]
      obtain ⟨r, r1, r2, r3⟩ := c_wloop h hr hn hl hlen hch hb h5 (by omega) len 0 (by omega) (fun u hu => by omega)
      unfold w_body at r1
      rw [hlen] at r1
      exact ⟨r, r1, r2, fun q => ⟨g1, g2, r3.mp q⟩, fun q => r3.mpr q.2.2⟩
    · rw [if_neg (fun q => g2 (nq_inj (by omega) (by omega) q))]
      exact ⟨0, rfl, Or.inl rfl, fun q => absurd q (by decide), fun q => absurd q.2.1 g2⟩
  · rw [if_neg (show ¬ nI kd0 = 1 from fun q => g1 (nq_inj (b := 1) (by omega) (by omega) q))]
    exact ⟨0, rfl, Or.inl rfl, fun q => absurd q (by decide), fun q => absurd q.1 g1⟩
end PA57
