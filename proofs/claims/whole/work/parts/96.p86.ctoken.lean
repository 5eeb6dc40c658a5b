/-! ===== PHASE 2: the class's next token ===== -/
noncomputable def l2_body : Unit → zP (Unit ⊕ (Unit ⊕ Unit)) := (fun (t35 : Unit) => (z_bd (z_gI 1 2 6) (fun v36 => (z_bd (z_gI 1 2 4) (fun v37 => (if v37 ≤ v36 then (z_pu (.inr (.inl ()))) else (z_bd (z_gA 1 2 2) (fun v38 => (z_bd (z_gI 1 2 6) (fun v39 => (z_bd (z_aI 10 v38 v39) (fun v40 => (z_bd (p_X1_isDigit v40) (fun r41 => (if r41 = 0 then (z_pu (.inr (.inl ()))) else (z_bd (z_gI 1 2 8) (fun v42 => (z_bd (z_gA 1 2 2) (fun v43 => (z_bd (z_gI 1 2 6) (fun v44 => (z_bd (z_aI 10 v43 v44) (fun v45 => (z_bd (z_pI 1 2 8 (((10 * v42) + v45) - 48)) (fun _ => (z_bd (z_gI 1 2 6) (fun v46 => (z_bd (z_pI 1 2 6 (v46 + 1)) (fun _ => (z_pu (.inl ())))))))))))))))))))))))))))))))
noncomputable def l3_body : Unit → zP (Unit ⊕ (Unit ⊕ Unit)) := (fun (t51 : Unit) => (z_bd (z_gI 1 2 6) (fun v52 => (z_bd (z_gI 1 2 4) (fun v53 => (if v53 ≤ v52 then (z_pu (.inr (.inl ()))) else (z_bd (z_gA 1 2 2) (fun v54 => (z_bd (z_gI 1 2 6) (fun v55 => (z_bd (z_aI 10 v54 v55) (fun v56 => (z_bd (p_X1_isLetter v56) (fun r57 => (if r57 = 0 then (z_pu (.inr (.inl ()))) else (z_bd (z_gI 1 2 6) (fun v58 => (z_bd (z_pI 1 2 6 (v58 + 1)) (fun _ => (z_pu (.inl ())))))))))))))))))))))
section PA51
variable {β : Type} {M : zM} {F F' : Nat → Nat → Int32} {b : Nat → Int32} {i j k n s e : Nat} {p : Nat → Bool} {x : Int32}
theorem c_le (x : Int32) : p_X1_isLetter x = z_pu (if 97 ≤ x ∧ x ≤ 122 then 1 else 0) := by
  unfold p_X1_isLetter
  by_cases h1 : x < 97
  · rw [if_pos h1, if_neg (fun q => by
      have := q.1
      rw [i_le] at this
      rw [i_lt] at h1
      omega)]
  · rw [if_neg h1]
    by_cases h2 : 122 < x
    · rw [if_pos h2, if_neg (fun q => by
        have := q.2
        rw [i_le] at this
        rw [i_lt] at h2
        omega)]
    · rw [if_neg h2, if_pos ⟨by rw [i_le]; rw [i_lt] at h1; omega, by rw [i_le]; rw [i_lt] at h2; omega⟩]
theorem c_di (x : Int32) : p_X1_isDigit x = z_pu (if 48 ≤ x ∧ x ≤ 57 then 1 else 0) := by
  unfold p_X1_isDigit
  by_cases h1 : x < 48
  · rw [if_pos h1, if_neg (fun q => by
      have := q.1
      rw [i_le] at this
      rw [i_lt] at h1
      omega)]
  · rw [if_neg h1]
    by_cases h2 : 57 < x
    · rw [if_pos h2, if_neg (fun q => by
        have := q.2
        rw [i_le] at this
        rw [i_lt] at h2
        omega)]
    · rw [if_neg h2, if_pos ⟨by rw [i_le]; rw [i_lt] at h1; omega, by rw [i_le]; rw [i_lt] at h2; omega⟩]
theorem one_n0 : ¬ (1 : Int32) = 0 := by decide
/-- letters -/
theorem c_lets (h : L0 M) (hr : z_r M 2 2 = some 1) (hn : n ≤ 700) : ∀ f i F, f = n - i → i ≤ n → (∀ j, j < n → F 1 j = b j) → F 2 4 = nI n → F 2 6 = nI i → ∃ F', (z_lp l3_body ()).1 (KI M F) = some (.inr (.inl ()), KI M F') ∧ F' 2 6 = nI (tz_to (tz_le b) n i) ∧ ∀ y j, ¬ (y = 2 ∧ j = 6) → F' y j = F y j := by
  intro f
  induction f with
  | zero =>
    intro i F hf hi hb h4 h5
    refine ⟨F, z_lp_end ?_, by rw [tz_x (by omega)]; exact h5, fun _ _ _ => rfl⟩
    have hle : nI n ≤ nI i := nI_le (by omega) (by omega)
    unfold l3_body
    rw [k0_gI2 h, h5, k0_gI2 h, h4, if_pos hle]
    rfl
  | succ f ih =>
    intro i F hf hi hb h4 h5
    have hin : i < n := by omega
    have hle : ¬ nI n ≤ nI i := nI_ge hin (by omega)
    have e1 : F 1 i = b i := hb i hin
    by_cases hw : tz_le b i = true
    · obtain ⟨F', g1, g2, g3⟩ := ih (i + 1) (z_up2 F 2 6 (nI (i + 1))) (by omega) (by omega) (fun j hj => by rw [u2_row _ _ (by omega)]; exact hb j hj) (by rw [u2_n _ _ (Or.inr (by omega))]; exact h4) (u2_s _ _ _ _)
      have hw' : 97 ≤ b i ∧ b i ≤ 122 := of_decide_eq_true hw
      refine ⟨F', (z_lp_step ?_).trans g1, by rw [tz_s hin hw]; exact g2, fun y j hn => (g3 y j hn).trans (u2_n _ _ (by omega))⟩
      unfold l3_body
      rw [k0_gI2 h, h5, k0_gI2 h, h4, if_neg hle, kb_tx h hr, k0_gI2 h, h5, kb_aI h (by omega), e1, c_le, b_pu, if_pos hw', if_neg one_n0, k0_gI2 h, h5, nI_1, k0_pI2 h]
      rfl
    · have hw' : ¬ (97 ≤ b i ∧ b i ≤ 122) := fun q => hw (decide_eq_true q)
      refine ⟨F, z_lp_end ?_, by rw [tz_n hw]; exact h5, fun _ _ _ => rfl⟩
      unfold l3_body
      rw [k0_gI2 h, h5, k0_gI2 h, h4, if_neg hle, kb_tx h hr, k0_gI2 h, h5, kb_aI h (by omega), e1, c_le, b_pu, if_neg hw', if_pos rfl]
      rfl
/-- digits -/
theorem c_digs (h : L0 M) (hr : z_r M 2 2 = some 1) (hn : n ≤ 700) : ∀ f i F, f = n - i → s ≤ i → i ≤ n → (∀ j, j < n → F 1 j = b j) → F 2 4 = nI n → F 2 6 = nI i → F 2 8 = tz_v b s (i - s) → ∃ F', (z_lp l2_body ()).1 (KI M F) = some (.inr (.inl ()), KI M F') ∧ F' 2 6 = nI (tz_to (tz_di b) n i) ∧ F' 2 8 = tz_v b s (tz_to (tz_di b) n i - s) ∧ ∀ y j, ¬ (y = 2 ∧ (j = 6 ∨ j = 8)) → F' y j = F y j := by
  intro f
  induction f with
  | zero =>
    intro i F hf hs hi hb h4 h5 h8
    refine ⟨F, z_lp_end ?_, by rw [tz_x (by omega)]; exact h5, by rw [tz_x (by omega)]; exact h8, fun _ _ _ => rfl⟩
    have hle : nI n ≤ nI i := nI_le (by omega) (by omega)
    unfold l2_body
    rw [k0_gI2 h, h5, k0_gI2 h, h4, if_pos hle]
    rfl
  | succ f ih =>
    intro i F hf hs hi hb h4 h5 h8
    have hin : i < n := by omega
    have hle : ¬ nI n ≤ nI i := nI_ge hin (by omega)
    have e1 : F 1 i = b i := hb i hin
    by_cases hw : tz_di b i = true
    · have hv : 10 * tz_v b s (i - s) + b i - 48 = tz_v b s (i + 1 - s) := by
        rw [show i + 1 - s = (i - s) + 1 by omega]
        show _ = 10 * tz_v b s (i - s) + b (s + (i - s)) - 48
        rw [show s + (i - s) = i by omega]
      obtain ⟨F', g1, g2, g3, g4⟩ := ih (i + 1) (z_up2 (z_up2 F 2 8 (tz_v b s (i + 1 - s))) 2 6 (nI (i + 1))) (by omega) (by omega) (by omega) (fun j hj => by rw [u2_row _ _ (by omega), u2_row _ _ (by omega)]; exact hb j hj) (by rw [u2_n _ _ (Or.inr (by omega)), u2_n _ _ (Or.inr (by omega))]; exact h4) (u2_s _ _ _ _) (by rw [u2_n _ _ (Or.inr (by omega)), u2_s])
      have hw' : 48 ≤ b i ∧ b i ≤ 57 := of_decide_eq_true hw
      have e6 : z_up2 F 2 8 (tz_v b s (i + 1 - s)) 2 6 = nI i := (u2_n _ _ (Or.inr (by omega))).trans h5
      refine ⟨F', (z_lp_step ?_).trans g1, by rw [tz_s hin hw]; exact g2, by rw [tz_s hin hw]; exact g3, fun y j hn => (g4 y j hn).trans (by rw [u2_n _ _ (by omega), u2_n _ _ (by omega)])⟩
      unfold l2_body
      rw [k0_gI2 h, h5, k0_gI2 h, h4, if_neg hle, kb_tx h hr, k0_gI2 h, h5, kb_aI h (by omega), e1, c_di, b_pu, if_pos hw', if_neg one_n0, k0_gI2 h, h8, kb_tx h hr, k0_gI2 h, h5, kb_aI h (by omega), e1, hv, k0_pI2 h, k0_gI2 h, e6, nI_1, k0_pI2 h]
      rfl
    · have hw' : ¬ (48 ≤ b i ∧ b i ≤ 57) := fun q => hw (decide_eq_true q)
      refine ⟨F, z_lp_end ?_, by rw [tz_n hw]; exact h5, by rw [tz_n hw]; exact h8, fun _ _ _ => rfl⟩
      unfold l2_body
      rw [k0_gI2 h, h5, k0_gI2 h, h4, if_neg hle, kb_tx h hr, k0_gI2 h, h5, kb_aI h (by omega), e1, c_di, b_pu, if_neg hw', if_pos rfl]
      rfl
theorem c_sg (x : Int32) : p_X1_isSignByte x = z_pu (if tz_sg x = true then 1 else 0) := by
  have hsg : tz_sg x = true ↔ (x = 59 ∨ (40 ≤ x ∧ x ≤ 43) ∨ x = 45 ∨ x = 47) := decide_eq_true_iff
  unfold p_X1_isSignByte
  by_cases h1 : x = 59
  · rw [if_pos h1, if_pos (hsg.mpr (Or.inl h1))]
  · rw [if_neg h1]
    by_cases h2 : x < 40
    · rw [if_pos h2, j_L]
      have h2' : ¬ 40 ≤ x := fun q => by
        rw [i_le] at q
        rw [i_lt] at h2
        omega
      by_cases h3 : x = 45
      · rw [if_pos h3, if_pos (hsg.mpr (Or.inr (Or.inr (Or.inl h3))))]
      · rw [if_neg h3]
        by_cases h4 : x = 47
        · rw [if_pos h4, if_pos (hsg.mpr (Or.inr (Or.inr (Or.inr h4))))]
        · rw [if_neg h4, if_neg (fun q => by
            rcases hsg.mp q with q | q | q | q
            · exact h1 q
            · exact h2' q.1
            · exact h3 q
            · exact h4 q)]
    · rw [if_neg h2]
      by_cases h5 : x ≤ 43
      · rw [if_pos h5, j_R, if_pos (hsg.mpr (Or.inr (Or.inl ⟨by rw [i_le]; rw [i_lt] at h2; omega, h5⟩)))]
      · rw [if_neg h5, j_L]
        by_cases h3 : x = 45
        · rw [if_pos h3, if_pos (hsg.mpr (Or.inr (Or.inr (Or.inl h3))))]
        · rw [if_neg h3]
          by_cases h4 : x = 47
          · rw [if_pos h4, if_pos (hsg.mpr (Or.inr (Or.inr (Or.inr h4))))]
          · rw [if_neg h4, if_neg (fun q => by
              rcases hsg.mp q with q | q | q | q
              · exact h1 q
              · exact h5 q.2
              · exact h3 q
              · exact h4 q)]
end PA51
