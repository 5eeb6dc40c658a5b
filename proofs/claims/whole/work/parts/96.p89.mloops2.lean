/-! ===== PHASE 2: the model's letters and digits ===== -/
/-- the number of the first digits, four at most -/
def tz_m (b : Nat → Int32) (s c : Nat) : Int32 := tz_v b s (if c ≤ 4 then c else 4)
section PA54
variable {β : Type} {M : zM} {F F' : Nat → Nat → Int32} {b : Nat → Int32} {i j k n s e : Nat} {x lo hi : Int32}
theorem wi_iff : (if x < lo then (0 : Int32) else if hi < x then 0 else 1) = if lo ≤ x ∧ x ≤ hi then 1 else 0 := by
  by_cases h1 : x < lo
  · rw [if_pos h1, if_neg (fun q => by
      have := q.1
      rw [i_le] at this
      rw [i_lt] at h1
      omega)]
  · rw [if_neg h1]
    by_cases h2 : hi < x
    · rw [if_pos h2, if_neg (fun q => by
        have := q.2
        rw [i_le] at this
        rw [i_lt] at h2
        omega)]
    · rw [if_neg h2, if_pos ⟨by rw [i_le]; rw [i_lt] at h1; omega, by rw [i_le]; rw [i_lt] at h2; omega⟩]
theorem m_lets (h : L9 M) (hn : n ≤ 700) (hB : ∀ j, j < n → ∃ y : Int8, b j = y.toInt32) : ∀ f i F, f = n - i → i ≤ n → (∀ j, j < n → F 76 j = b j) → F 75 3 = nI n → F 75 5 = nI i → ∃ F', (z_lp n3_body ()).1 (KI M F) = some (.inr (.inl ()), KI M F') ∧ F' 75 5 = nI (tz_to (tz_le b) n i) ∧ ∀ y j, ¬ (y = 75 ∧ j = 5) → F' y j = F y j := by
  intro f
  induction f with
  | zero =>
    intro i F hf hi hb h3 h5
    refine ⟨F, z_lp_end ?_, by rw [tz_x (by omega)]; exact h5, fun _ _ _ => rfl⟩
    have eu : tz_u b n i = -1 := if_pos (by omega)
    unfold n3_body
    rw [kn_gI h, h5, kn_cv h, m_by h hn h3 hb (by omega), eu, g9_wi, if_pos (show (-1 : Int32) < 97 by decide), if_pos rfl]
    rfl
  | succ f ih =>
    intro i F hf hi hb h3 h5
    have hin : i < n := by omega
    have eu : tz_u b n i = b i &&& 255 := if_neg (by omega)
    obtain ⟨_, _, _, q4, _⟩ := by_ok (hB i hin)
    by_cases hw : tz_le b i = true
    · obtain ⟨F', g1, g2, g3⟩ := ih (i + 1) (z_up2 F 75 5 (nI (i + 1))) (by omega) (by omega) (fun j hj => by rw [u2_row _ _ (by omega)]; exact hb j hj) (by rw [u2_n _ _ (Or.inr (by omega))]; exact h3) (u2_s _ _ _ _)
      have hw' : 97 ≤ b i ∧ b i ≤ 122 := of_decide_eq_true hw
      refine ⟨F', (z_lp_step ?_).trans g1, by rw [tz_s hin hw]; exact g2, fun y j hn => (g3 y j hn).trans (u2_n _ _ (by omega))⟩
      unfold n3_body
      rw [kn_gI h, h5, kn_cv h, m_by h hn h3 hb (by omega), eu, g9_wi, wi_iff, if_pos (q4.mpr hw'), if_neg one_n0, kn_gI h, h5, nI_1, kn_pI h]
      rfl
    · have hw' : ¬ (97 ≤ b i ∧ b i ≤ 122) := fun q => hw (decide_eq_true q)
      refine ⟨F, z_lp_end ?_, by rw [tz_n hw]; exact h5, fun _ _ _ => rfl⟩
      unfold n3_body
      rw [kn_gI h, h5, kn_cv h, m_by h hn h3 hb (by omega), eu, g9_wi, wi_iff, if_neg (fun q => hw' (q4.mp q)), if_pos rfl]
      rfl
theorem m_digs (h : L9 M) (hn : n ≤ 700) (hB : ∀ j, j < n → ∃ y : Int8, b j = y.toInt32) : ∀ f i F, f = n - i → s ≤ i → i ≤ n → (∀ j, j < n → F 76 j = b j) → F 75 3 = nI n → F 75 4 = nI s → F 75 5 = nI i → F 75 7 = tz_m b s (i - s) → ∃ F', (z_lp n2_body ()).1 (KI M F) = some (.inr (.inl ()), KI M F') ∧ F' 75 5 = nI (tz_to (tz_di b) n i) ∧ F' 75 7 = tz_m b s (tz_to (tz_di b) n i - s) ∧ ∀ y j, ¬ (y = 75 ∧ (j = 5 ∨ j = 7)) → F' y j = F y j := by
  intro f
  induction f with
  | zero =>
    intro i F hf hs hi hb h3 h4 h5 h7
    refine ⟨F, z_lp_end ?_, by rw [tz_x (by omega)]; exact h5, by rw [tz_x (by omega)]; exact h7, fun _ _ _ => rfl⟩
    have eu : tz_u b n i = -1 := if_pos (by omega)
    unfold n2_body
    rw [kn_gI h, h5, kn_cv h, m_by h hn h3 hb (by omega), eu, g9_wi, if_pos (show (-1 : Int32) < 48 by decide), if_pos rfl]
    rfl
  | succ f ih =>
    intro i F hf hs hi hb h3 h4 h5 h7
    have hin : i < n := by omega
    have eu : tz_u b n i = b i &&& 255 := if_neg (by omega)
    obtain ⟨_, _, _, _, q5, _, q7⟩ := by_ok (hB i hin)
    by_cases hw : tz_di b i = true
    · have hw' : 48 ≤ b i ∧ b i ≤ 57 := of_decide_eq_true hw
      have hpos : 0 ≤ b i := by
        have := hw'.1
        rw [i_le] at this ⊢
        have z1 : (48 : Int32).toInt = 48 := rfl
        have z0 : (0 : Int32).toInt = 0 := rfl
        omega
      have eb := q7 hpos
      obtain ⟨F', g1, g2, g3, g4⟩ := ih (i + 1) (z_up2 (z_up2 F 75 7 (tz_m b s (i + 1 - s))) 75 5 (nI (i + 1))) (by omega) (by omega) (by omega) (fun j hj => by rw [u2_row _ _ (by omega), u2_row _ _ (by omega)]; exact hb j hj) (by rw [u2_n _ _ (Or.inr (by omega)), u2_n _ _ (Or.inr (by omega))]; exact h3) (by rw [u2_n _ _ (Or.inr (by omega)), u2_n _ _ (Or.inr (by omega))]; exact h4) (u2_s _ _ _ _) (by rw [u2_n _ _ (Or.inr (by omega)), u2_s])
      have e5 : z_up2 F 75 7 (tz_m b s (i + 1 - s)) 75 5 = nI i := (u2_n _ _ (Or.inr (by omega))).trans h5
      refine ⟨F', (z_lp_step ?_).trans g1, by rw [tz_s hin hw]; exact g2, by rw [tz_s hin hw]; exact g3, fun y j hn => (g4 y j hn).trans (by rw [u2_n _ _ (by omega), u2_n _ _ (by omega)])⟩
      unfold n2_body
      rw [kn_gI h, h5, kn_cv h, m_by h hn h3 hb (by omega), eu, g9_wi, wi_iff, if_pos (q5.mpr hw'), if_neg one_n0, kn_gI h, h5, kn_gI h, h4, nI_sub hs]
      by_cases g : 4 ≤ i - s
      · have hm : tz_m b s (i + 1 - s) = tz_m b s (i - s) := by
          unfold tz_m
          by_cases g5 : i - s = 4
          · rw [if_neg (by omega), if_pos (by omega), g5]
          · rw [if_neg (by omega), if_neg (by omega)]
        rw [if_pos (show (4 : Int32) ≤ nI (i - s) from nI_le (a := 4) g (by omega)), j_bd, kn_gI h, h7, j_L, ← hm, kn_pI h, kn_gI h, e5, nI_1, kn_pI h]
        rfl
      · have hv : 10 * tz_m b s (i - s) + b i - 48 = tz_m b s (i + 1 - s) := by
          unfold tz_m
          rw [if_pos (by omega), if_pos (by omega), show i + 1 - s = (i - s) + 1 by omega]
          show _ = 10 * tz_v b s (i - s) + b (s + (i - s)) - 48
          rw [show s + (i - s) = i by omega]
        rw [if_neg (show ¬ (4 : Int32) ≤ nI (i - s) from nI_ge (b := 4) (by omega) (by omega)), j_bd, kn_gI h, h7, j_bd, kn_gI h, h5, j_bd, kn_cv h, m_by h hn h3 hb (by omega), eu, eb, hv, j_L, kn_pI h, kn_gI h, e5, nI_1, kn_pI h]
        rfl
    · have hw' : ¬ (48 ≤ b i ∧ b i ≤ 57) := fun q => hw (decide_eq_true q)
      refine ⟨F, z_lp_end ?_, by rw [tz_n hw]; exact h5, by rw [tz_n hw]; exact h7, fun _ _ _ => rfl⟩
      unfold n2_body
      rw [kn_gI h, h5, kn_cv h, m_by h hn h3 hb (by omega), eu, g9_wi, wi_iff, if_neg (fun q => hw' (q5.mp q)), if_pos rfl]
      rfl
end PA54
