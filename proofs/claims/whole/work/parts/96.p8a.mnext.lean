/-! ===== PHASE 2: the model's next token, whole ===== -/
/-- the token, as the model tells it -/
def tz_t (b : Nat → Int32) (n s : Nat) : Int32 := if n ≤ s then 0 else if tz_le b s = true then (if tz_e b n s - s ≤ 8 then 1 else 3) else if tz_di b s = true then (if tz_e b n s - s ≤ 4 then 2 else 3) else if tz_sg (b s) = true then b s else 3
section PA55
variable {β : Type} {M : zM} {F F' : Nat → Nat → Int32} {b : Nat → Int32} {i j k n s e : Nat} {x : Int32}
theorem m_next {f : Unit → zP β} (h : L9 M) (hn : n ≤ 700) (hB : ∀ j, j < n → ∃ y : Int8, b j = y.toInt32) (he : e ≤ n) (hb : ∀ j, j < n → F 76 j = b j) (h3 : F 75 3 = nI n) (h5 : F 75 5 = nI e) :
    ∃ F', (z_bd (p_X9_nextToken 75) f).1 (KI M F) = (f ()).1 (KI M F') ∧ F' 75 4 = nI (tz_b0 b n e) ∧ F' 75 5 = nI (tz_e b n (tz_b0 b n e)) ∧ F' 75 6 = tz_t b n (tz_b0 b n e) ∧ (tz_t b n (tz_b0 b n e) = 2 → F' 75 7 = tz_v b (tz_b0 b n e) (tz_e b n (tz_b0 b n e) - tz_b0 b n e)) ∧ ∀ y j, ¬ (y = 75 ∧ 4 ≤ j ∧ j ≤ 7) → F' y j = F y j := by
  obtain ⟨F1, g1, g2, g3⟩ := m_blank (b := b) h hn hB (n - e) e (z_up2 F 75 4 (nI e)) rfl he (fun j hj => by rw [u2_row _ _ (by omega)]; exact hb j hj) (by rw [u2_n _ _ (Or.inr (by omega))]; exact h3) (u2_s _ _ _ _)
  obtain ⟨s, es⟩ : ∃ s, s = tz_b0 b n e := ⟨_, rfl⟩
  have g2' : F1 75 4 = nI s := by rw [es]; exact g2
  have hse : e ≤ s ∧ s ≤ n := by rw [es]; exact tz_b he
  rw [← es]
  have o1 : ∀ y j, ¬ (y = 75 ∧ j = 4) → F1 y j = F y j := fun y j hy => (g3 y j hy).trans (u2_n _ _ (by omega))
  have hb1 : ∀ j, j < n → F1 76 j = b j := fun j hj => (o1 76 j (by omega)).trans (hb j hj)
  have f31 : F1 75 3 = nI n := (o1 75 3 (by omega)).trans h3
  obtain ⟨F2, eF2⟩ : ∃ F2, F2 = z_up2 (z_up2 F1 75 5 (nI s)) 75 6 3 := ⟨_, rfl⟩
  have o2 : ∀ y j, ¬ (y = 75 ∧ (j = 4 ∨ j = 5 ∨ j = 6)) → F2 y j = F y j := fun y j hy => by
    rw [eF2, u2_n _ _ (by omega), u2_n _ _ (by omega)]
    exact o1 y j (by omega)
  have f4 : F2 75 4 = nI s := by rw [eF2, u2_n _ _ (Or.inr (by omega)), u2_n _ _ (Or.inr (by omega))]; exact g2'
  have f5 : F2 75 5 = nI s := by rw [eF2, u2_n _ _ (Or.inr (by omega)), u2_s]
  have f3 : F2 75 3 = nI n := (o2 75 3 (by omega)).trans h3
  have hb2 : ∀ j, j < n → F2 76 j = b j := fun j hj => (o2 76 j (by omega)).trans (hb j hj)
  have start : ∀ (r11 : Int32), r11 = tz_u b n s → (p_X9_nextToken 75).1 (KI M F) = ((if r11 = (-1) then (z_bd (z_pI 9 75 6 0) (fun _ => (z_pu ()))) else (z_bd (p_X9_within r11 97 122) (fun r13 => (if r13 = 0 then (z_bd (p_X9_within r11 48 57) (fun r14 => (if r14 = 0 then (z_bd (z_gI 9 75 5) (fun v15 => (z_bd (z_pI 9 75 5 (v15 + 1)) (fun _ => (z_jn (τ := Int32) (if r11 = 59 then (z_pu (.inl r11)) else (z_bd (p_X9_within r11 40 43) (fun r17 => (if r17 = 0 then (if r11 = 45 then (z_pu (.inl r11)) else (if r11 = 47 then (z_pu (.inl r11)) else (z_pu (.inl 3)))) else (z_pu (.inl r11)))))) (fun t16 => (z_bd (z_pI 9 75 6 t16) (fun _ => (z_pu ()))))))))) else (z_bd (z_pI 9 75 7 0) (fun _ => (z_jn (τ := Unit) (z_lp (fun (t19 : Unit) => (z_bd (z_gI 9 75 5) (fun v20 => (z_bd (z_cv 9 75 (p_X9_byteAt 75 v20)) (fun r21 => (z_bd (p_X9_within r21 48 57) (fun r22 => (if r22 = 0 then (z_pu (.inr (.inl ()))) else (z_bd (z_gI 9 75 5) (fun v23 => (z_bd (z_gI 9 75 4) (fun v24 => (z_jn (τ := Int32) (if 4 ≤ (v23 - v24) then (z_bd (z_gI 9 75 7) (fun v26 => (z_pu (.inl v26)))) else (z_bd (z_gI 9 75 7) (fun v27 => (z_bd (z_gI 9 75 5) (fun v28 => (z_bd (z_cv 9 75 (p_X9_byteAt 75 v28)) (fun r29 => (z_pu (.inl ((((10 * v27) + r29) - 48))))))))))) (fun t25 => (z_bd (z_pI 9 75 7 t25) (fun _ => (z_bd (z_gI 9 75 5) (fun v30 => (z_bd (z_pI 9 75 5 (v30 + 1)) (fun _ => (z_pu (.inl ())))))))))))))))))))))) ()) (fun t18 => (z_bd (z_gI 9 75 5) (fun v31 => (z_bd (z_gI 9 75 4) (fun v32 => (z_jn (τ := Int32) (if (v31 - v32) ≤ 4 then (z_pu (.inl 2)) else (z_pu (.inl 3))) (fun t33 => (z_bd (z_pI 9 75 6 t33) (fun _ => (z_pu ())))))))))))))))) else (z_jn (τ := Unit) (z_lp (fun (t35 : Unit) => (z_bd (z_gI 9 75 5) (fun v36 => (z_bd (z_cv 9 75 (p_X9_byteAt 75 v36)) (fun r37 => (z_bd (p_X9_within r37 97 122) (fun r38 => (if r38 = 0 then (z_pu (.inr (.inl ()))) else (z_bd (z_gI 9 75 5) (fun v39 => (z_bd (z_pI 9 75 5 (v39 + 1)) (fun _ => (z_pu (.inl ())))))))))))))) ()) (fun t34 => (z_bd (z_gI 9 75 5) (fun v40 => (z_bd (z_gI 9 75 4) (fun v41 => (z_jn (τ := Int32) (if (v40 - v41) ≤ 8 then (z_pu (.inl 1)) else (z_pu (.inl 3))) (fun t42 => (z_bd (z_pI 9 75 6 t42) (fun _ => (z_pu ())))))))))))))))).1 (KI M F2) := fun r11 hr => by
    unfold p_X9_nextToken
    rw [kn_gI h, h5, kn_pI h]
    refine (e_jL g1).trans ?_
    rw [kn_gI h, g2', kn_cv h, m_by h hn f31 hb1 (by omega), ← hr, kn_gI h, g2', kn_pI h, kn_pI h, ← eF2]
  by_cases hs : s < n
  · have eu : b s &&& 255 = tz_u b n s := (if_neg (by omega)).symm
    obtain ⟨q1, q2, qn, q4, q5, q6, q7⟩ := by_ok (hB s hs)
    have st := start (b s &&& 255) eu
    rw [if_neg qn, g9_wi, wi_iff] at st
    by_cases hle : tz_le b s = true
    · have hle' : 97 ≤ b s ∧ b s ≤ 122 := of_decide_eq_true hle
      obtain ⟨F3, k1, k2, k3⟩ := m_lets (b := b) h hn hB (n - s) s F2 rfl (by omega) hb2 f3 f5
      have ee : tz_e b n s = tz_to (tz_le b) n s := by unfold tz_e; rw [if_neg (by omega), if_pos hle]
      have hb3 := tz_b (p := tz_le b) (show s ≤ n by omega)
      have ek : tz_t b n s = if tz_e b n s - s ≤ 8 then 1 else 3 := by unfold tz_t; rw [if_neg (by omega), if_pos hle]
      have f43 : F3 75 4 = nI s := (k3 75 4 (by omega)).trans f4
      rw [if_pos (q4.mpr hle'), if_neg one_n0] at st
      refine ⟨z_up2 F3 75 6 (tz_t b n s), e_run ?_, ?_, ?_, u2_s _ _ _ _, ?_, ?_⟩
      · rw [st]
        refine (e_jL k1).trans ?_
        rw [kn_gI h, k2, kn_gI h, f43, nI_sub (by omega), ek, ee]
        by_cases h8 : tz_to (tz_le b) n s - s ≤ 8
        · rw [if_pos (show nI (tz_to (tz_le b) n s - s) ≤ (8 : Int32) from nI_le (b := 8) h8 (by omega)), j_L, kn_pI h, if_pos h8]
          rfl
        · rw [if_neg (show ¬ nI (tz_to (tz_le b) n s - s) ≤ (8 : Int32) from nI_ge (a := 8) (by omega) (by omega)), j_L, kn_pI h, if_neg h8]
          rfl
      · rw [u2_n _ _ (Or.inr (by omega))]; exact f43
      · rw [u2_n _ _ (Or.inr (by omega)), ee]; exact k2
      · intro q
        rw [ek] at q
        exfalso
        split at q
        · exact absurd q (by decide)
        · exact absurd q (by decide)
      · intro y j hy
        rw [u2_n _ _ (by omega), k3 y j (by omega)]
        exact o2 y j (by omega)
    · have hle' : ¬ (97 ≤ b s ∧ b s ≤ 122) := fun q => hle (decide_eq_true q)
      rw [if_neg (fun q => hle' (q4.mp q)), if_pos rfl, g9_wi, wi_iff] at st
      by_cases hdi : tz_di b s = true
      · have hdi' : 48 ≤ b s ∧ b s ≤ 57 := of_decide_eq_true hdi
        obtain ⟨F3, k1, k2, k4, k3⟩ := m_digs (b := b) (s := s) h hn hB (n - s) s (z_up2 F2 75 7 0) rfl (Nat.le_refl _) (by omega) (fun j hj => by rw [u2_row _ _ (by omega)]; exact hb2 j hj) (by rw [u2_n _ _ (Or.inr (by omega))]; exact f3) (by rw [u2_n _ _ (Or.inr (by omega))]; exact f4) (by rw [u2_n _ _ (Or.inr (by omega))]; exact f5) (by rw [u2_s, Nat.sub_self]; rfl)
        have ee : tz_e b n s = tz_to (tz_di b) n s := by unfold tz_e; rw [if_neg (by omega), if_neg hle, if_pos hdi]
        have hb3 := tz_b (p := tz_di b) (show s ≤ n by omega)
        have ek : tz_t b n s = if tz_e b n s - s ≤ 4 then 2 else 3 := by unfold tz_t; rw [if_neg (by omega), if_neg hle, if_pos hdi]
        have f43 : F3 75 4 = nI s := by rw [k3 75 4 (by omega), u2_n _ _ (Or.inr (by omega))]; exact f4
        rw [if_pos (q5.mpr hdi'), if_neg one_n0, kn_pI h] at st
        refine ⟨z_up2 F3 75 6 (tz_t b n s), e_run ?_, ?_, ?_, u2_s _ _ _ _, ?_, ?_⟩
        · rw [st]
          refine (e_jL k1).trans ?_
          rw [kn_gI h, k2, kn_gI h, f43, nI_sub (by omega), ek, ee]
          by_cases h8 : tz_to (tz_di b) n s - s ≤ 4
          · rw [if_pos (show nI (tz_to (tz_di b) n s - s) ≤ (4 : Int32) from nI_le (b := 4) h8 (by omega)), j_L, kn_pI h, if_pos h8]
            rfl
          · rw [if_neg (show ¬ nI (tz_to (tz_di b) n s - s) ≤ (4 : Int32) from nI_ge (a := 4) (by omega) (by omega)), j_L, kn_pI h, if_neg h8]
            rfl
        · rw [u2_n _ _ (Or.inr (by omega))]; exact f43
        · rw [u2_n _ _ (Or.inr (by omega)), ee]; exact k2
        · intro q
          rw [ek, ee] at q
          by_cases h8 : tz_to (tz_di b) n s - s ≤ 4
          · rw [u2_n _ _ (Or.inr (by omega)), k4, ee]
            unfold tz_m
            rw [if_pos h8]
          · rw [if_neg h8] at q
            exact absurd q (by decide)
        · intro y j hy
          rw [u2_n _ _ (by omega), k3 y j (by omega), u2_n _ _ (by omega)]
          exact o2 y j (by omega)
      · have hdi' : ¬ (48 ≤ b s ∧ b s ≤ 57) := fun q => hdi (decide_eq_true q)
        have ee : tz_e b n s = s + 1 := by unfold tz_e; rw [if_neg (by omega), if_neg hle, if_neg hdi]
        have ek : tz_t b n s = if tz_sg (b s) = true then b s else 3 := by unfold tz_t; rw [if_neg (by omega), if_neg hle, if_neg hdi]
        rw [if_neg (fun q => hdi' (q5.mp q)), if_pos rfl, kn_gI h, f5, nI_1, kn_pI h] at st
        have hsg : ∀ z : Int32, tz_sg z = true ↔ (z = 59 ∨ (40 ≤ z ∧ z ≤ 43) ∨ z = 45 ∨ z = 47) := fun z => decide_eq_true_iff
        have hval : tz_sg (b s) = true → (b s &&& 255) = b s := fun q => by
          apply q7
          have q' := (hsg (b s)).mp q
          rcases q' with q' | q' | q' | q'
          · rw [q']; decide
          · have := q'.1
            rw [i_le] at this ⊢
            have z1 : (40 : Int32).toInt = 40 := rfl
            have z0 : (0 : Int32).toInt = 0 := rfl
            omega
          · rw [q']; decide
          · rw [q']; decide
        refine ⟨z_up2 (z_up2 F2 75 5 (nI (s + 1))) 75 6 (tz_t b n s), e_run ?_, ?_, ?_, u2_s _ _ _ _, ?_, ?_⟩
        · rw [st, ek, ← q6]
          have hz := hsg (b s &&& 255)
          by_cases c1 : (b s &&& 255) = 59
          · have w := hz.mpr (Or.inl c1)
            rw [if_pos c1, j_L, kn_pI h, if_pos w, hval (q6 ▸ w)]
            rfl
          · rw [if_neg c1, j_bd, g9_wi, wi_iff]
            by_cases c2 : 40 ≤ (b s &&& 255) ∧ (b s &&& 255) ≤ 43
            · have w := hz.mpr (Or.inr (Or.inl c2))
              rw [if_pos c2, if_neg one_n0, j_L, kn_pI h, if_pos w, hval (q6 ▸ w)]
              rfl
            · rw [if_neg c2, if_pos rfl]
              by_cases c3 : (b s &&& 255) = 45
              · have w := hz.mpr (Or.inr (Or.inr (Or.inl c3)))
                rw [if_pos c3, j_L, kn_pI h, if_pos w, hval (q6 ▸ w)]
                rfl
              · rw [if_neg c3]
                by_cases c4 : (b s &&& 255) = 47
                · have w := hz.mpr (Or.inr (Or.inr (Or.inr c4)))
                  rw [if_pos c4, j_L, kn_pI h, if_pos w, hval (q6 ▸ w)]
                  rfl
                · rw [if_neg c4, j_L, kn_pI h, if_neg (fun w => by
                    rcases hz.mp w with w | w | w | w
                    · exact c1 w
                    · exact c2 w
                    · exact c3 w
                    · exact c4 w)]
                  rfl
        · rw [u2_n _ _ (Or.inr (by omega)), u2_n _ _ (Or.inr (by omega))]; exact f4
        · rw [u2_n _ _ (Or.inr (by omega)), u2_s, ee]
        · intro q
          exfalso
          rw [ek] at q
          by_cases c1 : tz_sg (b s) = true
          · rw [if_pos c1] at q
            rw [q] at c1
            exact absurd c1 (by decide)
          · rw [if_neg c1] at q
            exact absurd q (by decide)
        · intro y j hy
          rw [u2_n _ _ (by omega), u2_n _ _ (by omega)]
          exact o2 y j (by omega)
  · have eu : (-1 : Int32) = tz_u b n s := (if_pos (by omega)).symm
    have ee : tz_e b n s = s := by unfold tz_e; rw [if_pos (by omega)]
    have ek : tz_t b n s = 0 := by unfold tz_t; rw [if_pos (by omega)]
    have st := start (-1) eu
    rw [if_pos rfl, kn_pI h] at st
    refine ⟨z_up2 F2 75 6 0, e_run st, ?_, ?_, ?_, ?_, ?_⟩
    · rw [u2_n _ _ (Or.inr (by omega))]; exact f4
    · rw [u2_n _ _ (Or.inr (by omega)), ee]; exact f5
    · rw [u2_s, ek]
    · intro q
      rw [ek] at q
      exact absurd q (by decide)
    · intro y j hy
      rw [u2_n _ _ (by omega)]
      exact o2 y j (by omega)
end PA55
