/-! ===== PHASE 2: the class's next token, whole ===== -/
/-- the token's kind, as the class tells it -/
def tz_k (b : Nat → Int32) (n s : Nat) : Nat := if n ≤ s then 0 else if tz_le b s = true then (if tz_e b n s - s ≤ 8 then 1 else 4) else if tz_di b s = true then (if tz_e b n s - s ≤ 4 then 2 else 4) else if tz_sg (b s) = true then 3 else 4
/-- the token's number or sign -/
def tz_w (b : Nat → Int32) (n s : Nat) : Int32 := if tz_di b s = true then tz_v b s (tz_e b n s - s) else b s
/-- where the token after place e begins -/
def tz_b0 (b : Nat → Int32) (n e : Nat) : Nat := tz_to (tz_ws b) n e
section PA52
variable {β : Type} {M : zM} {F F' : Nat → Nat → Int32} {b : Nat → Int32} {i j k n s e : Nat} {x : Int32}
theorem c_next {f : Unit → zP β} (h : L0 M) (hr : z_r M 2 2 = some 1) (hn : n ≤ 700) (he : e ≤ n) (hb : ∀ j, j < n → F 1 j = b j) (h4 : F 2 4 = nI n) (h6 : F 2 6 = nI e) :
    ∃ F', (z_bd (p_X1_nextToken 2) f).1 (KI M F) = (f ()).1 (KI M F') ∧ F' 2 5 = nI (tz_b0 b n e) ∧ F' 2 6 = nI (tz_e b n (tz_b0 b n e)) ∧ F' 2 7 = nI (tz_k b n (tz_b0 b n e)) ∧ (2 ≤ tz_k b n (tz_b0 b n e) → tz_le b (tz_b0 b n e) = false → F' 2 8 = tz_w b n (tz_b0 b n e)) ∧ ∀ y j, ¬ (y = 2 ∧ 5 ≤ j ∧ j ≤ 8) → F' y j = F y j := by
  obtain ⟨F1, g1, g2, g3⟩ := c_skip (b := b) h hr hn (n - e) e (z_up2 F 2 5 (nI e)) rfl he (fun j hj => by rw [u2_row _ _ (by omega)]; exact hb j hj) (by rw [u2_n _ _ (Or.inr (by omega))]; exact h4) (u2_s _ _ _ _)
  obtain ⟨s, es⟩ : ∃ s, s = tz_b0 b n e := ⟨_, rfl⟩
  have g2' : F1 2 5 = nI s := by rw [es]; exact g2
  have hse : e ≤ s ∧ s ≤ n := by rw [es]; exact tz_b he
  rw [← es]
  have o1 : ∀ y j, ¬ (y = 2 ∧ j = 5) → F1 y j = F y j := fun y j hy => (g3 y j hy).trans (u2_n _ _ (by omega))
  obtain ⟨F2, eF2⟩ : ∃ F2, F2 = z_up2 F1 2 6 (nI s) := ⟨_, rfl⟩
  have o2 : ∀ y j, ¬ (y = 2 ∧ (j = 5 ∨ j = 6)) → F2 y j = F y j := fun y j hy => by
    rw [eF2, u2_n _ _ (by omega)]
    exact o1 y j (by omega)
  have f5 : F2 2 5 = nI s := by rw [eF2, u2_n _ _ (Or.inr (by omega))]; exact g2'
  have f6 : F2 2 6 = nI s := by rw [eF2, u2_s]
  have f4 : F2 2 4 = nI n := (o2 2 4 (by omega)).trans h4
  have hb2 : ∀ j, j < n → F2 1 j = b j := fun j hj => (o2 1 j (by omega)).trans (hb j hj)
  have start : ∀ (q : zP Unit), (p_X1_nextToken 2).1 (KI M F) = ((z_bd (z_gI 1 2 5) (fun v15 => (z_bd (z_gI 1 2 4) (fun v16 => (if v15 < v16 then (z_bd (z_gA 1 2 2) (fun v17 => (z_bd (z_gI 1 2 5) (fun v18 => (z_bd (z_aI 10 v17 v18) (fun v19 => (z_bd (p_X1_isLetter v19) (fun r20 => (if r20 = 0 then (z_bd (z_gA 1 2 2) (fun v21 => (z_bd (z_gI 1 2 5) (fun v22 => (z_bd (z_aI 10 v21 v22) (fun v23 => (z_bd (p_X1_isDigit v23) (fun r24 => (if r24 = 0 then (z_bd (z_gA 1 2 2) (fun v25 => (z_bd (z_gI 1 2 5) (fun v26 => (z_bd (z_aI 10 v25 v26) (fun v27 => (z_bd (z_pI 1 2 8 v27) (fun _ => (z_bd (z_gA 1 2 2) (fun v28 => (z_bd (z_gI 1 2 5) (fun v29 => (z_bd (z_aI 10 v28 v29) (fun v30 => (z_bd (p_X1_isSignByte v30) (fun r31 => (z_jn (τ := Int32) (if r31 = 0 then (z_pu (.inl 4)) else (z_pu (.inl 3))) (fun t32 => (z_bd (z_pI 1 2 7 t32) (fun _ => (z_bd (z_gI 1 2 6) (fun v33 => (z_bd (z_pI 1 2 6 (v33 + 1)) (fun _ => (z_pu ()))))))))))))))))))))))))) else (z_bd (z_pI 1 2 8 0) (fun _ => (z_jn (τ := Unit) (z_lp (fun (t35 : Unit) => (z_bd (z_gI 1 2 6) (fun v36 => (z_bd (z_gI 1 2 4) (fun v37 => (if v37 ≤ v36 then (z_pu (.inr (.inl ()))) else (z_bd (z_gA 1 2 2) (fun v38 => (z_bd (z_gI 1 2 6) (fun v39 => (z_bd (z_aI 10 v38 v39) (fun v40 => (z_bd (p_X1_isDigit v40) (fun r41 => (if r41 = 0 then (z_pu (.inr (.inl ()))) else (z_bd (z_gI 1 2 8) (fun v42 => (z_bd (z_gA 1 2 2) (fun v43 => (z_bd (z_gI 1 2 6) (fun v44 => (z_bd (z_aI 10 v43 v44) (fun v45 => (z_bd (z_pI 1 2 8 (((10 * v42) + v45) - 48)) (fun _ => (z_bd (z_gI 1 2 6) (fun v46 => (z_bd (z_pI 1 2 6 (v46 + 1)) (fun _ => (z_pu (.inl ()))))))))))))))))))))))))))))))) ()) (fun t34 => (z_bd (z_gI 1 2 6) (fun v47 => (z_bd (z_gI 1 2 5) (fun v48 => (z_jn (τ := Int32) (if 4 < (v47 - v48) then (z_pu (.inl 4)) else (z_pu (.inl 2))) (fun t49 => (z_bd (z_pI 1 2 7 t49) (fun _ => (z_pu ())))))))))))))))))))))) else (z_jn (τ := Unit) (z_lp (fun (t51 : Unit) => (z_bd (z_gI 1 2 6) (fun v52 => (z_bd (z_gI 1 2 4) (fun v53 => (if v53 ≤ v52 then (z_pu (.inr (.inl ()))) else (z_bd (z_gA 1 2 2) (fun v54 => (z_bd (z_gI 1 2 6) (fun v55 => (z_bd (z_aI 10 v54 v55) (fun v56 => (z_bd (p_X1_isLetter v56) (fun r57 => (if r57 = 0 then (z_pu (.inr (.inl ()))) else (z_bd (z_gI 1 2 6) (fun v58 => (z_bd (z_pI 1 2 6 (v58 + 1)) (fun _ => (z_pu (.inl ()))))))))))))))))))))) ()) (fun t50 => (z_bd (z_gI 1 2 6) (fun v59 => (z_bd (z_gI 1 2 5) (fun v60 => (z_jn (τ := Int32) (if 8 < (v59 - v60) then (z_pu (.inl 4)) else (z_pu (.inl 1))) (fun t61 => (z_bd (z_pI 1 2 7 t61) (fun _ => (z_pu ())))))))))))))))))))) else (z_bd (z_pI 1 2 7 0) (fun _ => (z_pu ()))))))))).1 (KI M F2) := fun _ => by
    unfold p_X1_nextToken
    rw [k0_gI2 h, h6, k0_pI2 h]
    refine (e_jL g1).trans ?_
    rw [k0_gI2 h, g2', k0_pI2 h, ← eF2]
  by_cases hs : s < n
  · have hlt : nI s < nI n := nI_lt hs (by omega)
    have ebs : F2 1 s = b s := hb2 s hs
    by_cases hle : tz_le b s = true
    · have hle' : 97 ≤ b s ∧ b s ≤ 122 := of_decide_eq_true hle
      obtain ⟨F3, k1, k2, k3⟩ := c_lets (b := b) h hr hn (n - s) s F2 rfl (by omega) hb2 f4 f6
      have ee : tz_e b n s = tz_to (tz_le b) n s := by unfold tz_e; rw [if_neg (by omega), if_pos hle]
      have hb3 := tz_b (p := tz_le b) (show s ≤ n by omega)
      have ek : tz_k b n s = if tz_e b n s - s ≤ 8 then 1 else 4 := by unfold tz_k; rw [if_neg (by omega), if_pos hle]
      have f53 : F3 2 5 = nI s := (k3 2 5 (by omega)).trans f5
      refine ⟨z_up2 F3 2 7 (nI (tz_k b n s)), e_run ?_, ?_, ?_, u2_s _ _ _ _, ?_, ?_⟩
      · rw [start (z_pu ()), k0_gI2 h, f5, k0_gI2 h, f4, if_pos hlt, kb_tx h hr, k0_gI2 h, f5, kb_aI h (by omega), ebs, c_le, b_pu, if_pos hle', if_neg one_n0]
        refine (e_jL k1).trans ?_
        rw [k0_gI2 h, k2, k0_gI2 h, f53, nI_sub (by omega), ek, ee]
        by_cases h8 : tz_to (tz_le b) n s - s ≤ 8
        · rw [if_neg (show ¬ (8 : Int32) < nI (tz_to (tz_le b) n s - s) from nI_nlt (a := 8) h8 (by omega)), j_L, k0_pI2 h, if_pos h8]
          rfl
        · rw [if_pos (show (8 : Int32) < nI (tz_to (tz_le b) n s - s) from nI_lt (a := 8) (by omega) (by omega)), j_L, k0_pI2 h, if_neg h8]
          rfl
      · rw [u2_n _ _ (Or.inr (by omega))]; exact f53
      · rw [u2_n _ _ (Or.inr (by omega)), ee]; exact k2
      · intro _ q
        rw [hle] at q
        cases q
      · intro y j hy
        rw [u2_n _ _ (by omega), k3 y j (by omega)]
        exact o2 y j (by omega)
    · have hle' : ¬ (97 ≤ b s ∧ b s ≤ 122) := fun q => hle (decide_eq_true q)
      by_cases hdi : tz_di b s = true
      · have hdi' : 48 ≤ b s ∧ b s ≤ 57 := of_decide_eq_true hdi
        obtain ⟨F3, k1, k2, k4, k3⟩ := c_digs (b := b) (s := s) h hr hn (n - s) s (z_up2 F2 2 8 0) rfl (Nat.le_refl _) (by omega) (fun j hj => by rw [u2_row _ _ (by omega)]; exact hb2 j hj) (by rw [u2_n _ _ (Or.inr (by omega))]; exact f4) (by rw [u2_n _ _ (Or.inr (by omega))]; exact f6) (by rw [u2_s, Nat.sub_self]; rfl)
        have ee : tz_e b n s = tz_to (tz_di b) n s := by unfold tz_e; rw [if_neg (by omega), if_neg hle, if_pos hdi]
        have hb3 := tz_b (p := tz_di b) (show s ≤ n by omega)
        have ek : tz_k b n s = if tz_e b n s - s ≤ 4 then 2 else 4 := by unfold tz_k; rw [if_neg (by omega), if_neg hle, if_pos hdi]
        have f53 : F3 2 5 = nI s := by rw [k3 2 5 (by omega), u2_n _ _ (Or.inr (by omega))]; exact f5
        refine ⟨z_up2 F3 2 7 (nI (tz_k b n s)), e_run ?_, ?_, ?_, u2_s _ _ _ _, ?_, ?_⟩
        · rw [start (z_pu ()), k0_gI2 h, f5, k0_gI2 h, f4, if_pos hlt, kb_tx h hr, k0_gI2 h, f5, kb_aI h (by omega), ebs, c_le, b_pu, if_neg hle', if_pos rfl, kb_tx h hr, k0_gI2 h, f5, kb_aI h (by omega), ebs, c_di, b_pu, if_pos hdi', if_neg one_n0, k0_pI2 h]
          refine (e_jL k1).trans ?_
          rw [k0_gI2 h, k2, k0_gI2 h, f53, nI_sub (by omega), ek, ee]
          by_cases h8 : tz_to (tz_di b) n s - s ≤ 4
          · rw [if_neg (show ¬ (4 : Int32) < nI (tz_to (tz_di b) n s - s) from nI_nlt (a := 4) h8 (by omega)), j_L, k0_pI2 h, if_pos h8]
            rfl
          · rw [if_pos (show (4 : Int32) < nI (tz_to (tz_di b) n s - s) from nI_lt (a := 4) (by omega) (by omega)), j_L, k0_pI2 h, if_neg h8]
            rfl
        · rw [u2_n _ _ (Or.inr (by omega))]; exact f53
        · rw [u2_n _ _ (Or.inr (by omega)), ee]; exact k2
        · intro _ _
          rw [u2_n _ _ (Or.inr (by omega)), k4]
          unfold tz_w
          rw [if_pos hdi, ee]
        · intro y j hy
          rw [u2_n _ _ (by omega), k3 y j (by omega), u2_n _ _ (by omega)]
          exact o2 y j (by omega)
      · have hdi' : ¬ (48 ≤ b s ∧ b s ≤ 57) := fun q => hdi (decide_eq_true q)
        have ee : tz_e b n s = s + 1 := by unfold tz_e; rw [if_neg (by omega), if_neg hle, if_neg hdi]
        have ek : tz_k b n s = if tz_sg (b s) = true then 3 else 4 := by unfold tz_k; rw [if_neg (by omega), if_neg hle, if_neg hdi]
        refine ⟨z_up2 (z_up2 (z_up2 F2 2 8 (b s)) 2 7 (nI (tz_k b n s))) 2 6 (nI (s + 1)), e_run ?_, ?_, ?_, ?_, ?_, ?_⟩
        · have w5 : z_up2 F2 2 8 (b s) 2 5 = nI s := (u2_n _ _ (Or.inr (by omega))).trans f5
          have wb : z_up2 F2 2 8 (b s) 1 s = b s := by rw [u2_row _ _ (by omega)]; exact ebs
          have w6 : z_up2 (z_up2 F2 2 8 (b s)) 2 7 (nI (tz_k b n s)) 2 6 = nI s := by rw [u2_n _ _ (Or.inr (by omega)), u2_n _ _ (Or.inr (by omega))]; exact f6
          rw [start (z_pu ()), k0_gI2 h, f5, k0_gI2 h, f4, if_pos hlt, kb_tx h hr, k0_gI2 h, f5, kb_aI h (by omega), ebs, c_le, b_pu, if_neg hle', if_pos rfl, kb_tx h hr, k0_gI2 h, f5, kb_aI h (by omega), ebs, c_di, b_pu, if_neg hdi', if_pos rfl, kb_tx h hr, k0_gI2 h, f5, kb_aI h (by omega), ebs, k0_pI2 h, kb_tx h hr, k0_gI2 h, w5, kb_aI h (by omega), wb, c_sg, b_pu]
          by_cases hsg : tz_sg (b s) = true
          · rw [if_pos hsg] at ek
            rw [ek] at w6 ⊢
            rw [if_pos hsg, if_neg one_n0, j_L, k0_pI2 h, k0_gI2 h]
            refine (congrArg (fun z => (z_bd (z_pI 1 2 6 (z + 1)) (fun _ => z_pu ())).1 (KI M (z_up2 (z_up2 F2 2 8 (b s)) 2 7 (nI 3)))) w6).trans ?_
            rw [nI_1, k0_pI2 h]
            rfl
          · rw [if_neg hsg] at ek
            rw [ek] at w6 ⊢
            rw [if_neg hsg, if_pos rfl, j_L, k0_pI2 h, k0_gI2 h]
            refine (congrArg (fun z => (z_bd (z_pI 1 2 6 (z + 1)) (fun _ => z_pu ())).1 (KI M (z_up2 (z_up2 F2 2 8 (b s)) 2 7 (nI 4)))) w6).trans ?_
            rw [nI_1, k0_pI2 h]
            rfl
        · rw [u2_n _ _ (Or.inr (by omega)), u2_n _ _ (Or.inr (by omega)), u2_n _ _ (Or.inr (by omega))]; exact f5
        · rw [u2_s, ee]
        · rw [u2_n _ _ (Or.inr (by omega)), u2_s]
        · intro _ _
          rw [u2_n _ _ (Or.inr (by omega)), u2_n _ _ (Or.inr (by omega)), u2_s]
          unfold tz_w
          rw [if_neg hdi]
        · intro y j hy
          rw [u2_n _ _ (by omega), u2_n _ _ (by omega), u2_n _ _ (by omega)]
          exact o2 y j (by omega)
  · have hge : ¬ nI s < nI n := nI_nlt (by omega) (by omega)
    have ee : tz_e b n s = s := by unfold tz_e; rw [if_pos (by omega)]
    have ek : tz_k b n s = 0 := by unfold tz_k; rw [if_pos (by omega)]
    refine ⟨z_up2 F2 2 7 0, e_run ?_, ?_, ?_, ?_, ?_, ?_⟩
    · rw [start (z_pu ()), k0_gI2 h, f5, k0_gI2 h, f4, if_neg hge, k0_pI2 h]
      rfl
    · rw [u2_n _ _ (Or.inr (by omega))]; exact f5
    · rw [u2_n _ _ (Or.inr (by omega)), ee]; exact f6
    · rw [u2_s, ek]; rfl
    · intro q
      rw [ek] at q
      omega
    · intro y j hy
      rw [u2_n _ _ (by omega)]
      exact o2 y j (by omega)
end PA52
