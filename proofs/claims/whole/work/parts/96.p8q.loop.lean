/-! ===== PHASE 2: the loop of a fare ===== -/
section PA71
variable {α β : Type} {M N : zM} {F F' F1 G G' G1 : Nat → Nat → Int32} {b g cd cd' : Nat → Int32} {i j k m n s s' lo sp nc x r o d beh left : Nat} {p q q' c v w t x1 x2 : Int32} {l : List Nat}
/-- behind a factor: an operator -/
theorem j_s1o (hP : PC M N b n sp) (hI : FI b n F G sp s l nc o 1) (hl : 1 ≤ left) (hl2 : left ≤ 1000) (hz : ¬ oo (tz_t b n s) = 0) : S1 M N b n sp F G s o 1 left := by
  have h0 := hP.1.1
  have h9 := hP.2.1
  have hsp := hP.2.2.2.2
  have hn := hP.2.2.1
  obtain ⟨hJ, hS, hk, ho, ho5, h17, hw, hd, hb⟩ := hI
  have hle : ¬ nI left ≤ 0 := nI_ge (a := 0) (by omega) (by omega)
  have hdec : nI left + (-1) = nI (left - 1) := nI_dec (by omega)
  obtain ⟨hT, hM, e9, e8⟩ := id hJ
  have hs : s ≤ n := hT.2.2.1
  have h6 := hM.1.2.2.2
  have hob := oks_b l hk
  obtain ⟨x, hx, hx40, tx, hrk⟩ := oo_x hz
  have hsn : s < n := tk_s (b := b) hs (fun e => hz (by rw [e]; decide))
  obtain ⟨F1, G1, l1, nc1, k1, k2, k3, k4, k5, k6, ⟨k7, k8, k9, k10⟩, k11⟩ := j_settle hP (r := rk x) hrk l nc F G hS (by omega) (by omega)
  obtain ⟨w1, w2⟩ := k11 ⟨hw, hd, by omega⟩
  have hob1 := oks_b l1 (k9 hk)
  have hS2 := SK_push hsp k3 hx
  have hJ2 : JO b n (z_up2 (z_up2 F1 3 l1.length (oo (nI x))) 2 1 (nI (l1.length + 1))) (z_up2 (z_up2 G1 81 l1.length (nI x)) 75 16 (nI (l1.length + 1))) s := JO_o hJ (fun y j hy => by rw [u2_n _ _ (by omega), u2_n _ _ (by omega)]; exact k5 y j (by omega)) (fun y j hy => by rw [u2_n _ _ (by omega), u2_n _ _ (by omega)]; exact k6 y j (by omega))
  have e79 : z_up2 (z_up2 G1 81 l1.length (nI x)) 75 16 (nI (l1.length + 1)) 79 = G1 79 := by rw [u2_row _ _ (by decide), u2_row _ _ (by decide)]
  have hnp : npa (x :: l1) = npa l1 := if_neg hx40
  have hno : nop (x :: l1) = nop l1 + 1 := if_neg hx40
  obtain ⟨F', G', a1, b1, hI', o1, o2, hlt⟩ := FI_nx (o := o) (beh := 0) hP hJ2 hsn hS2 ⟨fun _ => k7, k9 hk⟩ (by omega) ho5 (by rw [u2_n _ _ (by omega), u2_n _ _ (by omega), k6 75 17 (by omega)]; exact h17) (by rw [e79]; exact w1) (by rw [e79, hno]; exact w2) (by show nc1 + (l1.length + 1) ≤ s + 1; omega)
  have e16 : G1 75 16 = nI l1.length := k3.2.1.1
  have e16' : z_up2 G1 81 l1.length (nI x) 75 16 = nI l1.length := by rw [u2_n _ _ (by omega)]; exact e16
  have e6 : G1 75 6 = nI x := by rw [k6 75 6 (by omega), h6, tx]
  have hrn : ¬ nI (rk x) ≤ 0 := nI_ge (a := 0) (by omega) (by omega)
  have trun : (p_X1_takeOperator 2 (oo (tz_t b n s))).1 (KI M F) = some (.inr (), KI M (z_up2 (z_up2 F1 3 l1.length (oo (nI x))) 2 1 (nI (l1.length + 1)))) := by
    unfold p_X1_takeOperator
    rw [tx, cr_k hx, b_pu, k0_cv2 h0, e_run k1, k0_cv2 h0, e_run (c_hold h0 k3.1.1 (by omega))]
    rfl
  refine ⟨F', G', _, _, _, o, 0, ?_, ?_, ?_, ?_, hlt, Or.inl rfl, hI'⟩
  · show (fc_body (nI o, 0, nI left)).1 (KI M F) = some (.inr (.inl (nI o, 1, nI (left - 1))), KI M F')
    unfold fc_body
    dsimp only
    rw [if_neg hle, k0_gI2 h0, e9, if_pos rfl, if_pos rfl, j_L, if_pos rfl, j_bd, k0_cv2 h0, e_run (c_opt hP hT), if_neg hz, j_bd, k0_cv2 h0, e_run (c_opt hP hT), j_bd, k0_cv2 h0, e_run trun, j_L, k0_cv2 h0, e_run a1, b_pu, hdec]
    rfl
  · show (fm_body (1, 1)).1 (KI N G) = some (.inr (.inl (0, 1)), KI N G')
    unfold fm_body
    dsimp only
    rw [if_neg one_n0, kn_gI h9, e8, if_pos rfl, if_neg one_n0, kn_gI h9, h6, tx, mr_k hx, b_pu, if_neg hrn, kn_gI h9, h6, tx, mr_k hx, b_pu, kn_cv h9, e_run k2, kn_g81 h9, kn_gI h9, e16, kn_gI h9, e6, kn_s81 h9 (by omega), kn_gI h9, e16', nI_1, kn_pI h9, kn_cv h9, e_run b1]
    rfl
  · intro y j hy
    rw [o1 y j (by omega), u2_n _ _ (by omega), u2_n _ _ (by omega)]
    exact k5 y j (by omega)
  · intro y j hy
    rw [o2 y j (by omega), u2_n _ _ (by omega), u2_n _ _ (by omega)]
    exact k6 y j (by omega)
/-- behind a factor: a closing sign -/
theorem j_s1c (hP : PC M N b n sp) (hI : FI b n F G sp s l nc o 1) (hl : 1 ≤ left) (hl2 : left ≤ 1000) (ht : tz_t b n s = 41) (ho1 : 1 ≤ o) : S1 M N b n sp F G s o 1 left := by
  have h0 := hP.1.1
  have h9 := hP.2.1
  have hsp := hP.2.2.2.2
  have hn := hP.2.2.1
  obtain ⟨hJ, hS, hk, ho, ho5, h17, hw, hd, hb⟩ := hI
  have hle : ¬ nI left ≤ 0 := nI_ge (a := 0) (by omega) (by omega)
  have hdec : nI left + (-1) = nI (left - 1) := nI_dec (by omega)
  have hdo : nI o + (-1) = nI (o - 1) := nI_dec (by omega)
  have hdo' : nI o - 1 = nI (o - 1) := nI_dec' (by omega)
  obtain ⟨hT, hM, e9, e8⟩ := id hJ
  have hs : s ≤ n := hT.2.2.1
  have h6 := hM.1.2.2.2
  have hob := oks_b l hk
  have hz : oo (tz_t b n s) = 0 := by rw [ht]; decide
  have hsn : s < n := tk_s (b := b) hs (by rw [ht]; decide)
  have hon : ¬ nI o ≤ 0 := nI_ge (a := 0) (by omega) (by omega)
  obtain ⟨F1, G1, l1, nc1, k1, k2, k3, k4, k5, k6, ⟨k7, k8, k9, k10⟩, k11⟩ := j_settle hP (r := 1) (Or.inl rfl) l nc F G hS (by omega) (by omega)
  obtain ⟨w1, w2⟩ := k11 ⟨hw, hd, by omega⟩
  have hk1 := k9 hk
  cases l1 with
  | nil =>
    have q : (0 : Nat) = npa l := k8
    omega
  | cons x tl =>
    have hx : sv x := k3.2.2.1 x (List.mem_cons_self)
    have hx40 : x = 40 := by
      have q : rk x < 1 := k7
      rcases hx with e | e | e | e | e
      · exact e
      · rw [e] at q; exact absurd q (by decide)
      · rw [e] at q; exact absurd q (by decide)
      · rw [e] at q; exact absurd q (by decide)
      · rw [e] at q; exact absurd q (by decide)
    subst hx40
    have hnp : npa (40 :: tl) = npa tl + 1 := if_pos rfl
    have hno : nop (40 :: tl) = nop tl := if_pos rfl
    have hS2 := SK_pop hsp k3
    have e16 : G1 75 16 = nI (tl.length + 1) := k3.2.1.1
    have f21 : F1 2 1 = nI (tl.length + 1) := k3.1.1
    have hlen : nc1 + (tl.length + 1) = nc + l.length := k4
    have hob1 := oks_b _ hk1
    have hl1 : tl.length + 1 = nop (40 :: tl) + npa (40 :: tl) := hob1.2.2
    have hdl : nI (tl.length + 1) - 1 = nI tl.length := nI_dec' (by omega)
    have hln : ¬ nI (tl.length + 1) ≤ 0 := nI_ge (a := 0) (by omega) (by omega)
    obtain ⟨G2, eG2⟩ : ∃ G2, G2 = z_up2 (z_up2 G1 75 16 (nI tl.length)) 75 17 (nI (o - 1)) := ⟨_, rfl⟩
    have hS3 : SK (z_up2 F1 2 1 (nI tl.length)) G2 sp tl nc1 := SK_o hS2 (fun _ _ _ => rfl) (fun y j hy => by rw [eG2, u2_n _ _ (by omega)])
    have hJ2 : JO b n (z_up2 F1 2 1 (nI tl.length)) G2 s := JO_o hJ (fun y j hy => by rw [u2_n _ _ (by omega)]; exact k5 y j (by omega)) (fun y j hy => by rw [eG2, u2_n _ _ (by omega), u2_n _ _ (by omega)]; exact k6 y j (by omega))
    have e79 : G2 79 = G1 79 := by rw [eG2, u2_row _ _ (by decide), u2_row _ _ (by decide)]
    obtain ⟨F', G', a1, b1, hI', o1, o2, hlt⟩ := FI_nx (o := o - 1) (beh := 1) hP hJ2 hsn hS3 hk1.2 (by omega) (by omega) (by rw [eG2, u2_s]) (by rw [e79]; exact w1) (by rw [e79, w2, hno]) (by omega)
    have e17 : z_up2 G1 75 16 (nI tl.length) 75 17 = nI o := by rw [u2_n _ _ (by omega), k6 75 17 (by omega)]; exact h17
    have crun : (p_X1_closeParenthesis 2).1 (KI M F) = some (.inr (), KI M (z_up2 F1 2 1 (nI tl.length))) := by
      unfold p_X1_closeParenthesis
      rw [k0_cv2 h0]
      refine (e_run k1).trans ?_
      rw [k0_gI2 h0, f21, if_neg hln, k0_gI2 h0, f21, hdl, k0_pI2 h0]
      rfl
    have k2' : (p_X9_settle 75 1).1 (KI N G) = some (.inr (), KI N G1) := k2
    refine ⟨F', G', _, _, _, o - 1, 1, ?_, ?_, ?_, ?_, hlt, Or.inr rfl, hI'⟩
    · show (fc_body (nI o, 0, nI left)).1 (KI M F) = some (.inr (.inl (nI (o - 1), 0, nI (left - 1))), KI M F')
      unfold fc_body
      dsimp only
      rw [if_neg hle, k0_gI2 h0, e9, if_pos rfl, if_pos rfl, j_L, if_pos rfl, j_bd, k0_cv2 h0, e_run (c_opt hP hT), hz, if_pos rfl, if_neg hon, j_bd, k0_cv2 h0, e_run (c_sgn hP hT (c := 41) (by decide)), if_pos ht, if_neg one_n0, j_bd, k0_cv2 h0, e_run crun, b_pu, j_L, k0_cv2 h0, e_run a1, b_pu, hdec, hdo]
      rfl
    · show (fm_body (1, 1)).1 (KI N G) = some (.inr (.inl (1, 1)), KI N G')
      unfold fm_body
      dsimp only
      rw [if_neg one_n0, kn_gI h9, e8, if_pos rfl, if_neg one_n0, kn_gI h9, h6, mr_0 hz, b_pu, if_pos (show (0 : Int32) ≤ 0 by decide), kn_gI h9, h6, if_pos ht, j_bd, kn_gI h9, h17, if_neg hon, j_bd, kn_cv h9, e_run k2', j_bd, kn_gI h9, e16, hdl, j_bd, kn_pI h9, j_bd, kn_gI h9, e17, hdo', j_bd, kn_pI h9, ← eG2, j_bd, kn_cv h9, e_run b1, j_R]
      rfl
    · intro y j hy
      rw [o1 y j (by omega), u2_n _ _ (by omega)]
      exact k5 y j (by omega)
    · intro y j hy
      rw [o2 y j (by omega), eG2, u2_n _ _ (by omega), u2_n _ _ (by omega)]
      exact k6 y j (by omega)
/-- behind a factor: the fare's end -/
theorem j_s1b (hP : PC M N b n sp) (hI : FI b n F G sp s l nc o 1) (hl : 1 ≤ left) (hl2 : left ≤ 1000) (hz : oo (tz_t b n s) = 0) (hb2 : o = 0 ∨ ¬ tz_t b n s = 41) : S3 M N b n sp F G s o 1 left := by
  have h0 := hP.1.1
  have h9 := hP.2.1
  have hsp := hP.2.2.2.2
  have hn := hP.2.2.1
  obtain ⟨hJ, hS, hk, ho, ho5, h17, hw, hd, hb⟩ := hI
  have hle : ¬ nI left ≤ 0 := nI_ge (a := 0) (by omega) (by omega)
  obtain ⟨hT, hM, e9, e8⟩ := id hJ
  have hs : s ≤ n := hT.2.2.1
  have h6 := hM.1.2.2.2
  have hob := oks_b l hk
  have crun : (fc_body (nI o, 0, nI left)).1 (KI M F) = some (.inr (.inr (.inl (nI o, 0))), KI M F) := by
    unfold fc_body
    dsimp only
    rw [if_neg hle, k0_gI2 h0, e9, if_pos rfl, if_pos rfl, j_L, if_pos rfl, j_bd, k0_cv2 h0, e_run (c_opt hP hT), hz, if_pos rfl]
    by_cases h1 : o = 0
    · rw [if_pos (show nI o ≤ 0 by rw [h1]; decide), j_R]
      rfl
    · rw [if_neg (show ¬ nI o ≤ 0 from nI_ge (a := 0) (by omega) (by omega)), j_bd, k0_cv2 h0, e_run (c_sgn hP hT (c := 41) (by decide)), if_neg (hb2.resolve_left h1), if_pos rfl, j_R]
      rfl
  by_cases h1 : o = 0
  · subst h1
    refine ⟨G, 1, crun, ?_, fM_rf, Or.inl ⟨rfl, rfl, s, l, nc, Nat.le_refl _, hJ, hS, hk, ho, hw, hd, hb⟩⟩
    show (fm_body (1, 1)).1 (KI N G) = some (.inr (.inl (1, 0)), KI N G)
    unfold fm_body
    dsimp only
    rw [if_neg one_n0, kn_gI h9, e8, if_pos rfl, if_neg one_n0, kn_gI h9, h6, mr_0 hz, b_pu, if_pos (show (0 : Int32) ≤ 0 by decide), kn_gI h9, h6]
    by_cases ht : tz_t b n s = 41
    · rw [if_pos ht, j_bd, kn_gI h9, h17, if_pos (show nI 0 ≤ 0 by decide), j_L, kn_gI h9, h17, if_pos (show nI 0 = 0 by decide), j_L, kn_cv h9, e_run (m_must0 h9 e8 one_n0)]
      rfl
    · rw [if_neg ht, j_L, kn_gI h9, h17, if_pos (show nI 0 = 0 by decide), j_L, kn_cv h9, e_run (m_must0 h9 e8 one_n0)]
      rfl
  · have ht := hb2.resolve_left h1
    refine ⟨z_up2 (z_up2 G 75 8 1) 75 9 (G 75 4), 1, crun, ?_, fun y j hy => by rw [u2_n _ _ (by omega), u2_n _ _ (by omega)], Or.inr ⟨Or.inr ⟨nI_lt (a := 0) (by omega) (by omega), JE_mk (k := 1) (s := s) (s' := s) (by omega) (by decide) (by decide) (TKc_o hT (fun y j hy => ff_o (by omega))) ?_ ?_ ?_⟩, ⟨F, l, nc, SK_o hS (fun _ _ _ => rfl) (fun y j hy => by rw [u2_n _ _ (by omega), u2_n _ _ (by omega)]), by omega, by omega⟩, l.length, nc, by omega, by omega, hS.1.1, hS.2.2.2.1⟩⟩
    · show (fm_body (1, 1)).1 (KI N G) = _
      unfold fm_body
      dsimp only
      rw [if_neg one_n0, kn_gI h9, e8, if_pos rfl, if_neg one_n0, kn_gI h9, h6, mr_0 hz, b_pu, if_pos (show (0 : Int32) ≤ 0 by decide), kn_gI h9, h6, if_neg ht, j_L, kn_gI h9, h17, if_neg (nI_n0 (by omega) (by omega)), j_L, kn_cv h9, e_run (m_must1 h9 e8 (by decide))]
      rfl
    · rw [ff_0 e9, hT.1.2.1]
      rfl
    · rw [u2_n _ _ (by omega), u2_s]
      rfl
    · rw [u2_s]
      exact hM.1.2.1
theorem FX_le (h : FX b n F G sp s x1 x2) (hl : lo ≤ s) : FX b n F G sp lo x1 x2 := by
  rcases h with ⟨h1, h2, s2, l, nc, h3, h4⟩ | h
  · exact Or.inl ⟨h1, h2, s2, l, nc, by omega, h4⟩
  · exact Or.inr h
/-- the loops of both -/
theorem j_floop (hP : PC M N b n sp) : ∀ f s l nc o beh left F G, n - s ≤ f → n + 1 ≤ left + s → left ≤ 1000 → (beh = 0 ∨ beh = 1) → FI b n F G sp s l nc o beh → ∃ F' G' x1 x2, (z_lp fc_body (nI o, fi beh, nI left)).1 (KI M F) = some (.inr (.inl (x1, x2)), KI M F') ∧ (z_lp fm_body (nI beh, 1)).1 (KI N G) = some (.inr (.inl ()), KI N G') ∧ fC sp F F' ∧ fM G G' ∧ FX b n F' G' sp s x1 x2 := by
  have h0 := hP.1.1
  have h9 := hP.2.1
  intro f
  induction f with
  | zero =>
    intro s l nc o beh left F G hf hl hl2 hbe hI
    have hs : s ≤ n := hI.1.1.2.2.1
    have three : S1 M N b n sp F G s o beh left ∨ S2 M N b n sp F G o beh left ∨ S3 M N b n sp F G s o beh left := by
      rcases hbe with e | e
      · subst e
        rcases j_s0 hP hI (by omega) hl2 with q | q
        · exact Or.inl q
        · exact Or.inr (Or.inl q)
      · subst e
        by_cases hz : oo (tz_t b n s) = 0
        · by_cases hc : o = 0 ∨ ¬ tz_t b n s = 41
          · exact Or.inr (Or.inr (j_s1b hP hI (by omega) hl2 hz hc))
          · exact Or.inl (j_s1c hP hI (by omega) hl2 (Decidable.not_not.mp (fun q => hc (Or.inr q))) (by have : ¬ o = 0 := fun q => hc (Or.inl q); omega))
        · exact Or.inl (j_s1o hP hI (by omega) hl2 hz)
    rcases three with ⟨F1, G1, s1, l1, nc1, o1, beh1, q1, q2, q3, q4, q5, q6, q7⟩ | ⟨F1, G1, y1, y2, z, q1, q2, q3, q4, q5, q6⟩ | ⟨G1, z, q1, q2, q3, q4⟩
    · have := q7.1.1.2.2.1
      omega
    · obtain ⟨n1, n2⟩ := JE_n q5
      refine ⟨F1, G1, y1, y2, (z_lp_step q1).trans (z_lp_end ?_), (z_lp_step q2).trans (z_lp_end ?_), q3, q4, Or.inr ⟨Or.inl q5, q6⟩⟩
      · unfold fc_body
        dsimp only
        by_cases g : nI (left - 1) ≤ 0
        · rw [if_pos g]; rfl
        · rw [if_neg g, k0_gI2 h0, if_neg n1]; rfl
      · unfold fm_body
        dsimp only
        rw [if_neg one_n0, kn_gI h9, if_neg n2]
        rfl
    · exact ⟨F, G1, nI o, 0, z_lp_end q1, (z_lp_step q2).trans (z_lp_end rfl), fC_rf, q3, q4⟩
  | succ f ih =>
    intro s l nc o beh left F G hf hl hl2 hbe hI
    have hs : s ≤ n := hI.1.1.2.2.1
    have three : S1 M N b n sp F G s o beh left ∨ S2 M N b n sp F G o beh left ∨ S3 M N b n sp F G s o beh left := by
      rcases hbe with e | e
      · subst e
        rcases j_s0 hP hI (by omega) hl2 with q | q
        · exact Or.inl q
        · exact Or.inr (Or.inl q)
      · subst e
        by_cases hz : oo (tz_t b n s) = 0
        · by_cases hc : o = 0 ∨ ¬ tz_t b n s = 41
          · exact Or.inr (Or.inr (j_s1b hP hI (by omega) hl2 hz hc))
          · exact Or.inl (j_s1c hP hI (by omega) hl2 (Decidable.not_not.mp (fun q => hc (Or.inr q))) (by have : ¬ o = 0 := fun q => hc (Or.inl q); omega))
        · exact Or.inl (j_s1o hP hI (by omega) hl2 hz)
    rcases three with ⟨F1, G1, s1, l1, nc1, o1, beh1, q1, q2, q3, q4, q5, q6, q7⟩ | ⟨F1, G1, y1, y2, z, q1, q2, q3, q4, q5, q6⟩ | ⟨G1, z, q1, q2, q3, q4⟩
    · obtain ⟨F', G', x1, x2, r1, r2, r3, r4, r5⟩ := ih s1 l1 nc1 o1 beh1 (left - 1) F1 G1 (by omega) (by omega) (by omega) q6 q7
      exact ⟨F', G', x1, x2, (z_lp_step q1).trans r1, (z_lp_step q2).trans r2, fC_tr q3 r3, fM_tr q4 r4, FX_le r5 (by omega)⟩
    · obtain ⟨n1, n2⟩ := JE_n q5
      refine ⟨F1, G1, y1, y2, (z_lp_step q1).trans (z_lp_end ?_), (z_lp_step q2).trans (z_lp_end ?_), q3, q4, Or.inr ⟨Or.inl q5, q6⟩⟩
      · unfold fc_body
        dsimp only
        by_cases g : nI (left - 1) ≤ 0
        · rw [if_pos g]; rfl
        · rw [if_neg g, k0_gI2 h0, if_neg n1]; rfl
      · unfold fm_body
        dsimp only
        rw [if_neg one_n0, kn_gI h9, if_neg n2]
        rfl
    · exact ⟨F, G1, nI o, 0, z_lp_end q1, (z_lp_step q2).trans (z_lp_end rfl), fC_rf, q3, q4⟩
end PA71
