/-! ===== PHASE 2: a step of a fare ===== -/
/-- within a fare: signs l wait, o of them open; beh 1 behind a factor -/
def FI (b : Nat → Int32) (n : Nat) (F G : Nat → Nat → Int32) (sp s : Nat) (l : List Nat) (nc o beh : Nat) : Prop := JO b n F G s ∧ SK F G sp l nc ∧ oks l ∧ npa l = o ∧ o ≤ 5 ∧ G 75 17 = nI o ∧ s_cw (G 79) nc ∧ s_dp (G 79) nc = nop l + beh ∧ nc + l.length ≤ s
/-- behind an error: what still ends -/
def BX (F G : Nat → Nat → Int32) (sp : Nat) : Prop := (∃ H l nc, SK H G sp l nc ∧ nc + l.length ≤ 700 ∧ l.length ≤ 24) ∧ ∃ w m, w ≤ 24 ∧ m ≤ 700 ∧ F 2 1 = nI w ∧ F (sp + 10) 2 = nI m
/-- a fare's end -/
def FX (b : Nat → Int32) (n : Nat) (F G : Nat → Nat → Int32) (sp lo : Nat) (x1 x2 : Int32) : Prop := (x1 = 0 ∧ x2 = 0 ∧ ∃ s l nc, lo ≤ s ∧ JO b n F G s ∧ SK F G sp l nc ∧ oks l ∧ npa l = 0 ∧ s_cw (G 79) nc ∧ s_dp (G 79) nc = nop l + 1 ∧ nc + l.length ≤ s) ∨ ((JE b n F G ∨ (0 < x1 ∧ JE b n (ff F 1) G)) ∧ BX F G sp)
def fi (beh : Nat) : Int32 := if beh = 0 then 1 else 0
def S1 (M N : zM) (b : Nat → Int32) (n sp : Nat) (F G : Nat → Nat → Int32) (s o beh left : Nat) : Prop := ∃ F1 G1 s1 l1 nc1 o1 beh1, (fc_body (nI o, fi beh, nI left)).1 (KI M F) = some (.inr (.inl (nI o1, fi beh1, nI (left - 1))), KI M F1) ∧ (fm_body (nI beh, 1)).1 (KI N G) = some (.inr (.inl (nI beh1, 1)), KI N G1) ∧ fC sp F F1 ∧ fM G G1 ∧ s < s1 ∧ (beh1 = 0 ∨ beh1 = 1) ∧ FI b n F1 G1 sp s1 l1 nc1 o1 beh1
def S2 (M N : zM) (b : Nat → Int32) (n sp : Nat) (F G : Nat → Nat → Int32) (o beh left : Nat) : Prop := ∃ F1 G1 y1 y2 z, (fc_body (nI o, fi beh, nI left)).1 (KI M F) = some (.inr (.inl (y1, y2, nI (left - 1))), KI M F1) ∧ (fm_body (nI beh, 1)).1 (KI N G) = some (.inr (.inl (z, 1)), KI N G1) ∧ fC sp F F1 ∧ fM G G1 ∧ JE b n F1 G1 ∧ BX F1 G1 sp
def S3 (M N : zM) (b : Nat → Int32) (n sp : Nat) (F G : Nat → Nat → Int32) (s o beh left : Nat) : Prop := ∃ G1 z, (fc_body (nI o, fi beh, nI left)).1 (KI M F) = some (.inr (.inr (.inl (nI o, 0))), KI M F) ∧ (fm_body (nI beh, 1)).1 (KI N G) = some (.inr (.inl (z, 0)), KI N G1) ∧ fM G G1 ∧ FX b n F G1 sp s (nI o) 0
section PA70
variable {α β : Type} {M N : zM} {F F' F1 G G' G1 : Nat → Nat → Int32} {b g cd cd' : Nat → Int32} {i j k m n s s' lo sp nc x r o d beh left : Nat} {p q q' c v w t : Int32} {l : List Nat}
theorem tk_s (hs : s ≤ n) (h : ¬ tz_t b n s = 0) : s < n := by
  by_cases e : s < n
  · exact e
  · exact absurd (tk_t0.mpr ((tk_0 (b := b)).mpr (by omega))) h
theorem FI_nx (hP : PC M N b n sp) (hJ : JO b n F G s) (hs : s < n) (hS : SK F G sp l nc) (hk : oks l) (ho : npa l = o) (ho5 : o ≤ 5) (h17 : G 75 17 = nI o) (hw : s_cw (G 79) nc) (hd : s_dp (G 79) nc = nop l + beh) (hb : nc + l.length ≤ s + 1) : ∃ F' G', (p_X1_nextToken 2).1 (KI M F) = some (.inr (), KI M F') ∧ (p_X9_nextToken 75).1 (KI N G) = some (.inr (), KI N G') ∧ FI b n F' G' sp (tz_n2 b n s) l nc o beh ∧ oc F F' ∧ om G G' ∧ s < tz_n2 b n s := by
  have hsp := hP.2.2.2.2
  obtain ⟨F', G', a1, b1, j1, o1, o2⟩ := j_nx hP hJ
  have h1 := (n2_b (b := b) (show s ≤ n by omega)).2.2 hs
  have e79 : G' 79 = G 79 := om_r o2 (by decide)
  refine ⟨F', G', a1, b1, ⟨j1, SK_o hS (fun y j hy => o1 y j (by omega)) (fun y j hy => o2 y j (by omega)), hk, ho, ho5, (o2 75 17 (by omega)).trans h17, by rw [e79]; exact hw, by rw [e79]; exact hd, by omega⟩, o1, o2, h1⟩
theorem mr_0 (h : oo t = 0) : p_X9_rank t = z_pu 0 := by
  unfold oo at h
  unfold p_X9_rank
  by_cases c1 : t = 42
  · rw [if_pos c1] at h; exact absurd h (by decide)
  · rw [if_neg c1] at h
    by_cases c2 : t = 43
    · rw [if_pos c2] at h; exact absurd h (by decide)
    · rw [if_neg c2] at h
      by_cases c3 : t = 45
      · rw [if_pos c3] at h; exact absurd h (by decide)
      · rw [if_neg c3] at h
        by_cases c4 : t = 47
        · rw [if_pos c4] at h; exact absurd h (by decide)
        · rw [if_neg c1, if_neg c4, if_neg c2, if_neg c3]
theorem oo_x (h : ¬ oo t = 0) : ∃ x, sv x ∧ x ≠ 40 ∧ t = nI x ∧ (rk x = 1 ∨ rk x = 2) := by
  unfold oo at h
  by_cases c1 : t = 42
  · exact ⟨42, Or.inr (Or.inl rfl), by decide, c1, Or.inr rfl⟩
  · rw [if_neg c1] at h
    by_cases c2 : t = 43
    · exact ⟨43, Or.inr (Or.inr (Or.inl rfl)), by decide, c2, Or.inl rfl⟩
    · rw [if_neg c2] at h
      by_cases c3 : t = 45
      · exact ⟨45, Or.inr (Or.inr (Or.inr (Or.inl rfl))), by decide, c3, Or.inl rfl⟩
      · rw [if_neg c3] at h
        by_cases c4 : t = 47
        · exact ⟨47, Or.inr (Or.inr (Or.inr (Or.inr rfl))), by decide, c4, Or.inr rfl⟩
        · rw [if_neg c4] at h
          exact absurd rfl h
/-- ahead of a factor -/
theorem j_s0 (hP : PC M N b n sp) (hI : FI b n F G sp s l nc o 0) (hl : 1 ≤ left) (hl2 : left ≤ 1000) : S1 M N b n sp F G s o 0 left ∨ S2 M N b n sp F G o 0 left := by
  have h0 := hP.1.1
  have h9 := hP.2.1
  have hsp := hP.2.2.2.2
  have hn := hP.2.2.1
  obtain ⟨hJ, hS, hk, ho, ho5, h17, hw, hd, hb⟩ := hI
  have hle : ¬ nI left ≤ 0 := nI_ge (a := 0) (by omega) (by omega)
  have hdec : nI left + (-1) = nI (left - 1) := nI_dec (by omega)
  obtain ⟨hT, hM, e9, e8⟩ := id hJ
  have hs : s ≤ n := hT.2.2.1
  have h6 := hM.1.2.2.2
  have hob := oks_b l hk
  have hF1 : F 2 1 = nI l.length := hS.1.1
  have hG16 : G 75 16 = nI l.length := hS.2.1.1
  by_cases ht : tz_t b n s = 40
  · have hsn : s < n := tk_s hs (by rw [ht]; decide)
    by_cases h5 : o < 5
    · have ho5' : nI o < 5 := nI_lt (b := 5) h5 (by decide)
      have ho5n : ¬ (5 : Int32) ≤ nI o := nI_ge (b := 5) h5 (by decide)
      obtain ⟨G0, eG0⟩ : ∃ G0, G0 = z_up2 G 75 17 (nI (o + 1)) := ⟨_, rfl⟩
      have hS0 : SK F G0 sp l nc := SK_o hS (fun _ _ _ => rfl) (fun y j hy => by rw [eG0, u2_n _ _ (by omega)])
      have hS1 := SK_push hsp hS0 (x := 40) (Or.inl rfl)
      have hJ1 : JO b n (z_up2 (z_up2 F 3 l.length (oo (nI 40))) 2 1 (nI (l.length + 1))) (z_up2 (z_up2 G0 81 l.length (nI 40)) 75 16 (nI (l.length + 1))) s := JO_o hJ (fun y j hy => by rw [u2_n _ _ (by omega), u2_n _ _ (by omega)]) (fun y j hy => by rw [u2_n _ _ (by omega), u2_n _ _ (by omega), eG0, u2_n _ _ (by omega)])
      have e79 : z_up2 (z_up2 G0 81 l.length (nI 40)) 75 16 (nI (l.length + 1)) 79 = G 79 := by rw [u2_row _ _ (by decide), u2_row _ _ (by decide), eG0, u2_row _ _ (by decide)]
      obtain ⟨F', G', a1, b1, hI', o1, o2, hlt⟩ := FI_nx (o := o + 1) (beh := 0) hP hJ1 hsn hS1 ⟨fun q => absurd rfl q, hk⟩ (by show npa l + 1 = o + 1; omega) (by omega) (by rw [u2_n _ _ (by omega), u2_n _ _ (by omega), eG0, u2_s]) (by rw [e79]; exact hw) (by rw [e79]; exact hd) (by show nc + (l.length + 1) ≤ s + 1; omega)
      rw [show oo (nI 40) = 0 by decide] at a1
      have e16 : G0 75 16 = nI l.length := by rw [eG0, u2_n _ _ (by omega)]; exact hG16
      have e16' : z_up2 G0 81 l.length 40 75 16 = nI l.length := by rw [u2_n _ _ (by omega)]; exact e16
      refine Or.inl ⟨F', G', _, _, _, o + 1, 0, ?_, ?_, ?_, ?_, hlt, Or.inl rfl, hI'⟩
      · show (fc_body (nI o, 1, nI left)).1 (KI M F) = some (.inr (.inl (nI (o + 1), 1, nI (left - 1))), KI M F')
        unfold fc_body
        dsimp only
        rw [if_neg hle, k0_gI2 h0, e9, if_pos rfl, if_neg one_n0, j_bd, j_bd, k0_cv2 h0, e_run (c_sgn hP hT (c := 40) (by decide)), if_pos ht, if_neg one_n0, if_pos ho5', j_L, j_bd, j_bd, k0_cv2 h0, e_run (c_hold h0 hF1 (by omega)), j_R, j_L, k0_cv2 h0, e_run a1, b_pu, hdec, nI_1]
        rfl
      · show (fm_body (0, 1)).1 (KI N G) = some (.inr (.inl (0, 1)), KI N G')
        have frun : (p_X9_factor 75).1 (KI N G) = some (.inr 0, KI N G') := by
          unfold p_X9_factor
          rw [kn_gI h9, h6, ht, if_pos rfl, kn_gI h9, h17, if_neg ho5n, j_L, kn_cv h9, e_run (m_must0 h9 e8 one_n0), if_neg one_n0, kn_gI h9, h17, nI_1, kn_pI h9, ← eG0, kn_g81 h9, kn_gI h9, e16, kn_s81 h9 (by omega), kn_gI h9, e16', nI_1, kn_pI h9, kn_cv h9]
          refine (e_run b1).trans ?_
          rfl
        unfold fm_body
        dsimp only
        rw [if_neg one_n0, kn_gI h9, e8, if_pos rfl, if_pos rfl, kn_cv h9, e_run frun]
        rfl
      · intro y j hy
        rw [o1 y j (by omega), u2_n _ _ (by omega), u2_n _ _ (by omega)]
      · intro y j hy
        rw [o2 y j (by omega), u2_n _ _ (by omega), u2_n _ _ (by omega), eG0, u2_n _ _ (by omega)]
    · have ho5' : ¬ nI o < 5 := nI_nlt (b := 5) (by omega) (by omega)
      have ho5n : (5 : Int32) ≤ nI o := nI_le (a := 5) (by omega) (by omega)
      obtain ⟨F0, eF0⟩ : ∃ F0, F0 = ff F 4 := ⟨_, rfl⟩
      have f01 : F0 2 1 = nI l.length := by rw [eF0, ff_o (by omega)]; exact hF1
      obtain ⟨F1, eF1⟩ : ∃ F1, F1 = z_up2 (z_up2 F0 3 l.length 0) 2 1 (nI (l.length + 1)) := ⟨_, rfl⟩
      have f1o : ∀ y j, ¬ ((y = 2 ∧ (j = 1 ∨ j = 9)) ∨ y = 3) → F1 y j = F y j := fun y j hy => by rw [eF1, u2_n _ _ (by omega), u2_n _ _ (by omega), eF0, ff_o (by omega)]
      obtain ⟨F', a1, a2, a3⟩ := c_nx hP (TKc_o hT (F' := F1) (fun y j hy => f1o y j (by omega)))
      have a4 : F' 2 9 = 8 * nI s + nI 4 := by
        rw [a3 2 9 (by omega), eF1, u2_n _ _ (by omega), u2_n _ _ (by omega), eF0, ff_0 e9, hT.1.2.1]
        rfl
      refine Or.inr ⟨F', z_up2 (z_up2 G 75 8 4) 75 9 (G 75 4), nI (o + 1), 1, 0, ?_, ?_, ?_, ?_, JE_mk (k := 4) (s := s) (by omega) (by decide) (by decide) a2 a4 ?_ ?_, ⟨F, l, nc, SK_o hS (fun _ _ _ => rfl) (fun y j hy => by rw [u2_n _ _ (by omega), u2_n _ _ (by omega)]), by omega, by omega⟩, l.length + 1, nc, by omega, by omega, ?_, ?_⟩
      · show (fc_body (nI o, 1, nI left)).1 (KI M F) = some (.inr (.inl (nI (o + 1), 1, nI (left - 1))), KI M F')
        unfold fc_body
        dsimp only
        rw [if_neg hle, k0_gI2 h0, e9, if_pos rfl, if_neg one_n0, j_bd, j_bd, k0_cv2 h0, e_run (c_sgn hP hT (c := 40) (by decide)), if_pos ht, if_neg one_n0, if_neg ho5', j_bd, j_bd, j_bd, k0_cv2 h0, e_run (c_fl h0 4), ← eF0, j_L, j_bd, j_bd, k0_cv2 h0, e_run (c_hold h0 f01 (by omega)), ← eF1, j_R, j_L, k0_cv2 h0, e_run a1, b_pu, hdec, nI_1]
        rfl
      · show (fm_body (0, 1)).1 (KI N G) = _
        have frun : (p_X9_factor 75).1 (KI N G) = some (.inr 0, KI N (z_up2 (z_up2 G 75 8 4) 75 9 (G 75 4))) := by
          unfold p_X9_factor
          rw [kn_gI h9, h6, ht, if_pos rfl, kn_gI h9, h17, if_pos ho5n, j_L, kn_cv h9, e_run (m_must1 h9 e8 (by decide)), if_pos rfl]
          rfl
        unfold fm_body
        dsimp only
        rw [if_neg one_n0, kn_gI h9, e8, if_pos rfl, if_pos rfl, kn_cv h9, e_run frun]
        rfl
      · intro y j hy
        rw [a3 y j (by omega)]
        exact f1o y j (by omega)
      · intro y j hy
        rw [u2_n _ _ (by omega), u2_n _ _ (by omega)]
      · rw [u2_n _ _ (by omega), u2_s]
        rfl
      · rw [u2_s]
        exact hM.1.2.1
      · rw [a3 2 1 (by omega), eF1, u2_s]
      · rw [a3 _ 2 (by omega), f1o _ 2 (by omega)]
        exact hS.2.2.2.1
  · obtain ⟨F1, F', G', r, k1, k2, k3, k4, k5, k6⟩ := j_factor hP hJ hS hb ht
    have crun : (fc_body (nI o, 1, nI left)).1 (KI M F) = some (.inr (.inl (nI o, 0, nI (left - 1))), KI M F') := by
      unfold fc_body
      dsimp only
      rw [if_neg hle, k0_gI2 h0, e9, if_pos rfl, if_neg one_n0, j_bd, j_bd, k0_cv2 h0, e_run (c_sgn hP hT (c := 40) (by decide)), if_neg ht, if_pos rfl, j_L, if_neg one_n0, j_bd, k0_cv2 h0, e_run k1, j_L, k0_cv2 h0, e_run k2, b_pu, hdec]
      rfl
    have mrun : (fm_body (0, 1)).1 (KI N G) = some (.inr (.inl (r, 1)), KI N G') := by
      unfold fm_body
      dsimp only
      rw [if_neg one_n0, kn_gI h9, e8, if_pos rfl, if_pos rfl, kn_cv h9, e_run k3]
      rfl
    rcases k6 with ⟨k6, hsn, k7, k8, k9, k10⟩ | ⟨k6, k7, k8⟩
    · subst k6
      obtain ⟨w1, w2⟩ := k10 (nop l + 0) (by omega) hw hd
      exact Or.inl ⟨F', G', _, l, nc + 1, o, 1, crun, mrun, k4, k5, (n2_b hs).2.2 hsn, Or.inr rfl, k7, k8, hk, ho, ho5, k9.trans h17, w1, w2, by have := (n2_b (b := b) hs).2.2 hsn; omega⟩
    · exact Or.inr ⟨F', G', nI o, 0, r, crun, mrun, k4, k5, k7, ⟨F', l, nc, k8, by omega, by omega⟩, l.length, nc, by omega, by omega, k8.1.1, k8.2.2.2.1⟩
end PA70
