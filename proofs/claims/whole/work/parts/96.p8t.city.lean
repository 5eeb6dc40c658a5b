/-! ===== PHASE 2: both begin to read ===== -/
section PA74
variable {α β : Type} {M N : zM} {F F' F1 G G' G1 : Nat → Nat → Int32} {b ct ct' cd cd' : Nat → Int32} {i j k m n s s' lo sp ns nt np nc n0 : Nat} {p q q' c v w t x1 x2 : Int32} {l : List Nat}
theorem c_clr2 (hC : LC sp M) : ∃ F', (p_X0_clear sp).1 (KI M F) = some (.inr (), KI M F') ∧ (F' sp 10 = 0 ∧ F' sp 11 = 0 ∧ F' sp 12 = 0 ∧ F' sp 13 = 10 ∧ F' sp 14 = 5 ∧ F' sp 15 = 20 ∧ F' sp 16 = 0 ∧ F' sp 17 = 0) ∧ F' (sp + 10) 2 = nI 1 ∧ F' (sp + 10 + 1) 0 = 100 ∧ ∀ y j, ¬ (sp ≤ y ∧ y < sp + 13) → F' y j = F y j := by
  have hF := LC_F hC
  obtain ⟨F1, e1⟩ : ∃ F1, F1 = z_up2 (z_up2 (z_up2 (z_up2 (z_up2 (z_up2 (z_up2 (z_up2 (z_up2 F sp 10 0) sp 11 0) sp 12 0) sp 13 10) sp 14 5) sp 15 20) sp 16 0) sp 17 0) (sp + 10) 2 0 := ⟨_, rfl⟩
  have hl : F1 (sp + 10) 2 = nI 0 := by rw [e1, u2_s]; rfl
  refine ⟨z_up2 (z_up2 F1 (sp + 10 + 1) 0 100) (sp + 10) 2 (nI 1), ?_, ⟨?_, ?_, ?_, ?_, ?_, ?_, ?_, ?_⟩, u2_s _ _ _ _, ?_, ?_⟩
  · unfold p_X0_clear p_X2_clear
    rw [kc_pI hC, kc_pI hC, kc_pI hC, kc_pI hC, kc_pI hC, kc_pI hC, kc_pI hC, kc_pI hC, kc_g9 hC, kf_cv hF, b_bd, kf_pI hF, b_pu, ← e1, kc_g9 hC, kf_cv hF, e_run (c_add hF hl (by decide))]
    rfl
  · rw [u2_n _ _ (by omega), u2_n _ _ (by omega), e1, u2_n _ _ (by omega), u2_n _ _ (by omega), u2_n _ _ (by omega), u2_n _ _ (by omega), u2_n _ _ (by omega), u2_n _ _ (by omega), u2_n _ _ (by omega), u2_n _ _ (by omega), u2_s]
  · rw [u2_n _ _ (by omega), u2_n _ _ (by omega), e1, u2_n _ _ (by omega), u2_n _ _ (by omega), u2_n _ _ (by omega), u2_n _ _ (by omega), u2_n _ _ (by omega), u2_n _ _ (by omega), u2_n _ _ (by omega), u2_s]
  · rw [u2_n _ _ (by omega), u2_n _ _ (by omega), e1, u2_n _ _ (by omega), u2_n _ _ (by omega), u2_n _ _ (by omega), u2_n _ _ (by omega), u2_n _ _ (by omega), u2_n _ _ (by omega), u2_s]
  · rw [u2_n _ _ (by omega), u2_n _ _ (by omega), e1, u2_n _ _ (by omega), u2_n _ _ (by omega), u2_n _ _ (by omega), u2_n _ _ (by omega), u2_n _ _ (by omega), u2_s]
  · rw [u2_n _ _ (by omega), u2_n _ _ (by omega), e1, u2_n _ _ (by omega), u2_n _ _ (by omega), u2_n _ _ (by omega), u2_n _ _ (by omega), u2_s]
  · rw [u2_n _ _ (by omega), u2_n _ _ (by omega), e1, u2_n _ _ (by omega), u2_n _ _ (by omega), u2_n _ _ (by omega), u2_s]
  · rw [u2_n _ _ (by omega), u2_n _ _ (by omega), e1, u2_n _ _ (by omega), u2_n _ _ (by omega), u2_s]
  · rw [u2_n _ _ (by omega), u2_n _ _ (by omega), e1, u2_n _ _ (by omega), u2_s]
  · rw [u2_n _ _ (by omega), u2_s]
  · intro y j hy
    rw [u2_n _ _ (by omega), u2_n _ _ (by omega), e1, u2_n _ _ (by omega), u2_n _ _ (by omega), u2_n _ _ (by omega), u2_n _ _ (by omega), u2_n _ _ (by omega), u2_n _ _ (by omega), u2_n _ _ (by omega), u2_n _ _ (by omega), u2_n _ _ (by omega)]
/-- the class, up to its loop -/
theorem c_city0 (h0 : L0 M) (hC : LC sp M) (hsp : sp = 15 ∨ sp = 28) (hn : n ≤ 700) (hb : ∀ j, j < n → F 1 j = b j) : ∃ F', (p_X1_readCity 2 1 (nI n) sp).1 (KI M F) = ((z_jn (τ := Unit) (z_lp rb_body (nI n)) (fun t7 => (z_bd (z_gI 1 2 9) (fun v13 => (z_pu v13))))) : zP Int32).1 (KI (z_wr (z_wr M 2 2 (some 1)) 2 3 (some sp)) F') ∧ TKc b n F' (tz_b0 b n 0) ∧ F' 2 9 = 0 ∧ (F' 2 10 = 0 ∧ F' 2 11 = 0 ∧ F' 2 12 = 0 ∧ F' 2 13 = 0) ∧ (F' sp 10 = 0 ∧ F' sp 11 = 0 ∧ F' sp 12 = 0 ∧ F' sp 13 = 10 ∧ F' sp 14 = 5 ∧ F' sp 15 = 20 ∧ F' sp 16 = 0 ∧ F' sp 17 = 0) ∧ F' (sp + 10) 2 = nI 1 ∧ F' (sp + 10 + 1) 0 = 100 ∧ oC sp F F' := by
  obtain ⟨M1, eM1⟩ : ∃ M1, M1 = z_wr M 2 2 (some 1) := ⟨_, rfl⟩
  obtain ⟨M2, eM2⟩ : ∃ M2, M2 = z_wr M1 2 3 (some sp) := ⟨_, rfl⟩
  have g1 : loc sp sp M M1 := by rw [eM1]; exact loc_wr (Or.inr ⟨rfl, Or.inl rfl⟩)
  have g2 : loc sp sp M1 M2 := by rw [eM2]; exact loc_wr (Or.inr ⟨rfl, Or.inr rfl⟩)
  have h1 : L0 M1 := L0_loc h0 g1
  have h2 : L0 M2 := L0_loc h1 g2
  have hC2 : LC sp M2 := LC_loc hC (loc_tr g1 g2) (by omega) (by omega)
  have hr2 : z_r M2 2 2 = some 1 := by rw [eM2, r_wr (Or.inr (by decide)), eM1, r_wrs]
  have hr3 : z_r M2 2 3 = some sp := by rw [eM2, r_wrs]
  rw [← eM1, ← eM2]
  obtain ⟨F1, k1, k2, k3, k4, k5⟩ := c_clr2 (F := z_up2 F 2 4 (nI n)) hC2
  obtain ⟨F2, eF2⟩ : ∃ F2, F2 = z_up2 (z_up2 (z_up2 (z_up2 (z_up2 (z_up2 F1 2 6 0) 2 9 0) 2 10 0) 2 11 0) 2 12 0) 2 13 0 := ⟨_, rfl⟩
  have o2 : ∀ y j, ¬ (y = 2 ∧ 6 ≤ j ∧ j ≤ 13) → F2 y j = F1 y j := fun y j hy => by rw [eF2, u2_n _ _ (by omega), u2_n _ _ (by omega), u2_n _ _ (by omega), u2_n _ _ (by omega), u2_n _ _ (by omega), u2_n _ _ (by omega)]
  have f4 : F2 2 4 = nI n := by rw [o2 2 4 (by omega), k5 2 4 (by omega), u2_s]
  have f6 : F2 2 6 = nI 0 := by rw [eF2, u2_n _ _ (by omega), u2_n _ _ (by omega), u2_n _ _ (by omega), u2_n _ _ (by omega), u2_n _ _ (by omega), u2_s]; rfl
  have f9 : F2 2 9 = 0 := by rw [eF2, u2_n _ _ (by omega), u2_n _ _ (by omega), u2_n _ _ (by omega), u2_n _ _ (by omega), u2_s]
  have f10 : F2 2 10 = 0 := by rw [eF2, u2_n _ _ (by omega), u2_n _ _ (by omega), u2_n _ _ (by omega), u2_s]
  have f11 : F2 2 11 = 0 := by rw [eF2, u2_n _ _ (by omega), u2_n _ _ (by omega), u2_s]
  have f12 : F2 2 12 = 0 := by rw [eF2, u2_n _ _ (by omega), u2_s]
  have f13 : F2 2 13 = 0 := by rw [eF2, u2_s]
  have hb2 : ∀ j, j < n → F2 1 j = b j := fun j hj => by rw [o2 1 j (by omega), k5 1 j (by omega), u2_n _ _ (by omega)]; exact hb j hj
  obtain ⟨F3, t1, t2, t3, t4, t5, t6⟩ := c_next (f := z_pu) h2 hr2 hn (Nat.zero_le n) hb2 f4 f6
  have hb0 := tz_b (p := tz_ws b) (Nat.zero_le n)
  have f34 : F3 2 4 = nI n := (t6 2 4 (by omega)).trans f4
  have e7 : (z_bd (z_gI 1 2 9) (fun v13 => (z_pu v13)) : zP Int32) = z_bd (z_gI 1 2 9) (fun v13 => (z_pu v13)) := rfl
  refine ⟨F3, ?_, ⟨⟨f34, t2, t3, t4⟩, t5, hb0.2, fun j hj => (t6 1 j (by omega)).trans (hb2 j hj)⟩, (t6 2 9 (by omega)).trans f9, ⟨(t6 2 10 (by omega)).trans f10, (t6 2 11 (by omega)).trans f11, (t6 2 12 (by omega)).trans f12, (t6 2 13 (by omega)).trans f13⟩, ?_, ?_, ?_, ?_⟩
  · have hal : ∀ f : Int32 → zP Int32, (z_bd (z_al 10 1) f).1 (KI M1 F) = (f (nI 700)).1 (KI M1 F) := fun f => by
      refine (e_al (M := KI M1 F) (k0_ar1 h1).1).trans ?_
      rw [show z_ln (KI M1 F) 1 = 700 from (k0_ar1 h1).2]
    have hp2 : ∀ f : Unit → zP Int32, (z_bd (z_pR 1 2 2 (some 1)) f).1 (KI M F) = (f ()).1 (KI M1 F) := fun f => by rw [eM1]; exact ki_pR (k0_is2 h0)
    have hp3 : ∀ f : Unit → zP Int32, (z_bd (z_pR 1 2 3 (some sp)) f).1 (KI M1 (z_up2 F 2 4 (nI n))) = (f ()).1 (KI M2 (z_up2 F 2 4 (nI n))) := fun f => by rw [eM2]; exact ki_pR (k0_is2 h1)
    have hnl : ¬ nI 700 < nI n := nI_nlt hn (by decide)
    unfold p_X1_readCity
    rw [hp2, hal, if_neg hnl, b_pu, k0_pI2 h1, hp3, ki_gA (k0_is2 h2) hr3, kc_cv hC2, e_run k1, k0_pI2 h2, k0_pI2 h2, k0_pZ2 h2 (Or.inl rfl), k0_pZ2 h2 (Or.inl rfl), k0_pZ2 h2 (Or.inl rfl), k0_pZ2 h2 (Or.inl rfl), ← eF2, k0_cv2 h2, e_run (e_id.symm.trans t1), k0_gI2 h2, f34]
    rfl
  · obtain ⟨u1, u2, u3, u4, u5, u6, u7, u8⟩ := k2
    exact ⟨(t6 _ _ (by omega)).trans ((o2 _ _ (by omega)).trans u1), (t6 _ _ (by omega)).trans ((o2 _ _ (by omega)).trans u2), (t6 _ _ (by omega)).trans ((o2 _ _ (by omega)).trans u3), (t6 _ _ (by omega)).trans ((o2 _ _ (by omega)).trans u4), (t6 _ _ (by omega)).trans ((o2 _ _ (by omega)).trans u5), (t6 _ _ (by omega)).trans ((o2 _ _ (by omega)).trans u6), (t6 _ _ (by omega)).trans ((o2 _ _ (by omega)).trans u7), (t6 _ _ (by omega)).trans ((o2 _ _ (by omega)).trans u8)⟩
  · exact (t6 _ _ (by omega)).trans ((o2 _ _ (by omega)).trans k3)
  · exact (t6 _ _ (by omega)).trans ((o2 _ _ (by omega)).trans k4)
  · intro y hy
    funext j
    rw [t6 y j (by omega), o2 y j (by omega), k5 y j (by omega), u2_n _ _ (by omega)]
/-- the model, up to its loop -/
theorem m_city0 (h9 : L9 N) (hn : n ≤ n0) (hn0 : n0 ≤ 700) (hB : ∀ j, j < n → ∃ y : Int8, b j = y.toInt32) (hb : ∀ j, j < n → G 76 j = b j) (h2 : G 75 2 = nI n0) : ∃ G', (p_X9_parse 75 (nI n)).1 (KI N G) = ((z_jn (τ := Unit) (z_lp pb_body ()) (fun t5 => (z_bd (z_gI 9 75 8) (fun v14 => (if v14 = 0 then (z_bd (z_cv 9 75 (p_X9_takeDraft 75)) (fun _ => (z_bd (z_gA 9 75 11) (fun v16 => (z_bd (z_aI 11 v16 0) (fun v17 => (z_pu v17))))))) else (z_bd (z_gI 9 75 9) (fun v18 => (z_bd (z_gI 9 75 8) (fun v19 => (z_pu ((-2) - ((8 * v18) + v19)))))))))))) : zP Int32).1 (KI N G') ∧ TKm b n G' (tz_b0 b n 0) ∧ G' 75 8 = 0 ∧ (∀ j, j < 138 → G' 77 j = s_df j) ∧ G' 75 14 = 0 ∧ G' 79 0 = 100 ∧ G' 75 0 = 0 ∧ G' 75 2 = 0 ∧ (∀ j, 17 < j → G' 75 j = G 75 j) ∧ ∀ y, ¬ (y = 75 ∨ y = 77 ∨ y = 79) → G' y = G y := by
  obtain ⟨G1, e1⟩ : ∃ G1, G1 = z_up2 (z_up2 (z_up2 (z_up2 (z_up2 G 75 0 0) 75 3 (nI n)) 75 2 0) 75 5 0) 75 8 0 := ⟨_, rfl⟩
  have o1 : ∀ y j, ¬ (y = 75 ∧ j ≤ 8) → G1 y j = G y j := fun y j hy => by rw [e1, u2_n _ _ (by omega), u2_n _ _ (by omega), u2_n _ _ (by omega), u2_n _ _ (by omega), u2_n _ _ (by omega)]
  have f0 : G1 75 0 = 0 := by rw [e1, u2_n _ _ (by omega), u2_n _ _ (by omega), u2_n _ _ (by omega), u2_n _ _ (by omega), u2_s]
  have f3 : G1 75 3 = nI n := by rw [e1, u2_n _ _ (by omega), u2_n _ _ (by omega), u2_n _ _ (by omega), u2_s]
  have f2 : G1 75 2 = 0 := by rw [e1, u2_n _ _ (by omega), u2_n _ _ (by omega), u2_s]
  have f5 : G1 75 5 = nI 0 := by rw [e1, u2_n _ _ (by omega), u2_s]; rfl
  have f8 : G1 75 8 = 0 := by rw [e1, u2_s]
  obtain ⟨G2, k1, k2, k3, k4, k5, k6⟩ := m_defaults (F := G1) h9
  have hb2 : ∀ j, j < n → G2 76 j = b j := fun j hj => by rw [k6 76 (by decide) (by decide) (by decide), o1 76 j (by omega)]; exact hb j hj
  obtain ⟨G3, t1, t2, t3, t4, t5, t6⟩ := m_next (f := z_pu) h9 (by omega) hB (Nat.zero_le n) hb2 ((k4 3 (by decide)).trans f3) ((k4 5 (by decide)).trans f5)
  have hw : 0 ≤ nI n ∧ nI n ≤ nI n0 := ⟨nI_le (a := 0) (by omega) (by omega), nI_le hn (by omega)⟩
  refine ⟨G3, ?_, ⟨⟨(t6 75 3 (by omega)).trans ((k4 3 (by decide)).trans f3), t2, t3, t4⟩, t5, fun j hj => (t6 76 j (by omega)).trans (hb2 j hj)⟩, (t6 75 8 (by omega)).trans ((k4 8 (by decide)).trans f8), fun j hj => (t6 77 j (by omega)).trans (k2 j hj), (t6 75 14 (by omega)).trans k3, (t6 79 0 (by omega)).trans k5, (t6 75 0 (by omega)).trans ((k4 0 (by decide)).trans f0), (t6 75 2 (by omega)).trans ((k4 2 (by decide)).trans f2), fun j hj => ?_, fun y hy => ?_⟩
  · unfold p_X9_parse
    rw [kn_pI h9, kn_gI h9, u2_n _ _ (by omega), h2, g9_wi, wi_iff, if_pos hw, if_neg one_n0, kn_pI h9, kn_pI h9, kn_pI h9, kn_pI h9, ← e1, kn_cv h9, e_run k1, kn_cv h9, e_run (e_id.symm.trans t1)]
    rfl
  · rw [t6 75 j (by omega), k4 j (by omega), o1 75 j (by omega)]
  · funext j
    rw [t6 y j (by omega), k6 y (by omega) (by omega) (by omega), o1 y j (by omega)]
/-- both read a text -/
theorem j_city (h0 : L0 M) (hC : LC sp M) (hsp : sp = 15 ∨ sp = 28) (h9 : L9 N) (hn : n ≤ n0) (hn0 : n0 ≤ 700) (hB : ∀ j, j < n → ∃ y : Int8, b j = y.toInt32) (hbF : ∀ j, j < n → F 1 j = b j) (hbG : ∀ j, j < n → G 76 j = b j) (h2 : G 75 2 = nI n0) : ∃ F' G', (p_X1_readCity 2 1 (nI n) sp).1 (KI M F) = some (.inr (F' 2 9), KI (z_wr (z_wr M 2 2 (some 1)) 2 3 (some sp)) F') ∧ (p_X9_parse 75 (nI n)).1 (KI N G) = ((z_bd (z_gI 9 75 8) (fun v14 => (if v14 = 0 then (z_bd (z_cv 9 75 (p_X9_takeDraft 75)) (fun _ => (z_bd (z_gA 9 75 11) (fun v16 => (z_bd (z_aI 11 v16 0) (fun v17 => (z_pu v17))))))) else (z_bd (z_gI 9 75 9) (fun v18 => (z_bd (z_gI 9 75 8) (fun v19 => (z_pu ((-2) - ((8 * v18) + v19)))))))))) : zP Int32).1 (KI N G') ∧ oC sp F F' ∧ (G' 75 0 = 0 ∧ G' 75 2 = 0 ∧ (∀ j, 17 < j → G' 75 j = G 75 j) ∧ ∀ y, ¬ (y = 75 ∨ y = 77 ∨ y = 79 ∨ y = 81) → G' y = G y) ∧ (JE b n F' G' ∨ ∃ s ns nt np nc, JO b n F' G' s ∧ DR F' G' sp ns nt np nc) := by
  obtain ⟨F1, a1, a2, a3, ⟨a10, a11, a12, a13⟩, ⟨u1, u2, u3, u4, u5, u6, u7, u8⟩, a5, a6, a7⟩ := c_city0 (b := b) h0 hC hsp (show n ≤ 700 by omega) hbF
  obtain ⟨G1, b1, b2, b3, b4, b5, b6, b7, b8, b9, b10⟩ := m_city0 (b := b) h9 hn hn0 hB hbG h2
  obtain ⟨M2, eM2⟩ : ∃ M2, M2 = z_wr (z_wr M 2 2 (some 1)) 2 3 (some sp) := ⟨_, rfl⟩
  have g : loc sp sp M M2 := by rw [eM2]; exact loc_tr (loc_wr (Or.inr ⟨rfl, Or.inl rfl⟩)) (loc_wr (Or.inr ⟨rfl, Or.inr rfl⟩))
  have hP : PC M2 N b n sp := ⟨⟨L0_loc h0 g, by rw [eM2, r_wr (Or.inr (by decide)), r_wrs], by rw [eM2, r_wrs], LC_loc hC g (by omega) (by omega)⟩, h9, by omega, hB, hsp⟩
  have hD : DR F1 G1 sp 0 0 0 1 := by
    have z : ∀ j, j < 138 → G1 77 j = s_df j := b4
    refine ⟨⟨⟨u1.trans (z 0 (by omega)).symm, u2.trans (z 1 (by omega)).symm, u3.trans (z 2 (by omega)).symm, u4.trans (z 3 (by omega)).symm, u5.trans (z 4 (by omega)).symm, u6.trans (z 5 (by omega)).symm, u7.trans (z 6 (by omega)).symm, u8.trans (z 7 (by omega)).symm⟩, fun k hk => absurd hk (Nat.not_lt_zero _), fun k hk => absurd hk (Nat.not_lt_zero _), fun k hk => absurd hk (Nat.not_lt_zero _), a5, fun i hi => ?_⟩, ⟨⟨z 0 (by omega), by omega, z 1 (by omega), by omega, z 2 (by omega), by omega⟩, ⟨z 8 (by omega), by omega, by omega, fun k hk => ?_⟩, fun k hk => absurd hk (Nat.not_lt_zero _), fun k hk => absurd hk (Nat.not_lt_zero _), ⟨10, 5, 20, 0, 0, by omega, by omega, by omega, by omega, by omega, z 3 (by omega), z 4 (by omega), z 5 (by omega), z 6 (by omega), z 7 (by omega)⟩, fun k hk => absurd hk (Nat.not_lt_zero _)⟩, 0, by omega, b5, a10, a11, a12, a13⟩
    · have e : i = 0 := by omega
      subst e
      rw [a6, b6]
      exact ⟨by decide, Or.inl (by decide)⟩
    · have e : k = 0 := by omega
      subst e
      rw [b6]
      exact ⟨fun q => absurd q (by decide), by show 0 < 16; decide⟩
  obtain ⟨F2, G2, k1, k2, k3, k4, k5⟩ := j_ploop hP n (tz_b0 b n 0) n F1 G1 0 0 0 1 (by omega) (by omega) (by omega) ⟨a2, b2, a3, b3⟩ hD
  refine ⟨F2, G2, ?_, ?_, oC_tr a7 k3, ⟨(k4.2 0 (by omega)).trans b7, (k4.2 2 (by omega)).trans b8, fun j hj => (k4.2 j (by omega)).trans (b9 j hj), fun y hy => (k4.1 y hy).trans (b10 y (by omega))⟩, k5⟩
  · rw [a1, ← eM2]
    refine (e_jL k1).trans ?_
    rw [k0_gI2 hP.1.1]
    rfl
  · rw [b1]
    exact e_jL k2
end PA74
