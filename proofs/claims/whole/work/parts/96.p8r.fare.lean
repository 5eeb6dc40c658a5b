/-! ===== PHASE 2: a fare ===== -/
section PA72
variable {α β : Type} {M N : zM} {F F' F1 G G' G1 : Nat → Nat → Int32} {b ct ct' cd cd' : Nat → Int32} {i j k m n s s' lo sp ns nt np nc nc' x r o d beh left : Nat} {p q q' c v w t x1 x2 : Int32} {l : List Nat}
theorem rc_fa (h : RC F sp ct cd ns nt np nc) (hct : ∀ j, j ≠ 8 → ct' j = ct j) (hF : ∀ y j, sp ≤ y → y < sp + 10 → F' y j = F y j) (hl : F' (sp + 10) 2 = nI nc') (hc : ∀ i, i < nc' → F' (sp + 10 + 1) i = s_it (cd' i) ∧ s_iv (cd' i)) : RC F' sp ct' cd' ns nt np nc' := by
  obtain ⟨⟨r10, r11, r12, r13, r14, r15, r16, r17⟩, r2, r3, r4, _, _⟩ := h
  refine ⟨⟨(hF _ _ (by omega) (by omega)).trans (r10.trans (hct 0 (by omega)).symm), (hF _ _ (by omega) (by omega)).trans (r11.trans (hct 1 (by omega)).symm), (hF _ _ (by omega) (by omega)).trans (r12.trans (hct 2 (by omega)).symm), (hF _ _ (by omega) (by omega)).trans (r13.trans (hct 3 (by omega)).symm), (hF _ _ (by omega) (by omega)).trans (r14.trans (hct 4 (by omega)).symm), (hF _ _ (by omega) (by omega)).trans (r15.trans (hct 5 (by omega)).symm), (hF _ _ (by omega) (by omega)).trans (r16.trans (hct 6 (by omega)).symm), (hF _ _ (by omega) (by omega)).trans (r17.trans (hct 7 (by omega)).symm)⟩, fun k hk => ?_, fun t ht => ?_, fun p hp => ?_, hl, hc⟩
  · obtain ⟨g1, g2, g3, g4⟩ := r2 k hk
    exact ⟨(hF _ _ (by omega) (by omega)).trans (g1.trans (hct _ (by omega)).symm), (hF _ _ (by omega) (by omega)).trans (g2.trans (hct _ (by omega)).symm), (hF _ _ (by omega) (by omega)).trans (g3.trans (hct _ (by omega)).symm), (hF _ _ (by omega) (by omega)).trans (g4.trans (hct _ (by omega)).symm)⟩
  · obtain ⟨g1, g2⟩ := r3 t ht
    exact ⟨(hF _ _ (by omega) (by omega)).trans (g1.trans (hct _ (by omega)).symm), (hF _ _ (by omega) (by omega)).trans (g2.trans (hct _ (by omega)).symm)⟩
  · obtain ⟨g1, g2, g3⟩ := r4 p hp
    exact ⟨(hF _ _ (by omega) (by omega)).trans (g1.trans (hct _ (by omega)).symm), (hF _ _ (by omega) (by omega)).trans (g2.trans (hct _ (by omega)).symm), (hF _ _ (by omega) (by omega)).trans (g3.trans (hct _ (by omega)).symm)⟩
theorem ck_fa (h : c_ok ct cd ns nt np nc) (hct : ∀ j, j ≠ 8 → ct' j = ct j) (h8 : ct' 8 = nI nc') (h1 : 1 ≤ nc') (h7 : nc' ≤ 700) (hw : s_cw cd' nc') : c_ok ct' cd' ns nt np nc' := by
  obtain ⟨⟨a1, a2, a3, a4, a5, a6⟩, _, h3, h4, ⟨x1, x2, x3, x4, x5, y1, y2, y3, y4, y5, z1, z2, z3, z4, z5⟩, h6⟩ := h
  refine ⟨⟨(hct 0 (by omega)).trans a1, a2, (hct 1 (by omega)).trans a3, a4, (hct 2 (by omega)).trans a5, a6⟩, ⟨h8, h7, h1, hw⟩, fun p hp => ?_, fun k hk => ?_, ⟨x1, x2, x3, x4, x5, y1, y2, y3, y4, y5, (hct 3 (by omega)).trans z1, (hct 4 (by omega)).trans z2, (hct 5 (by omega)).trans z3, (hct 6 (by omega)).trans z4, (hct 7 (by omega)).trans z5⟩, fun t ht => ?_⟩
  · obtain ⟨a, b, c, q1, q2, q3, q4, q5, q6⟩ := h3 p hp
    exact ⟨a, b, c, q1, q2, q3, (hct _ (by omega)).trans q4, (hct _ (by omega)).trans q5, (hct _ (by omega)).trans q6⟩
  · obtain ⟨a, b, c, f, q1, q2, q3, q4, q5, q6, q7, q8, q9⟩ := h4 k hk
    exact ⟨a, b, c, f, q1, q2, q3, q4, q5, (hct _ (by omega)).trans q6, (hct _ (by omega)).trans q7, (hct _ (by omega)).trans q8, (hct _ (by omega)).trans q9⟩
  · obtain ⟨a, b, q1, q2, q3, q4, q5⟩ := h6 t ht
    exact ⟨a, b, q1, q2, q3, (hct _ (by omega)).trans q4, (hct _ (by omega)).trans q5⟩
theorem fC_oC (h : fC sp F F') : oC sp F F' := fun y hy => funext fun j => h y j (by omega)
theorem fM_oM (h : fM G G') : oM G G' := ⟨fun y hy => funext fun j => h y j (by omega), fun j hj => h 75 j (by omega)⟩
/-- an empty stack -/
theorem st_nil (h : SK F G sp l nc) (h1 : trk l < 1) (h2 : npa l = 0) : l = [] := by
  cases l with
  | nil => rfl
  | cons x t =>
    exfalso
    have hx : sv x := h.2.2.1 x (List.mem_cons_self)
    have q : rk x < 1 := h1
    have hx40 : x = 40 := by
      rcases hx with e | e | e | e | e
      · exact e
      · rw [e] at q; exact absurd q (by decide)
      · rw [e] at q; exact absurd q (by decide)
      · rw [e] at q; exact absurd q (by decide)
      · rw [e] at q; exact absurd q (by decide)
    subst hx40
    have hnp : npa (40 :: t) = npa t + 1 := if_pos rfl
    omega
theorem j_fare (hP : PC M N b n sp) (hJ : JO b n F G s) (hsn : s < n) (hD : DR F G sp ns nt np nc) : ∃ F' G', (p_X1_readFare 2).1 (KI M F) = some (.inr (), KI M F') ∧ ((z_bd (z_cv 9 75 (p_X9_once 75 3)) (fun r3 => (if r3 = 0 then (z_pu ()) else (z_bd (z_cv 9 75 (p_X9_fare 75)) (fun _ => (z_pu ())))))) : zP Unit).1 (KI N G) = some (.inr (), KI N G') ∧ oC sp F F' ∧ oM G G' ∧ JT b n F' G' sp s := by
  obtain ⟨rc, ck, m, m1, m2, m3, m4, m5, m6⟩ := hD
  have h9 := hP.2.1
  have h0 := hP.1.1
  have hC := hP.1.2.2.2
  have hF := LC_F hC
  have hn := hP.2.2.1
  have hsp := hP.2.2.2.2
  have hs : s ≤ n := by omega
  have hn2 := n2_b (b := b) hs
  obtain ⟨bt1, bt2⟩ := bit_3 ⟨m, m1⟩
  obtain ⟨F1, G1, r, a1, b1, o1, hr⟩ := j_once (p := 3) (c := nI (m / 8 % 2)) hP hJ (by rw [m2]; exact bt1)
  obtain ⟨F2, eF2⟩ : ∃ F2, F2 = z_up2 (z_up2 (z_up2 F1 2 13 1) (sp + 10) 2 0) 2 1 0 := ⟨_, rfl⟩
  have oF2 : ∀ y j, ¬ ((y = 2 ∧ (j = 1 ∨ j = 13)) ∨ (y = sp + 10 ∧ j = 2)) → F2 y j = F1 y j := fun y j hy => by rw [eF2, u2_n _ _ (by omega), u2_n _ _ (by omega), u2_n _ _ (by omega)]
  have f21 : F2 2 1 = nI 0 := by rw [eF2, u2_s]; rfl
  have f2l : F2 (sp + 10) 2 = nI 0 := by rw [eF2, u2_n _ _ (by omega), u2_s]; rfl
  have f213 : F2 2 13 = 1 := by rw [eF2, u2_n _ _ (by omega), u2_n _ _ (by omega), u2_s]
  have f24 : F2 2 4 = nI n := by rw [oF2 2 4 (by omega), o1 2 4 (by omega)]; exact hJ.1.1.1
  have oCF : oC sp F F2 := fun y hy => funext fun j => by rw [oF2 y j (by omega), o1 y j (by omega)]
  -- the class's way, but for its loop
  have cst : (p_X1_readFare 2).1 (KI M F) = ((z_jn (τ := Int32 × Int32) (z_lp fc_body (0, 1, nI n)) (fun t7 => (z_jn (τ := Unit) (z_jn (τ := Unit) (if 0 < t7.1 then (z_pu (.inl ())) else (if t7.2 = 0 then (z_pu (.inr (.inl ()))) else (z_pu (.inl ())))) (fun t26 => (z_bd (z_cv 1 2 (p_X1_fail 2 1)) (fun _ => (z_pu (.inl ())))))) (fun t25 => (z_bd (z_cv 1 2 (p_X1_releaseOperators 2 1)) (fun _ => (z_pu ())))))))).1 (KI M F2) := by
    unfold p_X1_readFare
    rw [k0_gI2 h0, m6, k0_cv2 h0, e_run a1, k0_pZ2 h0 (Or.inr rfl), kb_ct hP, kc_g9 hC, kf_cv hF]
    unfold p_X2_clear
    rw [b_bd, kf_pI hF, b_pu, k0_pI2 h0, ← eF2, k0_gI2 h0, f24]
    rfl
  rcases hr with ⟨hr, hc0, hJ1, q1⟩ | ⟨hr, hE1, q1⟩
  · have hm0 : m / 8 % 2 = 0 := nI_z hc0 (by omega)
    have g14 : G1 75 14 = nI (m + 8) := by rw [q1 75 14 (by omega), u2_s, m2]; exact bt2 hm0
    have oG1 : ∀ y j, ¬ (y = 75 ∧ ((4 ≤ j ∧ j ≤ 9) ∨ j = 14)) → G1 y j = G y j := fun y j hy => by rw [q1 y j (by omega), u2_n _ _ (by omega)]
    obtain ⟨G2, eG2⟩ : ∃ G2, G2 = z_up2 (z_up2 (z_up2 G1 77 8 0) 75 16 0) 75 17 0 := ⟨_, rfl⟩
    have oG2 : ∀ y j, ¬ ((y = 75 ∧ (j = 16 ∨ j = 17)) ∨ (y = 77 ∧ j = 8)) → G2 y j = G1 y j := fun y j hy => by rw [eG2, u2_n _ _ (by omega), u2_n _ _ (by omega), u2_n _ _ (by omega)]
    have hI : FI b n F2 G2 sp (tz_n2 b n s) [] 0 0 0 := by
      refine ⟨JO_o hJ1 (fun y j hy => oF2 y j (by omega)) (fun y j hy => oG2 y j (by omega)), ⟨⟨f21, trivial⟩, ⟨by rw [eG2, u2_n _ _ (by omega), u2_s]; rfl, trivial⟩, fun x hx => absurd hx (List.not_mem_nil), f2l, by rw [eG2, u2_n _ _ (by omega), u2_n _ _ (by omega), u2_s]; rfl, fun i hi => absurd hi (Nat.not_lt_zero _)⟩, trivial, rfl, by omega, by rw [eG2, u2_s]; rfl, fun k hk => absurd hk (Nat.not_lt_zero _), rfl, Nat.zero_le _⟩
    obtain ⟨F3, G3, x1, x2, c3, d3, fr3, fm3, hX⟩ := j_floop hP n (tz_n2 b n s) [] 0 0 0 n F2 G2 (by omega) (by omega) (by omega) (Or.inl rfl) hI
    have c3' : (z_lp fc_body (0, 1, nI n)).1 (KI M F2) = some (.inr (.inl (x1, x2)), KI M F3) := c3
    have d3' : (z_lp fm_body (0, 1)).1 (KI N G2) = some (.inr (.inl ()), KI N G3) := d3
    have mst : ∀ G', (p_X9_settle 75 1).1 (KI N G3) = some (.inr (), KI N G') → ((z_bd (z_cv 9 75 (p_X9_once 75 3)) (fun r3 => (if r3 = 0 then (z_pu ()) else (z_bd (z_cv 9 75 (p_X9_fare 75)) (fun _ => (z_pu ())))))) : zP Unit).1 (KI N G) = some (.inr (), KI N G') := fun G' hG => by
      have frun : (p_X9_fare 75).1 (KI N G1) = some (.inr (), KI N G') := by
        unfold p_X9_fare
        rw [kn_g77 h9, kn_t77_8 h9, kn_pI h9, kn_pI h9, ← eG2]
        refine (e_jL d3').trans ?_
        rw [kn_cv h9, e_run hG]
        rfl
      rw [kn_cv h9, e_run b1, hr, if_neg one_n0, kn_cv h9, e_run frun]
      rfl
    have oMG : oM G G3 := ⟨fun y hy => funext fun j => by rw [fm3 y j (by omega), oG2 y j (by omega), oG1 y j (by omega)], fun j hj => by rw [fm3 75 j (by omega), oG2 75 j (by omega), oG1 75 j (by omega)]⟩
    have oCG : oC sp F F3 := oC_tr oCF (fC_oC fr3)
    rcases hX with ⟨e1, e2, s3, l, nc3, hlo, hJ3, hS3, hk3, hp3, hw3, hd3, hb3⟩ | ⟨hE, ⟨Hx, l, nc3, hS3, hb3, hl3⟩, w, mm, hw, hmm, hF21, hFl⟩
    · subst e1 e2
      have hob := oks_b l hk3
      have hs3 : s3 ≤ n := hJ3.1.2.2.1
      obtain ⟨F4, G4, l4, nc4, k1, k2, k3, k4, k5, k6, ⟨k7, k8, k9, k10⟩, k11⟩ := j_settle hP (r := 1) (Or.inl rfl) l nc3 F3 G3 hS3 (by omega) (by omega)
      obtain ⟨w1, w2⟩ := k11 ⟨hw3, hd3, by omega⟩
      have hl4 : l4 = [] := st_nil k3 k7 (by omega)
      subst hl4
      have k4' : nc4 + 0 = nc3 + l.length := k4
      have w2' : s_dp (G4 79) nc4 = 1 := w2
      have hnc1 : 1 ≤ nc4 := by
        by_cases g : nc4 = 0
        · subst g
          have w3 : (0 : Nat) = 1 := w2'
          omega
        · omega
      have k1' : (p_X1_releaseOperators 2 1).1 (KI M F3) = some (.inr (), KI M F4) := k1
      have ct' : ∀ j, j ≠ 8 → G4 77 j = G 77 j := fun j hj => by rw [k6 77 j (by omega), fm3 77 j (by omega), oG2 77 j (by omega), oG1 77 j (by omega)]
      have hFr : ∀ y j, sp ≤ y → y < sp + 10 → F4 y j = F y j := fun y j g1 g2 => by rw [k5 y j (by omega), fr3 y j (by omega), oF2 y j (by omega), o1 y j (by omega)]
      have hFl : ∀ j, 10 ≤ j → j ≤ 12 → F4 2 j = F 2 j := fun j g1 g2 => by rw [k5 2 j (by omega), fr3 2 j (by omega), oF2 2 j (by omega), o1 2 j (by omega)]
      have hF13 : F4 2 13 = 1 := by rw [k5 2 13 (by omega), fr3 2 13 (by omega)]; exact f213
      refine ⟨F4, G4, ?_, mst G4 k2, oC_tr oCG (fC_oC (fR_C k5)), oM_tr oMG (fM_oM (fS_M k6)), Or.inr ⟨s3, ns, nt, np, nc4, by omega, JO_o hJ3 (fun y j hy => k5 y j (by omega)) (fun y j hy => k6 y j (by omega)), rc_fa rc ct' hFr k3.2.2.2.1 k3.2.2.2.2.2, ck_fa ck ct' k3.2.2.2.2.1 hnc1 (by omega) w1, m + 8, by omega, ?_, (hFl 10 (by omega) (by omega)).trans (by rw [show (m + 8) % 2 = m % 2 by omega]; exact m3), (hFl 11 (by omega) (by omega)).trans (by rw [show (m + 8) / 2 % 2 = m / 2 % 2 by omega]; exact m4), (hFl 12 (by omega) (by omega)).trans (by rw [show (m + 8) / 4 % 2 = m / 4 % 2 by omega]; exact m5), hF13.trans (show (1 : Int32) = nI ((m + 8) / 8 % 2) by rw [show (m + 8) / 8 % 2 = 1 by omega]; rfl)⟩⟩
      · rw [cst]
        refine (e_jL c3').trans ?_
        dsimp only
        rw [if_neg (show ¬ (0 : Int32) < 0 by decide), if_pos rfl, j_R, j_L, k0_cv2 h0, e_run k1']
        rfl
      · rw [k6 75 14 (by omega), fm3 75 14 (by omega), oG2 75 14 (by omega)]
        exact g14
    · obtain ⟨F5, eF5⟩ : ∃ F5, F5 = ff F3 1 := ⟨_, rfl⟩
      have hE5 : JE b n F5 G3 := by
        rw [eF5]
        rcases hE with hE | ⟨_, hE⟩
        · rw [ff_1 (JE_n hE).1]; exact hE
        · exact hE
      have f5o : ∀ y j, ¬ (y = 2 ∧ j = 9) → F5 y j = F3 y j := fun y j hy => by rw [eF5, ff_o hy]
      obtain ⟨F4, k1, k5⟩ := c_relT hP 1 w mm F5 hw hmm ((f5o 2 1 (by omega)).trans hF21) ((f5o _ 2 (by omega)).trans hFl)
      obtain ⟨_, G4, l4, nc4, _, k2, _, _, _, k6, _⟩ := j_settle hP (r := 1) (Or.inl rfl) l nc3 Hx G3 hS3 hb3 hl3
      refine ⟨F4, G4, ?_, mst G4 k2, oC_tr oCG (fC_oC (fun y j hy => by rw [k5 y j (by omega), f5o y j (by omega)])), oM_tr oMG (fM_oM (fS_M k6)), Or.inl (JE_o hE5 (fun y j hy => k5 y j (by omega)) (fun j hj => k6 75 j (by omega)))⟩
      rw [cst]
      refine (e_jL c3').trans ?_
      dsimp only
      by_cases g1 : 0 < x1
      · rw [if_pos g1, j_L, j_bd, k0_cv2 h0, e_run (c_fl h0 1), ← eF5, j_L, k0_cv2 h0, e_run k1]
        rfl
      · have hEE : JE b n F3 G3 := by
          rcases hE with hE | ⟨q, _⟩
          · exact hE
          · exact absurd q g1
        have e53 : F5 = F3 := by rw [eF5, ff_1 (JE_n hEE).1]
        by_cases g2 : x2 = 0
        · rw [if_neg g1, if_pos g2, j_R, j_L, k0_cv2 h0, ← e53, e_run k1]
          rfl
        · rw [if_neg g1, if_neg g2, j_L, j_bd, k0_cv2 h0, e_run (c_fl h0 1), ← eF5, j_L, k0_cv2 h0, e_run k1]
          rfl
  · -- it came before
    have hE2 : JE b n F2 G1 := JE_o hE1 (fun y j hy => oF2 y j (by omega)) (fun _ _ => rfl)
    have n1 := (JE_n hE2).1
    have e25 : ff F2 1 = F2 := ff_1 n1
    obtain ⟨F4, k1, k5⟩ := c_relT hP 1 0 0 F2 (by omega) (by omega) f21 f2l
    refine ⟨F4, G1, ?_, ?_, oC_tr oCF (fC_oC (fR_C k5)), om_M q1, Or.inl (JE_o hE2 (fun y j hy => k5 y j (by omega)) (fun _ _ => rfl))⟩
    · rw [cst]
      have hlp : (z_lp fc_body (0, 1, nI n)).1 (KI M F2) = some (.inr (.inl (0, 1)), KI M F2) := z_lp_end (by
        unfold fc_body
        dsimp only
        by_cases g : nI n ≤ 0
        · rw [if_pos g]; rfl
        · rw [if_neg g, k0_gI2 h0, if_neg n1]; rfl)
      refine (e_jL hlp).trans ?_
      dsimp only
      rw [if_neg (show ¬ (0 : Int32) < 0 by decide), if_neg one_n0, j_L, j_bd, k0_cv2 h0, e_run (c_fl h0 1), e25, j_L, k0_cv2 h0, e_run k1]
      rfl
    · rw [kn_cv h9, e_run b1, hr, if_pos rfl]
      rfl
end PA72
