/-! ===== PHASE 2: a statement, and all of them ===== -/
noncomputable def rb_body : Int32 → zP (Int32 ⊕ (Unit ⊕ Int32)) := (fun (t8 : Int32) => (if t8 ≤ 0 then (z_pu (.inr (.inl ()))) else (z_bd (z_gI 1 2 7) (fun v9 => (if v9 = 0 then (z_pu (.inr (.inl ()))) else (z_bd (z_gI 1 2 9) (fun v10 => (if v10 = 0 then (z_bd (z_cv 1 2 (p_X1_readStatement 2)) (fun _ => (z_bd (z_cv 1 2 (p_X1_expectSign 2 59)) (fun _ => (z_pu (.inl ((t8 + (-1))))))))) else (z_pu (.inr (.inl ())))))))))))
noncomputable def pb_body : Unit → zP (Unit ⊕ (Unit ⊕ Int32)) := (fun (t6 : Unit) => (z_bd (z_gI 9 75 8) (fun v7 => (if v7 = 0 then (z_bd (z_gI 9 75 6) (fun v8 => (if v8 = 0 then (z_pu (.inr (.inl ()))) else (z_bd (z_cv 9 75 (p_X9_statement 75)) (fun _ => (z_bd (z_gI 9 75 6) (fun v10 => (z_jn (τ := Int32) (if v10 = 59 then (z_pu (.inl 1)) else (z_pu (.inl 0))) (fun t11 => (z_bd (z_cv 9 75 (p_X9_must 75 t11 1)) (fun r12 => (if r12 = 0 then (z_pu (.inl ())) else (z_bd (z_cv 9 75 (p_X9_nextToken 75)) (fun _ => (z_pu (.inl ())))))))))))))))) else (z_pu (.inr (.inl ())))))))
section PA73
variable {α β : Type} {M N : zM} {F F' F1 G G' G1 : Nat → Nat → Int32} {b ct ct' cd cd' : Nat → Int32} {i j k m n s s' lo sp ns nt np nc nc' x r o d beh left : Nat} {p q q' c v w t x1 x2 : Int32} {l : List Nat}
theorem j_stat (hP : PC M N b n sp) (hJ : JO b n F G s) (hsn : s < n) (hD : DR F G sp ns nt np nc) : ∃ F' G', (p_X1_readStatement 2).1 (KI M F) = some (.inr (), KI M F') ∧ (p_X9_statement 75).1 (KI N G) = some (.inr (), KI N G') ∧ oC sp F F' ∧ oM G G' ∧ JT b n F' G' sp s := by
  have h9 := hP.2.1
  have h0 := hP.1.1
  have hr := hP.1.2.1
  have hn := hP.2.2.1
  obtain ⟨hT, hM, e9, e8⟩ := id hJ
  have wd := m_wd h9 hn (show s ≤ n by omega) hM
  by_cases c1 : tz_W b n s = 21073896942
  · obtain ⟨F', G', k1, k2, k3, k4, k5⟩ := j_station hP hJ hD
    refine ⟨F', G', ?_, ?_, k3, k4, k5⟩
    · unfold p_X1_readStatement
      rw [k0_cv2 h0, e_run (cw_1 h0 hr hn hT), if_pos c1, if_neg one_n0, k0_cv2 h0, e_run k1]
      rfl
    · unfold p_X9_statement
      rw [kn_cv h9, e_run wd, if_pos (lg_0.mpr c1), kn_cv h9, e_run k2]
      rfl
  by_cases c2 : tz_W b n s = 21582955
  · obtain ⟨F', G', k1, k2, k3, k4, k5⟩ := j_truck hP hJ hD
    refine ⟨F', G', ?_, ?_, k3, k4, k5⟩
    · unfold p_X1_readStatement
      rw [k0_cv2 h0, e_run (cw_1 h0 hr hn hT), if_neg c1, if_pos rfl, k0_cv2 h0, e_run (cw_2 h0 hr hn hT), if_pos c2, if_neg one_n0, k0_cv2 h0, e_run k1]
      rfl
    · unfold p_X9_statement
      rw [kn_cv h9, e_run wd, if_neg (fun e => c1 (lg_0.mp e)), if_pos (lg_0.mpr c2), kn_cv h9, e_run k2]
      rfl
  by_cases c3 : tz_W b n s = 674096
  · obtain ⟨F', G', k1, k2, k3, k4, k5⟩ := j_trip hP hJ hD
    refine ⟨F', G', ?_, ?_, k3, k4, k5⟩
    · unfold p_X1_readStatement
      rw [k0_cv2 h0, e_run (cw_1 h0 hr hn hT), if_neg c1, if_pos rfl, k0_cv2 h0, e_run (cw_2 h0 hr hn hT), if_neg c2, if_pos rfl, k0_cv2 h0, e_run (cw_3 h0 hr hn hT), if_pos c3, if_neg one_n0, k0_cv2 h0, e_run k1]
      rfl
    · unfold p_X9_statement
      rw [kn_cv h9, e_run wd, if_neg (fun e => c1 (lg_0.mp e)), if_neg (fun e => c2 (lg_0.mp e)), if_pos (lg_0.mpr c3), kn_cv h9, e_run k2]
      rfl
  by_cases c4 : tz_W b n s = 525413
  · obtain ⟨F', G', k1, k2, k3, k4, k5⟩ := j_pace hP hJ hD
    refine ⟨F', G', ?_, ?_, k3, k4, k5⟩
    · unfold p_X1_readStatement
      rw [k0_cv2 h0, e_run (cw_1 h0 hr hn hT), if_neg c1, if_pos rfl, k0_cv2 h0, e_run (cw_2 h0 hr hn hT), if_neg c2, if_pos rfl, k0_cv2 h0, e_run (cw_3 h0 hr hn hT), if_neg c3, if_pos rfl, k0_cv2 h0, e_run (cw_4 h0 hr hn hT), if_pos c4, if_neg one_n0, k0_cv2 h0, e_run k1]
      rfl
    · unfold p_X9_statement
      rw [kn_cv h9, e_run wd, if_neg (fun e => c1 (lg_0.mp e)), if_neg (fun e => c2 (lg_0.mp e)), if_neg (fun e => c3 (lg_0.mp e)), if_pos (lg_0.mpr c4)]
      exact k2
  by_cases c5 : tz_W b n s = 2193668197
  · obtain ⟨F', G', k1, k2, k3, k4, k5⟩ := j_balance hP hJ hD
    refine ⟨F', G', ?_, ?_, k3, k4, k5⟩
    · unfold p_X1_readStatement
      rw [k0_cv2 h0, e_run (cw_1 h0 hr hn hT), if_neg c1, if_pos rfl, k0_cv2 h0, e_run (cw_2 h0 hr hn hT), if_neg c2, if_pos rfl, k0_cv2 h0, e_run (cw_3 h0 hr hn hT), if_neg c3, if_pos rfl, k0_cv2 h0, e_run (cw_4 h0 hr hn hT), if_neg c4, if_pos rfl, k0_cv2 h0, e_run (cw_5 h0 hr hn hT), if_pos c5, if_neg one_n0, k0_cv2 h0, e_run k1]
      rfl
    · unfold p_X9_statement
      rw [kn_cv h9, e_run wd, if_neg (fun e => c1 (lg_0.mp e)), if_neg (fun e => c2 (lg_0.mp e)), if_neg (fun e => c3 (lg_0.mp e)), if_neg (fun e => c4 (lg_0.mp e)), if_pos (lg_0.mpr c5)]
      exact k2
  by_cases c6 : tz_W b n s = 2603699
  · obtain ⟨F', G', k1, k2, k3, k4, k5⟩ := j_bonus hP hJ hD
    refine ⟨F', G', ?_, ?_, k3, k4, k5⟩
    · unfold p_X1_readStatement
      rw [k0_cv2 h0, e_run (cw_1 h0 hr hn hT), if_neg c1, if_pos rfl, k0_cv2 h0, e_run (cw_2 h0 hr hn hT), if_neg c2, if_pos rfl, k0_cv2 h0, e_run (cw_3 h0 hr hn hT), if_neg c3, if_pos rfl, k0_cv2 h0, e_run (cw_4 h0 hr hn hT), if_neg c4, if_pos rfl, k0_cv2 h0, e_run (cw_5 h0 hr hn hT), if_neg c5, if_pos rfl, k0_cv2 h0, e_run (cw_6 h0 hr hn hT), if_pos c6, if_neg one_n0, k0_cv2 h0, e_run k1]
      rfl
    · unfold p_X9_statement
      rw [kn_cv h9, e_run wd, if_neg (fun e => c1 (lg_0.mp e)), if_neg (fun e => c2 (lg_0.mp e)), if_neg (fun e => c3 (lg_0.mp e)), if_neg (fun e => c4 (lg_0.mp e)), if_neg (fun e => c5 (lg_0.mp e)), if_pos (lg_0.mpr c6)]
      exact k2
  by_cases c7 : tz_W b n s = 198213
  · obtain ⟨F', G', k1, k2, k3, k4, k5⟩ := j_fare hP hJ hsn hD
    refine ⟨F', G', ?_, ?_, k3, k4, k5⟩
    · unfold p_X1_readStatement
      rw [k0_cv2 h0, e_run (cw_1 h0 hr hn hT), if_neg c1, if_pos rfl, k0_cv2 h0, e_run (cw_2 h0 hr hn hT), if_neg c2, if_pos rfl, k0_cv2 h0, e_run (cw_3 h0 hr hn hT), if_neg c3, if_pos rfl, k0_cv2 h0, e_run (cw_4 h0 hr hn hT), if_neg c4, if_pos rfl, k0_cv2 h0, e_run (cw_5 h0 hr hn hT), if_neg c5, if_pos rfl, k0_cv2 h0, e_run (cw_6 h0 hr hn hT), if_neg c6, if_pos rfl, k0_cv2 h0, e_run (cw_7 h0 hr hn hT), if_pos c7, if_neg one_n0, k0_cv2 h0, e_run k1]
      rfl
    · unfold p_X9_statement
      rw [kn_cv h9, e_run wd, if_neg (fun e => c1 (lg_0.mp e)), if_neg (fun e => c2 (lg_0.mp e)), if_neg (fun e => c3 (lg_0.mp e)), if_neg (fun e => c4 (lg_0.mp e)), if_neg (fun e => c5 (lg_0.mp e)), if_neg (fun e => c6 (lg_0.mp e)), if_pos (lg_0.mpr c7)]
      exact k2
  refine ⟨ff F 1, z_up2 (z_up2 G 75 8 1) 75 9 (G 75 4), ?_, ?_, fun y hy => funext fun j => ff_o (by omega), oM_tr (oM_u (by omega)) (oM_u (by omega)), Or.inl (JE_mk (k := 1) (s := s) (s' := s) (by omega) (by decide) (by decide) (TKc_o hT (fun y j hy => ff_o (by omega))) ?_ ?_ ?_)⟩
  · unfold p_X1_readStatement
    rw [k0_cv2 h0, e_run (cw_1 h0 hr hn hT), if_neg c1, if_pos rfl, k0_cv2 h0, e_run (cw_2 h0 hr hn hT), if_neg c2, if_pos rfl, k0_cv2 h0, e_run (cw_3 h0 hr hn hT), if_neg c3, if_pos rfl, k0_cv2 h0, e_run (cw_4 h0 hr hn hT), if_neg c4, if_pos rfl, k0_cv2 h0, e_run (cw_5 h0 hr hn hT), if_neg c5, if_pos rfl, k0_cv2 h0, e_run (cw_6 h0 hr hn hT), if_neg c6, if_pos rfl, k0_cv2 h0, e_run (cw_7 h0 hr hn hT), if_neg c7, if_pos rfl, k0_cv2 h0, e_run (c_fl h0 1)]
    rfl
  · unfold p_X9_statement
    rw [kn_cv h9, e_run wd, if_neg (fun e => c1 (lg_0.mp e)), if_neg (fun e => c2 (lg_0.mp e)), if_neg (fun e => c3 (lg_0.mp e)), if_neg (fun e => c4 (lg_0.mp e)), if_neg (fun e => c5 (lg_0.mp e)), if_neg (fun e => c6 (lg_0.mp e)), if_neg (fun e => c7 (lg_0.mp e)), kn_cv h9, e_run (m_must1 h9 e8 (by decide))]
    rfl
  · rw [ff_0 e9, hT.1.2.1]
    rfl
  · rw [u2_n _ _ (by omega), u2_s]
    rfl
  · rw [u2_s]
    exact hM.1.2.1
theorem DR_o (h : DR F G sp ns nt np nc) (hsp : sp = 15 ∨ sp = 28) (o1 : oc F F') (o2 : om G G') : DR F' G' sp ns nt np nc := by
  obtain ⟨rc, ck, fl⟩ := h
  have e77 : G' 77 = G 77 := om_r o2 (by decide)
  have e79 : G' 79 = G 79 := om_r o2 (by decide)
  refine ⟨?_, ?_, fl_o fl (o2 75 14 (by omega)) (fun j h1 h2 => o1 2 j (by omega))⟩
  · unfold RC
    rw [e77, e79, oc_r o1 (show sp ≠ 2 by omega), oc_r o1 (show sp + 1 ≠ 2 by omega), oc_r o1 (show sp + 2 ≠ 2 by omega), oc_r o1 (show sp + 3 ≠ 2 by omega), oc_r o1 (show sp + 4 ≠ 2 by omega), oc_r o1 (show sp + 5 ≠ 2 by omega), oc_r o1 (show sp + 6 ≠ 2 by omega), oc_r o1 (show sp + 7 ≠ 2 by omega), oc_r o1 (show sp + 8 ≠ 2 by omega), oc_r o1 (show sp + 9 ≠ 2 by omega), oc_r o1 (show sp + 10 ≠ 2 by omega), oc_r o1 (show sp + 10 + 1 ≠ 2 by omega)]
    exact rc
  · rw [e77, e79]
    exact ck
/-- all statements -/
theorem j_ploop (hP : PC M N b n sp) : ∀ f s left F G ns nt np nc, n - s ≤ f → n ≤ left + s → left ≤ 1000 → JO b n F G s → DR F G sp ns nt np nc → ∃ F' G', (z_lp rb_body (nI left)).1 (KI M F) = some (.inr (.inl ()), KI M F') ∧ (z_lp pb_body ()).1 (KI N G) = some (.inr (.inl ()), KI N G') ∧ oC sp F F' ∧ oM G G' ∧ (JE b n F' G' ∨ ∃ s ns nt np nc, JO b n F' G' s ∧ DR F' G' sp ns nt np nc) := by
  have h0 := hP.1.1
  have h9 := hP.2.1
  have hsp := hP.2.2.2.2
  have stop : ∀ s left F G ns nt np nc, n ≤ s → left ≤ 1000 → JO b n F G s → DR F G sp ns nt np nc → ∃ F' G', (z_lp rb_body (nI left)).1 (KI M F) = some (.inr (.inl ()), KI M F') ∧ (z_lp pb_body ()).1 (KI N G) = some (.inr (.inl ()), KI N G') ∧ oC sp F F' ∧ oM G G' ∧ (JE b n F' G' ∨ ∃ s ns nt np nc, JO b n F' G' s ∧ DR F' G' sp ns nt np nc) := by
    intro s left F G ns nt np nc hs hl hJ hD
    have hk : tz_k b n s = 0 := tk_0.mpr hs
    have ht : tz_t b n s = 0 := tk_t0.mpr hk
    refine ⟨F, G, z_lp_end ?_, z_lp_end ?_, oC_rf, oM_rf, Or.inr ⟨s, ns, nt, np, nc, hJ, hD⟩⟩
    · unfold rb_body
      by_cases g : nI left ≤ 0
      · rw [if_pos g]; rfl
      · rw [if_neg g, k0_gI2 h0, hJ.1.1.2.2.2, hk, if_pos (show nI 0 = 0 from rfl)]; rfl
    · unfold pb_body
      rw [kn_gI h9, hJ.2.2.2, if_pos rfl, kn_gI h9, hJ.2.1.1.2.2.2, ht, if_pos rfl]
      rfl
  intro f
  induction f with
  | zero =>
    intro s left F G ns nt np nc hf hl hl2 hJ hD
    exact stop s left F G ns nt np nc (by omega) hl2 hJ hD
  | succ f ih =>
    intro s left F G ns nt np nc hf hl hl2 hJ hD
    by_cases hsn : n ≤ s
    · exact stop s left F G ns nt np nc hsn hl2 hJ hD
    · have hs : s < n := by omega
      have hle : ¬ nI left ≤ 0 := nI_ge (a := 0) (by omega) (by omega)
      have hdec : nI left + (-1) = nI (left - 1) := nI_dec (by omega)
      have hk : ¬ nI (tz_k b n s) = 0 := fun e => by
        have h1 := nI_z e (by have := tk_lt5 (b := b) (n := n) (s := s); omega)
        exact hsn (tk_0.mp h1)
      have ht : ¬ tz_t b n s = 0 := fun e => hsn (tk_0.mp (tk_t0.mp e))
      obtain ⟨F1, G1, a1, b1, o1, q1, j1⟩ := j_stat hP hJ hs hD
      have j1' : JE b n F1 G1 ∨ ((∃ s2, s ≤ s2 ∧ JO b n F1 G1 s2) ∧ ∃ ns nt np nc, DR F1 G1 sp ns nt np nc) := by
        rcases j1 with h | ⟨s2, ns2, nt2, np2, nc2, h1, h2, h3⟩
        · exact Or.inl h
        · exact Or.inr ⟨⟨s2, h1, h2⟩, ns2, nt2, np2, nc2, h3⟩
      obtain ⟨F2, G2, a2, b2, o2, q2, j2⟩ := j_exp hP j1'
      have cst : (rb_body (nI left)).1 (KI M F) = some (.inr (.inl (nI (left - 1))), KI M F2) := by
        unfold rb_body
        rw [if_neg hle, k0_gI2 h0, hJ.1.1.2.2.2, if_neg hk, k0_gI2 h0, hJ.2.2.1, if_pos rfl, k0_cv2 h0, e_run a1, k0_cv2 h0, e_run a2, hdec]
        rfl
      have mst : (pb_body ()).1 (KI N G) = some (.inr (.inl ()), KI N G2) := by
        unfold pb_body
        rw [kn_gI h9, hJ.2.2.2, if_pos rfl, kn_gI h9, hJ.2.1.1.2.2.2, if_neg ht, kn_cv h9, e_run b1]
        exact b2
      rcases j2 with hE | ⟨⟨s2, hlo, hJ2⟩, ns2, nt2, np2, nc2, hD2⟩
      · obtain ⟨n1, n2⟩ := JE_n hE
        refine ⟨F2, G2, (z_lp_step cst).trans (z_lp_end ?_), (z_lp_step mst).trans (z_lp_end ?_), oC_tr o1 (oc_C o2), oM_tr q1 (om_M q2), Or.inl hE⟩
        · unfold rb_body
          by_cases g : nI (left - 1) ≤ 0
          · rw [if_pos g]; rfl
          · rw [if_neg g, k0_gI2 h0]
            by_cases g2 : F2 2 7 = 0
            · rw [if_pos g2]; rfl
            · rw [if_neg g2, k0_gI2 h0, if_neg n1]; rfl
        · unfold pb_body
          rw [kn_gI h9, if_neg n2]
          rfl
      · obtain ⟨F3, G3, r1, r2, r3, r4, r5⟩ := ih s2 (left - 1) F2 G2 ns2 nt2 np2 nc2 (by omega) (by omega) (by omega) hJ2 (DR_o hD2 hsp o2 q2)
        exact ⟨F3, G3, (z_lp_step cst).trans r1, (z_lp_step mst).trans r2, oC_tr (oC_tr o1 (oc_C o2)) r3, oM_tr (oM_tr q1 (om_M q2)) r4, r5⟩
end PA73
