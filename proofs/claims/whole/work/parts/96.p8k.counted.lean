/-! ===== PHASE 2: station, truck, trip ===== -/
section PA65
variable {α β : Type} {M N : zM} {F F' F1 G G' G1 : Nat → Nat → Int32} {b ct ct' cd : Nat → Int32} {i j k m n s s' lo sp ns nt np nc x y d e : Nat} {p q q' c v w : Int32} {w1 w2 w3 w4 : Int32}
theorem rc_st (h : RC F sp ct cd ns nt np nc) (hns : ns < 8) (hct : ∀ j, (j ≠ 0 ∧ j ≠ 10 + ns ∧ j ≠ 18 + ns ∧ j ≠ 26 + ns ∧ j ≠ 34 + ns) → ct' j = ct j) (h0 : F' sp 10 = ct' 0) (hF : ∀ y j, sp ≤ y → (y = sp → j ≠ 10) → (sp + 1 ≤ y → y ≤ sp + 4 → j ≠ ns) → F' y j = F y j) (hv : F' (sp + 1) ns = ct' (10 + ns) ∧ F' (sp + 2) ns = ct' (18 + ns) ∧ F' (sp + 3) ns = ct' (26 + ns) ∧ F' (sp + 4) ns = ct' (34 + ns)) : RC F' sp ct' cd (ns + 1) nt np nc := by
  obtain ⟨⟨_, r11, r12, r13, r14, r15, r16, r17⟩, r2, r3, r4, r5, r6⟩ := h
  refine ⟨⟨h0, (hF _ _ (by omega) (by omega) (by omega)).trans (r11.trans (hct 1 (by omega)).symm), (hF _ _ (by omega) (by omega) (by omega)).trans (r12.trans (hct 2 (by omega)).symm), (hF _ _ (by omega) (by omega) (by omega)).trans (r13.trans (hct 3 (by omega)).symm), (hF _ _ (by omega) (by omega) (by omega)).trans (r14.trans (hct 4 (by omega)).symm), (hF _ _ (by omega) (by omega) (by omega)).trans (r15.trans (hct 5 (by omega)).symm), (hF _ _ (by omega) (by omega) (by omega)).trans (r16.trans (hct 6 (by omega)).symm), (hF _ _ (by omega) (by omega) (by omega)).trans (r17.trans (hct 7 (by omega)).symm)⟩, fun k hk => ?_, fun t ht => ?_, fun p hp => ?_, (hF _ _ (by omega) (by omega) (by omega)).trans r5, fun i hi => ?_⟩
  · by_cases g : k = ns
    · subst g
      exact hv
    · obtain ⟨g1, g2, g3, g4⟩ := r2 k (by omega)
      exact ⟨(hF _ _ (by omega) (by omega) (by omega)).trans (g1.trans (hct _ (by omega)).symm), (hF _ _ (by omega) (by omega) (by omega)).trans (g2.trans (hct _ (by omega)).symm), (hF _ _ (by omega) (by omega) (by omega)).trans (g3.trans (hct _ (by omega)).symm), (hF _ _ (by omega) (by omega) (by omega)).trans (g4.trans (hct _ (by omega)).symm)⟩
  · obtain ⟨g1, g2⟩ := r3 t ht
    exact ⟨(hF _ _ (by omega) (by omega) (by omega)).trans (g1.trans (hct _ (by omega)).symm), (hF _ _ (by omega) (by omega) (by omega)).trans (g2.trans (hct _ (by omega)).symm)⟩
  · obtain ⟨g1, g2, g3⟩ := r4 p hp
    exact ⟨(hF _ _ (by omega) (by omega) (by omega)).trans (g1.trans (hct _ (by omega)).symm), (hF _ _ (by omega) (by omega) (by omega)).trans (g2.trans (hct _ (by omega)).symm), (hF _ _ (by omega) (by omega) (by omega)).trans (g3.trans (hct _ (by omega)).symm)⟩
  · obtain ⟨g1, g2⟩ := r6 i hi
    exact ⟨(hF _ _ (by omega) (by omega) (by omega)).trans g1, g2⟩
theorem rc_tk (h : RC F sp ct cd ns nt np nc) (hns : ns ≤ 8) (hnt : nt < 3) (hct : ∀ j, (j ≠ 1 ∧ j ≠ 42 + nt ∧ j ≠ 45 + nt) → ct' j = ct j) (h0 : F' sp 11 = ct' 1) (hF : ∀ y j, sp ≤ y → (y = sp → j ≠ 11) → (sp + 5 ≤ y → y ≤ sp + 6 → j ≠ nt) → F' y j = F y j) (hv : F' (sp + 5) nt = ct' (42 + nt) ∧ F' (sp + 6) nt = ct' (45 + nt)) : RC F' sp ct' cd ns (nt + 1) np nc := by
  obtain ⟨⟨r10, _, r12, r13, r14, r15, r16, r17⟩, r2, r3, r4, r5, r6⟩ := h
  refine ⟨⟨(hF _ _ (by omega) (by omega) (by omega)).trans (r10.trans (hct 0 (by omega)).symm), h0, (hF _ _ (by omega) (by omega) (by omega)).trans (r12.trans (hct 2 (by omega)).symm), (hF _ _ (by omega) (by omega) (by omega)).trans (r13.trans (hct 3 (by omega)).symm), (hF _ _ (by omega) (by omega) (by omega)).trans (r14.trans (hct 4 (by omega)).symm), (hF _ _ (by omega) (by omega) (by omega)).trans (r15.trans (hct 5 (by omega)).symm), (hF _ _ (by omega) (by omega) (by omega)).trans (r16.trans (hct 6 (by omega)).symm), (hF _ _ (by omega) (by omega) (by omega)).trans (r17.trans (hct 7 (by omega)).symm)⟩, fun k hk => ?_, fun t ht => ?_, fun p hp => ?_, (hF _ _ (by omega) (by omega) (by omega)).trans r5, fun i hi => ?_⟩
  · obtain ⟨g1, g2, g3, g4⟩ := r2 k hk
    exact ⟨(hF _ _ (by omega) (by omega) (by omega)).trans (g1.trans (hct _ (by omega)).symm), (hF _ _ (by omega) (by omega) (by omega)).trans (g2.trans (hct _ (by omega)).symm), (hF _ _ (by omega) (by omega) (by omega)).trans (g3.trans (hct _ (by omega)).symm), (hF _ _ (by omega) (by omega) (by omega)).trans (g4.trans (hct _ (by omega)).symm)⟩
  · by_cases g : t = nt
    · subst g
      exact hv
    · obtain ⟨g1, g2⟩ := r3 t (by omega)
      exact ⟨(hF _ _ (by omega) (by omega) (by omega)).trans (g1.trans (hct _ (by omega)).symm), (hF _ _ (by omega) (by omega) (by omega)).trans (g2.trans (hct _ (by omega)).symm)⟩
  · obtain ⟨g1, g2, g3⟩ := r4 p hp
    exact ⟨(hF _ _ (by omega) (by omega) (by omega)).trans (g1.trans (hct _ (by omega)).symm), (hF _ _ (by omega) (by omega) (by omega)).trans (g2.trans (hct _ (by omega)).symm), (hF _ _ (by omega) (by omega) (by omega)).trans (g3.trans (hct _ (by omega)).symm)⟩
  · obtain ⟨g1, g2⟩ := r6 i hi
    exact ⟨(hF _ _ (by omega) (by omega) (by omega)).trans g1, g2⟩
theorem rc_tp (h : RC F sp ct cd ns nt np nc) (hns : ns ≤ 8) (hnt : nt ≤ 3) (hnp : np < 30) (hct : ∀ j, (j ≠ 2 ∧ j ≠ 48 + np ∧ j ≠ 78 + np ∧ j ≠ 108 + np) → ct' j = ct j) (h0 : F' sp 12 = ct' 2) (hF : ∀ y j, sp ≤ y → (y = sp → j ≠ 12) → (sp + 7 ≤ y → y ≤ sp + 9 → j ≠ np) → F' y j = F y j) (hv : F' (sp + 7) np = ct' (48 + np) ∧ F' (sp + 8) np = ct' (78 + np) ∧ F' (sp + 9) np = ct' (108 + np)) : RC F' sp ct' cd ns nt (np + 1) nc := by
  obtain ⟨⟨r10, r11, _, r13, r14, r15, r16, r17⟩, r2, r3, r4, r5, r6⟩ := h
  refine ⟨⟨(hF _ _ (by omega) (by omega) (by omega)).trans (r10.trans (hct 0 (by omega)).symm), (hF _ _ (by omega) (by omega) (by omega)).trans (r11.trans (hct 1 (by omega)).symm), h0, (hF _ _ (by omega) (by omega) (by omega)).trans (r13.trans (hct 3 (by omega)).symm), (hF _ _ (by omega) (by omega) (by omega)).trans (r14.trans (hct 4 (by omega)).symm), (hF _ _ (by omega) (by omega) (by omega)).trans (r15.trans (hct 5 (by omega)).symm), (hF _ _ (by omega) (by omega) (by omega)).trans (r16.trans (hct 6 (by omega)).symm), (hF _ _ (by omega) (by omega) (by omega)).trans (r17.trans (hct 7 (by omega)).symm)⟩, fun k hk => ?_, fun t ht => ?_, fun p hp => ?_, (hF _ _ (by omega) (by omega) (by omega)).trans r5, fun i hi => ?_⟩
  · obtain ⟨g1, g2, g3, g4⟩ := r2 k hk
    exact ⟨(hF _ _ (by omega) (by omega) (by omega)).trans (g1.trans (hct _ (by omega)).symm), (hF _ _ (by omega) (by omega) (by omega)).trans (g2.trans (hct _ (by omega)).symm), (hF _ _ (by omega) (by omega) (by omega)).trans (g3.trans (hct _ (by omega)).symm), (hF _ _ (by omega) (by omega) (by omega)).trans (g4.trans (hct _ (by omega)).symm)⟩
  · obtain ⟨g1, g2⟩ := r3 t ht
    exact ⟨(hF _ _ (by omega) (by omega) (by omega)).trans (g1.trans (hct _ (by omega)).symm), (hF _ _ (by omega) (by omega) (by omega)).trans (g2.trans (hct _ (by omega)).symm)⟩
  · by_cases g : p = np
    · subst g
      exact hv
    · obtain ⟨g1, g2, g3⟩ := r4 p (by omega)
      exact ⟨(hF _ _ (by omega) (by omega) (by omega)).trans (g1.trans (hct _ (by omega)).symm), (hF _ _ (by omega) (by omega) (by omega)).trans (g2.trans (hct _ (by omega)).symm), (hF _ _ (by omega) (by omega) (by omega)).trans (g3.trans (hct _ (by omega)).symm)⟩
  · obtain ⟨g1, g2⟩ := r6 i hi
    exact ⟨(hF _ _ (by omega) (by omega) (by omega)).trans g1, g2⟩
theorem rc_pc (h : RC F sp ct cd ns nt np nc) (hct : ∀ j, (j < 3 ∨ 7 < j) → ct' j = ct j) (hF : ∀ y j, sp ≤ y → (y = sp → j < 13 ∨ 17 < j) → F' y j = F y j) (hv : F' sp 13 = ct' 3 ∧ F' sp 14 = ct' 4 ∧ F' sp 15 = ct' 5 ∧ F' sp 16 = ct' 6 ∧ F' sp 17 = ct' 7) : RC F' sp ct' cd ns nt np nc := by
  obtain ⟨⟨r10, r11, r12, _⟩, r2, r3, r4, r5, r6⟩ := h
  refine ⟨⟨(hF _ _ (by omega) (by omega)).trans (r10.trans (hct 0 (by omega)).symm), (hF _ _ (by omega) (by omega)).trans (r11.trans (hct 1 (by omega)).symm), (hF _ _ (by omega) (by omega)).trans (r12.trans (hct 2 (by omega)).symm), hv⟩, fun k hk => ?_, fun t ht => ?_, fun p hp => ?_, (hF _ _ (by omega) (by omega)).trans r5, fun i hi => ?_⟩
  · obtain ⟨g1, g2, g3, g4⟩ := r2 k hk
    exact ⟨(hF _ _ (by omega) (by omega)).trans (g1.trans (hct _ (by omega)).symm), (hF _ _ (by omega) (by omega)).trans (g2.trans (hct _ (by omega)).symm), (hF _ _ (by omega) (by omega)).trans (g3.trans (hct _ (by omega)).symm), (hF _ _ (by omega) (by omega)).trans (g4.trans (hct _ (by omega)).symm)⟩
  · obtain ⟨g1, g2⟩ := r3 t ht
    exact ⟨(hF _ _ (by omega) (by omega)).trans (g1.trans (hct _ (by omega)).symm), (hF _ _ (by omega) (by omega)).trans (g2.trans (hct _ (by omega)).symm)⟩
  · obtain ⟨g1, g2, g3⟩ := r4 p hp
    exact ⟨(hF _ _ (by omega) (by omega)).trans (g1.trans (hct _ (by omega)).symm), (hF _ _ (by omega) (by omega)).trans (g2.trans (hct _ (by omega)).symm), (hF _ _ (by omega) (by omega)).trans (g3.trans (hct _ (by omega)).symm)⟩
  · obtain ⟨g1, g2⟩ := r6 i hi
    exact ⟨(hF _ _ (by omega) (by omega)).trans g1, g2⟩
theorem j_station (hP : PC M N b n sp) (hJ : JO b n F G s) (hD : DR F G sp ns nt np nc) : ∃ F' G', (p_X1_readStation 2).1 (KI M F) = some (.inr (), KI M F') ∧ (p_X9_station 75).1 (KI N G) = some (.inr (), KI N G') ∧ oC sp F F' ∧ oM G G' ∧ JT b n F' G' sp s := by
  obtain ⟨rc, ck, fl⟩ := hD
  have h9 := hP.2.1
  have h0 := hP.1.1
  have hC := hP.1.2.2.2
  have hsp := hP.2.2.2.2
  have hns := ck.1.2.1
  have hnt := ck.1.2.2.2.1
  have hnp := ck.1.2.2.2.2.2
  have cs : G 77 0 = nI ns := ck.1.1
  have fs : F sp 10 = nI ns := rc.1.1.trans cs
  have c0 : G 77 0 = nI ns := ck.1.1
  have f0 : F sp 10 = nI ns := rc.1.1.trans c0
  obtain ⟨F1, G1, r, a1, b1, o1, q1, hr⟩ := j_beg (i := 0) (q := 8) hP hJ (by decide) c0
  have b1' : (p_X9_begins 75 0 8).1 (KI N G) = some (.inr r, KI N G1) := b1
  have fs1 : F1 sp 10 = nI ns := by rw [oc_r o1 (by omega)]; exact fs
  rcases hr with ⟨hr, hlt, hJ1⟩ | ⟨hr, hE1⟩
  · have hlt' : ns < 8 := by
      by_cases g : ns < 8
      · exact g
      · exact absurd hlt (nI_nlt (b := 8) (by omega) (by omega))
    have j1 : JE b n F1 G1 ∨ ((∃ s', s ≤ s' ∧ JO b n F1 G1 s') ∧ True) := Or.inr ⟨⟨_, (n2_b hJ.1.2.2.1).1, hJ1⟩, trivial⟩
    have r1 : G1 77 = G 77 := om_r q1 (by decide)
    obtain ⟨F2, G2, w1, v1, a2, b2, o2, q2, j2⟩ := j_read (p := 0) (q := 99) (q' := 99) hP (fun _ => rfl) j1
    have r2 : G2 77 = G 77 := (om_r q2 (by decide)).trans r1
    have j2' := J_o (F' := F2) (G' := z_up2 G2 77 (10 + ns) v1) j2 (fun _ _ _ => rfl) (fun y j hy => u2_n _ _ (by omega))
    obtain ⟨F3, G3, w2, v2, a3, b3, o3, q3, j3⟩ := j_read (p := 0) (q := 99) (q' := 99) hP (fun _ => rfl) j2'
    have r3 : G3 77 = s_up (G 77) (10 + ns) v1 := by rw [om_r q3 (by decide), u2_rs, r2]
    have j3' := J_o (F' := F3) (G' := z_up2 G3 77 (18 + ns) v2) j3 (fun _ _ _ => rfl) (fun y j hy => u2_n _ _ (by omega))
    obtain ⟨F4, G4, w3, v3, a4, b4, o4, q4, j4⟩ := j_read (p := 1) (q := 20) (q' := 20) hP (fun _ => rfl) j3'
    have r4 : G4 77 = s_up (s_up (G 77) (10 + ns) v1) (18 + ns) v2 := by rw [om_r q4 (by decide), u2_rs, r3]
    have j4' := J_o (F' := F4) (G' := z_up2 G4 77 (26 + ns) v3) j4 (fun _ _ _ => rfl) (fun y j hy => u2_n _ _ (by omega))
    obtain ⟨F5, G5, w4, v4, a5, b5, o5, q5, j5⟩ := j_read (p := 0) (q := w3) (q' := v3) hP (fun h => h.2.1) j4'
    have r5 : G5 77 = s_up (s_up (s_up (G 77) (10 + ns) v1) (18 + ns) v2) (26 + ns) v3 := by rw [om_r q5 (by decide), u2_rs, r4]
    have e0 : G1 77 0 = nI ns := by rw [r1]; exact c0
    have es : G1 77 0 = nI ns := by rw [r1]; exact cs
    have e5 : z_up2 G5 77 (34 + ns) v4 77 0 = nI ns := by
      rw [u2_n _ _ (Or.inr (by omega)), r5, s_upn _ _ (by omega), s_upn _ _ (by omega), s_upn _ _ (by omega)]
      exact c0
    have i10 : (10 : Int32) + nI ns = nI (10 + ns) := nI_add 10 ns
    have i18 : (18 : Int32) + nI ns = nI (18 + ns) := nI_add 18 ns
    have i26 : (26 : Int32) + nI ns = nI (26 + ns) := nI_add 26 ns
    have i34 : (34 : Int32) + nI ns = nI (34 + ns) := nI_add 34 ns
    have run : (p_X9_station 75).1 (KI N G) = some (.inr (), KI N (z_up2 (z_up2 G5 77 (34 + ns) v4) 77 0 (nI (ns + 1)))) := by
      unfold p_X9_station
      rw [kn_cv h9, e_run b1', hr, if_neg one_n0, kn_g77 h9, kn_l77_0 h9, e0, kn_g77 h9, kn_cv h9, e_run b2, i10, kn_s77 h9 (by omega), kn_g77 h9, kn_cv h9, e_run b3, i18, kn_s77 h9 (by omega), kn_g77 h9, kn_cv h9, e_run b4, i26, kn_s77 h9 (by omega), kn_g77 h9, kn_g77 h9, kn_a77 h9 (by omega), u2_s, kn_cv h9, e_run b5, i34, kn_s77 h9 (by omega), kn_g77 h9, kn_l77_0 h9, e5, nI_1, kn_t77_0 h9]
      rfl
    have o : oc F F5 := oc_tr (oc_tr (oc_tr (oc_tr o1 o2) o3) o4) o5
    have oMM : oM G (z_up2 (z_up2 G5 77 (34 + ns) v4) 77 0 (nI (ns + 1))) := oM_tr (om_M q1) (oM_tr (om_M q2) (oM_tr (oM_u (by omega)) (oM_tr (om_M q3) (oM_tr (oM_u (by omega)) (oM_tr (om_M q4) (oM_tr (oM_u (by omega)) (oM_tr (om_M q5) (oM_tr (oM_u (by omega)) (oM_u (by omega))))))))))
    have crun : (p_X1_readStation 2).1 (KI M F) = ((if F5 2 9 = 0 then (z_bd (z_gA 1 2 3) (fun v9 => (z_bd (z_cv 0 v9 (p_X0_addStation v9 w1 w2 w3 w4)) (fun _ => (z_pu ()))))) else (z_pu ())) : zP Unit).1 (KI M F5) := by
      unfold p_X1_readStation
      rw [kb_ct hP, kc_gI hC, f0, k0_cv2 h0, e_run a1, k0_cv2 h0, e_run a2, k0_cv2 h0, e_run a3, k0_cv2 h0, e_run a4, k0_cv2 h0, e_run a5, k0_gI2 h0]
    rcases j5 with hE | ⟨⟨s5, hlo, hJ5⟩, ⟨⟨⟨⟨_, x1, x2, x3, mx, mx1, mx2⟩, y1, y2, y3, my, my1, my2⟩, d1, d2, d3, md, md1, md2⟩, g1, g2, g3, mg, mg1, mg2⟩⟩
    · refine ⟨F5, _, ?_, run, oc_C o, oMM, Or.inl (JE_o hE (fun _ _ _ => rfl) (fun j hj => by rw [u2_n _ _ (by omega), u2_n _ _ (by omega)]))⟩
      rw [crun, if_neg (JE_n hE).1]
      rfl
    · have f5 : F5 sp 10 = nI ns := by rw [oc_r o (by omega)]; exact f0
      have R : z_up2 (z_up2 G5 77 (34 + ns) v4) 77 0 (nI (ns + 1)) 77 = s_up (s_up (s_up (s_up (s_up (G 77) (10 + ns) v1) (18 + ns) v2) (26 + ns) v3) (34 + ns) v4) 0 (nI (ns + 1)) := by rw [u2_rs, u2_rs, r5]
      have R9 : z_up2 (z_up2 G5 77 (34 + ns) v4) 77 0 (nI (ns + 1)) 79 = G 79 := by
        rw [u2_row _ _ (by decide), u2_row _ _ (by decide), om_r q5 (by decide), u2_row _ _ (by decide), om_r q4 (by decide), u2_row _ _ (by decide), om_r q3 (by decide), u2_row _ _ (by decide), om_r q2 (by decide), om_r q1 (by decide)]
      have R75 : ∀ j, z_up2 (z_up2 G5 77 (34 + ns) v4) 77 0 (nI (ns + 1)) 75 j = G5 75 j := fun j => by rw [u2_n _ _ (by omega), u2_n _ _ (by omega)]
      subst x1 y1 d1 g1 mx2 my2 md2 mg2
      have kx : mx < 100 := by have := le_nI (k := 99) x3 (by omega); omega
      have ky : my < 100 := by have := le_nI (k := 99) y3 (by omega); omega
      have kd : 1 ≤ md ∧ md ≤ 20 := ⟨le_nI (m := 1) d2 (by decide), le_nI (k := 20) d3 (by omega)⟩
      have ke : mg ≤ md := le_nI g3 (by omega)
      have hct : ∀ j, (j ≠ 0 ∧ j ≠ 10 + ns ∧ j ≠ 18 + ns ∧ j ≠ 26 + ns ∧ j ≠ 34 + ns) → (s_up (s_up (s_up (s_up (s_up (G 77) (10 + ns) (nI mx)) (18 + ns) (nI my)) (26 + ns) (nI md)) (34 + ns) (nI mg)) 0 (nI (ns + 1))) j = G 77 j := fun j hj => by
        rw [s_upn _ _ (by omega), s_upn _ _ (by omega), s_upn _ _ (by omega), s_upn _ _ (by omega), s_upn _ _ (by omega)]
      have hv1 : (s_up (s_up (s_up (s_up (s_up (G 77) (10 + ns) (nI mx)) (18 + ns) (nI my)) (26 + ns) (nI md)) (34 + ns) (nI mg)) 0 (nI (ns + 1))) (10 + ns) = nI mx := by rw [s_upn _ _ (by omega), s_upn _ _ (by omega), s_upn _ _ (by omega), s_upn _ _ (by omega), s_ups]
      have hv2 : (s_up (s_up (s_up (s_up (s_up (G 77) (10 + ns) (nI mx)) (18 + ns) (nI my)) (26 + ns) (nI md)) (34 + ns) (nI mg)) 0 (nI (ns + 1))) (18 + ns) = nI my := by rw [s_upn _ _ (by omega), s_upn _ _ (by omega), s_upn _ _ (by omega), s_ups]
      have hv3 : (s_up (s_up (s_up (s_up (s_up (G 77) (10 + ns) (nI mx)) (18 + ns) (nI my)) (26 + ns) (nI md)) (34 + ns) (nI mg)) 0 (nI (ns + 1))) (26 + ns) = nI md := by rw [s_upn _ _ (by omega), s_upn _ _ (by omega), s_ups]
      have hv4 : (s_up (s_up (s_up (s_up (s_up (G 77) (10 + ns) (nI mx)) (18 + ns) (nI my)) (26 + ns) (nI md)) (34 + ns) (nI mg)) 0 (nI (ns + 1))) (34 + ns) = nI mg := by rw [s_upn _ _ (by omega), s_ups]
      have hv0 : (s_up (s_up (s_up (s_up (s_up (G 77) (10 + ns) (nI mx)) (18 + ns) (nI my)) (26 + ns) (nI md)) (34 + ns) (nI mg)) 0 (nI (ns + 1))) 0 = nI (ns + 1) := s_ups _ _ _
      refine ⟨z_up2 (z_up2 (z_up2 (z_up2 (z_up2 F5 (sp + 1) ns (nI mx)) (sp + 2) ns (nI my)) (sp + 3) ns (nI md)) (sp + 4) ns (nI mg)) sp 10 (nI (ns + 1)), _, ?_, run, oC_tr (oc_C o) (oC_tr (oC_u (by omega)) (oC_tr (oC_u (by omega)) (oC_tr (oC_u (by omega)) (oC_tr (oC_u (by omega)) (oC_u (by omega)))))), oMM, Or.inr ⟨s5, ns + 1, nt, np, nc, hlo, JO_o hJ5 (fun y j hy => ?_) (fun y j hy => by rw [u2_n _ _ (by omega), u2_n _ _ (by omega)]), ?_, ?_, fl_o fl ?_ (fun j h1 h2 => ?_)⟩⟩
      · rw [crun, if_pos hJ5.2.2.1, kb_ct hP, kc_cv hC, e_run (c_addS hC f5 hlt')]
        rfl
      · rw [u2_n _ _ (by omega), u2_n _ _ (by omega), u2_n _ _ (by omega), u2_n _ _ (by omega), u2_n _ _ (by omega)]
      · rw [R, R9]
        refine rc_st rc hlt' hct (by rw [hv0, u2_s]) (fun y j g0 g1 g2 => ?_) ⟨?_, ?_, ?_, ?_⟩
        · rw [u2_n _ _ (by omega), u2_n _ _ (by omega), u2_n _ _ (by omega), u2_n _ _ (by omega), u2_n _ _ (by omega)]
          exact o y j (by omega)
        · rw [hv1, u2_n _ _ (by omega), u2_n _ _ (by omega), u2_n _ _ (by omega), u2_n _ _ (by omega), u2_s]
        · rw [hv2, u2_n _ _ (by omega), u2_n _ _ (by omega), u2_n _ _ (by omega), u2_s]
        · rw [hv3, u2_n _ _ (by omega), u2_n _ _ (by omega), u2_s]
        · rw [hv4, u2_n _ _ (by omega), u2_s]
      · rw [R, R9]
        exact ck_st ck hlt' kx ky kd ke hct hv0 ⟨hv1, hv2, hv3, hv4⟩
      · rw [R75, q5 75 14 (by omega), u2_n _ _ (by omega), q4 75 14 (by omega), u2_n _ _ (by omega), q3 75 14 (by omega), u2_n _ _ (by omega), q2 75 14 (by omega), q1 75 14 (by omega)]
      · rw [u2_n _ _ (by omega), u2_n _ _ (by omega), u2_n _ _ (by omega), u2_n _ _ (by omega), u2_n _ _ (by omega)]
        exact o 2 j (by omega)
  · obtain ⟨F2, w1, a2, o2, hE2⟩ := c_numE (p := 0) (q := 99) hP hE1
    obtain ⟨F3, w2, a3, o3, hE3⟩ := c_numE (p := 0) (q := 99) hP hE2
    obtain ⟨F4, w3, a4, o4, hE4⟩ := c_numE (p := 1) (q := 20) hP hE3
    obtain ⟨F5, w4, a5, o5, hE5⟩ := c_numE (p := 0) (q := w3) hP hE4
    refine ⟨F5, G1, ?_, ?_, oc_C (oc_tr (oc_tr (oc_tr (oc_tr o1 o2) o3) o4) o5), om_M q1, Or.inl hE5⟩
    · unfold p_X1_readStation
      rw [kb_ct hP, kc_gI hC, f0, k0_cv2 h0, e_run a1, k0_cv2 h0, e_run a2, k0_cv2 h0, e_run a3, k0_cv2 h0, e_run a4, k0_cv2 h0, e_run a5, k0_gI2 h0, if_neg (JE_n hE5).1]
      rfl
    · unfold p_X9_station
      rw [kn_cv h9, e_run b1', hr, if_pos rfl]
      rfl
theorem j_truck (hP : PC M N b n sp) (hJ : JO b n F G s) (hD : DR F G sp ns nt np nc) : ∃ F' G', (p_X1_readTruck 2).1 (KI M F) = some (.inr (), KI M F') ∧ (p_X9_truckLine 75).1 (KI N G) = some (.inr (), KI N G') ∧ oC sp F F' ∧ oM G G' ∧ JT b n F' G' sp s := by
  obtain ⟨rc, ck, fl⟩ := hD
  have h9 := hP.2.1
  have h0 := hP.1.1
  have hC := hP.1.2.2.2
  have hsp := hP.2.2.2.2
  have hns := ck.1.2.1
  have hnt := ck.1.2.2.2.1
  have hnp := ck.1.2.2.2.2.2
  have cs : G 77 0 = nI ns := ck.1.1
  have fs : F sp 10 = nI ns := rc.1.1.trans cs
  have c0 : G 77 1 = nI nt := ck.1.2.2.1
  have f0 : F sp 11 = nI nt := rc.1.2.1.trans c0
  obtain ⟨F1, G1, r, a1, b1, o1, q1, hr⟩ := j_beg (i := 1) (q := 3) hP hJ (by decide) c0
  have b1' : (p_X9_begins 75 1 3).1 (KI N G) = some (.inr r, KI N G1) := b1
  have fs1 : F1 sp 10 = nI ns := by rw [oc_r o1 (by omega)]; exact fs
  rcases hr with ⟨hr, hlt, hJ1⟩ | ⟨hr, hE1⟩
  · have hlt' : nt < 3 := by
      by_cases g : nt < 3
      · exact g
      · exact absurd hlt (nI_nlt (b := 3) (by omega) (by omega))
    have j1 : JE b n F1 G1 ∨ ((∃ s', s ≤ s' ∧ JO b n F1 G1 s') ∧ True) := Or.inr ⟨⟨_, (n2_b hJ.1.2.2.1).1, hJ1⟩, trivial⟩
    have r1 : G1 77 = G 77 := om_r q1 (by decide)
    obtain ⟨F2, G2, w1, v1, a2, b2, o2, q2, j2⟩ := j_read (p := 0) (q := nI ns - 1) (q' := nI ns - 1) hP (fun _ => rfl) j1
    have r2 : G2 77 = G 77 := (om_r q2 (by decide)).trans r1
    have j2' := J_o (F' := F2) (G' := z_up2 G2 77 (42 + nt) v1) j2 (fun _ _ _ => rfl) (fun y j hy => u2_n _ _ (by omega))
    obtain ⟨F3, G3, w2, v2, a3, b3, o3, q3, j3⟩ := j_read (p := 1) (q := 20) (q' := 20) hP (fun _ => rfl) j2'
    have r3 : G3 77 = s_up (G 77) (42 + nt) v1 := by rw [om_r q3 (by decide), u2_rs, r2]
    have e0 : G1 77 1 = nI nt := by rw [r1]; exact c0
    have es : G1 77 0 = nI ns := by rw [r1]; exact cs
    have e5 : z_up2 G3 77 (45 + nt) v2 77 1 = nI nt := by
      rw [u2_n _ _ (Or.inr (by omega)), r3, s_upn _ _ (by omega)]
      exact c0
    have i42 : (42 : Int32) + nI nt = nI (42 + nt) := nI_add 42 nt
    have i45 : (45 : Int32) + nI nt = nI (45 + nt) := nI_add 45 nt
    have run : (p_X9_truckLine 75).1 (KI N G) = some (.inr (), KI N (z_up2 (z_up2 G3 77 (45 + nt) v2) 77 1 (nI (nt + 1)))) := by
      unfold p_X9_truckLine
      rw [kn_cv h9, e_run b1', hr, if_neg one_n0, kn_g77 h9, kn_l77_1 h9, e0, kn_g77 h9, kn_g77 h9, kn_l77_0 h9, es, kn_cv h9, e_run b2, i42, kn_s77 h9 (by omega), kn_g77 h9, kn_cv h9, e_run b3, i45, kn_s77 h9 (by omega), kn_g77 h9, kn_l77_1 h9, e5, nI_1, kn_t77_1 h9]
      rfl
    have o : oc F F3 := oc_tr (oc_tr o1 o2) o3
    have oMM : oM G (z_up2 (z_up2 G3 77 (45 + nt) v2) 77 1 (nI (nt + 1))) := oM_tr (om_M q1) (oM_tr (om_M q2) (oM_tr (oM_u (by omega)) (oM_tr (om_M q3) (oM_tr (oM_u (by omega)) (oM_u (by omega))))))
    have crun : (p_X1_readTruck 2).1 (KI M F) = ((if F3 2 9 = 0 then (z_bd (z_gA 1 2 3) (fun v9 => (z_bd (z_cv 0 v9 (p_X0_addTruck v9 w1 w2)) (fun _ => (z_pu ()))))) else (z_pu ())) : zP Unit).1 (KI M F3) := by
      unfold p_X1_readTruck
      rw [kb_ct hP, kc_gI hC, f0, k0_cv2 h0, e_run a1, kb_ct hP, kc_gI hC, fs1, k0_cv2 h0, e_run a2, k0_cv2 h0, e_run a3, k0_gI2 h0]
    rcases j3 with hE | ⟨⟨s5, hlo, hJ5⟩, ⟨⟨_, x1, x2, x3, mx, mx1, mx2⟩, d1, d2, d3, md, md1, md2⟩⟩
    · refine ⟨F3, _, ?_, run, oc_C o, oMM, Or.inl (JE_o hE (fun _ _ _ => rfl) (fun j hj => by rw [u2_n _ _ (by omega), u2_n _ _ (by omega)]))⟩
      rw [crun, if_neg (JE_n hE).1]
      rfl
    · have f5 : F3 sp 11 = nI nt := by rw [oc_r o (by omega)]; exact f0
      have R : z_up2 (z_up2 G3 77 (45 + nt) v2) 77 1 (nI (nt + 1)) 77 = s_up (s_up (s_up (G 77) (42 + nt) v1) (45 + nt) v2) 1 (nI (nt + 1)) := by rw [u2_rs, u2_rs, r3]
      have R9 : z_up2 (z_up2 G3 77 (45 + nt) v2) 77 1 (nI (nt + 1)) 79 = G 79 := by
        rw [u2_row _ _ (by decide), u2_row _ _ (by decide), om_r q3 (by decide), u2_row _ _ (by decide), om_r q2 (by decide), om_r q1 (by decide)]
      have R75 : ∀ j, z_up2 (z_up2 G3 77 (45 + nt) v2) 77 1 (nI (nt + 1)) 75 j = G3 75 j := fun j => by rw [u2_n _ _ (by omega), u2_n _ _ (by omega)]
      subst x1 d1 mx2 md2
      have kx : mx < ns := le_dec x3 (by omega)
      have kd : 1 ≤ md ∧ md ≤ 20 := ⟨le_nI (m := 1) d2 (by decide), le_nI (k := 20) d3 (by omega)⟩
      have hct : ∀ j, (j ≠ 1 ∧ j ≠ 42 + nt ∧ j ≠ 45 + nt) → (s_up (s_up (s_up (G 77) (42 + nt) (nI mx)) (45 + nt) (nI md)) 1 (nI (nt + 1))) j = G 77 j := fun j hj => by
        rw [s_upn _ _ (by omega), s_upn _ _ (by omega), s_upn _ _ (by omega)]
      have hv1 : (s_up (s_up (s_up (G 77) (42 + nt) (nI mx)) (45 + nt) (nI md)) 1 (nI (nt + 1))) (42 + nt) = nI mx := by rw [s_upn _ _ (by omega), s_upn _ _ (by omega), s_ups]
      have hv2 : (s_up (s_up (s_up (G 77) (42 + nt) (nI mx)) (45 + nt) (nI md)) 1 (nI (nt + 1))) (45 + nt) = nI md := by rw [s_upn _ _ (by omega), s_ups]
      have hv0 : (s_up (s_up (s_up (G 77) (42 + nt) (nI mx)) (45 + nt) (nI md)) 1 (nI (nt + 1))) 1 = nI (nt + 1) := s_ups _ _ _
      refine ⟨z_up2 (z_up2 (z_up2 F3 (sp + 5) nt (nI mx)) (sp + 6) nt (nI md)) sp 11 (nI (nt + 1)), _, ?_, run, oC_tr (oc_C o) (oC_tr (oC_u (by omega)) (oC_tr (oC_u (by omega)) (oC_u (by omega)))), oMM, Or.inr ⟨s5, ns, nt + 1, np, nc, hlo, JO_o hJ5 (fun y j hy => ?_) (fun y j hy => by rw [u2_n _ _ (by omega), u2_n _ _ (by omega)]), ?_, ?_, fl_o fl ?_ (fun j h1 h2 => ?_)⟩⟩
      · rw [crun, if_pos hJ5.2.2.1, kb_ct hP, kc_cv hC, e_run (c_addT hC f5 hlt')]
        rfl
      · rw [u2_n _ _ (by omega), u2_n _ _ (by omega), u2_n _ _ (by omega)]
      · rw [R, R9]
        refine rc_tk rc hns hlt' hct (by rw [hv0, u2_s]) (fun y j g0 g1 g2 => ?_) ⟨?_, ?_⟩
        · rw [u2_n _ _ (by omega), u2_n _ _ (by omega), u2_n _ _ (by omega)]
          exact o y j (by omega)
        · rw [hv1, u2_n _ _ (by omega), u2_n _ _ (by omega), u2_s]
        · rw [hv2, u2_n _ _ (by omega), u2_s]
      · rw [R, R9]
        exact ck_tk ck hlt' kx kd hct hv0 ⟨hv1, hv2⟩
      · rw [R75, q3 75 14 (by omega), u2_n _ _ (by omega), q2 75 14 (by omega), q1 75 14 (by omega)]
      · rw [u2_n _ _ (by omega), u2_n _ _ (by omega), u2_n _ _ (by omega)]
        exact o 2 j (by omega)
  · obtain ⟨F2, w1, a2, o2, hE2⟩ := c_numE (p := 0) (q := nI ns - 1) hP hE1
    obtain ⟨F3, w2, a3, o3, hE3⟩ := c_numE (p := 1) (q := 20) hP hE2
    refine ⟨F3, G1, ?_, ?_, oc_C (oc_tr (oc_tr o1 o2) o3), om_M q1, Or.inl hE3⟩
    · unfold p_X1_readTruck
      rw [kb_ct hP, kc_gI hC, f0, k0_cv2 h0, e_run a1, kb_ct hP, kc_gI hC, fs1, k0_cv2 h0, e_run a2, k0_cv2 h0, e_run a3, k0_gI2 h0, if_neg (JE_n hE3).1]
      rfl
    · unfold p_X9_truckLine
      rw [kn_cv h9, e_run b1', hr, if_pos rfl]
      rfl
theorem j_trip (hP : PC M N b n sp) (hJ : JO b n F G s) (hD : DR F G sp ns nt np nc) : ∃ F' G', (p_X1_readTrip 2).1 (KI M F) = some (.inr (), KI M F') ∧ (p_X9_tripLine 75).1 (KI N G) = some (.inr (), KI N G') ∧ oC sp F F' ∧ oM G G' ∧ JT b n F' G' sp s := by
  obtain ⟨rc, ck, fl⟩ := hD
  have h9 := hP.2.1
  have h0 := hP.1.1
  have hC := hP.1.2.2.2
  have hsp := hP.2.2.2.2
  have hns := ck.1.2.1
  have hnt := ck.1.2.2.2.1
  have hnp := ck.1.2.2.2.2.2
  have cs : G 77 0 = nI ns := ck.1.1
  have fs : F sp 10 = nI ns := rc.1.1.trans cs
  have c0 : G 77 2 = nI np := ck.1.2.2.2.2.1
  have f0 : F sp 12 = nI np := rc.1.2.2.1.trans c0
  obtain ⟨F1, G1, r, a1, b1, o1, q1, hr⟩ := j_beg (i := 2) (q := 30) hP hJ (by decide) c0
  have b1' : (p_X9_begins 75 2 30).1 (KI N G) = some (.inr r, KI N G1) := b1
  have fs1 : F1 sp 10 = nI ns := by rw [oc_r o1 (by omega)]; exact fs
  rcases hr with ⟨hr, hlt, hJ1⟩ | ⟨hr, hE1⟩
  · have hlt' : np < 30 := by
      by_cases g : np < 30
      · exact g
      · exact absurd hlt (nI_nlt (b := 30) (by omega) (by omega))
    have j1 : JE b n F1 G1 ∨ ((∃ s', s ≤ s' ∧ JO b n F1 G1 s') ∧ True) := Or.inr ⟨⟨_, (n2_b hJ.1.2.2.1).1, hJ1⟩, trivial⟩
    have r1 : G1 77 = G 77 := om_r q1 (by decide)
    obtain ⟨F2, G2, w1, v1, a2, b2, o2, q2, j2⟩ := j_read (p := 0) (q := nI ns - 1) (q' := nI ns - 1) hP (fun _ => rfl) j1
    have r2 : G2 77 = G 77 := (om_r q2 (by decide)).trans r1
    have j2' := J_o (F' := F2) (G' := z_up2 G2 77 (48 + np) v1) j2 (fun _ _ _ => rfl) (fun y j hy => u2_n _ _ (by omega))
    obtain ⟨F3, G3, w2, v2, a3, b3, o3, q3, j3⟩ := j_read (p := 0) (q := nI ns - 1) (q' := nI ns - 1) hP (fun _ => rfl) j2'
    have r3 : G3 77 = s_up (G 77) (48 + np) v1 := by rw [om_r q3 (by decide), u2_rs, r2]
    have j3' := J_o (F' := F3) (G' := z_up2 G3 77 (78 + np) v2) j3 (fun _ _ _ => rfl) (fun y j hy => u2_n _ _ (by omega))
    obtain ⟨F4, G4, w3, v3, a4, b4, o4, q4, j4⟩ := j_read (p := 0) (q := 1439) (q' := 1439) hP (fun _ => rfl) j3'
    have r4 : G4 77 = s_up (s_up (G 77) (48 + np) v1) (78 + np) v2 := by rw [om_r q4 (by decide), u2_rs, r3]
    have e0 : G1 77 2 = nI np := by rw [r1]; exact c0
    have es : G1 77 0 = nI ns := by rw [r1]; exact cs
    have e5 : z_up2 G4 77 (108 + np) v3 77 2 = nI np := by
      rw [u2_n _ _ (Or.inr (by omega)), r4, s_upn _ _ (by omega), s_upn _ _ (by omega)]
      exact c0
    have i48 : (48 : Int32) + nI np = nI (48 + np) := nI_add 48 np
    have i78 : (78 : Int32) + nI np = nI (78 + np) := nI_add 78 np
    have i108 : (108 : Int32) + nI np = nI (108 + np) := nI_add 108 np
    have es2 : z_up2 G2 77 (48 + np) v1 77 0 = nI ns := by
      rw [u2_n _ _ (Or.inr (by omega)), r2]
      exact cs
    have fs2 : F2 sp 10 = nI ns := by rw [oc_r o2 (by omega)]; exact fs1
    have run : (p_X9_tripLine 75).1 (KI N G) = some (.inr (), KI N (z_up2 (z_up2 G4 77 (108 + np) v3) 77 2 (nI (np + 1)))) := by
      unfold p_X9_tripLine
      rw [kn_cv h9, e_run b1', hr, if_neg one_n0, kn_g77 h9, kn_l77_2 h9, e0, kn_g77 h9, kn_g77 h9, kn_l77_0 h9, es, kn_cv h9, e_run b2, i48, kn_s77 h9 (by omega), kn_g77 h9, kn_g77 h9, kn_l77_0 h9, es2, kn_cv h9, e_run b3, i78, kn_s77 h9 (by omega), kn_g77 h9, kn_cv h9, e_run b4, i108, kn_s77 h9 (by omega), kn_g77 h9, kn_l77_2 h9, e5, nI_1, kn_t77_2 h9]
      rfl
    have o : oc F F4 := oc_tr (oc_tr (oc_tr o1 o2) o3) o4
    have oMM : oM G (z_up2 (z_up2 G4 77 (108 + np) v3) 77 2 (nI (np + 1))) := oM_tr (om_M q1) (oM_tr (om_M q2) (oM_tr (oM_u (by omega)) (oM_tr (om_M q3) (oM_tr (oM_u (by omega)) (oM_tr (om_M q4) (oM_tr (oM_u (by omega)) (oM_u (by omega))))))))
    have crun : (p_X1_readTrip 2).1 (KI M F) = ((if F4 2 9 = 0 then (z_bd (z_gA 1 2 3) (fun v12 => (z_bd (z_cv 0 v12 (p_X0_addTrip v12 w1 w2 w3)) (fun _ => (z_pu ()))))) else (z_pu ())) : zP Unit).1 (KI M F4) := by
      unfold p_X1_readTrip
      rw [kb_ct hP, kc_gI hC, f0, k0_cv2 h0, e_run a1, kb_ct hP, kc_gI hC, fs1, k0_cv2 h0, e_run a2, kb_ct hP, kc_gI hC, fs2, k0_cv2 h0, e_run a3, k0_cv2 h0, e_run a4, k0_gI2 h0]
    rcases j4 with hE | ⟨⟨s5, hlo, hJ5⟩, ⟨⟨⟨_, x1, x2, x3, mx, mx1, mx2⟩, y1, y2, y3, my, my1, my2⟩, d1, d2, d3, md, md1, md2⟩⟩
    · refine ⟨F4, _, ?_, run, oc_C o, oMM, Or.inl (JE_o hE (fun _ _ _ => rfl) (fun j hj => by rw [u2_n _ _ (by omega), u2_n _ _ (by omega)]))⟩
      rw [crun, if_neg (JE_n hE).1]
      rfl
    · have f5 : F4 sp 12 = nI np := by rw [oc_r o (by omega)]; exact f0
      have R : z_up2 (z_up2 G4 77 (108 + np) v3) 77 2 (nI (np + 1)) 77 = s_up (s_up (s_up (s_up (G 77) (48 + np) v1) (78 + np) v2) (108 + np) v3) 2 (nI (np + 1)) := by rw [u2_rs, u2_rs, r4]
      have R9 : z_up2 (z_up2 G4 77 (108 + np) v3) 77 2 (nI (np + 1)) 79 = G 79 := by
        rw [u2_row _ _ (by decide), u2_row _ _ (by decide), om_r q4 (by decide), u2_row _ _ (by decide), om_r q3 (by decide), u2_row _ _ (by decide), om_r q2 (by decide), om_r q1 (by decide)]
      have R75 : ∀ j, z_up2 (z_up2 G4 77 (108 + np) v3) 77 2 (nI (np + 1)) 75 j = G4 75 j := fun j => by rw [u2_n _ _ (by omega), u2_n _ _ (by omega)]
      subst x1 y1 d1 mx2 my2 md2
      have kx : mx < ns := le_dec x3 (by omega)
      have ky : my < ns := le_dec y3 (by omega)
      have kd : md < 1440 := by have := le_nI (k := 1439) d3 (by omega); omega
      have hct : ∀ j, (j ≠ 2 ∧ j ≠ 48 + np ∧ j ≠ 78 + np ∧ j ≠ 108 + np) → (s_up (s_up (s_up (s_up (G 77) (48 + np) (nI mx)) (78 + np) (nI my)) (108 + np) (nI md)) 2 (nI (np + 1))) j = G 77 j := fun j hj => by
        rw [s_upn _ _ (by omega), s_upn _ _ (by omega), s_upn _ _ (by omega), s_upn _ _ (by omega)]
      have hv1 : (s_up (s_up (s_up (s_up (G 77) (48 + np) (nI mx)) (78 + np) (nI my)) (108 + np) (nI md)) 2 (nI (np + 1))) (48 + np) = nI mx := by rw [s_upn _ _ (by omega), s_upn _ _ (by omega), s_upn _ _ (by omega), s_ups]
      have hv2 : (s_up (s_up (s_up (s_up (G 77) (48 + np) (nI mx)) (78 + np) (nI my)) (108 + np) (nI md)) 2 (nI (np + 1))) (78 + np) = nI my := by rw [s_upn _ _ (by omega), s_upn _ _ (by omega), s_ups]
      have hv3 : (s_up (s_up (s_up (s_up (G 77) (48 + np) (nI mx)) (78 + np) (nI my)) (108 + np) (nI md)) 2 (nI (np + 1))) (108 + np) = nI md := by rw [s_upn _ _ (by omega), s_ups]
      have hv0 : (s_up (s_up (s_up (s_up (G 77) (48 + np) (nI mx)) (78 + np) (nI my)) (108 + np) (nI md)) 2 (nI (np + 1))) 2 = nI (np + 1) := s_ups _ _ _
      refine ⟨z_up2 (z_up2 (z_up2 (z_up2 F4 (sp + 7) np (nI mx)) (sp + 8) np (nI my)) (sp + 9) np (nI md)) sp 12 (nI (np + 1)), _, ?_, run, oC_tr (oc_C o) (oC_tr (oC_u (by omega)) (oC_tr (oC_u (by omega)) (oC_tr (oC_u (by omega)) (oC_u (by omega))))), oMM, Or.inr ⟨s5, ns, nt, np + 1, nc, hlo, JO_o hJ5 (fun y j hy => ?_) (fun y j hy => by rw [u2_n _ _ (by omega), u2_n _ _ (by omega)]), ?_, ?_, fl_o fl ?_ (fun j h1 h2 => ?_)⟩⟩
      · rw [crun, if_pos hJ5.2.2.1, kb_ct hP, kc_cv hC, e_run (c_addP hC f5 hlt')]
        rfl
      · rw [u2_n _ _ (by omega), u2_n _ _ (by omega), u2_n _ _ (by omega), u2_n _ _ (by omega)]
      · rw [R, R9]
        refine rc_tp rc hns hnt hlt' hct (by rw [hv0, u2_s]) (fun y j g0 g1 g2 => ?_) ⟨?_, ?_, ?_⟩
        · rw [u2_n _ _ (by omega), u2_n _ _ (by omega), u2_n _ _ (by omega), u2_n _ _ (by omega)]
          exact o y j (by omega)
        · rw [hv1, u2_n _ _ (by omega), u2_n _ _ (by omega), u2_n _ _ (by omega), u2_s]
        · rw [hv2, u2_n _ _ (by omega), u2_n _ _ (by omega), u2_s]
        · rw [hv3, u2_n _ _ (by omega), u2_s]
      · rw [R, R9]
        exact ck_tp ck hlt' kx ky kd hct hv0 ⟨hv1, hv2, hv3⟩
      · rw [R75, q4 75 14 (by omega), u2_n _ _ (by omega), q3 75 14 (by omega), u2_n _ _ (by omega), q2 75 14 (by omega), q1 75 14 (by omega)]
      · rw [u2_n _ _ (by omega), u2_n _ _ (by omega), u2_n _ _ (by omega), u2_n _ _ (by omega)]
        exact o 2 j (by omega)
  · obtain ⟨F2, w1, a2, o2, hE2⟩ := c_numE (p := 0) (q := nI ns - 1) hP hE1
    obtain ⟨F3, w2, a3, o3, hE3⟩ := c_numE (p := 0) (q := nI ns - 1) hP hE2
    obtain ⟨F4, w3, a4, o4, hE4⟩ := c_numE (p := 0) (q := 1439) hP hE3
    have fs2 : F2 sp 10 = nI ns := by rw [oc_r o2 (by omega)]; exact fs1
    refine ⟨F4, G1, ?_, ?_, oc_C (oc_tr (oc_tr (oc_tr o1 o2) o3) o4), om_M q1, Or.inl hE4⟩
    · unfold p_X1_readTrip
      rw [kb_ct hP, kc_gI hC, f0, k0_cv2 h0, e_run a1, kb_ct hP, kc_gI hC, fs1, k0_cv2 h0, e_run a2, kb_ct hP, kc_gI hC, fs2, k0_cv2 h0, e_run a3, k0_cv2 h0, e_run a4, k0_gI2 h0, if_neg (JE_n hE4).1]
      rfl
    · unfold p_X9_tripLine
      rw [kn_cv h9, e_run b1', hr, if_pos rfl]
      rfl
end PA65
