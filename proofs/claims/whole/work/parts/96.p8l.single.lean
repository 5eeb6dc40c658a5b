/-! ===== PHASE 2: pace, balance, bonus ===== -/
section PA66
variable {α β : Type} {M N : zM} {F F' F1 G G' G1 : Nat → Nat → Int32} {b ct ct' cd : Nat → Int32} {i j k m n s s' lo sp ns nt np nc x y d e : Nat} {p q q' c v w : Int32} {w1 w2 w3 w4 : Int32}
theorem k0_pZ2 {f : Unit → zP β} (h : L0 M) (hv : v = 0 ∨ v = 1) : (z_bd (z_pZ 1 2 k v) f).1 (KI M F) = (f ()).1 (KI M (z_up2 F 2 k v)) := e_pZ (M := KI M F) (k0_is2 h) hv
theorem bit_0 : ∀ m : Fin 16, (nI (m.1 % 2) = 0 ↔ ((nI m.1 >>> ((0 : Int32) &&& 31)) &&& 1) = 0) ∧ (m.1 % 2 = 0 → nI m.1 ||| (1 <<< ((0 : Int32) &&& 31)) = nI (m.1 + 1)) := by decide
theorem bit_1 : ∀ m : Fin 16, (nI (m.1 / 2 % 2) = 0 ↔ ((nI m.1 >>> ((1 : Int32) &&& 31)) &&& 1) = 0) ∧ (m.1 / 2 % 2 = 0 → nI m.1 ||| (1 <<< ((1 : Int32) &&& 31)) = nI (m.1 + 2)) := by decide
theorem bit_2 : ∀ m : Fin 16, (nI (m.1 / 4 % 2) = 0 ↔ ((nI m.1 >>> ((2 : Int32) &&& 31)) &&& 1) = 0) ∧ (m.1 / 4 % 2 = 0 → nI m.1 ||| (1 <<< ((2 : Int32) &&& 31)) = nI (m.1 + 4)) := by decide
theorem bit_3 : ∀ m : Fin 16, (nI (m.1 / 8 % 2) = 0 ↔ ((nI m.1 >>> ((3 : Int32) &&& 31)) &&& 1) = 0) ∧ (m.1 / 8 % 2 = 0 → nI m.1 ||| (1 <<< ((3 : Int32) &&& 31)) = nI (m.1 + 8)) := by decide
theorem nI_z {k : Nat} (h : nI k = 0) (hk : k < 2 ^ 31) : k = 0 := nq_inj (b := 0) hk (by decide) h
theorem j_pace (hP : PC M N b n sp) (hJ : JO b n F G s) (hD : DR F G sp ns nt np nc) : ∃ F' G', (p_X1_readPace 2).1 (KI M F) = some (.inr (), KI M F') ∧ ((z_bd (z_cv 9 75 (p_X9_once 75 0)) (fun r13 => (if r13 = 0 then (z_pu ()) else (z_bd (z_gA 9 75 10) (fun v14 => (z_bd (z_cv 9 75 (p_X9_read 75 0 99)) (fun r15 => (z_bd (z_sI 11 v14 3 r15) (fun _ => (z_bd (z_gA 9 75 10) (fun v16 => (z_bd (z_cv 9 75 (p_X9_read 75 0 99)) (fun r17 => (z_bd (z_sI 11 v16 4 r17) (fun _ => (z_pu ())))))))))))))))) : zP Unit).1 (KI N G) = some (.inr (), KI N G') ∧ oC sp F F' ∧ oM G G' ∧ JT b n F' G' sp s := by
  obtain ⟨rc, ck, m, m1, m2, m3, m4, m5, m6⟩ := hD
  have h9 := hP.2.1
  have h0 := hP.1.1
  have hC := hP.1.2.2.2
  have hsp := hP.2.2.2.2
  obtain ⟨bt1, bt2⟩ := bit_0 ⟨m, m1⟩
  obtain ⟨F1, G1, r, a1, b1, o1, hr⟩ := j_once (p := 0) (c := nI (m % 2)) hP hJ (by rw [m2]; exact bt1)
  have f0 : F 2 10 = nI (m % 2) := m3
  obtain ⟨F1', eF1⟩ : ∃ F1', F1' = z_up2 F1 2 10 1 := ⟨_, rfl⟩
  have oF1 : ∀ y j, ¬ (y = 2 ∧ j = 10) → F1' y j = F1 y j := fun y j hy => by rw [eF1, u2_n _ _ (by omega)]
  have oCF : oC sp F F1' := by rw [eF1]; exact oC_tr (oc_C o1) (oC_u (by omega))
  rcases hr with ⟨hr, hc0, hJ1, q1⟩ | ⟨hr, hE1, q1⟩
  · have hm0 : m % 2 = 0 := nI_z hc0 (by omega)
    have g14 : G1 75 14 = nI (m + 1) := by rw [q1 75 14 (by omega), u2_s, m2]; exact bt2 hm0
    have oG1 : ∀ y j, ¬ (y = 75 ∧ 4 ≤ j ∧ j ≤ 14) → G1 y j = G y j := fun y j hy => by rw [q1 y j (by omega), u2_n _ _ (by omega)]
    have j1 : JE b n F1' G1 ∨ ((∃ s', s ≤ s' ∧ JO b n F1' G1 s') ∧ True) := Or.inr ⟨⟨_, (n2_b hJ.1.2.2.1).1, JO_o hJ1 (fun y j hy => oF1 y j (by omega)) (fun _ _ _ => rfl)⟩, trivial⟩
    have r1 : G1 77 = G 77 := funext fun j => oG1 77 j (by omega)
    have r19 : G1 79 = G 79 := funext fun j => oG1 79 j (by omega)
    obtain ⟨F2, G2, w1, v1, a2, b2, o2, q2, j2⟩ := j_read (p := 0) (q := 99) (q' := 99) hP (fun _ => rfl) j1
    have j2' := J_o (F' := z_up2 F2 sp 13 w1) (G' := z_up2 G2 77 3 v1) j2 (fun y j hy => u2_n _ _ (by omega)) (fun y j hy => u2_n _ _ (by omega))
    have r2 : G2 77 = G 77 := (om_r q2 (by decide)).trans r1
    have r29 : G2 79 = G 79 := (om_r q2 (by decide)).trans r19
    obtain ⟨F3, G3, w2, v2, a3, b3, o3, q3, j3⟩ := j_read (p := 0) (q := 99) (q' := 99) hP (fun _ => rfl) j2'
    have j3' := J_o (F' := z_up2 F3 sp 14 w2) (G' := z_up2 G3 77 4 v2) j3 (fun y j hy => u2_n _ _ (by omega)) (fun y j hy => u2_n _ _ (by omega))
    have r3 : G3 77 = s_up (G 77) 3 v1 := by rw [om_r q3 (by decide), u2_rs, r2]
    have r39 : G3 79 = G 79 := by rw [om_r q3 (by decide), u2_row _ _ (by decide), r29]
    have oMG : oM G G1 := ⟨fun y hy => funext fun j => oG1 y j (by omega), fun j hj => oG1 75 j (by omega)⟩
    have crun : (p_X1_readPace 2).1 (KI M F) = some (.inr (), KI M (z_up2 F3 sp 14 w2)) := by
      unfold p_X1_readPace
      rw [k0_gI2 h0, f0, k0_cv2 h0, e_run a1, k0_pZ2 h0 (Or.inr rfl), ← eF1, kb_ct hP, k0_cv2 h0, e_run a2, kc_pI hC, kb_ct hP, k0_cv2 h0, e_run a3, kc_pI hC]
      rfl
    have mrun : ((z_bd (z_cv 9 75 (p_X9_once 75 0)) (fun r13 => (if r13 = 0 then (z_pu ()) else (z_bd (z_gA 9 75 10) (fun v14 => (z_bd (z_cv 9 75 (p_X9_read 75 0 99)) (fun r15 => (z_bd (z_sI 11 v14 3 r15) (fun _ => (z_bd (z_gA 9 75 10) (fun v16 => (z_bd (z_cv 9 75 (p_X9_read 75 0 99)) (fun r17 => (z_bd (z_sI 11 v16 4 r17) (fun _ => (z_pu ())))))))))))))))) : zP Unit).1 (KI N G) = some (.inr (), KI N (z_up2 G3 77 4 v2)) := by
      rw [kn_cv h9, e_run b1, hr, if_neg one_n0, kn_g77 h9, kn_cv h9, e_run b2, kn_t77_3 h9, kn_g77 h9, kn_cv h9, e_run b3, kn_t77_4 h9]
      rfl
    rcases j3' with hE | ⟨⟨s5, hlo, hJ5⟩, ⟨⟨_, x1, x2, x3, mx, mx1, mx2⟩, y1, y2, y3, my, my1, my2⟩⟩
    · exact ⟨z_up2 F3 sp 14 w2, z_up2 G3 77 4 v2, crun, mrun, oC_tr oCF (oC_tr (oc_C o2) (oC_tr (oC_u (by omega)) (oC_tr (oc_C o3) (oC_u (by omega))))), oM_tr oMG (oM_tr (om_M q2) (oM_tr (oM_u (by omega)) (oM_tr (om_M q3) (oM_u (by omega))))), Or.inl hE⟩
    · have R : z_up2 G3 77 4 v2 77 = s_up (s_up (G 77) 3 v1) 4 v2 := by rw [u2_rs, r3]
      have R9 : z_up2 G3 77 4 v2 79 = G 79 := by rw [u2_row _ _ (by decide), r39]
      subst x1 y1 mx2 my2
      have kx : mx ≤ 99 := le_nI (k := 99) x3 (by omega)
      have ky : my ≤ 99 := le_nI (k := 99) y3 (by omega)
      have hct : ∀ j, j ≠ 3 → j ≠ 4 → (s_up (s_up (G 77) 3 (nI mx)) 4 (nI my)) j = G 77 j := fun j g0 g1 => by
        rw [s_upn _ _ (by omega), s_upn _ _ (by omega)]
      have hv1 : (s_up (s_up (G 77) 3 (nI mx)) 4 (nI my)) 3 = nI mx := by rw [s_upn _ _ (by omega), s_ups]
      have hv2 : (s_up (s_up (G 77) 3 (nI mx)) 4 (nI my)) 4 = nI my := s_ups _ _ _
      have oFF : ∀ y j, ¬ (y = 2 ∧ ((5 ≤ j ∧ j ≤ 9) ∨ j = 10)) → ¬ (y = sp ∧ (j = 13 ∨ j = 14)) → z_up2 F3 sp 14 (nI my) y j = F y j := fun y j g1 g2 => by rw [u2_n _ _ (by omega), o3 y j (by omega), u2_n _ _ (by omega), o2 y j (by omega), oF1 y j (by omega)]; exact o1 y j (by omega)
      have fv1 : z_up2 F3 sp 14 (nI my) sp 13 = nI mx := by rw [u2_n _ _ (by omega), o3 sp 13 (by omega), u2_s]
      have fv2 : z_up2 F3 sp 14 (nI my) sp 14 = nI my := u2_s _ _ _ _
      have fv0 : z_up2 F3 sp 14 (nI my) 2 10 = 1 := by rw [u2_n _ _ (by omega), o3 2 10 (by omega), u2_n _ _ (by omega), o2 2 10 (by omega), eF1, u2_s]
      obtain ⟨_, _, _, r13, r14, r15, r16, r17⟩ := rc.1
      obtain ⟨z1, z2, z3, z4, z5, y1', y2', y3', y4', y5', u1', u2', u3', u4', u5'⟩ := ck.2.2.2.2.1
      refine ⟨z_up2 F3 sp 14 (nI my), z_up2 G3 77 4 (nI my), crun, mrun, oC_tr oCF (oC_tr (oc_C o2) (oC_tr (oC_u (by omega)) (oC_tr (oc_C o3) (oC_u (by omega))))), oM_tr oMG (oM_tr (om_M q2) (oM_tr (oM_u (by omega)) (oM_tr (om_M q3) (oM_u (by omega))))), Or.inr ⟨s5, ns, nt, np, nc, hlo, hJ5, ?_, ?_, m + 1, by omega, ?_, fv0.trans (show (1 : Int32) = nI ((m + 1) % 2) by rw [show (m + 1) % 2 = 1 by omega]; rfl), (oFF 2 11 (by omega) (by omega)).trans (by rw [show (m + 1) / 2 % 2 = m / 2 % 2 by omega]; exact m4), (oFF 2 12 (by omega) (by omega)).trans (by rw [show (m + 1) / 4 % 2 = m / 4 % 2 by omega]; exact m5), (oFF 2 13 (by omega) (by omega)).trans (by rw [show (m + 1) / 8 % 2 = m / 8 % 2 by omega]; exact m6)⟩⟩
      · rw [R, R9]
        exact rc_pc rc (fun j hj => hct j (by omega) (by omega)) (fun y j g0 g1 => oFF y j (by omega) (by omega)) ⟨fv1.trans hv1.symm, fv2.trans hv2.symm, (oFF sp 15 (by omega) (by omega)).trans (r15.trans (hct 5 (by omega) (by omega)).symm), (oFF sp 16 (by omega) (by omega)).trans (r16.trans (hct 6 (by omega) (by omega)).symm), (oFF sp 17 (by omega) (by omega)).trans (r17.trans (hct 7 (by omega) (by omega)).symm)⟩
      · rw [R, R9]
        exact ck_pc ck (fun j hj => hct j (by omega) (by omega)) ⟨mx, my, z3, z4, z5, by omega, by omega, y3', y4', y5', hv1, hv2, (hct 5 (by omega) (by omega)).trans u3', (hct 6 (by omega) (by omega)).trans u4', (hct 7 (by omega) (by omega)).trans u5'⟩
      · rw [u2_n _ _ (by omega), q3 75 14 (by omega), u2_n _ _ (by omega), q2 75 14 (by omega)]; exact g14
  · have hE1' : JE b n F1' G1 := JE_o hE1 (fun y j hy => oF1 y j (by omega)) (fun _ _ => rfl)
    obtain ⟨F2, w1, a2, o2, hE2⟩ := c_numE (p := 0) (q := 99) hP hE1'
    have hE2' : JE b n (z_up2 F2 sp 13 w1) G1 := JE_o hE2 (fun y j hy => u2_n _ _ (by omega)) (fun _ _ => rfl)
    obtain ⟨F3, w2, a3, o3, hE3⟩ := c_numE (p := 0) (q := 99) hP hE2'
    have hE3' : JE b n (z_up2 F3 sp 14 w2) G1 := JE_o hE3 (fun y j hy => u2_n _ _ (by omega)) (fun _ _ => rfl)
    refine ⟨z_up2 F3 sp 14 w2, G1, ?_, ?_, oC_tr oCF (oC_tr (oc_C o2) (oC_tr (oC_u (by omega)) (oC_tr (oc_C o3) (oC_u (by omega))))), om_M q1, Or.inl hE3'⟩
    · unfold p_X1_readPace
      rw [k0_gI2 h0, f0, k0_cv2 h0, e_run a1, k0_pZ2 h0 (Or.inr rfl), ← eF1, kb_ct hP, k0_cv2 h0, e_run a2, kc_pI hC, kb_ct hP, k0_cv2 h0, e_run a3, kc_pI hC]
      rfl
    · rw [kn_cv h9, e_run b1, hr, if_pos rfl]
      rfl
theorem j_balance (hP : PC M N b n sp) (hJ : JO b n F G s) (hD : DR F G sp ns nt np nc) : ∃ F' G', (p_X1_readBalance 2).1 (KI M F) = some (.inr (), KI M F') ∧ ((z_bd (z_cv 9 75 (p_X9_once 75 1)) (fun r10 => (if r10 = 0 then (z_pu ()) else (z_bd (z_gA 9 75 10) (fun v11 => (z_bd (z_cv 9 75 (p_X9_read 75 0 50)) (fun r12 => (z_bd (z_sI 11 v11 5 r12) (fun _ => (z_pu ())))))))))) : zP Unit).1 (KI N G) = some (.inr (), KI N G') ∧ oC sp F F' ∧ oM G G' ∧ JT b n F' G' sp s := by
  obtain ⟨rc, ck, m, m1, m2, m3, m4, m5, m6⟩ := hD
  have h9 := hP.2.1
  have h0 := hP.1.1
  have hC := hP.1.2.2.2
  have hsp := hP.2.2.2.2
  obtain ⟨bt1, bt2⟩ := bit_1 ⟨m, m1⟩
  obtain ⟨F1, G1, r, a1, b1, o1, hr⟩ := j_once (p := 1) (c := nI (m / 2 % 2)) hP hJ (by rw [m2]; exact bt1)
  have f0 : F 2 11 = nI (m / 2 % 2) := m4
  obtain ⟨F1', eF1⟩ : ∃ F1', F1' = z_up2 F1 2 11 1 := ⟨_, rfl⟩
  have oF1 : ∀ y j, ¬ (y = 2 ∧ j = 11) → F1' y j = F1 y j := fun y j hy => by rw [eF1, u2_n _ _ (by omega)]
  have oCF : oC sp F F1' := by rw [eF1]; exact oC_tr (oc_C o1) (oC_u (by omega))
  rcases hr with ⟨hr, hc0, hJ1, q1⟩ | ⟨hr, hE1, q1⟩
  · have hm0 : m / 2 % 2 = 0 := nI_z hc0 (by omega)
    have g14 : G1 75 14 = nI (m + 2) := by rw [q1 75 14 (by omega), u2_s, m2]; exact bt2 hm0
    have oG1 : ∀ y j, ¬ (y = 75 ∧ 4 ≤ j ∧ j ≤ 14) → G1 y j = G y j := fun y j hy => by rw [q1 y j (by omega), u2_n _ _ (by omega)]
    have j1 : JE b n F1' G1 ∨ ((∃ s', s ≤ s' ∧ JO b n F1' G1 s') ∧ True) := Or.inr ⟨⟨_, (n2_b hJ.1.2.2.1).1, JO_o hJ1 (fun y j hy => oF1 y j (by omega)) (fun _ _ _ => rfl)⟩, trivial⟩
    have r1 : G1 77 = G 77 := funext fun j => oG1 77 j (by omega)
    have r19 : G1 79 = G 79 := funext fun j => oG1 79 j (by omega)
    obtain ⟨F2, G2, w1, v1, a2, b2, o2, q2, j2⟩ := j_read (p := 0) (q := 50) (q' := 50) hP (fun _ => rfl) j1
    have j2' := J_o (F' := z_up2 F2 sp 15 w1) (G' := z_up2 G2 77 5 v1) j2 (fun y j hy => u2_n _ _ (by omega)) (fun y j hy => u2_n _ _ (by omega))
    have r2 : G2 77 = G 77 := (om_r q2 (by decide)).trans r1
    have r29 : G2 79 = G 79 := (om_r q2 (by decide)).trans r19
    have oMG : oM G G1 := ⟨fun y hy => funext fun j => oG1 y j (by omega), fun j hj => oG1 75 j (by omega)⟩
    have crun : (p_X1_readBalance 2).1 (KI M F) = some (.inr (), KI M (z_up2 F2 sp 15 w1)) := by
      unfold p_X1_readBalance
      rw [k0_gI2 h0, f0, k0_cv2 h0, e_run a1, k0_pZ2 h0 (Or.inr rfl), ← eF1, kb_ct hP, k0_cv2 h0, e_run a2, kc_pI hC]
      rfl
    have mrun : ((z_bd (z_cv 9 75 (p_X9_once 75 1)) (fun r10 => (if r10 = 0 then (z_pu ()) else (z_bd (z_gA 9 75 10) (fun v11 => (z_bd (z_cv 9 75 (p_X9_read 75 0 50)) (fun r12 => (z_bd (z_sI 11 v11 5 r12) (fun _ => (z_pu ())))))))))) : zP Unit).1 (KI N G) = some (.inr (), KI N (z_up2 G2 77 5 v1)) := by
      rw [kn_cv h9, e_run b1, hr, if_neg one_n0, kn_g77 h9, kn_cv h9, e_run b2, kn_t77_5 h9]
      rfl
    rcases j2' with hE | ⟨⟨s5, hlo, hJ5⟩, ⟨_, x1, x2, x3, mx, mx1, mx2⟩⟩
    · exact ⟨z_up2 F2 sp 15 w1, z_up2 G2 77 5 v1, crun, mrun, oC_tr oCF (oC_tr (oc_C o2) (oC_u (by omega))), oM_tr oMG (oM_tr (om_M q2) (oM_u (by omega))), Or.inl hE⟩
    · have R : z_up2 G2 77 5 v1 77 = s_up (G 77) 5 v1 := by rw [u2_rs, r2]
      have R9 : z_up2 G2 77 5 v1 79 = G 79 := by rw [u2_row _ _ (by decide), r29]
      subst x1 mx2
      have kx : mx ≤ 50 := le_nI (k := 50) x3 (by omega)
      have hct : ∀ j, j ≠ 5 → (s_up (G 77) 5 (nI mx)) j = G 77 j := fun j g0 => by
        rw [s_upn _ _ (by omega)]
      have hv1 : (s_up (G 77) 5 (nI mx)) 5 = nI mx := s_ups _ _ _
      have oFF : ∀ y j, ¬ (y = 2 ∧ ((5 ≤ j ∧ j ≤ 9) ∨ j = 11)) → ¬ (y = sp ∧ (j = 15)) → z_up2 F2 sp 15 (nI mx) y j = F y j := fun y j g1 g2 => by rw [u2_n _ _ (by omega), o2 y j (by omega), oF1 y j (by omega)]; exact o1 y j (by omega)
      have fv1 : z_up2 F2 sp 15 (nI mx) sp 15 = nI mx := u2_s _ _ _ _
      have fv0 : z_up2 F2 sp 15 (nI mx) 2 11 = 1 := by rw [u2_n _ _ (by omega), o2 2 11 (by omega), eF1, u2_s]
      obtain ⟨_, _, _, r13, r14, r15, r16, r17⟩ := rc.1
      obtain ⟨z1, z2, z3, z4, z5, y1', y2', y3', y4', y5', u1', u2', u3', u4', u5'⟩ := ck.2.2.2.2.1
      refine ⟨z_up2 F2 sp 15 (nI mx), z_up2 G2 77 5 (nI mx), crun, mrun, oC_tr oCF (oC_tr (oc_C o2) (oC_u (by omega))), oM_tr oMG (oM_tr (om_M q2) (oM_u (by omega))), Or.inr ⟨s5, ns, nt, np, nc, hlo, hJ5, ?_, ?_, m + 2, by omega, ?_, (oFF 2 10 (by omega) (by omega)).trans (by rw [show (m + 2) % 2 = m % 2 by omega]; exact m3), fv0.trans (show (1 : Int32) = nI ((m + 2) / 2 % 2) by rw [show (m + 2) / 2 % 2 = 1 by omega]; rfl), (oFF 2 12 (by omega) (by omega)).trans (by rw [show (m + 2) / 4 % 2 = m / 4 % 2 by omega]; exact m5), (oFF 2 13 (by omega) (by omega)).trans (by rw [show (m + 2) / 8 % 2 = m / 8 % 2 by omega]; exact m6)⟩⟩
      · rw [R, R9]
        exact rc_pc rc (fun j hj => hct j (by omega)) (fun y j g0 g1 => oFF y j (by omega) (by omega)) ⟨(oFF sp 13 (by omega) (by omega)).trans (r13.trans (hct 3 (by omega)).symm), (oFF sp 14 (by omega) (by omega)).trans (r14.trans (hct 4 (by omega)).symm), fv1.trans hv1.symm, (oFF sp 16 (by omega) (by omega)).trans (r16.trans (hct 6 (by omega)).symm), (oFF sp 17 (by omega) (by omega)).trans (r17.trans (hct 7 (by omega)).symm)⟩
      · rw [R, R9]
        exact ck_pc ck (fun j hj => hct j (by omega)) ⟨z1, z2, mx, z4, z5, y1', y2', by omega, y4', y5', (hct 3 (by omega)).trans u1', (hct 4 (by omega)).trans u2', hv1, (hct 6 (by omega)).trans u4', (hct 7 (by omega)).trans u5'⟩
      · rw [u2_n _ _ (by omega), q2 75 14 (by omega)]; exact g14
  · have hE1' : JE b n F1' G1 := JE_o hE1 (fun y j hy => oF1 y j (by omega)) (fun _ _ => rfl)
    obtain ⟨F2, w1, a2, o2, hE2⟩ := c_numE (p := 0) (q := 50) hP hE1'
    have hE2' : JE b n (z_up2 F2 sp 15 w1) G1 := JE_o hE2 (fun y j hy => u2_n _ _ (by omega)) (fun _ _ => rfl)
    refine ⟨z_up2 F2 sp 15 w1, G1, ?_, ?_, oC_tr oCF (oC_tr (oc_C o2) (oC_u (by omega))), om_M q1, Or.inl hE2'⟩
    · unfold p_X1_readBalance
      rw [k0_gI2 h0, f0, k0_cv2 h0, e_run a1, k0_pZ2 h0 (Or.inr rfl), ← eF1, kb_ct hP, k0_cv2 h0, e_run a2, kc_pI hC]
      rfl
    · rw [kn_cv h9, e_run b1, hr, if_pos rfl]
      rfl
theorem j_bonus (hP : PC M N b n sp) (hJ : JO b n F G s) (hD : DR F G sp ns nt np nc) : ∃ F' G', (p_X1_readBonus 2).1 (KI M F) = some (.inr (), KI M F') ∧ ((z_bd (z_cv 9 75 (p_X9_once 75 2)) (fun r5 => (if r5 = 0 then (z_pu ()) else (z_bd (z_gA 9 75 10) (fun v6 => (z_bd (z_cv 9 75 (p_X9_read 75 0 100)) (fun r7 => (z_bd (z_sI 11 v6 6 r7) (fun _ => (z_bd (z_gA 9 75 10) (fun v8 => (z_bd (z_cv 9 75 (p_X9_read 75 0 999)) (fun r9 => (z_bd (z_sI 11 v8 7 r9) (fun _ => (z_pu ())))))))))))))))) : zP Unit).1 (KI N G) = some (.inr (), KI N G') ∧ oC sp F F' ∧ oM G G' ∧ JT b n F' G' sp s := by
  obtain ⟨rc, ck, m, m1, m2, m3, m4, m5, m6⟩ := hD
  have h9 := hP.2.1
  have h0 := hP.1.1
  have hC := hP.1.2.2.2
  have hsp := hP.2.2.2.2
  obtain ⟨bt1, bt2⟩ := bit_2 ⟨m, m1⟩
  obtain ⟨F1, G1, r, a1, b1, o1, hr⟩ := j_once (p := 2) (c := nI (m / 4 % 2)) hP hJ (by rw [m2]; exact bt1)
  have f0 : F 2 12 = nI (m / 4 % 2) := m5
  obtain ⟨F1', eF1⟩ : ∃ F1', F1' = z_up2 F1 2 12 1 := ⟨_, rfl⟩
  have oF1 : ∀ y j, ¬ (y = 2 ∧ j = 12) → F1' y j = F1 y j := fun y j hy => by rw [eF1, u2_n _ _ (by omega)]
  have oCF : oC sp F F1' := by rw [eF1]; exact oC_tr (oc_C o1) (oC_u (by omega))
  rcases hr with ⟨hr, hc0, hJ1, q1⟩ | ⟨hr, hE1, q1⟩
  · have hm0 : m / 4 % 2 = 0 := nI_z hc0 (by omega)
    have g14 : G1 75 14 = nI (m + 4) := by rw [q1 75 14 (by omega), u2_s, m2]; exact bt2 hm0
    have oG1 : ∀ y j, ¬ (y = 75 ∧ 4 ≤ j ∧ j ≤ 14) → G1 y j = G y j := fun y j hy => by rw [q1 y j (by omega), u2_n _ _ (by omega)]
    have j1 : JE b n F1' G1 ∨ ((∃ s', s ≤ s' ∧ JO b n F1' G1 s') ∧ True) := Or.inr ⟨⟨_, (n2_b hJ.1.2.2.1).1, JO_o hJ1 (fun y j hy => oF1 y j (by omega)) (fun _ _ _ => rfl)⟩, trivial⟩
    have r1 : G1 77 = G 77 := funext fun j => oG1 77 j (by omega)
    have r19 : G1 79 = G 79 := funext fun j => oG1 79 j (by omega)
    obtain ⟨F2, G2, w1, v1, a2, b2, o2, q2, j2⟩ := j_read (p := 0) (q := 100) (q' := 100) hP (fun _ => rfl) j1
    have j2' := J_o (F' := z_up2 F2 sp 16 w1) (G' := z_up2 G2 77 6 v1) j2 (fun y j hy => u2_n _ _ (by omega)) (fun y j hy => u2_n _ _ (by omega))
    have r2 : G2 77 = G 77 := (om_r q2 (by decide)).trans r1
    have r29 : G2 79 = G 79 := (om_r q2 (by decide)).trans r19
    obtain ⟨F3, G3, w2, v2, a3, b3, o3, q3, j3⟩ := j_read (p := 0) (q := 999) (q' := 999) hP (fun _ => rfl) j2'
    have j3' := J_o (F' := z_up2 F3 sp 17 w2) (G' := z_up2 G3 77 7 v2) j3 (fun y j hy => u2_n _ _ (by omega)) (fun y j hy => u2_n _ _ (by omega))
    have r3 : G3 77 = s_up (G 77) 6 v1 := by rw [om_r q3 (by decide), u2_rs, r2]
    have r39 : G3 79 = G 79 := by rw [om_r q3 (by decide), u2_row _ _ (by decide), r29]
    have oMG : oM G G1 := ⟨fun y hy => funext fun j => oG1 y j (by omega), fun j hj => oG1 75 j (by omega)⟩
    have crun : (p_X1_readBonus 2).1 (KI M F) = some (.inr (), KI M (z_up2 F3 sp 17 w2)) := by
      unfold p_X1_readBonus
      rw [k0_gI2 h0, f0, k0_cv2 h0, e_run a1, k0_pZ2 h0 (Or.inr rfl), ← eF1, kb_ct hP, k0_cv2 h0, e_run a2, kc_pI hC, kb_ct hP, k0_cv2 h0, e_run a3, kc_pI hC]
      rfl
    have mrun : ((z_bd (z_cv 9 75 (p_X9_once 75 2)) (fun r5 => (if r5 = 0 then (z_pu ()) else (z_bd (z_gA 9 75 10) (fun v6 => (z_bd (z_cv 9 75 (p_X9_read 75 0 100)) (fun r7 => (z_bd (z_sI 11 v6 6 r7) (fun _ => (z_bd (z_gA 9 75 10) (fun v8 => (z_bd (z_cv 9 75 (p_X9_read 75 0 999)) (fun r9 => (z_bd (z_sI 11 v8 7 r9) (fun _ => (z_pu ())))))))))))))))) : zP Unit).1 (KI N G) = some (.inr (), KI N (z_up2 G3 77 7 v2)) := by
      rw [kn_cv h9, e_run b1, hr, if_neg one_n0, kn_g77 h9, kn_cv h9, e_run b2, kn_t77_6 h9, kn_g77 h9, kn_cv h9, e_run b3, kn_t77_7 h9]
      rfl
    rcases j3' with hE | ⟨⟨s5, hlo, hJ5⟩, ⟨⟨_, x1, x2, x3, mx, mx1, mx2⟩, y1, y2, y3, my, my1, my2⟩⟩
    · exact ⟨z_up2 F3 sp 17 w2, z_up2 G3 77 7 v2, crun, mrun, oC_tr oCF (oC_tr (oc_C o2) (oC_tr (oC_u (by omega)) (oC_tr (oc_C o3) (oC_u (by omega))))), oM_tr oMG (oM_tr (om_M q2) (oM_tr (oM_u (by omega)) (oM_tr (om_M q3) (oM_u (by omega))))), Or.inl hE⟩
    · have R : z_up2 G3 77 7 v2 77 = s_up (s_up (G 77) 6 v1) 7 v2 := by rw [u2_rs, r3]
      have R9 : z_up2 G3 77 7 v2 79 = G 79 := by rw [u2_row _ _ (by decide), r39]
      subst x1 y1 mx2 my2
      have kx : mx ≤ 100 := le_nI (k := 100) x3 (by omega)
      have ky : my ≤ 999 := le_nI (k := 999) y3 (by omega)
      have hct : ∀ j, j ≠ 6 → j ≠ 7 → (s_up (s_up (G 77) 6 (nI mx)) 7 (nI my)) j = G 77 j := fun j g0 g1 => by
        rw [s_upn _ _ (by omega), s_upn _ _ (by omega)]
      have hv1 : (s_up (s_up (G 77) 6 (nI mx)) 7 (nI my)) 6 = nI mx := by rw [s_upn _ _ (by omega), s_ups]
      have hv2 : (s_up (s_up (G 77) 6 (nI mx)) 7 (nI my)) 7 = nI my := s_ups _ _ _
      have oFF : ∀ y j, ¬ (y = 2 ∧ ((5 ≤ j ∧ j ≤ 9) ∨ j = 12)) → ¬ (y = sp ∧ (j = 16 ∨ j = 17)) → z_up2 F3 sp 17 (nI my) y j = F y j := fun y j g1 g2 => by rw [u2_n _ _ (by omega), o3 y j (by omega), u2_n _ _ (by omega), o2 y j (by omega), oF1 y j (by omega)]; exact o1 y j (by omega)
      have fv1 : z_up2 F3 sp 17 (nI my) sp 16 = nI mx := by rw [u2_n _ _ (by omega), o3 sp 16 (by omega), u2_s]
      have fv2 : z_up2 F3 sp 17 (nI my) sp 17 = nI my := u2_s _ _ _ _
      have fv0 : z_up2 F3 sp 17 (nI my) 2 12 = 1 := by rw [u2_n _ _ (by omega), o3 2 12 (by omega), u2_n _ _ (by omega), o2 2 12 (by omega), eF1, u2_s]
      obtain ⟨_, _, _, r13, r14, r15, r16, r17⟩ := rc.1
      obtain ⟨z1, z2, z3, z4, z5, y1', y2', y3', y4', y5', u1', u2', u3', u4', u5'⟩ := ck.2.2.2.2.1
      refine ⟨z_up2 F3 sp 17 (nI my), z_up2 G3 77 7 (nI my), crun, mrun, oC_tr oCF (oC_tr (oc_C o2) (oC_tr (oC_u (by omega)) (oC_tr (oc_C o3) (oC_u (by omega))))), oM_tr oMG (oM_tr (om_M q2) (oM_tr (oM_u (by omega)) (oM_tr (om_M q3) (oM_u (by omega))))), Or.inr ⟨s5, ns, nt, np, nc, hlo, hJ5, ?_, ?_, m + 4, by omega, ?_, (oFF 2 10 (by omega) (by omega)).trans (by rw [show (m + 4) % 2 = m % 2 by omega]; exact m3), (oFF 2 11 (by omega) (by omega)).trans (by rw [show (m + 4) / 2 % 2 = m / 2 % 2 by omega]; exact m4), fv0.trans (show (1 : Int32) = nI ((m + 4) / 4 % 2) by rw [show (m + 4) / 4 % 2 = 1 by omega]; rfl), (oFF 2 13 (by omega) (by omega)).trans (by rw [show (m + 4) / 8 % 2 = m / 8 % 2 by omega]; exact m6)⟩⟩
      · rw [R, R9]
        exact rc_pc rc (fun j hj => hct j (by omega) (by omega)) (fun y j g0 g1 => oFF y j (by omega) (by omega)) ⟨(oFF sp 13 (by omega) (by omega)).trans (r13.trans (hct 3 (by omega) (by omega)).symm), (oFF sp 14 (by omega) (by omega)).trans (r14.trans (hct 4 (by omega) (by omega)).symm), (oFF sp 15 (by omega) (by omega)).trans (r15.trans (hct 5 (by omega) (by omega)).symm), fv1.trans hv1.symm, fv2.trans hv2.symm⟩
      · rw [R, R9]
        exact ck_pc ck (fun j hj => hct j (by omega) (by omega)) ⟨z1, z2, z3, mx, my, y1', y2', y3', by omega, by omega, (hct 3 (by omega) (by omega)).trans u1', (hct 4 (by omega) (by omega)).trans u2', (hct 5 (by omega) (by omega)).trans u3', hv1, hv2⟩
      · rw [u2_n _ _ (by omega), q3 75 14 (by omega), u2_n _ _ (by omega), q2 75 14 (by omega)]; exact g14
  · have hE1' : JE b n F1' G1 := JE_o hE1 (fun y j hy => oF1 y j (by omega)) (fun _ _ => rfl)
    obtain ⟨F2, w1, a2, o2, hE2⟩ := c_numE (p := 0) (q := 100) hP hE1'
    have hE2' : JE b n (z_up2 F2 sp 16 w1) G1 := JE_o hE2 (fun y j hy => u2_n _ _ (by omega)) (fun _ _ => rfl)
    obtain ⟨F3, w2, a3, o3, hE3⟩ := c_numE (p := 0) (q := 999) hP hE2'
    have hE3' : JE b n (z_up2 F3 sp 17 w2) G1 := JE_o hE3 (fun y j hy => u2_n _ _ (by omega)) (fun _ _ => rfl)
    refine ⟨z_up2 F3 sp 17 w2, G1, ?_, ?_, oC_tr oCF (oC_tr (oc_C o2) (oC_tr (oC_u (by omega)) (oC_tr (oc_C o3) (oC_u (by omega))))), om_M q1, Or.inl hE3'⟩
    · unfold p_X1_readBonus
      rw [k0_gI2 h0, f0, k0_cv2 h0, e_run a1, k0_pZ2 h0 (Or.inr rfl), ← eF1, kb_ct hP, k0_cv2 h0, e_run a2, kc_pI hC, kb_ct hP, k0_cv2 h0, e_run a3, kc_pI hC]
      rfl
    · rw [kn_cv h9, e_run b1, hr, if_pos rfl]
      rfl
end PA66
