/-! ===== PHASE 2: the class's trucks of a minute ===== -/
section PRc
variable {M : zM} {F : Nat → Nat → Int32} {ct cd st : Nat → Int32} {a c ns nt np nc : Nat}
theorem kx_tlL (hdr : ∀ p s, p < ns → s < ns → ∃ b, b < 8000 ∧ s_dr ct p s = nI b) (E : EN M F a c ct cd st ns nt np nc) (hz : ∃ z, z < 12000 ∧ st 0 = nI z) (hK : ∀ t, t < nt → ∃ q, RK F (a + 8 + 3 * t) ct st ns t q) :
    ∃ G, (z_lp (fun (t2 : Int32) => (z_bd (z_gA 5 a 6) (fun v3 => (z_bd (z_gI 0 v3 11) (fun v4 => (if v4 ≤ t2 then (z_pu (.inr (.inl ()))) else (z_bd (z_gA 5 a 4) (fun v5 => (z_bd (z_aA 14 v5 t2) (fun v6 => (z_bd (z_gI 7 v6 6) (fun v7 => (z_bd (z_gI 5 a 7) (fun v8 => (if v7 = v8 then (z_bd (z_gA 5 a 4) (fun v9 => (z_bd (z_aA 14 v9 t2) (fun v10 => (z_bd (z_cv 5 a (p_X5_arrive a v10)) (fun _ => (z_pu (.inl ((t2 + 1)))))))))) else (z_pu (.inl ((t2 + 1))))))))))))))))))) 0).1 (KI M F) = some (.inr (Sum.inl () : Unit ⊕ Int32), KI M G) ∧ EN M G a c ct cd (s_tl ct st nt) ns nt np nc ∧ (∀ t, t < nt → ∃ q, RK G (a + 8 + 3 * t) ct (s_tl ct st nt) ns t q) ∧ ∀ y, y ≠ a + 1 → ¬ (a + 8 ≤ y ∧ y < a + 17) → G y = F y := by
  have h8 := EN_ns E
  have hnt := E.2.1.2.1.2.2.2.1
  have hnt1 := E.2.1.2.1.2.2.1
  have hto := fun t ht => s_tl_ok (ct := ct) (d := nt) (n := ns) (st := st) h8 (fun t ht => by obtain ⟨q, hq⟩ := hK t ht; exact ⟨q, hq.1⟩) hz hdr t ht
  suffices hq : ∃ (u : Unit ⊕ Int32), ∃ M', (z_lp (fun (t2 : Int32) => (z_bd (z_gA 5 a 6) (fun v3 => (z_bd (z_gI 0 v3 11) (fun v4 => (if v4 ≤ t2 then (z_pu (.inr (.inl ()))) else (z_bd (z_gA 5 a 4) (fun v5 => (z_bd (z_aA 14 v5 t2) (fun v6 => (z_bd (z_gI 7 v6 6) (fun v7 => (z_bd (z_gI 5 a 7) (fun v8 => (if v7 = v8 then (z_bd (z_gA 5 a 4) (fun v9 => (z_bd (z_aA 14 v9 t2) (fun v10 => (z_bd (z_cv 5 a (p_X5_arrive a v10)) (fun _ => (z_pu (.inl ((t2 + 1)))))))))) else (z_pu (.inl ((t2 + 1))))))))))))))))))) (nI 0)).1 (KI M F) = some (.inr u, M') ∧ u = .inl () ∧ ∃ G, M' = KI M G ∧ EN M G a c ct cd (s_tl ct st nt) ns nt np nc ∧ (∀ t, t < nt → ∃ q, RK G (a + 8 + 3 * t) ct (s_tl ct st nt) ns t q) ∧ ∀ y, y ≠ a + 1 → ¬ (a + 8 ≤ y ∧ y < a + 17) → G y = F y by
    obtain ⟨u, M', hq, rfl, G, rfl, hG⟩ := hq
    exact ⟨G, hq, hG⟩
  refine lp_ct nt (fun t => nI t) (fun t M' => ∃ G, M' = KI M G ∧ EN M G a c ct cd (s_tl ct st t) ns nt np nc ∧ (∀ t', t' < nt → ∃ q, RK G (a + 8 + 3 * t') ct (s_tl ct st t) ns t' q) ∧ ∀ y, y ≠ a + 1 → ¬ (a + 8 ≤ y ∧ y < a + 17) → G y = F y) (fun (u : Unit ⊕ Int32) M' => u = .inl () ∧ ∃ G, M' = KI M G ∧ EN M G a c ct cd (s_tl ct st nt) ns nt np nc ∧ (∀ t, t < nt → ∃ q, RK G (a + 8 + 3 * t) ct (s_tl ct st nt) ns t q) ∧ ∀ y, y ≠ a + 1 → ¬ (a + 8 ≤ y ∧ y < a + 17) → G y = F y) ?_ ?_ _ ⟨F, rfl, E, hK, fun _ _ _ => rfl⟩
  · rintro t _ ht ⟨G, rfl, EG, hKG, hfG⟩
    obtain ⟨⟨hL, hcy, hC, hdis⟩, ⟨rc, hcok⟩, rb, r0⟩ := id EG
    have hn : ¬ nI nt ≤ nI t := nI_ge ht (by omega)
    have ht3 : t < 3 := by omega
    have hc1 : G c 11 = nI nt := rc.1.2.1.trans hnt1
    have hLT := LZ_T hL ht3
    obtain ⟨q, hq⟩ := hKG t ht
    have h6 := hq.2.2.2.2.1
    have hz2 : ∃ z, z < 12000 ∧ s_tl ct st t 0 = nI z := by rw [(hto t (by omega)).1 0 (by omega)]; exact hz
    obtain ⟨z, hz3, hz4⟩ := id hz2
    rcases hq.1.1 with ⟨p, hp, e0, _, e2⟩ | ⟨e0, ⟨p, hp, e1⟩, _⟩
    · have hst : s_tl ct st (t + 1) = s_tl ct st t := by rw [s_tl, e0, if_pos (nI_pos' (by omega))]
      rw [hst]
      have hne : ¬ (-1 : Int32) = s_tl ct st t 0 := by rw [hz4]; exact fun e => nI_nm1 (by omega) e.symm
      refine ⟨KI M G, ?_, G, rfl, EG, hKG, hfG⟩
      simp (disch := first | assumption | omega | (apply LZ_R; assumption) | (apply LZ_T <;> first | assumption | omega) | (apply LC_F; assumption)) only [e_pu, e_ite, oL_add, oL_addr, oL_mul, nI_add, nI_1, b_pu, b_bd, b_ite, j_L, j_R, j_ite, j_bd, z_ex, ↓reduceIte, if_true, if_false, kt_gI, kt_pI, kt_cv, kt_g0, kt_g1, kt_a1, kt_s1, kt_n1, kt_z1, kt_a2, kt_s2, kt_n2, kt_z2, kr_gI, kr_pI, kr_cv, kr_g0, kr_a1, kr_s1, kr_n1, kr_z1, kf_gI, kf_pI, kf_cv, kf_g0, kf_g1, kf_a1, kf_s1, kf_n1, kf_z1, kf_a2, kf_s2, kf_n2, kf_z2, kc_gI, kc_pI, kc_cv, kc_g0, kc_g1, kc_g2, kc_g3, kc_g4, kc_g5, kc_g6, kc_g7, kc_g8, kc_g9, kc_a1, kc_s1, kc_n1, kc_z1, kc_a2, kc_s2, kc_n2, kc_z2, kc_a3, kc_s3, kc_n3, kc_z3, kc_a4, kc_s4, kc_n4, kc_z4, kc_a5, kc_s5, kc_n5, kc_z5, kc_a6, kc_s6, kc_n6, kc_z6, kc_a7, kc_s7, kc_n7, kc_z7, kc_a8, kc_s8, kc_n8, kc_z8, kc_a9, kc_s9, kc_n9, kc_z9, ks_gI, ks_pI, ks_cv, ks_g0, ks_g1, ks_g2, ks_g3, ks_g4, ks_g5, ks_a1, ks_s1, ks_n1, ks_z1, ks_a2, ks_s2, ks_n2, ks_z2, ks_a3, ks_s3, ks_n3, ks_z3, ks_a4, ks_s4, ks_n4, ks_z4, ks_tr, ks_city hcy, hc1, hn, h6, e2, r0, hne]
    · by_cases h2 : s_tr (s_tl ct st t) t 2 = s_tl ct st t 0
      · have hst : s_tl ct st (t + 1) = s_arr ct (s_tl ct st t) t q p := by
          rw [s_tl, e0, if_neg (by decide), if_pos h2, hq.1.2.2.1, e1, ix_nI (by have := hq.1.2.1; omega), ix_nI (by omega)]
        rw [hst]
        obtain ⟨G', q', k1, k2, k3, k4⟩ := kx_arr ht3 rfl hLT hdr EG hz2 hq hp e0 e1
        refine ⟨KI M G', ?_, G', rfl, k2, fun t' ht' => ?_, fun y y1 y2 => ?_⟩
        · simp (disch := first | assumption | omega | (apply LZ_R; assumption) | (apply LZ_T <;> first | assumption | omega) | (apply LC_F; assumption)) only [e_pu, e_ite, oL_add, oL_addr, oL_mul, nI_add, nI_1, b_pu, b_bd, b_ite, j_L, j_R, j_ite, j_bd, z_ex, ↓reduceIte, if_true, if_false, kt_gI, kt_pI, kt_cv, kt_g0, kt_g1, kt_a1, kt_s1, kt_n1, kt_z1, kt_a2, kt_s2, kt_n2, kt_z2, kr_gI, kr_pI, kr_cv, kr_g0, kr_a1, kr_s1, kr_n1, kr_z1, kf_gI, kf_pI, kf_cv, kf_g0, kf_g1, kf_a1, kf_s1, kf_n1, kf_z1, kf_a2, kf_s2, kf_n2, kf_z2, kc_gI, kc_pI, kc_cv, kc_g0, kc_g1, kc_g2, kc_g3, kc_g4, kc_g5, kc_g6, kc_g7, kc_g8, kc_g9, kc_a1, kc_s1, kc_n1, kc_z1, kc_a2, kc_s2, kc_n2, kc_z2, kc_a3, kc_s3, kc_n3, kc_z3, kc_a4, kc_s4, kc_n4, kc_z4, kc_a5, kc_s5, kc_n5, kc_z5, kc_a6, kc_s6, kc_n6, kc_z6, kc_a7, kc_s7, kc_n7, kc_z7, kc_a8, kc_s8, kc_n8, kc_z8, kc_a9, kc_s9, kc_n9, kc_z9, ks_gI, ks_pI, ks_cv, ks_g0, ks_g1, ks_g2, ks_g3, ks_g4, ks_g5, ks_a1, ks_s1, ks_n1, ks_z1, ks_a2, ks_s2, ks_n2, ks_z2, ks_a3, ks_s3, ks_n3, ks_z3, ks_a4, ks_s4, ks_n4, ks_z4, ks_tr, ks_city hcy, hc1, hn, h6, h2, r0]
          exact (e_run k1).trans rfl
        · by_cases htt : t' = t
          · subst htt; exact ⟨q', k3⟩
          · obtain ⟨q2, hq2⟩ := hKG t' ht'
            exact ⟨q2, RK_fr hq2 (k4 _ (by omega) (by omega) (by omega) (by omega)) (k4 _ (by omega) (by omega) (by omega) (by omega)) (k4 _ (by omega) (by omega) (by omega) (by omega)) (fun i hi => s_arr_o h8 hp hq.1 (by omega))⟩
        · rw [k4 y y1 (by omega) (by omega) (by omega)]
          exact hfG y y1 y2
      · have hst : s_tl ct st (t + 1) = s_tl ct st t := by rw [s_tl, e0, if_neg (by decide), if_neg h2]
        rw [hst]
        refine ⟨KI M G, ?_, G, rfl, EG, hKG, hfG⟩
        simp (disch := first | assumption | omega | (apply LZ_R; assumption) | (apply LZ_T <;> first | assumption | omega) | (apply LC_F; assumption)) only [e_pu, e_ite, oL_add, oL_addr, oL_mul, nI_add, nI_1, b_pu, b_bd, b_ite, j_L, j_R, j_ite, j_bd, z_ex, ↓reduceIte, if_true, if_false, kt_gI, kt_pI, kt_cv, kt_g0, kt_g1, kt_a1, kt_s1, kt_n1, kt_z1, kt_a2, kt_s2, kt_n2, kt_z2, kr_gI, kr_pI, kr_cv, kr_g0, kr_a1, kr_s1, kr_n1, kr_z1, kf_gI, kf_pI, kf_cv, kf_g0, kf_g1, kf_a1, kf_s1, kf_n1, kf_z1, kf_a2, kf_s2, kf_n2, kf_z2, kc_gI, kc_pI, kc_cv, kc_g0, kc_g1, kc_g2, kc_g3, kc_g4, kc_g5, kc_g6, kc_g7, kc_g8, kc_g9, kc_a1, kc_s1, kc_n1, kc_z1, kc_a2, kc_s2, kc_n2, kc_z2, kc_a3, kc_s3, kc_n3, kc_z3, kc_a4, kc_s4, kc_n4, kc_z4, kc_a5, kc_s5, kc_n5, kc_z5, kc_a6, kc_s6, kc_n6, kc_z6, kc_a7, kc_s7, kc_n7, kc_z7, kc_a8, kc_s8, kc_n8, kc_z8, kc_a9, kc_s9, kc_n9, kc_z9, ks_gI, ks_pI, ks_cv, ks_g0, ks_g1, ks_g2, ks_g3, ks_g4, ks_g5, ks_a1, ks_s1, ks_n1, ks_z1, ks_a2, ks_s2, ks_n2, ks_z2, ks_a3, ks_s3, ks_n3, ks_z3, ks_a4, ks_s4, ks_n4, ks_z4, ks_tr, ks_city hcy, hc1, hn, h6, h2, r0]
  · rintro _ ⟨G, rfl, EG, hG⟩
    obtain ⟨⟨hL, hcy, hC, hdis⟩, ⟨rc, hcok⟩, rb, r0⟩ := id EG
    have hc1 : G c 11 = nI nt := rc.1.2.1.trans hnt1
    refine ⟨.inl (), KI M G, ?_, rfl, G, rfl, EG, hG⟩
    simp (disch := first | assumption | omega | (apply LZ_R; assumption) | (apply LZ_T <;> first | assumption | omega) | (apply LC_F; assumption)) only [e_pu, e_ite, oL_add, oL_addr, oL_mul, nI_add, nI_1, b_pu, b_bd, b_ite, j_L, j_R, j_ite, j_bd, z_ex, ↓reduceIte, if_true, if_false, kt_gI, kt_pI, kt_cv, kt_g0, kt_g1, kt_a1, kt_s1, kt_n1, kt_z1, kt_a2, kt_s2, kt_n2, kt_z2, kr_gI, kr_pI, kr_cv, kr_g0, kr_a1, kr_s1, kr_n1, kr_z1, kf_gI, kf_pI, kf_cv, kf_g0, kf_g1, kf_a1, kf_s1, kf_n1, kf_z1, kf_a2, kf_s2, kf_n2, kf_z2, kc_gI, kc_pI, kc_cv, kc_g0, kc_g1, kc_g2, kc_g3, kc_g4, kc_g5, kc_g6, kc_g7, kc_g8, kc_g9, kc_a1, kc_s1, kc_n1, kc_z1, kc_a2, kc_s2, kc_n2, kc_z2, kc_a3, kc_s3, kc_n3, kc_z3, kc_a4, kc_s4, kc_n4, kc_z4, kc_a5, kc_s5, kc_n5, kc_z5, kc_a6, kc_s6, kc_n6, kc_z6, kc_a7, kc_s7, kc_n7, kc_z7, kc_a8, kc_s8, kc_n8, kc_z8, kc_a9, kc_s9, kc_n9, kc_z9, ks_gI, ks_pI, ks_cv, ks_g0, ks_g1, ks_g2, ks_g3, ks_g4, ks_g5, ks_a1, ks_s1, ks_n1, ks_z1, ks_a2, ks_s2, ks_n2, ks_z2, ks_a3, ks_s3, ks_n3, ks_z3, ks_a4, ks_s4, ks_n4, ks_z4, ks_tr, ks_city hcy, hc1, show nI nt ≤ nI nt from Int32.le_refl _]
end PRc
