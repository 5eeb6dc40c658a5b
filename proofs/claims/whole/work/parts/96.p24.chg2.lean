/-! ===== PHASE 2: breakDock, repairDock, addBikes, removeBikes, cancel ===== -/
section PA24
variable {β : Type} {M : zM} {F : Nat → Nat → Int32} {ct cd st bf : Nat → Int32} {i j k q c sp n ns nt np nc L : Nat} {H : List (Nat → Int32)} {S : Nat → Option (Nat → Int32)} {v w x y code : Int32} {xs : Nat → Int32} {f : Unit → zP β}
variable {M1 : zM} {G : Nat → Nat → Int32} {st' : Nat → Int32} {a d kk t T : Nat} {R : List zRd} {l : List Nat}
theorem kx_brkw {f : Unit → zP β} (E : EN M F a c ct cd st ns nt np nc) (hk : k < ns) (g : Int32 → Int32) : (z_bd (z_gA 5 a 1) (fun v8 => z_bd (z_aI 11 v8 (nI k)) (fun v9 => z_bd (z_sI 11 v8 (nI k) (g v9)) f))).1 (KI M F) = (f ()).1 (KI M (z_up2 F (a + 2) k (g (st (14 + k))))) := by
  have h8 := EN_ns E
  obtain ⟨⟨hL, hcy, hC, hdis⟩, ⟨rc, hok⟩, rb, r0⟩ := id E
  have hk8 : k < 8 := by omega
  simp (disch := first | assumption | omega | (apply LZ_R; assumption) | (apply LZ_T <;> first | assumption | omega) | (apply LC_F; assumption)) only [e_pu, e_ite, oL_add, oL_addr, oL_mul, nI_add, nI_1, b_pu, b_bd, b_ite, j_L, j_R, j_ite, j_bd, z_ex, ↓reduceIte, if_true, if_false, kt_gI, kt_pI, kt_cv, kt_g0, kt_g1, kt_a1, kt_s1, kt_n1, kt_z1, kt_a2, kt_s2, kt_n2, kt_z2, kr_gI, kr_pI, kr_cv, kr_g0, kr_a1, kr_s1, kr_n1, kr_z1, kf_gI, kf_pI, kf_cv, kf_g0, kf_g1, kf_a1, kf_s1, kf_n1, kf_z1, kf_a2, kf_s2, kf_n2, kf_z2, kc_gI, kc_pI, kc_cv, kc_g0, kc_g1, kc_g2, kc_g3, kc_g4, kc_g5, kc_g6, kc_g7, kc_g8, kc_g9, kc_a1, kc_s1, kc_n1, kc_z1, kc_a2, kc_s2, kc_n2, kc_z2, kc_a3, kc_s3, kc_n3, kc_z3, kc_a4, kc_s4, kc_n4, kc_z4, kc_a5, kc_s5, kc_n5, kc_z5, kc_a6, kc_s6, kc_n6, kc_z6, kc_a7, kc_s7, kc_n7, kc_z7, kc_a8, kc_s8, kc_n8, kc_z8, kc_a9, kc_s9, kc_n9, kc_z9, ks_gI, ks_pI, ks_cv, ks_g0, ks_g1, ks_g2, ks_g3, ks_g4, ks_g5, ks_a1, ks_s1, ks_n1, ks_z1, ks_a2, ks_s2, ks_n2, ks_z2, ks_a3, ks_s3, ks_n3, ks_z3, ks_a4, ks_s4, ks_n4, ks_z4, ks_tr, (rb k hk).2]
theorem kx_bkw {f : Unit → zP β} (E : EN M F a c ct cd st ns nt np nc) (hk : k < ns) (g : Int32 → Int32) : (z_bd (z_gA 5 a 0) (fun v8 => z_bd (z_aI 11 v8 (nI k)) (fun v9 => z_bd (z_sI 11 v8 (nI k) (g v9)) f))).1 (KI M F) = (f ()).1 (KI M (z_up2 F (a + 1) k (g (st (6 + k))))) := by
  have h8 := EN_ns E
  obtain ⟨⟨hL, hcy, hC, hdis⟩, ⟨rc, hok⟩, rb, r0⟩ := id E
  have hk8 : k < 8 := by omega
  simp (disch := first | assumption | omega | (apply LZ_R; assumption) | (apply LZ_T <;> first | assumption | omega) | (apply LC_F; assumption)) only [e_pu, e_ite, oL_add, oL_addr, oL_mul, nI_add, nI_1, b_pu, b_bd, b_ite, j_L, j_R, j_ite, j_bd, z_ex, ↓reduceIte, if_true, if_false, kt_gI, kt_pI, kt_cv, kt_g0, kt_g1, kt_a1, kt_s1, kt_n1, kt_z1, kt_a2, kt_s2, kt_n2, kt_z2, kr_gI, kr_pI, kr_cv, kr_g0, kr_a1, kr_s1, kr_n1, kr_z1, kf_gI, kf_pI, kf_cv, kf_g0, kf_g1, kf_a1, kf_s1, kf_n1, kf_z1, kf_a2, kf_s2, kf_n2, kf_z2, kc_gI, kc_pI, kc_cv, kc_g0, kc_g1, kc_g2, kc_g3, kc_g4, kc_g5, kc_g6, kc_g7, kc_g8, kc_g9, kc_a1, kc_s1, kc_n1, kc_z1, kc_a2, kc_s2, kc_n2, kc_z2, kc_a3, kc_s3, kc_n3, kc_z3, kc_a4, kc_s4, kc_n4, kc_z4, kc_a5, kc_s5, kc_n5, kc_z5, kc_a6, kc_s6, kc_n6, kc_z6, kc_a7, kc_s7, kc_n7, kc_z7, kc_a8, kc_s8, kc_n8, kc_z8, kc_a9, kc_s9, kc_n9, kc_z9, ks_gI, ks_pI, ks_cv, ks_g0, ks_g1, ks_g2, ks_g3, ks_g4, ks_g5, ks_a1, ks_s1, ks_n1, ks_z1, ks_a2, ks_s2, ks_n2, ks_z2, ks_a3, ks_s3, ks_n3, ks_z3, ks_a4, ks_s4, ks_n4, ks_z4, ks_tr, (rb k hk).1]
theorem rg_num {lo hi : Nat} (hh : hi < 1000 ∧ lo ≤ hi) (h : ¬ (x < nI lo ∨ nI hi < x)) : ∃ m, lo ≤ m ∧ m ≤ hi ∧ x = nI m := by
  have h1 : ¬ x < nI lo := fun q => h (Or.inl q)
  have h2 : ¬ nI hi < x := fun q => h (Or.inr q)
  have h0 : ¬ x < 0 := fun q => h1 (by
    rw [i_lt] at q ⊢
    rw [nI_toInt (by omega)]
    have : (0 : Int32).toInt = 0 := rfl
    omega)
  obtain ⟨m, hm, e⟩ := nI_of h0
  subst e
  rw [nI_ltI (by omega) (by omega)] at h1 h2
  exact ⟨m, by omega, by omega, rfl⟩
/-- one truck's rows alone are new -/
theorem n_ok_tr (hn : n_ok ct st ns nt) (hs : ∀ j, ¬ (22 + 18 * t ≤ j ∧ j < 22 + 18 * t + 18) → st' j = st j) (ht : t < nt) (h4 : ∃ u v, s_tr st' t 4 = nI u ∧ ct (45 + t) = nI v ∧ u ≤ v ∧ v ≤ 20) (h5 : ∀ q, q ≤ 6 → s_tr st' t 5 = nI q → o_ok st' t q) (hns : ns ≤ 8 := by omega) : n_ok ct st' ns nt := by
  refine ⟨fun k hk => ?_, fun t' ht' => ?_, fun t' ht' q hq e => ?_⟩
  · obtain ⟨b, x, e, h1, h2, h3⟩ := hn.1 k hk
    exact ⟨b, x, e, (hs _ (by omega)).trans h1, (hs _ (by omega)).trans h2, h3⟩
  · by_cases e : t' = t
    · subst e; exact h4
    · obtain ⟨u, v, h1, h2⟩ := hn.2.1 t' ht'
      exact ⟨u, v, (hs _ (by omega)).trans h1, h2⟩
  · by_cases e2 : t' = t
    · subst e2; exact h5 q hq e
    · obtain ⟨⟨x, hx, ex⟩, ho⟩ := hn.2.2 t' ht' q hq ((hs _ (by omega)).symm.trans e)
      refine ⟨⟨x, hx, (hs _ (by omega)).trans ex⟩, fun i hi => ?_⟩
      obtain ⟨y, hy, ey⟩ := ho i hi
      exact ⟨y, hy, (hs _ (by omega)).trans ey⟩
theorem AV_trk {F' : Nat → Nat → Int32} (h : AV M F a c ct cd st ns nt np nc kk T) (ht : t < nt) (hF : ∀ y, ¬ (a + 8 + 3 * t ≤ y ∧ y < a + 8 + 3 * t + 3) → F' y = F y) (hs : ∀ j, ¬ (22 + 18 * t ≤ j ∧ j < 22 + 18 * t + 18) → st' j = st j) (hK : ∃ q, RK F' (a + 8 + 3 * t) ct st' ns t q) (hn2 : n_ok ct st' ns nt) (h0 : ∀ y, y < a + 8 → F' y = F y) : AV M F' a c ct cd st' ns nt np nc kk T := by
  have hc := (AV_c h).1
  obtain ⟨d, R, l, hS, hn, hst, hg, hd⟩ := h
  have E := hS.1
  have hdis := E.1.2.2.2
  have hnt := hc.1.2.2.2.1
  have hns := hc.1.2.1
  have E2 : EN M F' a c ct cd st' ns nt np nc := EN_gen E (fun q hq => by rw [hF _ (by omega), hF _ (by omega), hs _ (by omega), hs _ (by omega)]; exact E.2.2.1 q hq) (by rw [hF _ (by omega), hs _ (by omega)]; exact E.2.2.2) (fun y y1 y2 => hF y (by omega))
  refine ⟨d, R, l, RS_re hS E2 (fun t' ht' => ?_) (fun k _ _ => by rw [hF _ (by omega)]) (fun y hy => hF y (by omega)) (fun j hj => hs j (by omega)), ⟨hn2, p_ok_fr hn.2 (fun j _ _ => hs j (by omega))⟩, (hs 0 (by omega)).trans hst, hg, hd⟩
  by_cases e : t' = t
  · subst e; exact hK
  · obtain ⟨q, hq⟩ := hS.2.2.2.1 t' ht'
    exact ⟨q, RK_fr hq (hF _ (by omega)) (hF _ (by omega)) (hF _ (by omega)) (fun i hi => hs _ (by omega))⟩
theorem kn_put {f : Unit → zP β} (h : L9 M) (ht : t < 3) (hq : q < 18) : (z_bd (p_X9_put 75 (nI t) (nI q) v) f).1 (KI M F) = (f ()).1 (KI M (z_up2 F 83 (22 + 18 * t + q) v)) := by
  have hi : 22 + 18 * t + q < 3277 := by omega
  unfold p_X9_put
  simp (disch := first | assumption | omega) only [e_pu, e_ite, oL_add, oL_addr, oL_mul, nI_add, nI_1, b_pu, b_bd, b_ite, j_L, j_R, j_ite, j_bd, z_ex, ↓reduceIte, if_true, if_false, kn_gI, kn_pI, kn_cv, kn_g76, kn_a76, kn_s76, kn_g77, kn_a77, kn_s77, kn_g78, kn_a78, kn_s78, kn_g79, kn_a79, kn_s79, kn_g80, kn_a80, kn_s80, kn_g81, kn_a81, kn_s81, kn_g82, kn_a82, kn_s82, kn_g83, kn_a83, kn_s83, kn_g84, kn_a84, kn_s84, kn_g85, kn_a85, kn_s85, kn_g86, kn_g87, kn_a87, kn_s87, kn_g88, kn_a88, kn_s88, kn_g89, kn_a89, kn_s89, kn_g90, kn_a90, kn_s90, kn_g91, kn_a91, kn_s91, kn_g92, kn_a92, kn_s92, kn_g93, kn_a93, kn_s93, kn_g94, kn_a94, kn_s94, kn_l77_0, kn_t77_0, kn_l77_1, kn_t77_1, kn_l77_2, kn_t77_2, kn_l77_3, kn_t77_3, kn_l77_4, kn_t77_4, kn_l77_5, kn_t77_5, kn_l77_6, kn_t77_6, kn_l77_7, kn_t77_7, kn_l77_8, kn_t77_8, kn_l78_0, kn_t78_0, kn_l78_1, kn_t78_1, kn_l78_2, kn_t78_2, kn_l78_3, kn_t78_3, kn_l78_4, kn_t78_4, kn_l78_5, kn_t78_5, kn_l78_6, kn_t78_6, kn_l78_7, kn_t78_7, kn_l78_8, kn_t78_8, kn_l79_0, kn_t79_0, kn_l82_0, kn_t82_0, kn_l83_0, kn_t83_0, kn_l83_1, kn_t83_1, kn_l83_2, kn_t83_2, kn_l83_3, kn_t83_3, kn_l83_4, kn_t83_4, kn_l83_5, kn_t83_5, kn_l83_204, kn_t83_204, kn_wk, kn_fr, kn_mk, kn_ev, kn_bn, kn_ds, kn_rd, kn_dr, kn_of, kn_of0, kn_of1, kn_of2, kn_of3, kn_of4, kn_of5, kn_of6, kn_near, kn_loads, kn_all, kn_fare, kn_fail, kn_told, g9_wi, g9_at]
theorem kn_put5 {f : Unit → zP β} (h : L9 M) (ht : t < 3) : (z_bd (p_X9_put 75 (nI t) 5 v) f).1 (KI M F) = (f ()).1 (KI M (z_up2 F 83 (22 + 18 * t + 5) v)) := kn_put (q := 5) h ht (by decide)
theorem L_c29 (hI : CI k M c sp ct cd ns nt np nc st H S n bf) (hm : MI M ct cd st H S n bf) (hi : i + 6 ≤ L) (hL : L ≤ 3072) : STEP (p_L_c29 xs L 0 75 95 (nI i)) k M i := by
  have hc := CI_c hI
  have hns := hc.1.2.1
  have hnt := hc.1.2.2.2.1
  obtain ⟨h0, hcy, hC, T, d, R, l, hT, hS, hn, hst0, hg, hd⟩ := CI_un hI
  have E := CI_E hI
  have hL41 := E.1.1
  unfold p_L_c29 p_L_breakDock
  rw [show nI i + 1 = nI (i + 1) from oL_addr 1 i]
  simp only [z_xs_ok (xs := xs) (show i + 1 < L by omega) hL, b_pu]
  rcases pk_ix (xs (i + 1)) (n := ns) (by omega) with h | h | ⟨j, hj, e⟩
  · exact glue_t hI hm (c_stb hI (Or.inl h)) (if_pos rfl) (by decide) (fun M1 h1 => m_stb h1 hc (Or.inl h))
  · exact glue_t hI hm (c_stb hI (Or.inr h)) (if_pos rfl) (by decide) (fun M1 h1 => m_stb h1 hc (Or.inr h))
  rw [e]
  have hj8 : j < 8 := by omega
  have hl10 : H.length ≤ 10 := by obtain ⟨_, _, ⟨_, _, h2, _⟩, _⟩ := hI; exact h2
  obtain ⟨bb, br, ee, g1, g2, g3, g4, g5⟩ := hn.1.1 j hj
  have gfr : s_fr ct st j = nI (ee - br - bb) := by unfold s_fr s_wk; rw [g3, g2, g1, nI_sub (by omega), nI_sub (by omega)]
  by_cases h0c : s_fr ct st j = 0
  · refine glue_t hI hm (E := "java/lang/IllegalStateException") ?_ (by rw [if_neg (by decide), if_pos rfl]) (show ¬ (2 : Int32) = 0 by decide) (fun M1 h1 => mres_th2 (w := 0) h1 (v := 0) ?_)
    · unfold p_X8_breakDock
      rw [c_st hI hj]
      show (z_bd (z_gA 8 0 6) _).1 (KI M (z_i M)) = some (.inl "java/lang/IllegalStateException", z_mk (KI M (z_i M)) 99 0 6)
      rw [k0_g0_6 h0, ks_cv hL41, kx_fr E hj, if_pos h0c]
      rfl
    · obtain ⟨h9, e78, e80, e83⟩ := MI_0 h1
      unfold p_X9_breakDock
      rw [m_st h1 hc hj]
      rw [kn_cv h9, kn_fr h9 hj8, F0_78, F0_83, e78, e83, if_pos h0c, kn_cv h9, kn_fail h9]
      rfl
  obtain ⟨M1, q1, r1, r2, r3, r4, r5⟩ := c_rem hI
  obtain ⟨h01, hcy1, hC1, T1, d1, R1, l1, hT1, hS1, hn1, hst1, hg1, hd1⟩ := CI_un r1
  have E1 := CI_E r1
  have hL1 := E1.1.1
  have hA1 : AV M1 (z_i M1) 41 c ct cd st ns nt np nc (k + 1) T1 := ⟨d1, R1, l1, hS1, hn1, hst1, hg1, by omega⟩
  have hA2 : AV M1 (z_up2 (z_i M1) (41 + 2) j (st (14 + j) + 1)) 41 c ct cd (s_up st (14 + j) (st (14 + j) + 1)) ns nt np nc (k + 1) T1 := by
    refine AV_stn hA1 (fun y hy => u2_row _ _ (by omega)) (fun y hy => s_upn _ _ (by omega)) (fun q hq => ?_) (fun q hq => ?_)
    · rw [u2_row _ _ (show 41 + 1 ≠ 41 + 2 by omega), s_upn _ _ (show 6 + q ≠ 14 + j by omega)]
      have hx : z_up2 (z_i M1) (41 + 2) j (st (14 + j) + 1) (41 + 2) q = s_up st (14 + j) (st (14 + j) + 1) (14 + q) := by
        by_cases hqj : q = j
        · rw [hqj, u2_s, s_ups]
        · rw [u2_n _ _ (Or.inr hqj), s_upn _ _ (by omega)]
          exact (E1.2.2.1 q hq).2
      exact ⟨(E1.2.2.1 q hq).1, hx⟩
    · by_cases hqj : q = j
      · subst hqj
        refine ⟨bb, br + 1, ee, by rw [s_upn _ _ (by omega)]; exact g1, by rw [s_ups, g2, nI_1], g3, ?_, g5⟩
        have h1 : ¬ nI (ee - br - bb) = 0 := by rw [← gfr]; exact h0c
        have h2 : ¬ ee - br - bb = 0 := fun q => h1 (by rw [q]; rfl)
        omega
      · obtain ⟨b2, x2, e2, w1, w2, w3, w4, w5⟩ := hn.1.1 q hq
        exact ⟨b2, x2, e2, by rw [s_upn _ _ (by omega)]; exact w1, by rw [s_upn _ _ (by omega)]; exact w2, w3, w4, w5⟩
  refine glue_r hI hm (v := st (14 + j) + 1) (cres_chg r1 r2 r3 r4 r5 ?_ hA2 hT1 (fr5_up (by omega))) (fun M2 h2 => mres_chg h2 hl10 (fun F2 m1 m2 => ⟨z_up2 F2 83 (14 + j) (st (14 + j) + 1), ?_, fun y y1 y2 => u2_row _ _ y2, ?_⟩))
  · unfold p_X8_breakDock
    rw [c_st hI hj]
    show (z_bd (z_gA 8 0 6) _).1 (KI M (z_i M)) = _
    rw [k0_g0_6 h0, ks_cv hL41, kx_fr E hj, if_neg h0c]
    rw [k0_g0_2 h0, k0_g0_6 h0, k0_cv4 h0]
    refine (e_run q1).trans ?_
    show (z_bd (z_gA 8 0 6) _).1 (KI M1 (z_i M1)) = _
    rw [k0_g0_6 h01]
    refine (kx_brkw E1 hj (fun v => v + 1)).trans ?_
    rw [k0_g0_6 h01]
    refine (kx_brk (AV_EN hA2) hj).trans ?_
    rw [s_ups]
    rfl
  · obtain ⟨h9, e78, e80, e83⟩ := MI_0 h2
    have f83 : F2 83 = st := m1.2.1.2.2
    unfold p_X9_breakDock
    rw [m_st h2 hc hj, kn_cv h9, kn_fr h9 hj8, F0_78, F0_83, e78, e83, if_neg h0c, kn_cv h9]
    refine (e_run m2).trans ?_
    have hi : 14 + j < 3277 := by omega
    simp (disch := first | assumption | omega) only [e_pu, e_ite, oL_add, oL_addr, oL_mul, nI_add, nI_1, b_pu, b_bd, b_ite, j_L, j_R, j_ite, j_bd, z_ex, ↓reduceIte, if_true, if_false, kn_gI, kn_pI, kn_cv, kn_g76, kn_a76, kn_s76, kn_g77, kn_a77, kn_s77, kn_g78, kn_a78, kn_s78, kn_g79, kn_a79, kn_s79, kn_g80, kn_a80, kn_s80, kn_g81, kn_a81, kn_s81, kn_g82, kn_a82, kn_s82, kn_g83, kn_a83, kn_s83, kn_g84, kn_a84, kn_s84, kn_g85, kn_a85, kn_s85, kn_g86, kn_g87, kn_a87, kn_s87, kn_g88, kn_a88, kn_s88, kn_g89, kn_a89, kn_s89, kn_g90, kn_a90, kn_s90, kn_g91, kn_a91, kn_s91, kn_g92, kn_a92, kn_s92, kn_g93, kn_a93, kn_s93, kn_g94, kn_a94, kn_s94, kn_l77_0, kn_t77_0, kn_l77_1, kn_t77_1, kn_l77_2, kn_t77_2, kn_l77_3, kn_t77_3, kn_l77_4, kn_t77_4, kn_l77_5, kn_t77_5, kn_l77_6, kn_t77_6, kn_l77_7, kn_t77_7, kn_l77_8, kn_t77_8, kn_l78_0, kn_t78_0, kn_l78_1, kn_t78_1, kn_l78_2, kn_t78_2, kn_l78_3, kn_t78_3, kn_l78_4, kn_t78_4, kn_l78_5, kn_t78_5, kn_l78_6, kn_t78_6, kn_l78_7, kn_t78_7, kn_l78_8, kn_t78_8, kn_l79_0, kn_t79_0, kn_l82_0, kn_t82_0, kn_l83_0, kn_t83_0, kn_l83_1, kn_t83_1, kn_l83_2, kn_t83_2, kn_l83_3, kn_t83_3, kn_l83_4, kn_t83_4, kn_l83_5, kn_t83_5, kn_l83_204, kn_t83_204, kn_wk, kn_fr, kn_mk, kn_ev, kn_bn, kn_ds, kn_rd, kn_dr, kn_of, kn_of0, kn_of1, kn_of2, kn_of3, kn_of4, kn_of5, kn_of6, kn_near, kn_loads, kn_all, kn_fare, kn_fail, kn_told, g9_wi, g9_at, f83, u2_s]
  · funext y
    by_cases hy : y = 14 + j
    · rw [hy, u2_s, s_ups]
    · rw [u2_n _ _ (Or.inr hy), s_upn _ _ hy]
      exact congrFun m1.2.1.2.2 y
theorem L_c30 (hI : CI k M c sp ct cd ns nt np nc st H S n bf) (hm : MI M ct cd st H S n bf) (hi : i + 6 ≤ L) (hL : L ≤ 3072) : STEP (p_L_c30 xs L 0 75 95 (nI i)) k M i := by
  have hc := CI_c hI
  have hns := hc.1.2.1
  have hnt := hc.1.2.2.2.1
  obtain ⟨h0, hcy, hC, T, d, R, l, hT, hS, hn, hst0, hg, hd⟩ := CI_un hI
  have E := CI_E hI
  have hL41 := E.1.1
  unfold p_L_c30 p_L_repairDock
  rw [show nI i + 1 = nI (i + 1) from oL_addr 1 i]
  simp only [z_xs_ok (xs := xs) (show i + 1 < L by omega) hL, b_pu]
  rcases pk_ix (xs (i + 1)) (n := ns) (by omega) with h | h | ⟨j, hj, e⟩
  · exact glue_t hI hm (c_stb hI (Or.inl h)) (if_pos rfl) (by decide) (fun M1 h1 => m_stb h1 hc (Or.inl h))
  · exact glue_t hI hm (c_stb hI (Or.inr h)) (if_pos rfl) (by decide) (fun M1 h1 => m_stb h1 hc (Or.inr h))
  rw [e]
  have hj8 : j < 8 := by omega
  have hl10 : H.length ≤ 10 := by obtain ⟨_, _, ⟨_, _, h2, _⟩, _⟩ := hI; exact h2
  obtain ⟨bb, br, ee, g1, g2, g3, g4, g5⟩ := hn.1.1 j hj
  have gfr : s_fr ct st j = nI (ee - br - bb) := by unfold s_fr s_wk; rw [g3, g2, g1, nI_sub (by omega), nI_sub (by omega)]
  by_cases h0c : st (14 + j) = 0
  · refine glue_t hI hm (E := "java/lang/IllegalStateException") ?_ (by rw [if_neg (by decide), if_pos rfl]) (show ¬ (2 : Int32) = 0 by decide) (fun M1 h1 => mres_th2 (w := 0) h1 (v := 0) ?_)
    · unfold p_X8_repairDock
      rw [c_st hI hj]
      show (z_bd (z_gA 8 0 6) _).1 (KI M (z_i M)) = some (.inl "java/lang/IllegalStateException", z_mk (KI M (z_i M)) 99 0 6)
      rw [k0_g0_6 h0]
      refine (kx_brk E hj).trans ?_
      rw [if_pos h0c]
      rfl
    · obtain ⟨h9, e78, e80, e83⟩ := MI_0 h1
      unfold p_X9_repairDock
      rw [m_st h1 hc hj]
      rw [kn_g83 h9, show (14 : Int32) + nI j = nI (14 + j) from oL_add 14 j, kn_a83 h9 (by omega), F0_83, e83, if_pos h0c, kn_cv h9, kn_fail h9]
      rfl
  obtain ⟨M1, q1, r1, r2, r3, r4, r5⟩ := c_rem hI
  obtain ⟨h01, hcy1, hC1, T1, d1, R1, l1, hT1, hS1, hn1, hst1, hg1, hd1⟩ := CI_un r1
  have E1 := CI_E r1
  have hL1 := E1.1.1
  have hA1 : AV M1 (z_i M1) 41 c ct cd st ns nt np nc (k + 1) T1 := ⟨d1, R1, l1, hS1, hn1, hst1, hg1, by omega⟩
  have hA2 : AV M1 (z_up2 (z_i M1) (41 + 2) j (st (14 + j) - 1)) 41 c ct cd (s_up st (14 + j) (st (14 + j) - 1)) ns nt np nc (k + 1) T1 := by
    refine AV_stn hA1 (fun y hy => u2_row _ _ (by omega)) (fun y hy => s_upn _ _ (by omega)) (fun q hq => ?_) (fun q hq => ?_)
    · rw [u2_row _ _ (show 41 + 1 ≠ 41 + 2 by omega), s_upn _ _ (show 6 + q ≠ 14 + j by omega)]
      have hx : z_up2 (z_i M1) (41 + 2) j (st (14 + j) - 1) (41 + 2) q = s_up st (14 + j) (st (14 + j) - 1) (14 + q) := by
        by_cases hqj : q = j
        · rw [hqj, u2_s, s_ups]
        · rw [u2_n _ _ (Or.inr hqj), s_upn _ _ (by omega)]
          exact (E1.2.2.1 q hq).2
      exact ⟨(E1.2.2.1 q hq).1, hx⟩
    · by_cases hqj : q = j
      · subst hqj
        have hbr : ¬ br = 0 := fun q => h0c (by rw [g2, q]; rfl)
        exact ⟨bb, br - 1, ee, by rw [s_upn _ _ (by omega)]; exact g1, by rw [s_ups, g2, nI_dec' (by omega)], g3, by omega, g5⟩
      · obtain ⟨b2, x2, e2, w1, w2, w3, w4, w5⟩ := hn.1.1 q hq
        exact ⟨b2, x2, e2, by rw [s_upn _ _ (by omega)]; exact w1, by rw [s_upn _ _ (by omega)]; exact w2, w3, w4, w5⟩
  refine glue_r hI hm (v := st (14 + j) - 1) (cres_chg r1 r2 r3 r4 r5 ?_ hA2 hT1 (fr5_up (by omega))) (fun M2 h2 => mres_chg h2 hl10 (fun F2 m1 m2 => ⟨z_up2 F2 83 (14 + j) (st (14 + j) - 1), ?_, fun y y1 y2 => u2_row _ _ y2, ?_⟩))
  · unfold p_X8_repairDock
    rw [c_st hI hj]
    show (z_bd (z_gA 8 0 6) _).1 (KI M (z_i M)) = _
    rw [k0_g0_6 h0]
    refine (kx_brk E hj).trans ?_
    rw [if_neg h0c]
    rw [k0_g0_2 h0, k0_g0_6 h0, k0_cv4 h0]
    refine (e_run q1).trans ?_
    show (z_bd (z_gA 8 0 6) _).1 (KI M1 (z_i M1)) = _
    rw [k0_g0_6 h01]
    refine (kx_brkw E1 hj (fun v => v - 1)).trans ?_
    rw [k0_g0_6 h01]
    refine (kx_brk (AV_EN hA2) hj).trans ?_
    rw [s_ups]
    rfl
  · obtain ⟨h9, e78, e80, e83⟩ := MI_0 h2
    have f83 : F2 83 = st := m1.2.1.2.2
    unfold p_X9_repairDock
    rw [m_st h2 hc hj, kn_g83 h9, show (14 : Int32) + nI j = nI (14 + j) from oL_add 14 j, kn_a83 h9 (by omega), F0_83, e83, if_neg h0c, kn_cv h9]
    refine (e_run m2).trans ?_
    have hi : 14 + j < 3277 := by omega
    simp (disch := first | assumption | omega) only [e_pu, e_ite, oL_add, oL_addr, oL_mul, nI_add, nI_1, b_pu, b_bd, b_ite, j_L, j_R, j_ite, j_bd, z_ex, ↓reduceIte, if_true, if_false, kn_gI, kn_pI, kn_cv, kn_g76, kn_a76, kn_s76, kn_g77, kn_a77, kn_s77, kn_g78, kn_a78, kn_s78, kn_g79, kn_a79, kn_s79, kn_g80, kn_a80, kn_s80, kn_g81, kn_a81, kn_s81, kn_g82, kn_a82, kn_s82, kn_g83, kn_a83, kn_s83, kn_g84, kn_a84, kn_s84, kn_g85, kn_a85, kn_s85, kn_g86, kn_g87, kn_a87, kn_s87, kn_g88, kn_a88, kn_s88, kn_g89, kn_a89, kn_s89, kn_g90, kn_a90, kn_s90, kn_g91, kn_a91, kn_s91, kn_g92, kn_a92, kn_s92, kn_g93, kn_a93, kn_s93, kn_g94, kn_a94, kn_s94, kn_l77_0, kn_t77_0, kn_l77_1, kn_t77_1, kn_l77_2, kn_t77_2, kn_l77_3, kn_t77_3, kn_l77_4, kn_t77_4, kn_l77_5, kn_t77_5, kn_l77_6, kn_t77_6, kn_l77_7, kn_t77_7, kn_l77_8, kn_t77_8, kn_l78_0, kn_t78_0, kn_l78_1, kn_t78_1, kn_l78_2, kn_t78_2, kn_l78_3, kn_t78_3, kn_l78_4, kn_t78_4, kn_l78_5, kn_t78_5, kn_l78_6, kn_t78_6, kn_l78_7, kn_t78_7, kn_l78_8, kn_t78_8, kn_l79_0, kn_t79_0, kn_l82_0, kn_t82_0, kn_l83_0, kn_t83_0, kn_l83_1, kn_t83_1, kn_l83_2, kn_t83_2, kn_l83_3, kn_t83_3, kn_l83_4, kn_t83_4, kn_l83_5, kn_t83_5, kn_l83_204, kn_t83_204, kn_wk, kn_fr, kn_mk, kn_ev, kn_bn, kn_ds, kn_rd, kn_dr, kn_of, kn_of0, kn_of1, kn_of2, kn_of3, kn_of4, kn_of5, kn_of6, kn_near, kn_loads, kn_all, kn_fare, kn_fail, kn_told, g9_wi, g9_at, f83, u2_s]
  · funext y
    by_cases hy : y = 14 + j
    · rw [hy, u2_s, s_ups]
    · rw [u2_n _ _ (Or.inr hy), s_upn _ _ hy]
      exact congrFun m1.2.1.2.2 y
theorem L_c31 (hI : CI k M c sp ct cd ns nt np nc st H S n bf) (hm : MI M ct cd st H S n bf) (hi : i + 6 ≤ L) (hL : L ≤ 3072) : STEP (p_L_c31 xs L 0 75 95 (nI i)) k M i := by
  have hc := CI_c hI
  have hns := hc.1.2.1
  have hnt := hc.1.2.2.2.1
  obtain ⟨h0, hcy, hC, T, d, R, l, hT, hS, hn, hst0, hg, hd⟩ := CI_un hI
  have E := CI_E hI
  have hL41 := E.1.1
  unfold p_L_c31 p_L_addBikes
  rw [show nI i + 1 = nI (i + 1) from oL_addr 1 i, show nI i + 2 = nI (i + 2) from oL_addr 2 i]
  simp only [z_xs_ok (xs := xs) (show i + 1 < L by omega) hL, z_xs_ok (xs := xs) (show i + 2 < L by omega) hL, b_pu]
  rcases pk_ix (xs (i + 1)) (n := ns) (by omega) with h | h | ⟨j, hj, e⟩
  · exact glue_t hI hm (c_stb hI (Or.inl h)) (if_pos rfl) (by decide) (fun M1 h1 => m_stb h1 hc (Or.inl h))
  · exact glue_t hI hm (c_stb hI (Or.inr h)) (if_pos rfl) (by decide) (fun M1 h1 => m_stb h1 hc (Or.inr h))
  rw [e]
  have hj8 : j < 8 := by omega
  have hl10 : H.length ≤ 10 := by obtain ⟨_, _, ⟨_, _, h2, _⟩, _⟩ := hI; exact h2
  obtain ⟨bb, br, ee, g1, g2, g3, g4, g5⟩ := hn.1.1 j hj
  have gfr : s_fr ct st j = nI (ee - br - bb) := by unfold s_fr s_wk; rw [g3, g2, g1, nI_sub (by omega), nI_sub (by omega)]
  by_cases hb2 : xs (i + 2) < 1 ∨ (20 : Int32) < xs (i + 2)
  · refine glue_t hI hm (E := "java/lang/IllegalArgumentException") ?_ (by rw [if_neg (by decide), if_pos rfl]) (show ¬ (2 : Int32) = 0 by decide) (fun M1 h1 => mres_th2 (w := 0) h1 (v := 0) ?_)
    · unfold p_X8_addBikes
      rw [c_st hI hj]
      exact c_rgb hb2
    · obtain ⟨h9, e78, e80, e83⟩ := MI_0 h1
      unfold p_X9_addBikes
      rw [m_st h1 hc hj, g9_wi, wr_bad hb2, if_pos rfl, kn_cv h9, kn_fail h9]
      rfl
  obtain ⟨m, hm0, hm20, e2⟩ := rg_num (lo := 1) (hi := 20) (by omega) hb2
  rw [e2]
  have hr1 : ¬ nI m < (1 : Int32) := nI_nlt (b := 1) hm0 (by omega)
  have hr2 : nI m ≤ (20 : Int32) := nI_le (b := 20) hm20 (by omega)
  have hr3 : ¬ (20 : Int32) < nI m := nI_nlt (a := 20) hm20 (by omega)
  by_cases h0c : nI m ≤ s_fr ct st j
  case neg =>
    refine glue_t hI hm (E := "java/lang/IllegalStateException") ?_ (by rw [if_neg (by decide), if_neg (by decide), if_pos rfl]) (show ¬ (3 : Int32) = 0 by decide) (fun M1 h1 => mres_th2 (w := 0) h1 (v := 0) ?_)
    · unfold p_X8_addBikes
      rw [c_st hI hj, c_rg hr1 hr2]
      show (z_bd (z_gA 8 0 6) _).1 (KI M (z_i M)) = some (.inl "java/lang/IllegalStateException", z_mk (KI M (z_i M)) 99 0 6)
      rw [k0_g0_6 h0, ks_cv hL41, kx_fr E hj, if_neg h0c]
      rfl
    · obtain ⟨h9, e78, e80, e83⟩ := MI_0 h1
      unfold p_X9_addBikes
      rw [m_st h1 hc hj, g9_wi, wr_ok hr1 hr3, if_neg (by decide), kn_cv h9, kn_fr h9 hj8, F0_78, F0_83, e78, e83, if_neg h0c, kn_cv h9, kn_fail h9]
      rfl
  obtain ⟨M1, q1, r1, r2, r3, r4, r5⟩ := c_rem hI
  obtain ⟨h01, hcy1, hC1, T1, d1, R1, l1, hT1, hS1, hn1, hst1, hg1, hd1⟩ := CI_un r1
  have E1 := CI_E r1
  have hL1 := E1.1.1
  have hA1 : AV M1 (z_i M1) 41 c ct cd st ns nt np nc (k + 1) T1 := ⟨d1, R1, l1, hS1, hn1, hst1, hg1, by omega⟩
  have hA2 : AV M1 (z_up2 (z_i M1) (41 + 1) j (st (6 + j) + nI m)) 41 c ct cd (s_up st (6 + j) (st (6 + j) + nI m)) ns nt np nc (k + 1) T1 := by
    refine AV_stn hA1 (fun y hy => u2_row _ _ (by omega)) (fun y hy => s_upn _ _ (by omega)) (fun q hq => ?_) (fun q hq => ?_)
    · rw [u2_row _ _ (show 41 + 2 ≠ 41 + 1 by omega), s_upn _ _ (show 14 + q ≠ 6 + j by omega)]
      have hx : z_up2 (z_i M1) (41 + 1) j (st (6 + j) + nI m) (41 + 1) q = s_up st (6 + j) (st (6 + j) + nI m) (6 + q) := by
        by_cases hqj : q = j
        · rw [hqj, u2_s, s_ups]
        · rw [u2_n _ _ (Or.inr hqj), s_upn _ _ (by omega)]
          exact (E1.2.2.1 q hq).1
      exact ⟨hx, (E1.2.2.1 q hq).2⟩
    · by_cases hqj : q = j
      · subst hqj
        have h1 := (nI_leI (a := m) (b := ee - br - bb) (by omega) (by omega)).mp (by rw [← gfr]; exact h0c)
        exact ⟨bb + m, br, ee, by rw [s_ups, g1, nI_add], by rw [s_upn _ _ (by omega)]; exact g2, g3, by omega, g5⟩
      · obtain ⟨b2, x2, e2, w1, w2, w3, w4, w5⟩ := hn.1.1 q hq
        exact ⟨b2, x2, e2, by rw [s_upn _ _ (by omega)]; exact w1, by rw [s_upn _ _ (by omega)]; exact w2, w3, w4, w5⟩
  obtain ⟨st2, est2⟩ : ∃ st2, st2 = s_up st (6 + j) (st (6 + j) + nI m) := ⟨_, rfl⟩
  rw [← est2] at hA2
  refine glue_r hI hm (v := s_sum (s_sum 0 (fun t => s_tr st2 t 4) nt + st2 204) (fun k => st2 (6 + k)) ns) (cres_chg r1 r2 r3 r4 r5 ?_ hA2 hT1 (fr5_up (by omega))) (fun M2 h2 => mres_chg h2 hl10 (fun F2 m1 m2 => ⟨z_up2 F2 83 (6 + j) (st (6 + j) + nI m), ?_, fun y y1 y2 => u2_row _ _ y2, ?_⟩))
  · unfold p_X8_addBikes
    rw [c_st hI hj, c_rg hr1 hr2]
    show (z_bd (z_gA 8 0 6) _).1 (KI M (z_i M)) = _
    rw [k0_g0_6 h0, ks_cv hL41, kx_fr E hj, if_pos h0c]
    rw [k0_g0_2 h0, k0_g0_6 h0, k0_cv4 h0]
    refine (e_run q1).trans ?_
    show (z_bd (z_gA 8 0 6) _).1 (KI M1 (z_i M1)) = _
    rw [k0_g0_6 h01]
    refine (kx_bkw E1 hj (fun v => v + nI m)).trans ?_
    rw [k0_g0_6 h01, ks_cv hL1]
    obtain ⟨d3, R3, l3, hS3, _⟩ := hA2
    exact kx_all hS3
  · obtain ⟨h9, e78, e80, e83⟩ := MI_0 h2
    have f83 : F2 83 = st := m1.2.1.2.2
    have f78 : F2 78 = ct := m1.2.1.1
    have hs0 : z_up2 F2 83 (6 + j) (st (6 + j) + nI m) 78 0 = nI ns := by rw [u2_n _ _ (by omega), f78]; exact hc.1.1
    have hs1 : z_up2 F2 83 (6 + j) (st (6 + j) + nI m) 78 1 = nI nt := by rw [u2_n _ _ (by omega), f78]; exact hc.1.2.2.1
    have hrow : z_up2 F2 83 (6 + j) (st (6 + j) + nI m) 83 = st2 := by
      rw [est2]
      funext y
      by_cases hy : y = 6 + j
      · rw [hy, u2_s, s_ups]
      · rw [u2_n _ _ (Or.inr hy), s_upn _ _ hy]
        exact congrFun m1.2.1.2.2 y
    unfold p_X9_addBikes
    rw [m_st h2 hc hj, g9_wi, wr_ok hr1 hr3, if_neg (by decide), kn_cv h9, kn_fr h9 hj8, F0_78, F0_83, e78, e83, if_pos h0c, kn_cv h9]
    refine (e_run m2).trans ?_
    rw [kn_g83 h9]
    try rw [show (6 : Int32) + nI j = nI (6 + j) from oL_add 6 j]
    rw [kn_a83 h9 (by omega), f83, kn_s83 h9 (by omega), kn_cv h9, kn_all h9 hs1 hnt hs0 hns, hrow]
    rfl
  · rw [est2]
    funext y
    by_cases hy : y = 6 + j
    · rw [hy, u2_s, s_ups]
    · rw [u2_n _ _ (Or.inr hy), s_upn _ _ hy]
      exact congrFun m1.2.1.2.2 y
theorem L_c32 (hI : CI k M c sp ct cd ns nt np nc st H S n bf) (hm : MI M ct cd st H S n bf) (hi : i + 6 ≤ L) (hL : L ≤ 3072) : STEP (p_L_c32 xs L 0 75 95 (nI i)) k M i := by
  have hc := CI_c hI
  have hns := hc.1.2.1
  have hnt := hc.1.2.2.2.1
  obtain ⟨h0, hcy, hC, T, d, R, l, hT, hS, hn, hst0, hg, hd⟩ := CI_un hI
  have E := CI_E hI
  have hL41 := E.1.1
  unfold p_L_c32 p_L_removeBikes
  rw [show nI i + 1 = nI (i + 1) from oL_addr 1 i, show nI i + 2 = nI (i + 2) from oL_addr 2 i]
  simp only [z_xs_ok (xs := xs) (show i + 1 < L by omega) hL, z_xs_ok (xs := xs) (show i + 2 < L by omega) hL, b_pu]
  rcases pk_ix (xs (i + 1)) (n := ns) (by omega) with h | h | ⟨j, hj, e⟩
  · exact glue_t hI hm (c_stb hI (Or.inl h)) (if_pos rfl) (by decide) (fun M1 h1 => m_stb h1 hc (Or.inl h))
  · exact glue_t hI hm (c_stb hI (Or.inr h)) (if_pos rfl) (by decide) (fun M1 h1 => m_stb h1 hc (Or.inr h))
  rw [e]
  have hj8 : j < 8 := by omega
  have hl10 : H.length ≤ 10 := by obtain ⟨_, _, ⟨_, _, h2, _⟩, _⟩ := hI; exact h2
  obtain ⟨bb, br, ee, g1, g2, g3, g4, g5⟩ := hn.1.1 j hj
  have gfr : s_fr ct st j = nI (ee - br - bb) := by unfold s_fr s_wk; rw [g3, g2, g1, nI_sub (by omega), nI_sub (by omega)]
  by_cases hb2 : xs (i + 2) < 1 ∨ (20 : Int32) < xs (i + 2)
  · refine glue_t hI hm (E := "java/lang/IllegalArgumentException") ?_ (by rw [if_neg (by decide), if_pos rfl]) (show ¬ (2 : Int32) = 0 by decide) (fun M1 h1 => mres_th2 (w := 0) h1 (v := 0) ?_)
    · unfold p_X8_removeBikes
      rw [c_st hI hj]
      exact c_rgb hb2
    · obtain ⟨h9, e78, e80, e83⟩ := MI_0 h1
      unfold p_X9_removeBikes
      rw [m_st h1 hc hj, g9_wi, wr_bad hb2, if_pos rfl, kn_cv h9, kn_fail h9]
      rfl
  obtain ⟨m, hm0, hm20, e2⟩ := rg_num (lo := 1) (hi := 20) (by omega) hb2
  rw [e2]
  have hr1 : ¬ nI m < (1 : Int32) := nI_nlt (b := 1) hm0 (by omega)
  have hr2 : nI m ≤ (20 : Int32) := nI_le (b := 20) hm20 (by omega)
  have hr3 : ¬ (20 : Int32) < nI m := nI_nlt (a := 20) hm20 (by omega)
  by_cases h0c : nI m ≤ st (6 + j)
  case neg =>
    refine glue_t hI hm (E := "java/lang/IllegalStateException") ?_ (by rw [if_neg (by decide), if_neg (by decide), if_pos rfl]) (show ¬ (3 : Int32) = 0 by decide) (fun M1 h1 => mres_th2 (w := 0) h1 (v := 0) ?_)
    · unfold p_X8_removeBikes
      rw [c_st hI hj, c_rg hr1 hr2]
      show (z_bd (z_gA 8 0 6) _).1 (KI M (z_i M)) = some (.inl "java/lang/IllegalStateException", z_mk (KI M (z_i M)) 99 0 6)
      rw [k0_g0_6 h0]
      refine (kx_bks E hj).trans ?_
      rw [if_neg h0c]
      rfl
    · obtain ⟨h9, e78, e80, e83⟩ := MI_0 h1
      unfold p_X9_removeBikes
      rw [m_st h1 hc hj, g9_wi, wr_ok hr1 hr3, if_neg (by decide), kn_g83 h9, show (6 : Int32) + nI j = nI (6 + j) from oL_add 6 j, kn_a83 h9 (by omega), F0_83, e83, if_neg h0c, kn_cv h9, kn_fail h9]
      rfl
  obtain ⟨M1, q1, r1, r2, r3, r4, r5⟩ := c_rem hI
  obtain ⟨h01, hcy1, hC1, T1, d1, R1, l1, hT1, hS1, hn1, hst1, hg1, hd1⟩ := CI_un r1
  have E1 := CI_E r1
  have hL1 := E1.1.1
  have hA1 : AV M1 (z_i M1) 41 c ct cd st ns nt np nc (k + 1) T1 := ⟨d1, R1, l1, hS1, hn1, hst1, hg1, by omega⟩
  have hA2 : AV M1 (z_up2 (z_i M1) (41 + 1) j (st (6 + j) - nI m)) 41 c ct cd (s_up st (6 + j) (st (6 + j) - nI m)) ns nt np nc (k + 1) T1 := by
    refine AV_stn hA1 (fun y hy => u2_row _ _ (by omega)) (fun y hy => s_upn _ _ (by omega)) (fun q hq => ?_) (fun q hq => ?_)
    · rw [u2_row _ _ (show 41 + 2 ≠ 41 + 1 by omega), s_upn _ _ (show 14 + q ≠ 6 + j by omega)]
      have hx : z_up2 (z_i M1) (41 + 1) j (st (6 + j) - nI m) (41 + 1) q = s_up st (6 + j) (st (6 + j) - nI m) (6 + q) := by
        by_cases hqj : q = j
        · rw [hqj, u2_s, s_ups]
        · rw [u2_n _ _ (Or.inr hqj), s_upn _ _ (by omega)]
          exact (E1.2.2.1 q hq).1
      exact ⟨hx, (E1.2.2.1 q hq).2⟩
    · by_cases hqj : q = j
      · subst hqj
        have h1 := (nI_leI (a := m) (b := bb) (by omega) (by omega)).mp (by rw [← g1]; exact h0c)
        exact ⟨bb - m, br, ee, by rw [s_ups, g1, nI_sub h1], by rw [s_upn _ _ (by omega)]; exact g2, g3, by omega, g5⟩
      · obtain ⟨b2, x2, e2, w1, w2, w3, w4, w5⟩ := hn.1.1 q hq
        exact ⟨b2, x2, e2, by rw [s_upn _ _ (by omega)]; exact w1, by rw [s_upn _ _ (by omega)]; exact w2, w3, w4, w5⟩
  obtain ⟨st2, est2⟩ : ∃ st2, st2 = s_up st (6 + j) (st (6 + j) - nI m) := ⟨_, rfl⟩
  rw [← est2] at hA2
  refine glue_r hI hm (v := s_sum (s_sum 0 (fun t => s_tr st2 t 4) nt + st2 204) (fun k => st2 (6 + k)) ns) (cres_chg r1 r2 r3 r4 r5 ?_ hA2 hT1 (fr5_up (by omega))) (fun M2 h2 => mres_chg h2 hl10 (fun F2 m1 m2 => ⟨z_up2 F2 83 (6 + j) (st (6 + j) - nI m), ?_, fun y y1 y2 => u2_row _ _ y2, ?_⟩))
  · unfold p_X8_removeBikes
    rw [c_st hI hj, c_rg hr1 hr2]
    show (z_bd (z_gA 8 0 6) _).1 (KI M (z_i M)) = _
    rw [k0_g0_6 h0]
    refine (kx_bks E hj).trans ?_
    rw [if_pos h0c]
    rw [k0_g0_2 h0, k0_g0_6 h0, k0_cv4 h0]
    refine (e_run q1).trans ?_
    show (z_bd (z_gA 8 0 6) _).1 (KI M1 (z_i M1)) = _
    rw [k0_g0_6 h01]
    refine (kx_bkw E1 hj (fun v => v - nI m)).trans ?_
    rw [k0_g0_6 h01, ks_cv hL1]
    obtain ⟨d3, R3, l3, hS3, _⟩ := hA2
    exact kx_all hS3
  · obtain ⟨h9, e78, e80, e83⟩ := MI_0 h2
    have f83 : F2 83 = st := m1.2.1.2.2
    have f78 : F2 78 = ct := m1.2.1.1
    have hs0 : z_up2 F2 83 (6 + j) (st (6 + j) - nI m) 78 0 = nI ns := by rw [u2_n _ _ (by omega), f78]; exact hc.1.1
    have hs1 : z_up2 F2 83 (6 + j) (st (6 + j) - nI m) 78 1 = nI nt := by rw [u2_n _ _ (by omega), f78]; exact hc.1.2.2.1
    have hrow : z_up2 F2 83 (6 + j) (st (6 + j) - nI m) 83 = st2 := by
      rw [est2]
      funext y
      by_cases hy : y = 6 + j
      · rw [hy, u2_s, s_ups]
      · rw [u2_n _ _ (Or.inr hy), s_upn _ _ hy]
        exact congrFun m1.2.1.2.2 y
    unfold p_X9_removeBikes
    rw [m_st h2 hc hj, g9_wi, wr_ok hr1 hr3, if_neg (by decide), kn_g83 h9, show (6 : Int32) + nI j = nI (6 + j) from oL_add 6 j, kn_a83 h9 (by omega), F0_83, e83, if_pos h0c, kn_cv h9]
    refine (e_run m2).trans ?_
    rw [kn_g83 h9]
    try rw [show (6 : Int32) + nI j = nI (6 + j) from oL_add 6 j]
    rw [kn_a83 h9 (by omega), f83, kn_s83 h9 (by omega), kn_cv h9, kn_all h9 hs1 hnt hs0 hns, hrow]
    rfl
  · rw [est2]
    funext y
    by_cases hy : y = 6 + j
    · rw [hy, u2_s, s_ups]
    · rw [u2_n _ _ (Or.inr hy), s_upn _ _ hy]
      exact congrFun m1.2.1.2.2 y
theorem L_c28 (hI : CI k M c sp ct cd ns nt np nc st H S n bf) (hm : MI M ct cd st H S n bf) (hi : i + 6 ≤ L) (hL : L ≤ 3072) : STEP (p_L_c28 xs L 0 75 95 (nI i)) k M i := by
  have hc := CI_c hI
  have hns := hc.1.2.1
  have hnt := hc.1.2.2.2.1
  obtain ⟨h0, hcy, hC, T, d, R, l, hT, hS, hn, hst0, hg, hd⟩ := CI_un hI
  have E := CI_E hI
  have hL41 := E.1.1
  unfold p_L_c28 p_L_cancel
  rw [show nI i + 1 = nI (i + 1) from oL_addr 1 i]
  simp only [z_xs_ok (xs := xs) (show i + 1 < L by omega) hL, b_pu]
  rcases pk_ix (xs (i + 1)) (n := nt) (by omega) with h | h | ⟨t, ht, e⟩
  · exact glue_t hI hm (c_tkb hI (Or.inl h)) (if_pos rfl) (by decide) (fun M1 h1 => m_tkb h1 hc (Or.inl h))
  · exact glue_t hI hm (c_tkb hI (Or.inr h)) (if_pos rfl) (by decide) (fun M1 h1 => m_tkb h1 hc (Or.inr h))
  rw [e]
  have ht3 : t < 3 := by omega
  have hl10 : H.length ≤ 10 := by obtain ⟨_, _, ⟨_, _, h2, _⟩, _⟩ := hI; exact h2
  obtain ⟨M1, q1, r1, r2, r3, r4, r5⟩ := c_rem hI
  obtain ⟨h01, hcy1, hC1, T1, d1, R1, l1, hT1, hS1, hn1, hst1, hg1, hd1⟩ := CI_un r1
  have E1 := CI_E r1
  have hL1 := E1.1.1
  have hA1 : AV M1 (z_i M1) 41 c ct cd st ns nt np nc (k + 1) T1 := ⟨d1, R1, l1, hS1, hn1, hst1, hg1, by omega⟩
  have hLT := LZ_T hL1 ht3
  obtain ⟨q, hK⟩ := hS1.2.2.2.1 t ht
  have hA2 : AV M1 (z_up2 (z_i M1) (41 + 8 + 3 * t) 2 0) 41 c ct cd (s_put st t 5 0) ns nt np nc (k + 1) T1 := by
    have hup : ∀ j, j ≠ 22 + 18 * t + 5 → s_put st t 5 0 j = st j := fun j hj => s_upn _ _ hj
    have hus : s_put st t 5 0 (22 + 18 * t + 5) = 0 := s_ups _ _ _
    refine AV_trk hA1 ht (fun y hy => u2_row _ _ (by omega)) (fun j hj => hup j (by omega)) ⟨0, ?_⟩ ?_ (fun y hy => ?_)
    · obtain ⟨k0, k2, k3, k4, k6, k5, k7, ko⟩ := hK
      have tr : ∀ i, i < 5 → s_tr (s_put st t 5 0) t i = s_tr st t i := fun i hi => hup _ (by omega)
      refine ⟨⟨?_, by omega, hus, fun i hi => absurd hi (Nat.not_lt_zero _)⟩, u2_s _ _ _ _, ?_, ?_, ?_, ?_, ?_, fun i hi => absurd hi (Nat.not_lt_zero _)⟩
      · rw [tr 0 (by omega), tr 1 (by omega), tr 2 (by omega)]; exact k0.1
      · rw [u2_n _ _ (by omega)]; exact k3
      · rw [u2_n _ _ (by omega), tr 4 (by omega)]; exact k4
      · rw [u2_n _ _ (by omega), tr 2 (by omega)]; exact k6
      · rw [u2_n _ _ (by omega), tr 0 (by omega)]; exact k5
      · rw [u2_n _ _ (by omega), u2_n _ _ (by omega), tr 0 (by omega), tr 1 (by omega), tr 3 (by omega)]; exact k7
    · refine n_ok_tr hn.1 (fun j hj => hup j (by omega)) ht ?_ (fun q hq h5 => ?_)
      · obtain ⟨u, v, h1, h2⟩ := hn.1.2.1 t ht
        exact ⟨u, v, (hup _ (by omega)).trans h1, h2⟩
      · have hq0 : q = 0 := by
          have h6 : nI 0 = nI q := hus.symm.trans h5
          exact ((nI_eq (by omega) (by omega)).mp h6).symm
        subst hq0
        obtain ⟨⟨x, hx, ex⟩, _⟩ := hn.1.2.2 t ht _ hK.1.2.1 hK.1.2.2.1
        exact ⟨⟨x, hx, (hup _ (by omega)).trans ex⟩, fun i hi => absurd hi (Nat.not_lt_zero _)⟩
    · exact u2_row _ _ (by omega)
  refine glue_r hI hm (v := s_tr st t 5) (cres_chg r1 r2 r3 r4 r5 ?_ hA2 hT1 (fr5_up (by omega))) (fun M2 h2 => mres_chg h2 hl10 (fun F2 m1 m2 => ⟨z_up2 F2 83 (22 + 18 * t + 5) 0, ?_, fun y y1 y2 => u2_row _ _ y2, ?_⟩))
  · unfold p_X8_cancel
    rw [c_tk hI ht]
    show (z_bd (z_gA 8 0 2) _).1 (KI M (z_i M)) = _
    rw [k0_g0_2 h0, k0_g0_6 h0, k0_cv4 h0]
    refine (e_run q1).trans ?_
    show (z_bd (z_gA 8 0 6) _).1 (KI M1 (z_i M1)) = _
    rw [k0_g0_6 h01]
    refine (kx_trk hL1 ht3).trans ?_
    rw [kt_gI hLT, k0_g0_6 h01]
    refine (kx_trk hL1 ht3).trans ?_
    rw [kt_pI hLT, hK.2.1, ← hK.1.2.2.1]
    rfl
  · obtain ⟨h9, e78, e80, e83⟩ := MI_0 h2
    have f83 : F2 83 = st := m1.2.1.2.2
    unfold p_X9_cancel
    rw [m_tk h2 hc ht, kn_cv h9]
    refine (e_run m2).trans ?_
    rw [kn_cv h9, kn_of5 h9 ht3, f83, kn_cv h9]
    refine (kn_put5 h9 ht3).trans ?_
    rfl
  · funext y
    unfold s_put
    by_cases hy : y = 22 + 18 * t + 5
    · rw [hy, u2_s, s_ups]
    · rw [u2_n _ _ (Or.inr hy), s_upn _ _ hy]
      exact congrFun m1.2.1.2.2 y
end PA24
