/-! ===== PHASE 2: the law's readers ===== -/
section PA14
variable {β : Type} {M : zM} {F : Nat → Nat → Int32} {ct cd st bf : Nat → Int32} {i j k q c sp n ns nt np nc L : Nat} {H : List (Nat → Int32)} {S : Nat → Option (Nat → Int32)} {v w x y code : Int32} {xs : Nat → Int32} {f : Unit → zP β}
theorem kx_pr {f : Int32 → zP β} {a d : Nat} {R : List zRd} {l : List Nat} (hS : RS M F a c ct cd st ns nt np nc d R l) (hj : j < 8) (hq : q < 8) : (z_bd (z_gA 5 a 2) (fun v => z_bd (z_aI 11 v (8 * nI j + nI q)) f)).1 (KI M F) = (f (st (76 + (8 * j + q)))).1 (KI M F) := by
  have hL := hS.1.1.1
  have h := (hS.2.2.1 (8 * j + q) (by omega)).1
  simp (disch := first | assumption | omega | (apply LZ_R; assumption) | (apply LZ_T <;> first | assumption | omega) | (apply LC_F; assumption)) only [e_pu, e_ite, oL_add, oL_addr, oL_mul, nI_add, nI_1, b_pu, b_bd, b_ite, j_L, j_R, j_ite, j_bd, z_ex, ↓reduceIte, if_true, if_false, kt_gI, kt_pI, kt_cv, kt_g0, kt_g1, kt_a1, kt_s1, kt_n1, kt_z1, kt_a2, kt_s2, kt_n2, kt_z2, kr_gI, kr_pI, kr_cv, kr_g0, kr_a1, kr_s1, kr_n1, kr_z1, kf_gI, kf_pI, kf_cv, kf_g0, kf_g1, kf_a1, kf_s1, kf_n1, kf_z1, kf_a2, kf_s2, kf_n2, kf_z2, kc_gI, kc_pI, kc_cv, kc_g0, kc_g1, kc_g2, kc_g3, kc_g4, kc_g5, kc_g6, kc_g7, kc_g8, kc_g9, kc_a1, kc_s1, kc_n1, kc_z1, kc_a2, kc_s2, kc_n2, kc_z2, kc_a3, kc_s3, kc_n3, kc_z3, kc_a4, kc_s4, kc_n4, kc_z4, kc_a5, kc_s5, kc_n5, kc_z5, kc_a6, kc_s6, kc_n6, kc_z6, kc_a7, kc_s7, kc_n7, kc_z7, kc_a8, kc_s8, kc_n8, kc_z8, kc_a9, kc_s9, kc_n9, kc_z9, ks_gI, ks_pI, ks_cv, ks_g0, ks_g1, ks_g2, ks_g3, ks_g4, ks_g5, ks_a1, ks_s1, ks_n1, ks_z1, ks_a2, ks_s2, ks_n2, ks_z2, ks_a3, ks_s3, ks_n3, ks_z3, ks_a4, ks_s4, ks_n4, ks_z4, ks_tr, h]
theorem kx_rc {f : Int32 → zP β} {a d : Nat} {R : List zRd} {l : List Nat} (hS : RS M F a c ct cd st ns nt np nc d R l) : (z_bd (z_gA 5 a 5) (fun v => z_bd (z_gI 4 v 1) f)).1 (KI M F) = (f (st 204)).1 (KI M F) := by
  have hL := hS.1.1.1
  have h := hS.2.2.2.2.1.1.trans hS.2.2.2.2.1.2.1.symm
  simp (disch := first | assumption | omega | (apply LZ_R; assumption) | (apply LZ_T <;> first | assumption | omega) | (apply LC_F; assumption)) only [e_pu, e_ite, oL_add, oL_addr, oL_mul, nI_add, nI_1, b_pu, b_bd, b_ite, j_L, j_R, j_ite, j_bd, z_ex, ↓reduceIte, if_true, if_false, kt_gI, kt_pI, kt_cv, kt_g0, kt_g1, kt_a1, kt_s1, kt_n1, kt_z1, kt_a2, kt_s2, kt_n2, kt_z2, kr_gI, kr_pI, kr_cv, kr_g0, kr_a1, kr_s1, kr_n1, kr_z1, kf_gI, kf_pI, kf_cv, kf_g0, kf_g1, kf_a1, kf_s1, kf_n1, kf_z1, kf_a2, kf_s2, kf_n2, kf_z2, kc_gI, kc_pI, kc_cv, kc_g0, kc_g1, kc_g2, kc_g3, kc_g4, kc_g5, kc_g6, kc_g7, kc_g8, kc_g9, kc_a1, kc_s1, kc_n1, kc_z1, kc_a2, kc_s2, kc_n2, kc_z2, kc_a3, kc_s3, kc_n3, kc_z3, kc_a4, kc_s4, kc_n4, kc_z4, kc_a5, kc_s5, kc_n5, kc_z5, kc_a6, kc_s6, kc_n6, kc_z6, kc_a7, kc_s7, kc_n7, kc_z7, kc_a8, kc_s8, kc_n8, kc_z8, kc_a9, kc_s9, kc_n9, kc_z9, ks_gI, ks_pI, ks_cv, ks_g0, ks_g1, ks_g2, ks_g3, ks_g4, ks_g5, ks_a1, ks_s1, ks_n1, ks_z1, ks_a2, ks_s2, ks_n2, ks_z2, ks_a3, ks_s3, ks_n3, ks_z3, ks_a4, ks_s4, ks_n4, ks_z4, ks_tr, h]
theorem L_c5 (hI : CI k M c sp ct cd ns nt np nc st H S n bf) (hm : MI M ct cd st H S n bf) (hi : i + 6 ≤ L) (hL : L ≤ 3072) : STEP (p_L_c5 xs L 0 75 95 (nI i)) k M i := by
  have hc := CI_c hI
  have hns := hc.1.2.1
  have hnt := hc.1.2.2.2.1
  obtain ⟨h0, hcy, hC, T, d, R, l, hT, hS, hn, hst0, hg, hd⟩ := CI_un hI
  have E := CI_E hI
  have hL41 := E.1.1
  unfold p_L_c5 p_L_bikes
  rw [show nI i + 1 = nI (i + 1) from oL_addr 1 i]
  simp only [z_xs_ok (xs := xs) (show i + 1 < L by omega) hL, b_pu]
  rcases pk_ix (xs (i + 1)) (n := ns) (by omega) with h | h | ⟨j, hj, e⟩
  · exact glue_t hI hm (c_stb hI (Or.inl h)) (if_pos rfl) (by decide) (fun M1 h1 => m_stb h1 hc (Or.inl h))
  · exact glue_t hI hm (c_stb hI (Or.inr h)) (if_pos rfl) (by decide) (fun M1 h1 => m_stb h1 hc (Or.inr h))
  · rw [e]
    have hj8 : j < 8 := by omega
    refine glue_r hI hm (v := st (6 + j)) (cres_of hI ?_) (fun M1 h1 => mres_th h1 ?_)
    · unfold p_X8_bikes
      rw [c_st hI hj]
      show (z_bd (z_gA 8 0 6) _).1 (KI M (z_i M)) = _
      rw [k0_g0_6 h0]
      exact kx_bks E hj
    · obtain ⟨h9, e78, e80, e83⟩ := MI_0 h1
      unfold p_X9_bikes
      rw [m_st h1 hc hj]
      simp (disch := first | assumption | omega) only [e_pu, e_ite, oL_add, oL_addr, oL_mul, nI_add, nI_1, b_pu, b_bd, b_ite, j_L, j_R, j_ite, j_bd, z_ex, ↓reduceIte, if_true, if_false, kn_gI, kn_pI, kn_cv, kn_g76, kn_a76, kn_s76, kn_g77, kn_a77, kn_s77, kn_g78, kn_a78, kn_s78, kn_g79, kn_a79, kn_s79, kn_g80, kn_a80, kn_s80, kn_g81, kn_a81, kn_s81, kn_g82, kn_a82, kn_s82, kn_g83, kn_a83, kn_s83, kn_g84, kn_a84, kn_s84, kn_g85, kn_a85, kn_s85, kn_g86, kn_g87, kn_a87, kn_s87, kn_g88, kn_a88, kn_s88, kn_g89, kn_a89, kn_s89, kn_g90, kn_a90, kn_s90, kn_g91, kn_a91, kn_s91, kn_g92, kn_a92, kn_s92, kn_g93, kn_a93, kn_s93, kn_g94, kn_a94, kn_s94, kn_l77_0, kn_t77_0, kn_l77_1, kn_t77_1, kn_l77_2, kn_t77_2, kn_l77_3, kn_t77_3, kn_l77_4, kn_t77_4, kn_l77_5, kn_t77_5, kn_l77_6, kn_t77_6, kn_l77_7, kn_t77_7, kn_l77_8, kn_t77_8, kn_l78_0, kn_t78_0, kn_l78_1, kn_t78_1, kn_l78_2, kn_t78_2, kn_l78_3, kn_t78_3, kn_l78_4, kn_t78_4, kn_l78_5, kn_t78_5, kn_l78_6, kn_t78_6, kn_l78_7, kn_t78_7, kn_l78_8, kn_t78_8, kn_l79_0, kn_t79_0, kn_l82_0, kn_t82_0, kn_l83_0, kn_t83_0, kn_l83_1, kn_t83_1, kn_l83_2, kn_t83_2, kn_l83_3, kn_t83_3, kn_l83_4, kn_t83_4, kn_l83_5, kn_t83_5, kn_l83_204, kn_t83_204, kn_wk, kn_fr, kn_mk, kn_ev, kn_bn, kn_ds, kn_rd, kn_dr, kn_of, kn_of0, kn_of1, kn_of2, kn_of3, kn_of4, kn_of5, kn_of6, kn_near, kn_loads, kn_all, kn_fare, kn_fail, kn_told, g9_wi, g9_at, F0_78, F0_80, F0_83, e78, e80, e83]
theorem L_c6 (hI : CI k M c sp ct cd ns nt np nc st H S n bf) (hm : MI M ct cd st H S n bf) (hi : i + 6 ≤ L) (hL : L ≤ 3072) : STEP (p_L_c6 xs L 0 75 95 (nI i)) k M i := by
  have hc := CI_c hI
  have hns := hc.1.2.1
  have hnt := hc.1.2.2.2.1
  obtain ⟨h0, hcy, hC, T, d, R, l, hT, hS, hn, hst0, hg, hd⟩ := CI_un hI
  have E := CI_E hI
  have hL41 := E.1.1
  unfold p_L_c6 p_L_freeDocks
  rw [show nI i + 1 = nI (i + 1) from oL_addr 1 i]
  simp only [z_xs_ok (xs := xs) (show i + 1 < L by omega) hL, b_pu]
  rcases pk_ix (xs (i + 1)) (n := ns) (by omega) with h | h | ⟨j, hj, e⟩
  · exact glue_t hI hm (c_stb hI (Or.inl h)) (if_pos rfl) (by decide) (fun M1 h1 => m_stb h1 hc (Or.inl h))
  · exact glue_t hI hm (c_stb hI (Or.inr h)) (if_pos rfl) (by decide) (fun M1 h1 => m_stb h1 hc (Or.inr h))
  · rw [e]
    have hj8 : j < 8 := by omega
    refine glue_r hI hm (v := s_fr ct st j) (cres_of hI ?_) (fun M1 h1 => mres_th h1 ?_)
    · unfold p_X8_freeDocks
      rw [c_st hI hj]
      show (z_bd (z_gA 8 0 6) _).1 (KI M (z_i M)) = _
      rw [k0_g0_6 h0]
      rw [ks_cv hL41]
      exact kx_fr E hj
    · obtain ⟨h9, e78, e80, e83⟩ := MI_0 h1
      unfold p_X9_freeDocks
      rw [m_st h1 hc hj]
      simp (disch := first | assumption | omega) only [e_pu, e_ite, oL_add, oL_addr, oL_mul, nI_add, nI_1, b_pu, b_bd, b_ite, j_L, j_R, j_ite, j_bd, z_ex, ↓reduceIte, if_true, if_false, kn_gI, kn_pI, kn_cv, kn_g76, kn_a76, kn_s76, kn_g77, kn_a77, kn_s77, kn_g78, kn_a78, kn_s78, kn_g79, kn_a79, kn_s79, kn_g80, kn_a80, kn_s80, kn_g81, kn_a81, kn_s81, kn_g82, kn_a82, kn_s82, kn_g83, kn_a83, kn_s83, kn_g84, kn_a84, kn_s84, kn_g85, kn_a85, kn_s85, kn_g86, kn_g87, kn_a87, kn_s87, kn_g88, kn_a88, kn_s88, kn_g89, kn_a89, kn_s89, kn_g90, kn_a90, kn_s90, kn_g91, kn_a91, kn_s91, kn_g92, kn_a92, kn_s92, kn_g93, kn_a93, kn_s93, kn_g94, kn_a94, kn_s94, kn_l77_0, kn_t77_0, kn_l77_1, kn_t77_1, kn_l77_2, kn_t77_2, kn_l77_3, kn_t77_3, kn_l77_4, kn_t77_4, kn_l77_5, kn_t77_5, kn_l77_6, kn_t77_6, kn_l77_7, kn_t77_7, kn_l77_8, kn_t77_8, kn_l78_0, kn_t78_0, kn_l78_1, kn_t78_1, kn_l78_2, kn_t78_2, kn_l78_3, kn_t78_3, kn_l78_4, kn_t78_4, kn_l78_5, kn_t78_5, kn_l78_6, kn_t78_6, kn_l78_7, kn_t78_7, kn_l78_8, kn_t78_8, kn_l79_0, kn_t79_0, kn_l82_0, kn_t82_0, kn_l83_0, kn_t83_0, kn_l83_1, kn_t83_1, kn_l83_2, kn_t83_2, kn_l83_3, kn_t83_3, kn_l83_4, kn_t83_4, kn_l83_5, kn_t83_5, kn_l83_204, kn_t83_204, kn_wk, kn_fr, kn_mk, kn_ev, kn_bn, kn_ds, kn_rd, kn_dr, kn_of, kn_of0, kn_of1, kn_of2, kn_of3, kn_of4, kn_of5, kn_of6, kn_near, kn_loads, kn_all, kn_fare, kn_fail, kn_told, g9_wi, g9_at, F0_78, F0_80, F0_83, e78, e80, e83]
theorem L_c7 (hI : CI k M c sp ct cd ns nt np nc st H S n bf) (hm : MI M ct cd st H S n bf) (hi : i + 6 ≤ L) (hL : L ≤ 3072) : STEP (p_L_c7 xs L 0 75 95 (nI i)) k M i := by
  have hc := CI_c hI
  have hns := hc.1.2.1
  have hnt := hc.1.2.2.2.1
  obtain ⟨h0, hcy, hC, T, d, R, l, hT, hS, hn, hst0, hg, hd⟩ := CI_un hI
  have E := CI_E hI
  have hL41 := E.1.1
  unfold p_L_c7 p_L_brokenDocks
  rw [show nI i + 1 = nI (i + 1) from oL_addr 1 i]
  simp only [z_xs_ok (xs := xs) (show i + 1 < L by omega) hL, b_pu]
  rcases pk_ix (xs (i + 1)) (n := ns) (by omega) with h | h | ⟨j, hj, e⟩
  · exact glue_t hI hm (c_stb hI (Or.inl h)) (if_pos rfl) (by decide) (fun M1 h1 => m_stb h1 hc (Or.inl h))
  · exact glue_t hI hm (c_stb hI (Or.inr h)) (if_pos rfl) (by decide) (fun M1 h1 => m_stb h1 hc (Or.inr h))
  · rw [e]
    have hj8 : j < 8 := by omega
    refine glue_r hI hm (v := st (14 + j)) (cres_of hI ?_) (fun M1 h1 => mres_th h1 ?_)
    · unfold p_X8_brokenDocks
      rw [c_st hI hj]
      show (z_bd (z_gA 8 0 6) _).1 (KI M (z_i M)) = _
      rw [k0_g0_6 h0]
      exact kx_brk E hj
    · obtain ⟨h9, e78, e80, e83⟩ := MI_0 h1
      unfold p_X9_brokenDocks
      rw [m_st h1 hc hj]
      simp (disch := first | assumption | omega) only [e_pu, e_ite, oL_add, oL_addr, oL_mul, nI_add, nI_1, b_pu, b_bd, b_ite, j_L, j_R, j_ite, j_bd, z_ex, ↓reduceIte, if_true, if_false, kn_gI, kn_pI, kn_cv, kn_g76, kn_a76, kn_s76, kn_g77, kn_a77, kn_s77, kn_g78, kn_a78, kn_s78, kn_g79, kn_a79, kn_s79, kn_g80, kn_a80, kn_s80, kn_g81, kn_a81, kn_s81, kn_g82, kn_a82, kn_s82, kn_g83, kn_a83, kn_s83, kn_g84, kn_a84, kn_s84, kn_g85, kn_a85, kn_s85, kn_g86, kn_g87, kn_a87, kn_s87, kn_g88, kn_a88, kn_s88, kn_g89, kn_a89, kn_s89, kn_g90, kn_a90, kn_s90, kn_g91, kn_a91, kn_s91, kn_g92, kn_a92, kn_s92, kn_g93, kn_a93, kn_s93, kn_g94, kn_a94, kn_s94, kn_l77_0, kn_t77_0, kn_l77_1, kn_t77_1, kn_l77_2, kn_t77_2, kn_l77_3, kn_t77_3, kn_l77_4, kn_t77_4, kn_l77_5, kn_t77_5, kn_l77_6, kn_t77_6, kn_l77_7, kn_t77_7, kn_l77_8, kn_t77_8, kn_l78_0, kn_t78_0, kn_l78_1, kn_t78_1, kn_l78_2, kn_t78_2, kn_l78_3, kn_t78_3, kn_l78_4, kn_t78_4, kn_l78_5, kn_t78_5, kn_l78_6, kn_t78_6, kn_l78_7, kn_t78_7, kn_l78_8, kn_t78_8, kn_l79_0, kn_t79_0, kn_l82_0, kn_t82_0, kn_l83_0, kn_t83_0, kn_l83_1, kn_t83_1, kn_l83_2, kn_t83_2, kn_l83_3, kn_t83_3, kn_l83_4, kn_t83_4, kn_l83_5, kn_t83_5, kn_l83_204, kn_t83_204, kn_wk, kn_fr, kn_mk, kn_ev, kn_bn, kn_ds, kn_rd, kn_dr, kn_of, kn_of0, kn_of1, kn_of2, kn_of3, kn_of4, kn_of5, kn_of6, kn_near, kn_loads, kn_all, kn_fare, kn_fail, kn_told, g9_wi, g9_at, F0_78, F0_80, F0_83, e78, e80, e83]
theorem L_c13 (hI : CI k M c sp ct cd ns nt np nc st H S n bf) (hm : MI M ct cd st H S n bf) (hi : i + 6 ≤ L) (hL : L ≤ 3072) : STEP (p_L_c13 xs L 0 75 95 (nI i)) k M i := by
  have hc := CI_c hI
  have hns := hc.1.2.1
  have hnt := hc.1.2.2.2.1
  obtain ⟨h0, hcy, hC, T, d, R, l, hT, hS, hn, hst0, hg, hd⟩ := CI_un hI
  have E := CI_E hI
  have hL41 := E.1.1
  unfold p_L_c13 p_L_bonusAt
  rw [show nI i + 1 = nI (i + 1) from oL_addr 1 i]
  simp only [z_xs_ok (xs := xs) (show i + 1 < L by omega) hL, b_pu]
  rcases pk_ix (xs (i + 1)) (n := ns) (by omega) with h | h | ⟨j, hj, e⟩
  · exact glue_t hI hm (c_stb hI (Or.inl h)) (if_pos rfl) (by decide) (fun M1 h1 => m_stb h1 hc (Or.inl h))
  · exact glue_t hI hm (c_stb hI (Or.inr h)) (if_pos rfl) (by decide) (fun M1 h1 => m_stb h1 hc (Or.inr h))
  · rw [e]
    have hj8 : j < 8 := by omega
    refine glue_r hI hm (v := s_bn ct st j) (cres_of hI ?_) (fun M1 h1 => mres_th h1 ?_)
    · unfold p_X8_bonusAt
      rw [c_st hI hj]
      show (z_bd (z_gA 8 0 6) _).1 (KI M (z_i M)) = _
      rw [k0_g0_6 h0]
      rw [ks_cv hL41]
      exact kx_bn E hj
    · obtain ⟨h9, e78, e80, e83⟩ := MI_0 h1
      unfold p_X9_bonusAt
      rw [m_st h1 hc hj]
      simp (disch := first | assumption | omega) only [e_pu, e_ite, oL_add, oL_addr, oL_mul, nI_add, nI_1, b_pu, b_bd, b_ite, j_L, j_R, j_ite, j_bd, z_ex, ↓reduceIte, if_true, if_false, kn_gI, kn_pI, kn_cv, kn_g76, kn_a76, kn_s76, kn_g77, kn_a77, kn_s77, kn_g78, kn_a78, kn_s78, kn_g79, kn_a79, kn_s79, kn_g80, kn_a80, kn_s80, kn_g81, kn_a81, kn_s81, kn_g82, kn_a82, kn_s82, kn_g83, kn_a83, kn_s83, kn_g84, kn_a84, kn_s84, kn_g85, kn_a85, kn_s85, kn_g86, kn_g87, kn_a87, kn_s87, kn_g88, kn_a88, kn_s88, kn_g89, kn_a89, kn_s89, kn_g90, kn_a90, kn_s90, kn_g91, kn_a91, kn_s91, kn_g92, kn_a92, kn_s92, kn_g93, kn_a93, kn_s93, kn_g94, kn_a94, kn_s94, kn_l77_0, kn_t77_0, kn_l77_1, kn_t77_1, kn_l77_2, kn_t77_2, kn_l77_3, kn_t77_3, kn_l77_4, kn_t77_4, kn_l77_5, kn_t77_5, kn_l77_6, kn_t77_6, kn_l77_7, kn_t77_7, kn_l77_8, kn_t77_8, kn_l78_0, kn_t78_0, kn_l78_1, kn_t78_1, kn_l78_2, kn_t78_2, kn_l78_3, kn_t78_3, kn_l78_4, kn_t78_4, kn_l78_5, kn_t78_5, kn_l78_6, kn_t78_6, kn_l78_7, kn_t78_7, kn_l78_8, kn_t78_8, kn_l79_0, kn_t79_0, kn_l82_0, kn_t82_0, kn_l83_0, kn_t83_0, kn_l83_1, kn_t83_1, kn_l83_2, kn_t83_2, kn_l83_3, kn_t83_3, kn_l83_4, kn_t83_4, kn_l83_5, kn_t83_5, kn_l83_204, kn_t83_204, kn_wk, kn_fr, kn_mk, kn_ev, kn_bn, kn_ds, kn_rd, kn_dr, kn_of, kn_of0, kn_of1, kn_of2, kn_of3, kn_of4, kn_of5, kn_of6, kn_near, kn_loads, kn_all, kn_fare, kn_fail, kn_told, g9_wi, g9_at, F0_78, F0_80, F0_83, e78, e80, e83]
theorem L_c10 (hI : CI k M c sp ct cd ns nt np nc st H S n bf) (hm : MI M ct cd st H S n bf) (hi : i + 6 ≤ L) (hL : L ≤ 3072) : STEP (p_L_c10 xs L 0 75 95 (nI i)) k M i := by
  have hc := CI_c hI
  have hns := hc.1.2.1
  have hnt := hc.1.2.2.2.1
  obtain ⟨h0, hcy, hC, T, d, R, l, hT, hS, hn, hst0, hg, hd⟩ := CI_un hI
  have E := CI_E hI
  have hL41 := E.1.1
  unfold p_L_c10 p_L_nearest
  rw [show nI i + 1 = nI (i + 1) from oL_addr 1 i, show nI i + 2 = nI (i + 2) from oL_addr 2 i]
  simp only [z_xs_ok (xs := xs) (show i + 1 < L by omega) hL, z_xs_ok (xs := xs) (show i + 2 < L by omega) hL, b_pu]
  obtain ⟨b, hb⟩ : ∃ b : Int32, b = (if xs (i + 2) = 0 then 0 else 1) := ⟨_, rfl⟩
  have hj1 : ∀ g : Int32 → zP (Int32 ⊕ Int32), (z_jn (τ := Int32) (if xs (i + 2) = 0 then (z_pu (.inl 0)) else (z_pu (.inl 1))) g) = g b := fun g => by
    rw [hb]
    split <;> rfl
  simp only [hj1]
  rcases pk_ix (xs (i + 1)) (n := ns) (by omega) with h | h | ⟨j, hj, e⟩
  · exact glue_t hI hm (c_stb hI (Or.inl h)) (if_pos rfl) (by decide) (fun M1 h1 => m_stb h1 hc (Or.inl h))
  · exact glue_t hI hm (c_stb hI (Or.inr h)) (if_pos rfl) (by decide) (fun M1 h1 => m_stb h1 hc (Or.inr h))
  · rw [e]
    have hj8 : j < 8 := by omega
    refine glue_r hI hm (v := iO (s_near ct st j b ns)) (cres_of hI ?_) (fun M1 h1 => mres_th h1 ?_)
    · unfold p_X8_nearest
      rw [c_st hI hj]
      show (z_bd (z_gA 8 0 6) _).1 (KI M (z_i M)) = _
      rw [k0_g0_6 h0, ks_cv hL41]
      exact kx_near E hj b
    · obtain ⟨h9, e78, e80, e83⟩ := MI_0 h1
      have hs : z_up2 (z_i M1) 75 0 0 78 0 = nI ns := by rw [u2_n _ _ (by omega), e78]; exact hc.1.1
      unfold p_X9_nearest
      rw [m_st h1 hc hj, kn_cv h9, kn_near h9 hs hns hj8, F0_78, F0_83, e78, e83]
      rfl
theorem L_c11 (hI : CI k M c sp ct cd ns nt np nc st H S n bf) (hm : MI M ct cd st H S n bf) (hi : i + 6 ≤ L) (hL : L ≤ 3072) : STEP (p_L_c11 xs L 0 75 95 (nI i)) k M i := by
  have hc := CI_c hI
  have hns := hc.1.2.1
  have hnt := hc.1.2.2.2.1
  obtain ⟨h0, hcy, hC, T, d, R, l, hT, hS, hn, hst0, hg, hd⟩ := CI_un hI
  have E := CI_E hI
  have hL41 := E.1.1
  unfold p_L_c11 p_L_rideMinutes
  rw [show nI i + 1 = nI (i + 1) from oL_addr 1 i, show nI i + 2 = nI (i + 2) from oL_addr 2 i]
  simp only [z_xs_ok (xs := xs) (show i + 1 < L by omega) hL, z_xs_ok (xs := xs) (show i + 2 < L by omega) hL, b_pu]
  have hbad : ∀ x, (x < 0 ∨ nI ns ≤ x) → (z_bd (z_cv 8 0 (p_X8_checkStation 0 x)) (fun _ => (z_pu () : zP Unit))).1 M = some (.inl "java/lang/IndexOutOfBoundsException", z_mk M 99 0 6) := fun x hx => c_stb hI hx
  rcases pk_ix (xs (i + 1)) (n := ns) (by omega) with h | h | ⟨j, hj, e⟩
  · exact glue_t hI hm (c_stb hI (Or.inl h)) (if_pos rfl) (by decide) (fun M1 h1 => m_ssb h1 hc (Or.inl (Or.inl h)))
  · exact glue_t hI hm (c_stb hI (Or.inr h)) (if_pos rfl) (by decide) (fun M1 h1 => m_ssb h1 hc (Or.inl (Or.inr h)))
  · rw [e]
    have hj8 : j < 8 := by omega
    rcases pk_ix (xs (i + 2)) (n := ns) (by omega) with h | h | ⟨q, hq, e2⟩
    · exact glue_t hI hm ((c_st hI hj).trans (c_stb hI (Or.inl h))) (if_pos rfl) (by decide) (fun M1 h1 => m_ssb h1 hc (Or.inr (Or.inl h)))
    · exact glue_t hI hm ((c_st hI hj).trans (c_stb hI (Or.inr h))) (if_pos rfl) (by decide) (fun M1 h1 => m_ssb h1 hc (Or.inr (Or.inr h)))
    · rw [e2]
      have hq8 : q < 8 := by omega
      refine glue_r hI hm (v := s_rd ct j q) (cres_of hI ?_) (fun M1 h1 => mres_th h1 ?_)
      · unfold p_X8_rideMinutes
        rw [c_st hI hj, c_st hI hq]
        show (z_bd (z_gA 8 0 9) _).1 (KI M (z_i M)) = _
        rw [k8_city h0 hcy, kc_cv hC]
        exact kx_rd E hj hq
      · obtain ⟨h9, e78, e80, e83⟩ := MI_0 h1
        unfold p_X9_rideMinutes
        rw [m_ss h1 hc hj hq]
        simp (disch := first | assumption | omega) only [e_pu, e_ite, oL_add, oL_addr, oL_mul, nI_add, nI_1, b_pu, b_bd, b_ite, j_L, j_R, j_ite, j_bd, z_ex, ↓reduceIte, if_true, if_false, kn_gI, kn_pI, kn_cv, kn_g76, kn_a76, kn_s76, kn_g77, kn_a77, kn_s77, kn_g78, kn_a78, kn_s78, kn_g79, kn_a79, kn_s79, kn_g80, kn_a80, kn_s80, kn_g81, kn_a81, kn_s81, kn_g82, kn_a82, kn_s82, kn_g83, kn_a83, kn_s83, kn_g84, kn_a84, kn_s84, kn_g85, kn_a85, kn_s85, kn_g86, kn_g87, kn_a87, kn_s87, kn_g88, kn_a88, kn_s88, kn_g89, kn_a89, kn_s89, kn_g90, kn_a90, kn_s90, kn_g91, kn_a91, kn_s91, kn_g92, kn_a92, kn_s92, kn_g93, kn_a93, kn_s93, kn_g94, kn_a94, kn_s94, kn_l77_0, kn_t77_0, kn_l77_1, kn_t77_1, kn_l77_2, kn_t77_2, kn_l77_3, kn_t77_3, kn_l77_4, kn_t77_4, kn_l77_5, kn_t77_5, kn_l77_6, kn_t77_6, kn_l77_7, kn_t77_7, kn_l77_8, kn_t77_8, kn_l78_0, kn_t78_0, kn_l78_1, kn_t78_1, kn_l78_2, kn_t78_2, kn_l78_3, kn_t78_3, kn_l78_4, kn_t78_4, kn_l78_5, kn_t78_5, kn_l78_6, kn_t78_6, kn_l78_7, kn_t78_7, kn_l78_8, kn_t78_8, kn_l79_0, kn_t79_0, kn_l82_0, kn_t82_0, kn_l83_0, kn_t83_0, kn_l83_1, kn_t83_1, kn_l83_2, kn_t83_2, kn_l83_3, kn_t83_3, kn_l83_4, kn_t83_4, kn_l83_5, kn_t83_5, kn_l83_204, kn_t83_204, kn_wk, kn_fr, kn_mk, kn_ev, kn_bn, kn_ds, kn_rd, kn_dr, kn_of, kn_of0, kn_of1, kn_of2, kn_of3, kn_of4, kn_of5, kn_of6, kn_near, kn_loads, kn_all, kn_fare, kn_fail, kn_told, g9_wi, g9_at, F0_78, F0_80, F0_83, e78, e80, e83]
theorem L_c17 (hI : CI k M c sp ct cd ns nt np nc st H S n bf) (hm : MI M ct cd st H S n bf) (hi : i + 6 ≤ L) (hL : L ≤ 3072) : STEP (p_L_c17 xs L 0 75 95 (nI i)) k M i := by
  have hc := CI_c hI
  have hns := hc.1.2.1
  have hnt := hc.1.2.2.2.1
  obtain ⟨h0, hcy, hC, T, d, R, l, hT, hS, hn, hst0, hg, hd⟩ := CI_un hI
  have E := CI_E hI
  have hL41 := E.1.1
  unfold p_L_c17 p_L_ridesBetween
  rw [show nI i + 1 = nI (i + 1) from oL_addr 1 i, show nI i + 2 = nI (i + 2) from oL_addr 2 i]
  simp only [z_xs_ok (xs := xs) (show i + 1 < L by omega) hL, z_xs_ok (xs := xs) (show i + 2 < L by omega) hL, b_pu]
  have hbad : ∀ x, (x < 0 ∨ nI ns ≤ x) → (z_bd (z_cv 8 0 (p_X8_checkStation 0 x)) (fun _ => (z_pu () : zP Unit))).1 M = some (.inl "java/lang/IndexOutOfBoundsException", z_mk M 99 0 6) := fun x hx => c_stb hI hx
  rcases pk_ix (xs (i + 1)) (n := ns) (by omega) with h | h | ⟨j, hj, e⟩
  · exact glue_t hI hm (c_stb hI (Or.inl h)) (if_pos rfl) (by decide) (fun M1 h1 => m_ssb h1 hc (Or.inl (Or.inl h)))
  · exact glue_t hI hm (c_stb hI (Or.inr h)) (if_pos rfl) (by decide) (fun M1 h1 => m_ssb h1 hc (Or.inl (Or.inr h)))
  · rw [e]
    have hj8 : j < 8 := by omega
    rcases pk_ix (xs (i + 2)) (n := ns) (by omega) with h | h | ⟨q, hq, e2⟩
    · exact glue_t hI hm ((c_st hI hj).trans (c_stb hI (Or.inl h))) (if_pos rfl) (by decide) (fun M1 h1 => m_ssb h1 hc (Or.inr (Or.inl h)))
    · exact glue_t hI hm ((c_st hI hj).trans (c_stb hI (Or.inr h))) (if_pos rfl) (by decide) (fun M1 h1 => m_ssb h1 hc (Or.inr (Or.inr h)))
    · rw [e2]
      have hq8 : q < 8 := by omega
      refine glue_r hI hm (v := st (76 + (8 * j + q))) (cres_of hI ?_) (fun M1 h1 => mres_th h1 ?_)
      · unfold p_X8_ridesBetween
        rw [c_st hI hj, c_st hI hq]
        show (z_bd (z_gA 8 0 6) _).1 (KI M (z_i M)) = _
        rw [k0_g0_6 h0]
        exact kx_pr hS (by omega) (by omega)
      · obtain ⟨h9, e78, e80, e83⟩ := MI_0 h1
        unfold p_X9_ridesBetween
        rw [m_ss h1 hc hj hq]
        simp (disch := first | assumption | omega) only [e_pu, e_ite, oL_add, oL_addr, oL_mul, nI_add, nI_1, b_pu, b_bd, b_ite, j_L, j_R, j_ite, j_bd, z_ex, ↓reduceIte, if_true, if_false, kn_gI, kn_pI, kn_cv, kn_g76, kn_a76, kn_s76, kn_g77, kn_a77, kn_s77, kn_g78, kn_a78, kn_s78, kn_g79, kn_a79, kn_s79, kn_g80, kn_a80, kn_s80, kn_g81, kn_a81, kn_s81, kn_g82, kn_a82, kn_s82, kn_g83, kn_a83, kn_s83, kn_g84, kn_a84, kn_s84, kn_g85, kn_a85, kn_s85, kn_g86, kn_g87, kn_a87, kn_s87, kn_g88, kn_a88, kn_s88, kn_g89, kn_a89, kn_s89, kn_g90, kn_a90, kn_s90, kn_g91, kn_a91, kn_s91, kn_g92, kn_a92, kn_s92, kn_g93, kn_a93, kn_s93, kn_g94, kn_a94, kn_s94, kn_l77_0, kn_t77_0, kn_l77_1, kn_t77_1, kn_l77_2, kn_t77_2, kn_l77_3, kn_t77_3, kn_l77_4, kn_t77_4, kn_l77_5, kn_t77_5, kn_l77_6, kn_t77_6, kn_l77_7, kn_t77_7, kn_l77_8, kn_t77_8, kn_l78_0, kn_t78_0, kn_l78_1, kn_t78_1, kn_l78_2, kn_t78_2, kn_l78_3, kn_t78_3, kn_l78_4, kn_t78_4, kn_l78_5, kn_t78_5, kn_l78_6, kn_t78_6, kn_l78_7, kn_t78_7, kn_l78_8, kn_t78_8, kn_l79_0, kn_t79_0, kn_l82_0, kn_t82_0, kn_l83_0, kn_t83_0, kn_l83_1, kn_t83_1, kn_l83_2, kn_t83_2, kn_l83_3, kn_t83_3, kn_l83_4, kn_t83_4, kn_l83_5, kn_t83_5, kn_l83_204, kn_t83_204, kn_wk, kn_fr, kn_mk, kn_ev, kn_bn, kn_ds, kn_rd, kn_dr, kn_of, kn_of0, kn_of1, kn_of2, kn_of3, kn_of4, kn_of5, kn_of6, kn_near, kn_loads, kn_all, kn_fare, kn_fail, kn_told, g9_wi, g9_at, F0_78, F0_80, F0_83, e78, e80, e83]
        rw [Nat.add_assoc]
theorem L_c12 (hI : CI k M c sp ct cd ns nt np nc st H S n bf) (hm : MI M ct cd st H S n bf) (hi : i + 6 ≤ L) (hL : L ≤ 3072) : STEP (p_L_c12 xs L 0 75 95 (nI i)) k M i := by
  have hc := CI_c hI
  have hns := hc.1.2.1
  have hnt := hc.1.2.2.2.1
  obtain ⟨h0, hcy, hC, T, d, R, l, hT, hS, hn, hst0, hg, hd⟩ := CI_un hI
  have E := CI_E hI
  have hL41 := E.1.1
  unfold p_L_c12 p_L_quote
  rw [show nI i + 1 = nI (i + 1) from oL_addr 1 i, show nI i + 2 = nI (i + 2) from oL_addr 2 i]
  simp only [z_xs_ok (xs := xs) (show i + 1 < L by omega) hL, z_xs_ok (xs := xs) (show i + 2 < L by omega) hL, b_pu]
  have hbad : ∀ x, (x < 0 ∨ nI ns ≤ x) → (z_bd (z_cv 8 0 (p_X8_checkStation 0 x)) (fun _ => (z_pu () : zP Unit))).1 M = some (.inl "java/lang/IndexOutOfBoundsException", z_mk M 99 0 6) := fun x hx => c_stb hI hx
  rcases pk_ix (xs (i + 1)) (n := ns) (by omega) with h | h | ⟨j, hj, e⟩
  · exact glue_t hI hm (c_stb hI (Or.inl h)) (if_pos rfl) (by decide) (fun M1 h1 => m_ssb h1 hc (Or.inl (Or.inl h)))
  · exact glue_t hI hm (c_stb hI (Or.inr h)) (if_pos rfl) (by decide) (fun M1 h1 => m_ssb h1 hc (Or.inl (Or.inr h)))
  · rw [e]
    have hj8 : j < 8 := by omega
    rcases pk_ix (xs (i + 2)) (n := ns) (by omega) with h | h | ⟨q, hq, e2⟩
    · exact glue_t hI hm ((c_st hI hj).trans (c_stb hI (Or.inl h))) (if_pos rfl) (by decide) (fun M1 h1 => m_ssb h1 hc (Or.inr (Or.inl h)))
    · exact glue_t hI hm ((c_st hI hj).trans (c_stb hI (Or.inr h))) (if_pos rfl) (by decide) (fun M1 h1 => m_ssb h1 hc (Or.inr (Or.inr h)))
    · rw [e2]
      have hq8 : q < 8 := by omega
      refine glue_r hI hm (v := s_fare ct cd st nc j q) (cres_loc hI (M1 := KI M (z_up1 (z_i M) (c + 10 + 2) (s_fa cd (s_val ct st j q) (z_i M (c + 10 + 2)) nc))) ?_ ?_ ?_ ?_ ?_ ?_) (fun M1 h1 => mres_rd h1 (F := z_up1 (z_up2 (z_i M1) 75 0 0) 82 (s_fa cd (s_val ct st j q) (z_up2 (z_i M1) 75 0 0 82) nc)) ?_ ?_ ?_ ?_ ?_)
      · unfold p_X8_quote
        rw [c_st hI hj, c_st hI hq]
        show (z_bd (z_gA 8 0 6) _).1 (KI M (z_i M)) = _
        rw [k0_g0_6 h0, ks_cv hL41]
        exact kx_fare E hj hq
      · exact loc_KI (fun y hy => u1_n _ _ (fun e => hy (by unfold scr; omega)))
      · exact fun h => h
      · intro y y1 y2
        exact u1_n _ _ (by have := hI.1.2.2.1; omega)
      · show z_nx M ≤ z_nx M + 18; omega
      · show z_sl M ≤ z_sl M + 992; omega
      · obtain ⟨h9, e78, e80, e83⟩ := MI_0 h1
        have e8 : z_up2 (z_i M1) 75 0 0 78 8 = nI nc := by rw [u2_n _ _ (by omega), e78]; exact hc.2.1.1
        unfold p_X9_quote
        rw [m_ss h1 hc hj hq, kn_cv h9, kn_fare (n := nc) h9 e8 hc.2.1.2.1 hc.2.1.2.2.1 (by rw [F0_80, e80]; exact hc.2.1.2.2.2) hj8 hq8, F0_78, F0_80, F0_83, e78, e80, e83]
        rfl
      · rw [u1_n _ _ (by omega), u2_s]
      · intro y hy
        rw [u1_n _ _ (by omega), u2_row _ _ (by omega)]
      · rw [u1_n _ _ (by omega), u2_n _ _ (by omega)]
      · rw [u1_n _ _ (by omega), u2_n _ _ (by omega)]
theorem L_c3 (hI : CI k M c sp ct cd ns nt np nc st H S n bf) (hm : MI M ct cd st H S n bf) (hi : i + 6 ≤ L) (hL : L ≤ 3072) : STEP (p_L_c3 xs L 0 75 95 (nI i)) k M i := by
  have hc := CI_c hI
  have hns := hc.1.2.1
  have hnt := hc.1.2.2.2.1
  obtain ⟨h0, hcy, hC, T, d, R, l, hT, hS, hn, hst0, hg, hd⟩ := CI_un hI
  have E := CI_E hI
  have hL41 := E.1.1
  unfold p_L_c3
  refine glue_p hI hm (v := st 0) (cres_of hI ?_) (fun M1 h1 => mres_th h1 ?_)
  · unfold p_X8_time
    show (z_bd (z_gA 8 0 6) _).1 (KI M (z_i M)) = _
    rw [k0_g0_6 h0, ks_gI hL41, E.2.2.2]
    rfl
  · obtain ⟨h9, e78, e80, e83⟩ := MI_0 h1
    unfold p_X9_time
    show (z_bd (z_gA 9 75 19) _).1 (KI M1 (z_i M1)) = _
    simp (disch := first | assumption | omega) only [e_pu, e_ite, oL_add, oL_addr, oL_mul, nI_add, nI_1, b_pu, b_bd, b_ite, j_L, j_R, j_ite, j_bd, z_ex, ↓reduceIte, if_true, if_false, kn_gI, kn_pI, kn_cv, kn_g76, kn_a76, kn_s76, kn_g77, kn_a77, kn_s77, kn_g78, kn_a78, kn_s78, kn_g79, kn_a79, kn_s79, kn_g80, kn_a80, kn_s80, kn_g81, kn_a81, kn_s81, kn_g82, kn_a82, kn_s82, kn_g83, kn_a83, kn_s83, kn_g84, kn_a84, kn_s84, kn_g85, kn_a85, kn_s85, kn_g86, kn_g87, kn_a87, kn_s87, kn_g88, kn_a88, kn_s88, kn_g89, kn_a89, kn_s89, kn_g90, kn_a90, kn_s90, kn_g91, kn_a91, kn_s91, kn_g92, kn_a92, kn_s92, kn_g93, kn_a93, kn_s93, kn_g94, kn_a94, kn_s94, kn_l77_0, kn_t77_0, kn_l77_1, kn_t77_1, kn_l77_2, kn_t77_2, kn_l77_3, kn_t77_3, kn_l77_4, kn_t77_4, kn_l77_5, kn_t77_5, kn_l77_6, kn_t77_6, kn_l77_7, kn_t77_7, kn_l77_8, kn_t77_8, kn_l78_0, kn_t78_0, kn_l78_1, kn_t78_1, kn_l78_2, kn_t78_2, kn_l78_3, kn_t78_3, kn_l78_4, kn_t78_4, kn_l78_5, kn_t78_5, kn_l78_6, kn_t78_6, kn_l78_7, kn_t78_7, kn_l78_8, kn_t78_8, kn_l79_0, kn_t79_0, kn_l82_0, kn_t82_0, kn_l83_0, kn_t83_0, kn_l83_1, kn_t83_1, kn_l83_2, kn_t83_2, kn_l83_3, kn_t83_3, kn_l83_4, kn_t83_4, kn_l83_5, kn_t83_5, kn_l83_204, kn_t83_204, kn_wk, kn_fr, kn_mk, kn_ev, kn_bn, kn_ds, kn_rd, kn_dr, kn_of, kn_of0, kn_of1, kn_of2, kn_of3, kn_of4, kn_of5, kn_of6, kn_near, kn_loads, kn_all, kn_fare, kn_fail, kn_told, g9_wi, g9_at, e83]
theorem L_c4 (hI : CI k M c sp ct cd ns nt np nc st H S n bf) (hm : MI M ct cd st H S n bf) (hi : i + 6 ≤ L) (hL : L ≤ 3072) : STEP (p_L_c4 xs L 0 75 95 (nI i)) k M i := by
  have hc := CI_c hI
  have hns := hc.1.2.1
  have hnt := hc.1.2.2.2.1
  obtain ⟨h0, hcy, hC, T, d, R, l, hT, hS, hn, hst0, hg, hd⟩ := CI_un hI
  have E := CI_E hI
  have hL41 := E.1.1
  unfold p_L_c4
  refine glue_p hI hm (v := s_sum (s_sum 0 (fun t => s_tr st t 4) nt + st 204) (fun k => st (6 + k)) ns) (cres_of hI ?_) (fun M1 h1 => mres_th h1 ?_)
  · unfold p_X8_fleet
    show (z_bd (z_gA 8 0 6) _).1 (KI M (z_i M)) = _
    rw [k0_g0_6 h0, ks_cv hL41]
    exact kx_all hS
  · obtain ⟨h9, e78, e80, e83⟩ := MI_0 h1
    unfold p_X9_fleet
    have hs0 : z_i M1 78 0 = nI ns := by rw [e78]; exact hc.1.1
    have hs1 : z_i M1 78 1 = nI nt := by rw [e78]; exact hc.1.2.2.1
    show (z_bd (z_cv 9 75 (p_X9_all 75)) _).1 (KI M1 (z_i M1)) = _
    rw [kn_cv h9, kn_all h9 hs1 hnt hs0 hns, kn_cv h9, kn_told h9, e83]
    rfl
theorem L_c15 (hI : CI k M c sp ct cd ns nt np nc st H S n bf) (hm : MI M ct cd st H S n bf) (hi : i + 6 ≤ L) (hL : L ≤ 3072) : STEP (p_L_c15 xs L 0 75 95 (nI i)) k M i := by
  have hc := CI_c hI
  have hns := hc.1.2.1
  have hnt := hc.1.2.2.2.1
  obtain ⟨h0, hcy, hC, T, d, R, l, hT, hS, hn, hst0, hg, hd⟩ := CI_un hI
  have E := CI_E hI
  have hL41 := E.1.1
  unfold p_L_c15
  refine glue_p hI hm (v := st 204) (cres_of hI ?_) (fun M1 h1 => mres_th h1 ?_)
  · unfold p_X8_riders
    show (z_bd (z_gA 8 0 6) _).1 (KI M (z_i M)) = _
    rw [k0_g0_6 h0]
    exact kx_rc hS
  · obtain ⟨h9, e78, e80, e83⟩ := MI_0 h1
    unfold p_X9_riders
    show (z_bd (z_gA 9 75 19) _).1 (KI M1 (z_i M1)) = _
    simp (disch := first | assumption | omega) only [e_pu, e_ite, oL_add, oL_addr, oL_mul, nI_add, nI_1, b_pu, b_bd, b_ite, j_L, j_R, j_ite, j_bd, z_ex, ↓reduceIte, if_true, if_false, kn_gI, kn_pI, kn_cv, kn_g76, kn_a76, kn_s76, kn_g77, kn_a77, kn_s77, kn_g78, kn_a78, kn_s78, kn_g79, kn_a79, kn_s79, kn_g80, kn_a80, kn_s80, kn_g81, kn_a81, kn_s81, kn_g82, kn_a82, kn_s82, kn_g83, kn_a83, kn_s83, kn_g84, kn_a84, kn_s84, kn_g85, kn_a85, kn_s85, kn_g86, kn_g87, kn_a87, kn_s87, kn_g88, kn_a88, kn_s88, kn_g89, kn_a89, kn_s89, kn_g90, kn_a90, kn_s90, kn_g91, kn_a91, kn_s91, kn_g92, kn_a92, kn_s92, kn_g93, kn_a93, kn_s93, kn_g94, kn_a94, kn_s94, kn_l77_0, kn_t77_0, kn_l77_1, kn_t77_1, kn_l77_2, kn_t77_2, kn_l77_3, kn_t77_3, kn_l77_4, kn_t77_4, kn_l77_5, kn_t77_5, kn_l77_6, kn_t77_6, kn_l77_7, kn_t77_7, kn_l77_8, kn_t77_8, kn_l78_0, kn_t78_0, kn_l78_1, kn_t78_1, kn_l78_2, kn_t78_2, kn_l78_3, kn_t78_3, kn_l78_4, kn_t78_4, kn_l78_5, kn_t78_5, kn_l78_6, kn_t78_6, kn_l78_7, kn_t78_7, kn_l78_8, kn_t78_8, kn_l79_0, kn_t79_0, kn_l82_0, kn_t82_0, kn_l83_0, kn_t83_0, kn_l83_1, kn_t83_1, kn_l83_2, kn_t83_2, kn_l83_3, kn_t83_3, kn_l83_4, kn_t83_4, kn_l83_5, kn_t83_5, kn_l83_204, kn_t83_204, kn_wk, kn_fr, kn_mk, kn_ev, kn_bn, kn_ds, kn_rd, kn_dr, kn_of, kn_of0, kn_of1, kn_of2, kn_of3, kn_of4, kn_of5, kn_of6, kn_near, kn_loads, kn_all, kn_fare, kn_fail, kn_told, g9_wi, g9_at, e83]
theorem L_c9 (hI : CI k M c sp ct cd ns nt np nc st H S n bf) (hm : MI M ct cd st H S n bf) (hi : i + 6 ≤ L) (hL : L ≤ 3072) : STEP (p_L_c9 xs L 0 75 95 (nI i)) k M i := by
  have hc := CI_c hI
  have hns := hc.1.2.1
  have hnt := hc.1.2.2.2.1
  obtain ⟨h0, hcy, hC, T, d, R, l, hT, hS, hn, hst0, hg, hd⟩ := CI_un hI
  have E := CI_E hI
  have hL41 := E.1.1
  unfold p_L_c9
  refine glue_p hI hm (v := s_sum 0 (fun k => s_ms ct st k) ns) (cres_of hI ?_) (fun M1 h1 => mres_th h1 ?_)
  · unfold p_X8_imbalance
    show (z_lp _ _).1 (KI M (z_i M)) = _
    refine lp_cnt ns (fun t => (s_sum 0 (fun k => s_ms ct st k) t, nI t)) (fun _ => KI M (z_i M)) _ _ ?_ ?_
    · intro t ht
      have hn : ¬ nI ns ≤ nI t := nI_ge ht (by omega)
      simp (disch := first | assumption | omega | (apply LZ_R; assumption) | (apply LZ_T <;> first | assumption | omega) | (apply LC_F; assumption)) only [e_pu, e_ite, oL_add, oL_addr, oL_mul, nI_add, nI_1, b_pu, b_bd, b_ite, j_L, j_R, j_ite, j_bd, z_ex, ↓reduceIte, if_true, if_false, k8_city h0 hcy, kc_gI, EN_s0 E, hn, k0_g0_6, ks_cv, kx_ms E ht, s_sum]
    · simp (disch := first | assumption | omega | (apply LZ_R; assumption) | (apply LZ_T <;> first | assumption | omega) | (apply LC_F; assumption)) only [e_pu, e_ite, oL_add, oL_addr, oL_mul, nI_add, nI_1, b_pu, b_bd, b_ite, j_L, j_R, j_ite, j_bd, z_ex, ↓reduceIte, if_true, if_false, k8_city h0 hcy, kc_gI, EN_s0 E, show nI ns ≤ nI ns from Int32.le_refl _]
      rfl
  · obtain ⟨h9, e78, e80, e83⟩ := MI_0 h1
    unfold p_X9_imbalance
    have hs0 : ct 0 = nI ns := hc.1.1
    show (z_jn (z_lp _ _) _).1 (KI M1 (z_i M1)) = _
    refine (e_jL (t := s_sum 0 (fun k => s_ms ct st k) ns) (M1 := KI M1 (z_i M1)) ?_).trans ?_
    · refine lp_cnt ns (fun t => (s_sum 0 (fun k => s_ms ct st k) t, nI t)) (fun _ => KI M1 (z_i M1)) _ _ ?_ ?_
      · intro t ht
        have hn : ¬ nI ns ≤ nI t := nI_ge ht (by omega)
        have ht8 : t < 8 := by omega
        simp (disch := first | assumption | omega) only [e_pu, e_ite, oL_add, oL_addr, oL_mul, nI_add, nI_1, b_pu, b_bd, b_ite, j_L, j_R, j_ite, j_bd, z_ex, ↓reduceIte, if_true, if_false, kn_gI, kn_pI, kn_cv, kn_g76, kn_a76, kn_s76, kn_g77, kn_a77, kn_s77, kn_g78, kn_a78, kn_s78, kn_g79, kn_a79, kn_s79, kn_g80, kn_a80, kn_s80, kn_g81, kn_a81, kn_s81, kn_g82, kn_a82, kn_s82, kn_g83, kn_a83, kn_s83, kn_g84, kn_a84, kn_s84, kn_g85, kn_a85, kn_s85, kn_g86, kn_g87, kn_a87, kn_s87, kn_g88, kn_a88, kn_s88, kn_g89, kn_a89, kn_s89, kn_g90, kn_a90, kn_s90, kn_g91, kn_a91, kn_s91, kn_g92, kn_a92, kn_s92, kn_g93, kn_a93, kn_s93, kn_g94, kn_a94, kn_s94, kn_l77_0, kn_t77_0, kn_l77_1, kn_t77_1, kn_l77_2, kn_t77_2, kn_l77_3, kn_t77_3, kn_l77_4, kn_t77_4, kn_l77_5, kn_t77_5, kn_l77_6, kn_t77_6, kn_l77_7, kn_t77_7, kn_l77_8, kn_t77_8, kn_l78_0, kn_t78_0, kn_l78_1, kn_t78_1, kn_l78_2, kn_t78_2, kn_l78_3, kn_t78_3, kn_l78_4, kn_t78_4, kn_l78_5, kn_t78_5, kn_l78_6, kn_t78_6, kn_l78_7, kn_t78_7, kn_l78_8, kn_t78_8, kn_l79_0, kn_t79_0, kn_l82_0, kn_t82_0, kn_l83_0, kn_t83_0, kn_l83_1, kn_t83_1, kn_l83_2, kn_t83_2, kn_l83_3, kn_t83_3, kn_l83_4, kn_t83_4, kn_l83_5, kn_t83_5, kn_l83_204, kn_t83_204, kn_wk, kn_fr, kn_mk, kn_ev, kn_bn, kn_ds, kn_rd, kn_dr, kn_of, kn_of0, kn_of1, kn_of2, kn_of3, kn_of4, kn_of5, kn_of6, kn_near, kn_loads, kn_all, kn_fare, kn_fail, kn_told, g9_wi, g9_at, e78, e83, hs0, hn, s_sum, s_ms]
      · simp (disch := first | assumption | omega) only [e_pu, e_ite, oL_add, oL_addr, oL_mul, nI_add, nI_1, b_pu, b_bd, b_ite, j_L, j_R, j_ite, j_bd, z_ex, ↓reduceIte, if_true, if_false, kn_gI, kn_pI, kn_cv, kn_g76, kn_a76, kn_s76, kn_g77, kn_a77, kn_s77, kn_g78, kn_a78, kn_s78, kn_g79, kn_a79, kn_s79, kn_g80, kn_a80, kn_s80, kn_g81, kn_a81, kn_s81, kn_g82, kn_a82, kn_s82, kn_g83, kn_a83, kn_s83, kn_g84, kn_a84, kn_s84, kn_g85, kn_a85, kn_s85, kn_g86, kn_g87, kn_a87, kn_s87, kn_g88, kn_a88, kn_s88, kn_g89, kn_a89, kn_s89, kn_g90, kn_a90, kn_s90, kn_g91, kn_a91, kn_s91, kn_g92, kn_a92, kn_s92, kn_g93, kn_a93, kn_s93, kn_g94, kn_a94, kn_s94, kn_l77_0, kn_t77_0, kn_l77_1, kn_t77_1, kn_l77_2, kn_t77_2, kn_l77_3, kn_t77_3, kn_l77_4, kn_t77_4, kn_l77_5, kn_t77_5, kn_l77_6, kn_t77_6, kn_l77_7, kn_t77_7, kn_l77_8, kn_t77_8, kn_l78_0, kn_t78_0, kn_l78_1, kn_t78_1, kn_l78_2, kn_t78_2, kn_l78_3, kn_t78_3, kn_l78_4, kn_t78_4, kn_l78_5, kn_t78_5, kn_l78_6, kn_t78_6, kn_l78_7, kn_t78_7, kn_l78_8, kn_t78_8, kn_l79_0, kn_t79_0, kn_l82_0, kn_t82_0, kn_l83_0, kn_t83_0, kn_l83_1, kn_t83_1, kn_l83_2, kn_t83_2, kn_l83_3, kn_t83_3, kn_l83_4, kn_t83_4, kn_l83_5, kn_t83_5, kn_l83_204, kn_t83_204, kn_wk, kn_fr, kn_mk, kn_ev, kn_bn, kn_ds, kn_rd, kn_dr, kn_of, kn_of0, kn_of1, kn_of2, kn_of3, kn_of4, kn_of5, kn_of6, kn_near, kn_loads, kn_all, kn_fare, kn_fail, kn_told, g9_wi, g9_at, e78, hs0, show nI ns ≤ nI ns from Int32.le_refl _]
    · rw [kn_cv h9, kn_told h9]
      rfl
theorem L_c18 (hI : CI k M c sp ct cd ns nt np nc st H S n bf) (hm : MI M ct cd st H S n bf) (hi : i + 6 ≤ L) (hL : L ≤ 3072) : STEP (p_L_c18 xs L 0 75 95 (nI i)) k M i := by
  have hc := CI_c hI
  have hns := hc.1.2.1
  have hnt := hc.1.2.2.2.1
  obtain ⟨h0, hcy, hC, T, d, R, l, hT, hS, hn, hst0, hg, hd⟩ := CI_un hI
  have E := CI_E hI
  have hL41 := E.1.1
  unfold p_L_c18
  refine glue_p hI hm (v := iO (s_bz st 64)) (cres_of hI ?_) (fun M1 h1 => mres_th h1 ?_)
  · unfold p_X8_busiestPair
    show (z_bd (z_gA 8 0 6) _).1 (KI M (z_i M)) = _
    rw [k0_g0_6 h0, ks_cv hL41]
    exact kx_bz hS hn.2 (by have := RS_len hS; omega)
  · obtain ⟨h9, e78, e80, e83⟩ := MI_0 h1
    unfold p_X9_busiestPair
    show (z_jn (z_lp _ _) _).1 (KI M1 (z_i M1)) = _
    refine (e_jL (t := iO (s_bz st 64)) (M1 := KI M1 (z_i M1)) ?_).trans ?_
    · refine lp_cnt 64 (fun p => (iO (s_bz st p), nI p)) (fun _ => KI M1 (z_i M1)) _ _ ?_ ?_
      · intro p hp64
        have hn : ¬ (64 : Int32) ≤ nI p := nI_ge (b := 64) hp64 (by omega)
        by_cases h0 : st (76 + p) = 0
        · simp (disch := first | assumption | omega) only [e_pu, e_ite, oL_add, oL_addr, oL_mul, nI_add, nI_1, b_pu, b_bd, b_ite, j_L, j_R, j_ite, j_bd, z_ex, ↓reduceIte, if_true, if_false, kn_gI, kn_pI, kn_cv, kn_g76, kn_a76, kn_s76, kn_g77, kn_a77, kn_s77, kn_g78, kn_a78, kn_s78, kn_g79, kn_a79, kn_s79, kn_g80, kn_a80, kn_s80, kn_g81, kn_a81, kn_s81, kn_g82, kn_a82, kn_s82, kn_g83, kn_a83, kn_s83, kn_g84, kn_a84, kn_s84, kn_g85, kn_a85, kn_s85, kn_g86, kn_g87, kn_a87, kn_s87, kn_g88, kn_a88, kn_s88, kn_g89, kn_a89, kn_s89, kn_g90, kn_a90, kn_s90, kn_g91, kn_a91, kn_s91, kn_g92, kn_a92, kn_s92, kn_g93, kn_a93, kn_s93, kn_g94, kn_a94, kn_s94, kn_l77_0, kn_t77_0, kn_l77_1, kn_t77_1, kn_l77_2, kn_t77_2, kn_l77_3, kn_t77_3, kn_l77_4, kn_t77_4, kn_l77_5, kn_t77_5, kn_l77_6, kn_t77_6, kn_l77_7, kn_t77_7, kn_l77_8, kn_t77_8, kn_l78_0, kn_t78_0, kn_l78_1, kn_t78_1, kn_l78_2, kn_t78_2, kn_l78_3, kn_t78_3, kn_l78_4, kn_t78_4, kn_l78_5, kn_t78_5, kn_l78_6, kn_t78_6, kn_l78_7, kn_t78_7, kn_l78_8, kn_t78_8, kn_l79_0, kn_t79_0, kn_l82_0, kn_t82_0, kn_l83_0, kn_t83_0, kn_l83_1, kn_t83_1, kn_l83_2, kn_t83_2, kn_l83_3, kn_t83_3, kn_l83_4, kn_t83_4, kn_l83_5, kn_t83_5, kn_l83_204, kn_t83_204, kn_wk, kn_fr, kn_mk, kn_ev, kn_bn, kn_ds, kn_rd, kn_dr, kn_of, kn_of0, kn_of1, kn_of2, kn_of3, kn_of4, kn_of5, kn_of6, kn_near, kn_loads, kn_all, kn_fare, kn_fail, kn_told, g9_wi, g9_at, e83, hn, s_bz, h0]
        · cases hz : s_bz st p with
          | none =>
            have e1 : iO none = -1 := rfl
            simp (disch := first | assumption | omega) only [e_pu, e_ite, oL_add, oL_addr, oL_mul, nI_add, nI_1, b_pu, b_bd, b_ite, j_L, j_R, j_ite, j_bd, z_ex, ↓reduceIte, if_true, if_false, kn_gI, kn_pI, kn_cv, kn_g76, kn_a76, kn_s76, kn_g77, kn_a77, kn_s77, kn_g78, kn_a78, kn_s78, kn_g79, kn_a79, kn_s79, kn_g80, kn_a80, kn_s80, kn_g81, kn_a81, kn_s81, kn_g82, kn_a82, kn_s82, kn_g83, kn_a83, kn_s83, kn_g84, kn_a84, kn_s84, kn_g85, kn_a85, kn_s85, kn_g86, kn_g87, kn_a87, kn_s87, kn_g88, kn_a88, kn_s88, kn_g89, kn_a89, kn_s89, kn_g90, kn_a90, kn_s90, kn_g91, kn_a91, kn_s91, kn_g92, kn_a92, kn_s92, kn_g93, kn_a93, kn_s93, kn_g94, kn_a94, kn_s94, kn_l77_0, kn_t77_0, kn_l77_1, kn_t77_1, kn_l77_2, kn_t77_2, kn_l77_3, kn_t77_3, kn_l77_4, kn_t77_4, kn_l77_5, kn_t77_5, kn_l77_6, kn_t77_6, kn_l77_7, kn_t77_7, kn_l77_8, kn_t77_8, kn_l78_0, kn_t78_0, kn_l78_1, kn_t78_1, kn_l78_2, kn_t78_2, kn_l78_3, kn_t78_3, kn_l78_4, kn_t78_4, kn_l78_5, kn_t78_5, kn_l78_6, kn_t78_6, kn_l78_7, kn_t78_7, kn_l78_8, kn_t78_8, kn_l79_0, kn_t79_0, kn_l82_0, kn_t82_0, kn_l83_0, kn_t83_0, kn_l83_1, kn_t83_1, kn_l83_2, kn_t83_2, kn_l83_3, kn_t83_3, kn_l83_4, kn_t83_4, kn_l83_5, kn_t83_5, kn_l83_204, kn_t83_204, kn_wk, kn_fr, kn_mk, kn_ev, kn_bn, kn_ds, kn_rd, kn_dr, kn_of, kn_of0, kn_of1, kn_of2, kn_of3, kn_of4, kn_of5, kn_of6, kn_near, kn_loads, kn_all, kn_fare, kn_fail, kn_told, g9_wi, g9_at, e83, hn, s_bz, h0, hz, e1, show (-1 : Int32) < 0 by decide, show ¬ (1 : Int32) = 0 by decide]
            rfl
          | some q =>
            obtain ⟨hq, hq0⟩ := s_bz_lt st p q hz
            have e1 : iO (some q) = nI q := rfl
            have e2 : ¬ nI q < 0 := nI_pos (by omega)
            have hq64 : q < 64 := by omega
            have h76 : 76 + q < 3277 := by omega
            by_cases c1 : st (76 + q) < st (76 + p)
            · have c1' : ¬ st (76 + p) ≤ st (76 + q) := fun h => by rw [i_le] at h; rw [i_lt] at c1; omega
              simp (disch := first | assumption | omega) only [e_pu, e_ite, oL_add, oL_addr, oL_mul, nI_add, nI_1, b_pu, b_bd, b_ite, j_L, j_R, j_ite, j_bd, z_ex, ↓reduceIte, if_true, if_false, kn_gI, kn_pI, kn_cv, kn_g76, kn_a76, kn_s76, kn_g77, kn_a77, kn_s77, kn_g78, kn_a78, kn_s78, kn_g79, kn_a79, kn_s79, kn_g80, kn_a80, kn_s80, kn_g81, kn_a81, kn_s81, kn_g82, kn_a82, kn_s82, kn_g83, kn_a83, kn_s83, kn_g84, kn_a84, kn_s84, kn_g85, kn_a85, kn_s85, kn_g86, kn_g87, kn_a87, kn_s87, kn_g88, kn_a88, kn_s88, kn_g89, kn_a89, kn_s89, kn_g90, kn_a90, kn_s90, kn_g91, kn_a91, kn_s91, kn_g92, kn_a92, kn_s92, kn_g93, kn_a93, kn_s93, kn_g94, kn_a94, kn_s94, kn_l77_0, kn_t77_0, kn_l77_1, kn_t77_1, kn_l77_2, kn_t77_2, kn_l77_3, kn_t77_3, kn_l77_4, kn_t77_4, kn_l77_5, kn_t77_5, kn_l77_6, kn_t77_6, kn_l77_7, kn_t77_7, kn_l77_8, kn_t77_8, kn_l78_0, kn_t78_0, kn_l78_1, kn_t78_1, kn_l78_2, kn_t78_2, kn_l78_3, kn_t78_3, kn_l78_4, kn_t78_4, kn_l78_5, kn_t78_5, kn_l78_6, kn_t78_6, kn_l78_7, kn_t78_7, kn_l78_8, kn_t78_8, kn_l79_0, kn_t79_0, kn_l82_0, kn_t82_0, kn_l83_0, kn_t83_0, kn_l83_1, kn_t83_1, kn_l83_2, kn_t83_2, kn_l83_3, kn_t83_3, kn_l83_4, kn_t83_4, kn_l83_5, kn_t83_5, kn_l83_204, kn_t83_204, kn_wk, kn_fr, kn_mk, kn_ev, kn_bn, kn_ds, kn_rd, kn_dr, kn_of, kn_of0, kn_of1, kn_of2, kn_of3, kn_of4, kn_of5, kn_of6, kn_near, kn_loads, kn_all, kn_fare, kn_fail, kn_told, g9_wi, g9_at, e83, hn, s_bz, h0, hz, e1, e2, c1', if_pos c1, show ¬ (1 : Int32) = 0 by decide]
              rfl
            · have c1' : st (76 + p) ≤ st (76 + q) := by rw [i_lt] at c1; rw [i_le]; omega
              by_cases c2 : st (76 + p) = st (76 + q)
              · by_cases c3 : st (140 + q) ≤ st (140 + p)
                · simp (disch := first | assumption | omega) only [e_pu, e_ite, oL_add, oL_addr, oL_mul, nI_add, nI_1, b_pu, b_bd, b_ite, j_L, j_R, j_ite, j_bd, z_ex, ↓reduceIte, if_true, if_false, kn_gI, kn_pI, kn_cv, kn_g76, kn_a76, kn_s76, kn_g77, kn_a77, kn_s77, kn_g78, kn_a78, kn_s78, kn_g79, kn_a79, kn_s79, kn_g80, kn_a80, kn_s80, kn_g81, kn_a81, kn_s81, kn_g82, kn_a82, kn_s82, kn_g83, kn_a83, kn_s83, kn_g84, kn_a84, kn_s84, kn_g85, kn_a85, kn_s85, kn_g86, kn_g87, kn_a87, kn_s87, kn_g88, kn_a88, kn_s88, kn_g89, kn_a89, kn_s89, kn_g90, kn_a90, kn_s90, kn_g91, kn_a91, kn_s91, kn_g92, kn_a92, kn_s92, kn_g93, kn_a93, kn_s93, kn_g94, kn_a94, kn_s94, kn_l77_0, kn_t77_0, kn_l77_1, kn_t77_1, kn_l77_2, kn_t77_2, kn_l77_3, kn_t77_3, kn_l77_4, kn_t77_4, kn_l77_5, kn_t77_5, kn_l77_6, kn_t77_6, kn_l77_7, kn_t77_7, kn_l77_8, kn_t77_8, kn_l78_0, kn_t78_0, kn_l78_1, kn_t78_1, kn_l78_2, kn_t78_2, kn_l78_3, kn_t78_3, kn_l78_4, kn_t78_4, kn_l78_5, kn_t78_5, kn_l78_6, kn_t78_6, kn_l78_7, kn_t78_7, kn_l78_8, kn_t78_8, kn_l79_0, kn_t79_0, kn_l82_0, kn_t82_0, kn_l83_0, kn_t83_0, kn_l83_1, kn_t83_1, kn_l83_2, kn_t83_2, kn_l83_3, kn_t83_3, kn_l83_4, kn_t83_4, kn_l83_5, kn_t83_5, kn_l83_204, kn_t83_204, kn_wk, kn_fr, kn_mk, kn_ev, kn_bn, kn_ds, kn_rd, kn_dr, kn_of, kn_of0, kn_of1, kn_of2, kn_of3, kn_of4, kn_of5, kn_of6, kn_near, kn_loads, kn_all, kn_fare, kn_fail, kn_told, g9_wi, g9_at, e83, hn, s_bz, h0, hz, e1, e2, if_pos c1', if_neg c1, if_pos c2, if_pos c3]
                · simp (disch := first | assumption | omega) only [e_pu, e_ite, oL_add, oL_addr, oL_mul, nI_add, nI_1, b_pu, b_bd, b_ite, j_L, j_R, j_ite, j_bd, z_ex, ↓reduceIte, if_true, if_false, kn_gI, kn_pI, kn_cv, kn_g76, kn_a76, kn_s76, kn_g77, kn_a77, kn_s77, kn_g78, kn_a78, kn_s78, kn_g79, kn_a79, kn_s79, kn_g80, kn_a80, kn_s80, kn_g81, kn_a81, kn_s81, kn_g82, kn_a82, kn_s82, kn_g83, kn_a83, kn_s83, kn_g84, kn_a84, kn_s84, kn_g85, kn_a85, kn_s85, kn_g86, kn_g87, kn_a87, kn_s87, kn_g88, kn_a88, kn_s88, kn_g89, kn_a89, kn_s89, kn_g90, kn_a90, kn_s90, kn_g91, kn_a91, kn_s91, kn_g92, kn_a92, kn_s92, kn_g93, kn_a93, kn_s93, kn_g94, kn_a94, kn_s94, kn_l77_0, kn_t77_0, kn_l77_1, kn_t77_1, kn_l77_2, kn_t77_2, kn_l77_3, kn_t77_3, kn_l77_4, kn_t77_4, kn_l77_5, kn_t77_5, kn_l77_6, kn_t77_6, kn_l77_7, kn_t77_7, kn_l77_8, kn_t77_8, kn_l78_0, kn_t78_0, kn_l78_1, kn_t78_1, kn_l78_2, kn_t78_2, kn_l78_3, kn_t78_3, kn_l78_4, kn_t78_4, kn_l78_5, kn_t78_5, kn_l78_6, kn_t78_6, kn_l78_7, kn_t78_7, kn_l78_8, kn_t78_8, kn_l79_0, kn_t79_0, kn_l82_0, kn_t82_0, kn_l83_0, kn_t83_0, kn_l83_1, kn_t83_1, kn_l83_2, kn_t83_2, kn_l83_3, kn_t83_3, kn_l83_4, kn_t83_4, kn_l83_5, kn_t83_5, kn_l83_204, kn_t83_204, kn_wk, kn_fr, kn_mk, kn_ev, kn_bn, kn_ds, kn_rd, kn_dr, kn_of, kn_of0, kn_of1, kn_of2, kn_of3, kn_of4, kn_of5, kn_of6, kn_near, kn_loads, kn_all, kn_fare, kn_fail, kn_told, g9_wi, g9_at, e83, hn, s_bz, h0, hz, e1, e2, if_pos c1', if_neg c1, if_pos c2, if_neg c3]
                  rfl
              · simp (disch := first | assumption | omega) only [e_pu, e_ite, oL_add, oL_addr, oL_mul, nI_add, nI_1, b_pu, b_bd, b_ite, j_L, j_R, j_ite, j_bd, z_ex, ↓reduceIte, if_true, if_false, kn_gI, kn_pI, kn_cv, kn_g76, kn_a76, kn_s76, kn_g77, kn_a77, kn_s77, kn_g78, kn_a78, kn_s78, kn_g79, kn_a79, kn_s79, kn_g80, kn_a80, kn_s80, kn_g81, kn_a81, kn_s81, kn_g82, kn_a82, kn_s82, kn_g83, kn_a83, kn_s83, kn_g84, kn_a84, kn_s84, kn_g85, kn_a85, kn_s85, kn_g86, kn_g87, kn_a87, kn_s87, kn_g88, kn_a88, kn_s88, kn_g89, kn_a89, kn_s89, kn_g90, kn_a90, kn_s90, kn_g91, kn_a91, kn_s91, kn_g92, kn_a92, kn_s92, kn_g93, kn_a93, kn_s93, kn_g94, kn_a94, kn_s94, kn_l77_0, kn_t77_0, kn_l77_1, kn_t77_1, kn_l77_2, kn_t77_2, kn_l77_3, kn_t77_3, kn_l77_4, kn_t77_4, kn_l77_5, kn_t77_5, kn_l77_6, kn_t77_6, kn_l77_7, kn_t77_7, kn_l77_8, kn_t77_8, kn_l78_0, kn_t78_0, kn_l78_1, kn_t78_1, kn_l78_2, kn_t78_2, kn_l78_3, kn_t78_3, kn_l78_4, kn_t78_4, kn_l78_5, kn_t78_5, kn_l78_6, kn_t78_6, kn_l78_7, kn_t78_7, kn_l78_8, kn_t78_8, kn_l79_0, kn_t79_0, kn_l82_0, kn_t82_0, kn_l83_0, kn_t83_0, kn_l83_1, kn_t83_1, kn_l83_2, kn_t83_2, kn_l83_3, kn_t83_3, kn_l83_4, kn_t83_4, kn_l83_5, kn_t83_5, kn_l83_204, kn_t83_204, kn_wk, kn_fr, kn_mk, kn_ev, kn_bn, kn_ds, kn_rd, kn_dr, kn_of, kn_of0, kn_of1, kn_of2, kn_of3, kn_of4, kn_of5, kn_of6, kn_near, kn_loads, kn_all, kn_fare, kn_fail, kn_told, g9_wi, g9_at, e83, hn, s_bz, h0, hz, e1, e2, if_pos c1', if_neg c1, if_neg c2]
      · rfl
    · rw [kn_cv h9, kn_told h9]
      rfl
end PA14
