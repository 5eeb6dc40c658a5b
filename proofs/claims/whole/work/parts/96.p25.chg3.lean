/-! ===== PHASE 2: pass, rent, dispatch ===== -/
section PA25
variable {β : Type} {M : zM} {F : Nat → Nat → Int32} {ct cd st bf : Nat → Int32} {i j k q c sp n ns nt np nc L : Nat} {H : List (Nat → Int32)} {S : Nat → Option (Nat → Int32)} {v w x y code : Int32} {xs : Nat → Int32} {f : Unit → zP β}
variable {M1 : zM} {G : Nat → Nat → Int32} {st' : Nat → Int32} {a b d kk t T : Nat} {R : List zRd} {l : List Nat}
theorem rg_num2 {lo hi : Nat} (hh : hi < 10000 ∧ lo ≤ hi) (h : ¬ (x < nI lo ∨ nI hi < x)) : ∃ m, lo ≤ m ∧ m ≤ hi ∧ x = nI m := by
  have h1 : ¬ x < nI lo := fun q => h (Or.inl q)
  have h2 : ¬ nI hi < x := fun q => h (Or.inr q)
  have h0 : ¬ x < 0 := fun q => h1 (by
    rw [i_lt] at q ⊢
    rw [nI_toInt (by omega)]
    have : (0 : Int32).toInt = 0 := rfl
    omega)
  obtain ⟨m, hm, e⟩ := nI_of h0
  subst e
  rw [nI_ltI (by omega) (by omega)] at h1 h2
  exact ⟨m, by omega, by omega, rfl⟩
theorem kt_add {f : Unit → zP β} (h : LT b M) (e2 : F b 2 = nI q) (hq : q < 6) : (z_bd (p_X7_addOrder b x y) f).1 (KI M F) = (f ()).1 (KI M (z_up2 (z_up2 (z_up2 F (b + 1) q x) (b + 2) q y) b 2 (nI (q + 1)))) := by
  have h6 : ¬ (6 : Int32) ≤ nI q := nI_ge (b := 6) hq (by decide)
  have e3 : ∀ v, z_up2 F (b + 1) q v b 2 = nI q := fun v => by rw [u2_n _ _ (by omega)]; exact e2
  have e4 : ∀ v w, z_up2 (z_up2 F (b + 1) q v) (b + 2) q w b 2 = nI q := fun v w => by rw [u2_n _ _ (by omega)]; exact e3 v
  unfold p_X7_addOrder
  simp (disch := first | assumption | omega | (apply LZ_R; assumption) | (apply LZ_T <;> first | assumption | omega) | (apply LC_F; assumption)) only [e_pu, e_ite, oL_add, oL_addr, oL_mul, nI_add, nI_1, b_pu, b_bd, b_ite, j_L, j_R, j_ite, j_bd, z_ex, ↓reduceIte, if_true, if_false, kt_gI, kt_pI, kt_cv, kt_g0, kt_g1, kt_a1, kt_s1, kt_n1, kt_z1, kt_a2, kt_s2, kt_n2, kt_z2, kr_gI, kr_pI, kr_cv, kr_g0, kr_a1, kr_s1, kr_n1, kr_z1, kf_gI, kf_pI, kf_cv, kf_g0, kf_g1, kf_a1, kf_s1, kf_n1, kf_z1, kf_a2, kf_s2, kf_n2, kf_z2, kc_gI, kc_pI, kc_cv, kc_g0, kc_g1, kc_g2, kc_g3, kc_g4, kc_g5, kc_g6, kc_g7, kc_g8, kc_g9, kc_a1, kc_s1, kc_n1, kc_z1, kc_a2, kc_s2, kc_n2, kc_z2, kc_a3, kc_s3, kc_n3, kc_z3, kc_a4, kc_s4, kc_n4, kc_z4, kc_a5, kc_s5, kc_n5, kc_z5, kc_a6, kc_s6, kc_n6, kc_z6, kc_a7, kc_s7, kc_n7, kc_z7, kc_a8, kc_s8, kc_n8, kc_z8, kc_a9, kc_s9, kc_n9, kc_z9, ks_gI, ks_pI, ks_cv, ks_g0, ks_g1, ks_g2, ks_g3, ks_g4, ks_g5, ks_a1, ks_s1, ks_n1, ks_z1, ks_a2, ks_s2, ks_n2, ks_z2, ks_a3, ks_s3, ks_n3, ks_z3, ks_a4, ks_s4, ks_n4, ks_z4, ks_tr, e2, h6, e3, e4]
theorem AV_go (h : AV M F a c ct cd st ns nt np nc kk T) (ht : t < nt) (hK : RK F (a + 8 + 3 * t) ct st ns t q) (hT : T < 12000) : ∃ F' q', (p_X5_goOn a (a + 8 + 3 * t)).1 (KI M F) = some (.inr (), KI M F') ∧ AV M F' a c ct cd (s_go ct t q st) ns nt np nc kk T ∧ RK F' (a + 8 + 3 * t) ct (s_go ct t q st) ns t q' ∧ fr5 a c F F' := by
  have hc := (AV_c h).1
  obtain ⟨d, R, l, hS, hn, hst, hg, hd⟩ := h
  have E := hS.1
  have hdis := E.1.2.2.2
  have hnt := hc.1.2.2.2.1
  have hns := hc.1.2.1
  have ho : ∀ j, (j < 6 ∨ (14 ≤ j ∧ (j < 22 + 18 * t ∨ 22 + 18 * t + 18 ≤ j))) → s_go ct t q st j = st j := fun j hj => s_go_o hns hj q st hK.1
  obtain ⟨F', q', g1, g2, g3, g4⟩ := kx_go (by omega) rfl (LZ_T E.1.1 (by omega)) (dr_ok hc) E ⟨T, hT, hst⟩ hK
  refine ⟨F', q', g1, ⟨d, R, l, RS_re hS g2 (fun t' ht' => ?_) (fun k _ _ => by rw [g4 _ (by omega) (by omega) (by omega) (by omega)]) (fun y hy => g4 y (by omega) (by omega) (by omega) (by omega)) (fun j hj => ho j (by omega)), ⟨n_ok_go hns hnt ht q st hK.1 hn.1, p_ok_fr hn.2 (fun j _ _ => ho j (by omega))⟩, (ho 0 (by omega)).trans hst, hg, hd⟩, g3, fun y y1 y2 => g4 y (by omega) (by omega) (by omega) (by omega)⟩
  by_cases e : t' = t
  · subst e; exact ⟨q', g3⟩
  · obtain ⟨q2, hq⟩ := hS.2.2.2.1 t' ht'
    exact ⟨q2, RK_fr hq (g4 _ (by omega) (by omega) (by omega) (by omega)) (g4 _ (by omega) (by omega) (by omega) (by omega)) (g4 _ (by omega) (by omega) (by omega) (by omega)) (fun i hi => ho _ (by omega))⟩
theorem L_c25 (hI : CI k M c sp ct cd ns nt np nc st H S n bf) (hm : MI M ct cd st H S n bf) (hi : i + 6 ≤ L) (hL : L ≤ 3072) (hk : k ≤ 511) : STEP (p_L_c25 xs L 0 75 95 (nI i)) k M i := by
  have hc := CI_c hI
  have hns := hc.1.2.1
  have hnt := hc.1.2.2.2.1
  obtain ⟨h0, hcy, hC, T, d, R, l, hT, hS, hn, hst0, hg, hd⟩ := CI_un hI
  have E := CI_E hI
  have hL41 := E.1.1
  unfold p_L_c25 p_L_pass
  rw [show nI i + 1 = nI (i + 1) from oL_addr 1 i]
  simp only [z_xs_ok (xs := xs) (show i + 1 < L by omega) hL, b_pu]
  have hl10 : H.length ≤ 10 := by obtain ⟨_, _, ⟨_, _, h2, _⟩, _⟩ := hI; exact h2
  by_cases hb2 : xs (i + 1) < 1 ∨ (1440 : Int32) < xs (i + 1)
  · refine glue_t hI hm (E := "java/lang/IllegalArgumentException") ?_ (by rw [if_pos rfl]) (show ¬ (1 : Int32) = 0 by decide) (fun M1 h1 => mres_th2 (w := 0) h1 (v := 0) ?_)
    · unfold p_X8_pass
      exact c_rgb hb2
    · obtain ⟨h9, e78, e80, e83⟩ := MI_0 h1
      unfold p_X9_pass
      show (z_bd (z_pI 9 75 0 0) _).1 (KI M1 (z_i M1)) = _
      rw [kn_pI h9, g9_wi, wr_bad hb2, if_pos rfl, kn_cv h9, kn_fail h9]
      rfl
  obtain ⟨m, hm0, hm14, e2⟩ := rg_num2 (lo := 1) (hi := 1440) (by omega) hb2
  rw [e2]
  have hr1 : ¬ nI m < (1 : Int32) := nI_nlt (b := 1) hm0 (by omega)
  have hr2 : nI m ≤ (1440 : Int32) := nI_le (b := 1440) hm14 (by omega)
  have hr3 : ¬ (1440 : Int32) < nI m := nI_nlt (a := 1440) hm14 (by omega)
  have e7 : z_i M 41 7 = nI T := E.2.2.2.trans hst0
  have hadd : nI T + nI m = nI (T + m) := nI_add _ _
  by_cases hTm : T + m ≤ 9999
  case neg =>
    have hc9 : ¬ nI (T + m) ≤ (9999 : Int32) := nI_ge (a := 9999) (by omega) (by omega)
    refine glue_t hI hm (E := "java/lang/IllegalStateException") ?_ (by rw [if_neg (by decide), if_pos rfl]) (show ¬ (2 : Int32) = 0 by decide) (fun M1 h1 => mres_th2 (w := 0) h1 (v := 0) ?_)
    · unfold p_X8_pass
      rw [c_rg hr1 hr2]
      show (z_bd (z_gA 8 0 6) _).1 (KI M (z_i M)) = some (.inl "java/lang/IllegalStateException", z_mk (KI M (z_i M)) 99 0 6)
      rw [k0_g0_6 h0, ks_gI hL41, e7, hadd, if_neg hc9]
      rfl
    · obtain ⟨h9, e78, e80, e83⟩ := MI_0 h1
      unfold p_X9_pass
      show (z_bd (z_pI 9 75 0 0) _).1 (KI M1 (z_i M1)) = _
      rw [kn_pI h9, g9_wi, wr_ok hr1 hr3, if_neg (by decide), kn_g83 h9, kn_l83_0 h9, F0_83, e83, hst0, hadd, if_neg hc9, kn_cv h9, kn_fail h9]
      rfl
  have hc9 : nI (T + m) ≤ (9999 : Int32) := nI_le (b := 9999) (by omega) (by omega)
  obtain ⟨M1, q1, r1, r2, r3, r4, r5⟩ := c_rem hI
  obtain ⟨h01, hcy1, hC1, T1, d1, R1, l1, hT1, hS1, hn1, hst1, hg1, hd1⟩ := CI_un r1
  have E1 := CI_E r1
  have hL1 := E1.1.1
  have hA1 : AV M1 (z_i M1) 41 c ct cd st ns nt np nc (k + 1) T1 := ⟨d1, R1, l1, hS1, hn1, hst1, hg1, by omega⟩
  have hTT : T1 = T := (nI_eq (by omega) (by omega)).mp (hst1.symm.trans hst0)
  subst hTT
  obtain ⟨G, k2, A2, f2⟩ := kx_adv (β := Int32) (f := fun r8 => z_pu r8) hA1 (by omega) (m := m) (by omega)
  refine glue_r hI hm (v := s_en ct cd ns nt np nc m st) (cres_chg r1 r2 r3 r4 r5 ?_ A2 hTm f2) (fun M2 h2 => mres_chg h2 hl10 (fun F2 m1 m2 => ?_))
  · unfold p_X8_pass
    rw [c_rg hr1 hr2]
    show (z_bd (z_gA 8 0 6) _).1 (KI M (z_i M)) = _
    rw [k0_g0_6 h0, ks_gI hL41, e7, hadd, if_pos hc9, k0_g0_2 h0, k0_g0_6 h0, k0_cv4 h0]
    refine (e_run q1).trans ?_
    show (z_bd (z_gA 8 0 6) _).1 (KI M1 (z_i M1)) = _
    rw [k0_g0_6 h01, ks_cv hL1]
    exact k2
  · obtain ⟨h9, e78, e80, e83⟩ := MI_0 h2
    have f78 : F2 78 = ct := m1.2.1.1
    have f80 : F2 80 = cd := m1.2.1.2.1
    have f83 : F2 83 = st := m1.2.1.2.2
    have hPV : ∀ i, i < m → PV (s_its ct cd ns nt np nc i st) ns nt (T1 + i) := fun i hi => by
      obtain ⟨G, hG⟩ := AV_its (by omega) i _ _ T1 hA1 (by omega)
      exact AV_PV hG
    obtain ⟨g', hfl⟩ := kk_passL (M := KI M2 F2) (n := m) (np := np) (nc := nc) (ns := ns) (nt := nt) h9 (by show c_ok (F2 78) (F2 80) _ _ _ _; rw [f78, f80]; exact hc) (by omega) m (F2 82) st T1 0 0 (by omega) (by show ∀ i, i < m → PV (s_its (F2 78) (F2 80) ns nt np nc i st) ns nt (T1 + i); rw [f78, f80]; exact hPV) (by omega)
    refine ⟨z_up1 (z_up1 F2 82 g') 83 (s_its ct cd ns nt np nc m st), ?_, fun y y1 y2 => by rw [u1_n _ _ y2, u1_n _ _ y1], u1_s _ _ _⟩
    unfold p_X9_pass
    show (z_bd (z_pI 9 75 0 0) _).1 (KI M2 (z_i M2)) = _
    rw [kn_pI h9, g9_wi, wr_ok hr1 hr3, if_neg (by decide), kn_g83 h9, kn_l83_0 h9, F0_83, e83, hst0, hadd, if_pos hc9, kn_cv h9]
    refine (e_run m2).trans ?_
    have e1 : KI M2 F2 = K9 (KI M2 F2) (F2 82) st := by rw [← f83]; exact KI_K9
    rw [e1]
    refine hfl.trans ?_
    rw [K9_KI]
    show some (Sum.inr (0 + s_en (F2 78) (F2 80) ns nt np nc m st), KI M2 (z_up1 (z_up1 F2 82 g') 83 (s_its (F2 78) (F2 80) ns nt np nc m st))) = _
    rw [f78, f80, Int32.zero_add]
theorem L_c26 (hI : CI k M c sp ct cd ns nt np nc st H S n bf) (hm : MI M ct cd st H S n bf) (hi : i + 6 ≤ L) (hL : L ≤ 3072) (hk : k ≤ 511) : STEP (p_L_c26 xs L 0 75 95 (nI i)) k M i := by
  have hc := CI_c hI
  have hns := hc.1.2.1
  have hnt := hc.1.2.2.2.1
  obtain ⟨h0, hcy, hC, T, d, R, l, hT, hS, hn, hst0, hg, hd⟩ := CI_un hI
  have E := CI_E hI
  have hL41 := E.1.1
  unfold p_L_c26 p_L_rent
  rw [show nI i + 1 = nI (i + 1) from oL_addr 1 i, show nI i + 2 = nI (i + 2) from oL_addr 2 i]
  simp only [z_xs_ok (xs := xs) (show i + 1 < L by omega) hL, z_xs_ok (xs := xs) (show i + 2 < L by omega) hL, b_pu]
  have hl10 : H.length ≤ 10 := by obtain ⟨_, _, ⟨_, _, h2, _⟩, _⟩ := hI; exact h2
  rcases pk_ix (xs (i + 1)) (n := ns) (by omega) with h | h | ⟨j, hj, e⟩
  · exact glue_t hI hm (c_stb hI (Or.inl h)) (if_pos rfl) (by decide) (fun M1 h1 => m_ssb h1 hc (Or.inl (Or.inl h)))
  · exact glue_t hI hm (c_stb hI (Or.inr h)) (if_pos rfl) (by decide) (fun M1 h1 => m_ssb h1 hc (Or.inl (Or.inr h)))
  rw [e]
  have hj8 : j < 8 := by omega
  rcases pk_ix (xs (i + 2)) (n := ns) (by omega) with h | h | ⟨q, hq, e2⟩
  · exact glue_t hI hm ((c_st hI hj).trans (c_stb hI (Or.inl h))) (if_pos rfl) (by decide) (fun M1 h1 => m_ssb h1 hc (Or.inr (Or.inl h)))
  · exact glue_t hI hm ((c_st hI hj).trans (c_stb hI (Or.inr h))) (if_pos rfl) (by decide) (fun M1 h1 => m_ssb h1 hc (Or.inr (Or.inr h)))
  rw [e2]
  have hq8 : q < 8 := by omega
  have hW := s_W_le (T := T) hc (by omega)
  have hcan := fun f : Int32 → zP Int32 => kx_can (f := f) E hn.1 hS.2.1.2.2.1 hS.2.2.2.2.1.2.2.1 (by omega) hj
  by_cases h0c : st (6 + j) = 0
  · refine glue_t hI hm (E := "java/lang/IllegalStateException") ?_ (by rw [if_neg (by decide), if_pos rfl]) (show ¬ (2 : Int32) = 0 by decide) (fun M1 h1 => mres_th2 (w := 0) h1 (v := 0) ?_)
    · unfold p_X8_rent
      rw [c_st hI hj, c_st hI hq]
      show (z_bd (z_gA 8 0 6) _).1 (KI M (z_i M)) = some (.inl "java/lang/IllegalStateException", z_mk (KI M (z_i M)) 99 0 6)
      rw [k0_g0_6 h0, ks_cv hL41, hcan, if_pos h0c, if_pos rfl]
      rfl
    · obtain ⟨h9, e78, e80, e83⟩ := MI_0 h1
      unfold p_X9_rent
      rw [m_ss h1 hc hj hq, kn_g83 h9, show (6 : Int32) + nI j = nI (6 + j) from oL_add 6 j, kn_a83 h9 (by omega), F0_83, e83, if_pos h0c, kn_cv h9, kn_fail h9]
      rfl
  obtain ⟨M1, q1, r1, r2, r3, r4, r5⟩ := c_rem hI
  obtain ⟨h01, hcy1, hC1, T1, d1, R1, l1, hT1, hS1, hn1, hst1, hg1, hd1⟩ := CI_un r1
  have E1 := CI_E r1
  have hL1 := E1.1.1
  have hA1 : AV M1 (z_i M1) 41 c ct cd st ns nt np nc (k + 1) T1 := ⟨d1, R1, l1, hS1, hn1, hst1, hg1, by omega⟩
  have hTT : T1 = T := (nI_eq (by omega) (by omega)).mp (hst1.symm.trans hst0)
  subst hTT
  obtain ⟨u, hu0, hu1, eu⟩ := rd_ok hc j q hj hq
  have hlen1 := RS_len hS1
  obtain ⟨F3, l3, s1, s2, s3⟩ := kx_start (β := Int32) (f := fun _ => (z_bd (z_gA 8 0 6) (fun v10 => (z_bd (z_gI 5 v10 7) (fun v11 => (z_bd (z_gA 8 0 9) (fun v12 => (z_bd (z_cv 0 v12 (p_X0_riderMinutes v12 (nI j) (nI q))) (fun r13 => (z_pu (v11 + r13))))))))))) hS1 hj hq (by omega) (by omega) (A := T1 + u) (by rw [hst1, eu, nI_add]) (by omega)
  have hA2 : AV M1 F3 41 c ct cd (s_beg ct cd st nc R1.length j q) ns nt np nc (k + 1) T1 := by
    refine ⟨d1 + 1, _, l3, s2, ⟨n_ok_beg hn.1 hns hnt hj hq h0c, p_ok_beg hn1.2 hS1.2.2.2.2.1.2.2.1 (by omega) hj8 hq8⟩, (s_beg_o (by omega)).trans hst1, fun x hx => ?_, by omega⟩
    rcases List.mem_append.mp hx with h | h
    · exact hg1 x h
    · rw [List.mem_singleton] at h
      subst h
      show T1 < T1 + u
      omega
  refine glue_r hI hm (v := st 0 + s_rd ct j q) (cres_chg r1 r2 r3 r4 r5 ?_ hA2 hT1 s3) (fun M2 h2 => mres_chg h2 hl10 (fun F2 m1 m2 => ?_))
  · unfold p_X8_rent
    rw [c_st hI hj, c_st hI hq]
    show (z_bd (z_gA 8 0 6) _).1 (KI M (z_i M)) = _
    rw [k0_g0_6 h0, ks_cv hL41, hcan, if_neg h0c, if_neg (by decide), k0_g0_2 h0, k0_g0_6 h0, k0_cv4 h0]
    refine (e_run q1).trans ?_
    show (z_bd (z_gA 8 0 6) _).1 (KI M1 (z_i M1)) = _
    rw [k0_g0_6 h01, ks_cv hL1]
    refine s1.trans ?_
    have E3 := s2.1
    have e7 : F3 41 7 = st 0 := E3.2.2.2.trans (s_beg_o (by omega))
    rw [k0_g0_6 h01, ks_gI hL1, e7, k8_city h01 hcy1, kc_cv hC1]
    exact kx_rd E3 hj hq
  · obtain ⟨h9, e78, e80, e83⟩ := MI_0 h2
    have f78 : F2 78 = ct := m1.2.1.1
    have f80 : F2 80 = cd := m1.2.1.2.1
    have f83 : F2 83 = st := m1.2.1.2.2
    have hbg := kk_beg (M := KI M2 F2) (g := F2 82) (st := st) (f := fun r => (z_pu r : zP Int32)) (n := nc) (j := j) (k := q) (r := R1.length) h9 (by show F2 78 8 = _; rw [f78]; exact hc.2.1.1) hc.2.1.2.1 hc.2.1.2.2.1 (by show s_cw (F2 80) nc; rw [f80]; exact hc.2.1.2.2.2) hj8 hq8 hS1.2.2.2.2.1.2.1 (by omega)
    refine ⟨z_up1 (z_up1 F2 82 (s_fa cd (s_val ct st j q) (F2 82) nc)) 83 (s_beg ct cd st nc R1.length j q), ?_, fun y y1 y2 => by rw [u1_n _ _ y2, u1_n _ _ y1], u1_s _ _ _⟩
    unfold p_X9_rent
    rw [m_ss h2 hc hj hq, kn_g83 h9, show (6 : Int32) + nI j = nI (6 + j) from oL_add 6 j, kn_a83 h9 (by omega), F0_83, e83, if_neg h0c, kn_cv h9]
    refine (e_run m2).trans ?_
    rw [kn_cv h9]
    have e1 : KI M2 F2 = K9 (KI M2 F2) (F2 82) st := by rw [← f83]; exact KI_K9
    rw [e1]
    refine hbg.trans ?_
    rw [K9_KI]
    show some (Sum.inr (st 0 + s_rd (F2 78) j q), KI M2 (z_up1 (z_up1 F2 82 (s_fa (F2 80) (s_val (F2 78) st j q) (F2 82) nc)) 83 (s_beg (F2 78) (F2 80) st nc R1.length j q))) = _
    rw [f78, f80]
theorem L_c27 (hI : CI k M c sp ct cd ns nt np nc st H S n bf) (hm : MI M ct cd st H S n bf) (hi : i + 6 ≤ L) (hL : L ≤ 3072) (hk : k ≤ 511) : STEP (p_L_c27 xs L 0 75 95 (nI i)) k M i := by
  have hc := CI_c hI
  have hns := hc.1.2.1
  have hnt := hc.1.2.2.2.1
  obtain ⟨h0, hcy, hC, T, d, R, l, hT, hS, hn, hst0, hg, hd⟩ := CI_un hI
  have E := CI_E hI
  have hL41 := E.1.1
  unfold p_L_c27 p_L_dispatch
  rw [show nI i + 1 = nI (i + 1) from oL_addr 1 i, show nI i + 2 = nI (i + 2) from oL_addr 2 i, show nI i + 3 = nI (i + 3) from oL_addr 3 i]
  simp only [z_xs_ok (xs := xs) (show i + 1 < L by omega) hL, z_xs_ok (xs := xs) (show i + 2 < L by omega) hL, z_xs_ok (xs := xs) (show i + 3 < L by omega) hL, b_pu]
  have hl10 : H.length ≤ 10 := by obtain ⟨_, _, ⟨_, _, h2, _⟩, _⟩ := hI; exact h2
  have hs0' : ∀ M1, MI M1 ct cd st H S n bf → z_up2 (z_i M1) 75 0 0 78 0 = nI ns := fun M1 h1 => by rw [F0_78, h1.2.1.1]; exact hc.1.1
  have hs1' : ∀ M1, MI M1 ct cd st H S n bf → z_up2 (z_i M1) 75 0 0 78 1 = nI nt := fun M1 h1 => by rw [F0_78, h1.2.1.1]; exact hc.1.2.2.1
  have hb1 : (xs (i + 1) < 0 ∨ nI nt ≤ xs (i + 1)) → STEP (z_bd (z_ct (z_cv 8 0 (p_X8_dispatch 0 (xs (i + 1)) (xs (i + 2)) (xs (i + 3)))) (fun E => if E = "java/lang/IndexOutOfBoundsException" then z_pu 1 else if E = "java/lang/IllegalArgumentException" then z_pu 2 else if E = "java/lang/IllegalStateException" then z_pu 3 else z_fl) (fun r1 => (z_bd (z_sJ 15 95 0 ((r1 : Int32).toInt64)) (fun _ => (z_pu 0))))) (fun r102 => (z_bd (z_cv 9 75 (p_X9_dispatch 75 (xs (i + 1)) (xs (i + 2)) (xs (i + 3)))) (fun r104 => (z_bd (z_cv 9 75 (p_X9_thrown 75)) (fun r105 => (if r105 = r102 then (if r102 = 0 then (z_bd (z_aJ 15 95 0) (fun v106 => (if (lg_cmp v106 ((r104 : Int32).toInt64)) = 0 then (z_pu (.inl ((nI i + 6)))) else (z_pu (.inr 0))))) else (z_pu (.inl ((nI i + 6))))) else (z_pu (.inr 0))))))))) k M i := fun hb => by
    refine glue_t hI hm (c_tkb hI hb) (if_pos rfl) (show ¬ (1 : Int32) = 0 by decide) (fun M1 h1 => mres_th2 (w := 0) h1 (v := 0) ?_)
    have h9 := h1.1
    unfold p_X9_dispatch
    show (z_bd (z_pI 9 75 0 0) _).1 (KI M1 (z_i M1)) = _
    rw [kn_pI h9, kn_cv h9, kn_tkb h9 (hs1' M1 h1) hnt hb, if_pos rfl, j_L, kn_cv h9, kn_fail h9]
    rfl
  rcases pk_ix (xs (i + 1)) (n := nt) (by omega) with h | h | ⟨t, ht, e⟩
  · exact hb1 (Or.inl h)
  · exact hb1 (Or.inr h)
  clear hb1
  rw [e]
  have ht3 : t < 3 := by omega
  have hmt : ∀ M1, MI M1 ct cd st H S n bf → ∀ (x y : Int32) (r : zR Int32), (((z_jn (τ := Unit) (z_bd (z_cv 9 75 (p_X9_isStation 75 x)) (fun r3 => (if r3 = 0 then (z_pu (.inl ())) else (z_bd (p_X9_within y 0 20) (fun r4 => (if r4 = 0 then (z_bd (z_cv 9 75 (p_X9_fail 75 2)) (fun r16 => (z_pu (.inr r16)))) else (z_bd (z_cv 9 75 (p_X9_of 75 (nI t) 5)) (fun r5 => (if r5 = 6 then (z_bd (z_cv 9 75 (p_X9_fail 75 3)) (fun r15 => (z_pu (.inr r15)))) else (z_bd (z_cv 9 75 (p_X9_keep 75)) (fun _ => (z_bd (z_cv 9 75 (p_X9_of 75 (nI t) 5)) (fun r7 => (z_bd (z_cv 9 75 (p_X9_put 75 (nI t) (6 + (2 * r7)) x)) (fun _ => (z_bd (z_cv 9 75 (p_X9_of 75 (nI t) 5)) (fun r9 => (z_bd (z_cv 9 75 (p_X9_put 75 (nI t) ((6 + (2 * r9)) + 1) y)) (fun _ => (z_bd (z_cv 9 75 (p_X9_of 75 (nI t) 5)) (fun r11 => (z_bd (z_cv 9 75 (p_X9_put 75 (nI t) 5 (r11 + 1))) (fun _ => (z_bd (z_cv 9 75 (p_X9_goOn 75 (nI t))) (fun _ => (z_bd (z_cv 9 75 (p_X9_of 75 (nI t) 5)) (fun r14 => (z_pu (.inr r14))))))))))))))))))))))))))))) (fun t2 => (z_bd (z_cv 9 75 (p_X9_fail 75 1)) (fun r17 => (z_pu r17))))) : zP Int32).1 (KI M1 (z_up2 (z_i M1) 75 0 0)) = r) → (p_X9_dispatch 75 (nI t) x y).1 M1 = r := fun M1 h1 x y r hr => by
    have h9 := h1.1
    unfold p_X9_dispatch
    show (z_bd (z_pI 9 75 0 0) _).1 (KI M1 (z_i M1)) = _
    rw [kn_pI h9, kn_cv h9, kn_tk h9 (hs1' M1 h1) hnt ht, if_neg (by decide)]
    exact hr
  rcases pk_ix (xs (i + 2)) (n := ns) (by omega) with h | h | ⟨s, hs, e2⟩
  · refine glue_t hI hm ((c_tk hI ht).trans (c_stb hI (Or.inl h))) (if_pos rfl) (show ¬ (1 : Int32) = 0 by decide) (fun M1 h1 => mres_th2 (w := 0) h1 (v := 0) (hmt M1 h1 _ _ _ ?_))
    have h9 := h1.1
    rw [j_bd, kn_cv h9, kn_stb h9 (hs0' M1 h1) hns (Or.inl h), if_pos rfl, j_L, kn_cv h9, kn_fail h9]
    rfl
  · refine glue_t hI hm ((c_tk hI ht).trans (c_stb hI (Or.inr h))) (if_pos rfl) (show ¬ (1 : Int32) = 0 by decide) (fun M1 h1 => mres_th2 (w := 0) h1 (v := 0) (hmt M1 h1 _ _ _ ?_))
    have h9 := h1.1
    rw [j_bd, kn_cv h9, kn_stb h9 (hs0' M1 h1) hns (Or.inr h), if_pos rfl, j_L, kn_cv h9, kn_fail h9]
    rfl
  rw [e2]
  have hs8 : s < 8 := by omega
  by_cases hb2 : xs (i + 3) < 0 ∨ (20 : Int32) < xs (i + 3)
  · refine glue_t hI hm (E := "java/lang/IllegalArgumentException") ((c_tk hI ht).trans ((c_st hI hs).trans (c_rgb hb2))) (by rw [if_neg (by decide), if_pos rfl]) (show ¬ (2 : Int32) = 0 by decide) (fun M1 h1 => mres_th2 (w := 0) h1 (v := 0) (hmt M1 h1 _ _ _ (e_jR ?_)))
    have h9 := h1.1
    rw [kn_cv h9, kn_st h9 (hs0' M1 h1) hns hs, if_neg (by decide), g9_wi, wr_bad hb2, if_pos rfl, kn_cv h9, kn_fail h9]
    rfl
  obtain ⟨x, hx0, hx20, e3⟩ := rg_num2 (lo := 0) (hi := 20) (by omega) hb2
  rw [e3]
  have hr1 : ¬ nI x < (0 : Int32) := nI_pos (by omega)
  have hr2 : nI x ≤ (20 : Int32) := nI_le (b := 20) hx20 (by omega)
  have hr3 : ¬ (20 : Int32) < nI x := nI_nlt (a := 20) hx20 (by omega)
  obtain ⟨q, hK⟩ := hS.2.2.2.1 t ht
  have hq6 := hK.1.2.1
  have hcls : ∀ f : Nat → zP Int32, (z_bd (z_gA 8 0 6) (fun v4 => (z_bd (z_gA 5 v4 4) (fun v5 => (z_bd (z_aA 14 v5 (nI t)) f))))).1 M = (f (41 + 8 + 3 * t)).1 (KI M (z_i M)) := fun f => by
    show (z_bd (z_gA 8 0 6) _).1 (KI M (z_i M)) = _
    rw [k0_g0_6 h0]
    exact kx_trk hL41 ht3
  have hLT0 := LZ_T hL41 ht3
  by_cases hq5 : q = 6
  · have hnl : ¬ nI q < (6 : Int32) := nI_nlt (b := 6) (by omega) (by omega)
    refine glue_t hI hm (E := "java/lang/IllegalStateException") ?_ (by rw [if_neg (by decide), if_neg (by decide), if_pos rfl]) (show ¬ (3 : Int32) = 0 by decide) (fun M1 h1 => mres_th2 (w := 0) h1 (v := 0) (hmt M1 h1 _ _ _ (e_jR ?_)))
    · unfold p_X8_dispatch
      rw [c_tk hI ht, c_st hI hs, c_rg hr1 hr2, hcls, kt_gI hLT0, hK.2.1, if_neg hnl]
      rfl
    · obtain ⟨h9, e78, e80, e83⟩ := MI_0 h1
      have h5 : s_tr st t 5 = 6 := by rw [hK.1.2.2.1, hq5]; rfl
      rw [kn_cv h9, kn_st h9 (hs0' M1 h1) hns hs, if_neg (by decide), g9_wi, wr_ok hr1 hr3, if_neg (by decide), kn_cv h9, kn_of5 h9 ht3, F0_83, e83, h5, if_pos rfl, kn_cv h9, kn_fail h9]
      rfl
  have hnl : nI q < (6 : Int32) := nI_lt (b := 6) (by omega) (by omega)
  obtain ⟨M1, q1, r1, r2, r3, r4, r5⟩ := c_rem hI
  obtain ⟨h01, hcy1, hC1, T1, d1, R1, l1, hT1, hS1, hn1, hst1, hg1, hd1⟩ := CI_un r1
  have E1 := CI_E r1
  have hL1 := E1.1.1
  have hA1 : AV M1 (z_i M1) 41 c ct cd st ns nt np nc (k + 1) T1 := ⟨d1, R1, l1, hS1, hn1, hst1, hg1, by omega⟩
  have hLT := LZ_T hL1 ht3
  obtain ⟨q1', hK1⟩ := hS1.2.2.2.1 t ht
  have hqq : q1' = q := (nI_eq (by have := hK1.1.2.1; omega) (by omega)).mp (hK1.1.2.2.1.symm.trans hK.1.2.2.1)
  subst hqq
  obtain ⟨st1, est1⟩ : ∃ st1, st1 = s_put (s_put (s_put st t (6 + 2 * q1') (nI s)) t (6 + 2 * q1' + 1) (nI x)) t 5 (nI (q1' + 1)) := ⟨_, rfl⟩
  obtain ⟨F1, eF1⟩ : ∃ F1, F1 = z_up2 (z_up2 (z_up2 (z_i M1) (41 + 8 + 3 * t + 1) q1' (nI s)) (41 + 8 + 3 * t + 2) q1' (nI x)) (41 + 8 + 3 * t) 2 (nI (q1' + 1)) := ⟨_, rfl⟩
  have hput : ∀ j, j ≠ 22 + 18 * t + 5 → j ≠ 22 + 18 * t + (6 + 2 * q1') → j ≠ 22 + 18 * t + (6 + 2 * q1' + 1) → st1 j = st j := fun j h1 h2 h3 => by rw [est1]; unfold s_put; rw [s_upn _ _ h1, s_upn _ _ h3, s_upn _ _ h2]
  have hp5 : s_tr st1 t 5 = nI (q1' + 1) := by rw [est1]; exact s_ups _ _ _
  have hp6 : s_tr st1 t (6 + 2 * q1') = nI s := by rw [est1]; unfold s_put s_tr; rw [s_upn _ _ (by omega), s_upn _ _ (by omega), s_ups]
  have hp7 : s_tr st1 t (6 + 2 * q1' + 1) = nI x := by rw [est1]; unfold s_put s_tr; rw [s_upn _ _ (by omega), s_ups]
  have tr : ∀ i, i < 5 → s_tr st1 t i = s_tr st t i := fun i hi => hput _ (by omega) (by omega) (by omega)
  have tr6 : ∀ i, i < q1' → s_tr st1 t (6 + 2 * i) = s_tr st t (6 + 2 * i) ∧ s_tr st1 t (7 + 2 * i) = s_tr st t (7 + 2 * i) := fun i hi => ⟨hput _ (by omega) (by omega) (by omega), hput _ (by omega) (by omega) (by omega)⟩
  have hRK1 : RK F1 (41 + 8 + 3 * t) ct st1 ns t (q1' + 1) := by
    obtain ⟨k0, k2, k3, k4, k6, k5, k7, ko⟩ := hK1
    have fb : ∀ z, z ≠ 2 → F1 (41 + 8 + 3 * t) z = z_i M1 (41 + 8 + 3 * t) z := fun z hz => by rw [eF1, u2_n _ _ (Or.inr hz), u2_row _ _ (by omega), u2_row _ _ (by omega)]
    refine ⟨⟨?_, by omega, hp5, fun i hi => ?_⟩, ?_, ?_, ?_, ?_, ?_, ?_, fun i hi => ?_⟩
    · rw [tr 0 (by omega), tr 1 (by omega), tr 2 (by omega)]; exact k0.1
    · by_cases hiq : i = q1'
      · subst hiq; exact ⟨s, hs, hp6⟩
      · obtain ⟨p, hp, ep⟩ := k0.2.2.2 i (by omega)
        exact ⟨p, hp, (tr6 i (by omega)).1.trans ep⟩
    · rw [eF1, u2_s]
    · rw [fb 3 (by omega)]; exact k3
    · rw [fb 4 (by omega), tr 4 (by omega)]; exact k4
    · rw [fb 6 (by omega), tr 2 (by omega)]; exact k6
    · rw [fb 5 (by omega), tr 0 (by omega)]; exact k5
    · rw [fb 5 (by omega), fb 7 (by omega), tr 0 (by omega), tr 1 (by omega), tr 3 (by omega)]; exact k7
    · by_cases hiq : i = q1'
      · subst hiq
        rw [hp6, show 7 + 2 * i = 6 + 2 * i + 1 by omega, hp7, eF1]
        refine ⟨?_, ?_⟩
        · rw [u2_row _ _ (by omega), u2_row _ _ (by omega), u2_s]
        · rw [u2_row _ _ (by omega), u2_s]
      · rw [(tr6 i (by omega)).1, (tr6 i (by omega)).2, eF1]
        refine ⟨?_, ?_⟩
        · rw [u2_row _ _ (by omega), u2_row _ _ (by omega), u2_n _ _ (Or.inr hiq)]; exact (ko i (by omega)).1
        · rw [u2_row _ _ (by omega), u2_n _ _ (Or.inr hiq), u2_row _ _ (by omega)]; exact (ko i (by omega)).2
  have hF1 : ∀ y, ¬ (41 + 8 + 3 * t ≤ y ∧ y < 41 + 8 + 3 * t + 3) → F1 y = z_i M1 y := fun y hy => by rw [eF1, u2_row _ _ (by omega), u2_row _ _ (by omega), u2_row _ _ (by omega)]
  have hA2 : AV M1 F1 41 c ct cd st1 ns nt np nc (k + 1) T1 := by
    refine AV_trk hA1 ht hF1 (fun j hj => hput j (by omega) (by omega) (by omega)) ⟨q1' + 1, hRK1⟩ ?_ (fun y hy => hF1 y (by omega))
    refine n_ok_tr hn.1 (fun j hj => hput j (by omega) (by omega) (by omega)) ht ?_ (fun q hq h5 => ?_)
    · obtain ⟨u, v, h1, h2⟩ := hn.1.2.1 t ht
      exact ⟨u, v, (tr 4 (by omega)).trans h1, h2⟩
    · have hq0 : q1' + 1 = q := (nI_eq (by omega) (by omega)).mp (hp5.symm.trans h5)
      subst hq0
      obtain ⟨⟨y, hy, ey⟩, ho⟩ := hn.1.2.2 t ht _ hK.1.2.1 hK.1.2.2.1
      refine ⟨⟨y, hy, (tr 3 (by omega)).trans ey⟩, fun i hi => ?_⟩
      by_cases hiq : i = q1'
      · subst hiq
        exact ⟨x, hx20, by rw [show 7 + 2 * i = 6 + 2 * i + 1 by omega]; exact hp7⟩
      · obtain ⟨y2, hy2, ey2⟩ := ho i (by omega)
        exact ⟨y2, hy2, (tr6 i (by omega)).2.trans ey2⟩
  obtain ⟨F3, q3, g1, g2, g3, g4⟩ := AV_go hA2 ht hRK1 (by omega)
  refine glue_r hI hm (v := s_tr (s_go ct t (q1' + 1) st1) t 5) (cres_chg r1 r2 r3 r4 r5 ?_ g2 hT1 (fr5_tr (fun y y1 y2 => hF1 y (by omega)) g4)) (fun M2 h2 => mres_chg h2 hl10 (fun F2 m1 m2 => ?_))
  · unfold p_X8_dispatch
    rw [c_tk hI ht, c_st hI hs, c_rg hr1 hr2, hcls, kt_gI hLT0, hK.2.1, if_pos hnl, k0_g0_2 h0, k0_g0_6 h0, k0_cv4 h0]
    refine (e_run q1).trans ?_
    show (z_bd (z_cv 7 (41 + 8 + 3 * t) _) _).1 (KI M1 (z_i M1)) = _
    rw [kt_cv hLT, kt_add hLT hK1.2.1 (by omega), ← eF1, k0_g0_6 h01, ks_cv hL1]
    refine (e_run g1).trans ?_
    rw [kt_gI hLT, g3.2.1, ← g3.1.2.2.1]
    rfl
  · obtain ⟨h9, e78, e80, e83⟩ := MI_0 h2
    have f78 : F2 78 = ct := m1.2.1.1
    have f83 : F2 83 = st := m1.2.1.2.2
    obtain ⟨F4, eF4⟩ : ∃ F4, F4 = z_up2 (z_up2 (z_up2 F2 83 (22 + 18 * t + (6 + 2 * q1')) (nI s)) 83 (22 + 18 * t + (6 + 2 * q1' + 1)) (nI x)) 83 (22 + 18 * t + 5) (nI (q1' + 1)) := ⟨_, rfl⟩
    have f483 : F4 83 = st1 := by
      rw [eF4, est1, ← f83]
      funext y
      unfold s_put
      by_cases a1 : y = 22 + 18 * t + 5
      · rw [a1, u2_s, s_ups]
      · rw [u2_n _ _ (Or.inr a1), s_upn _ _ a1]
        by_cases a2 : y = 22 + 18 * t + (6 + 2 * q1' + 1)
        · rw [a2, u2_s, s_ups]
        · rw [u2_n _ _ (Or.inr a2), s_upn _ _ a2]
          by_cases a3 : y = 22 + 18 * t + (6 + 2 * q1')
          · rw [a3, u2_s, s_ups]
          · rw [u2_n _ _ (Or.inr a3), s_upn _ _ a3]
    have f4o : ∀ y, y ≠ 83 → F4 y = F2 y := fun y hy => by rw [eF4, u2_row _ _ hy, u2_row _ _ hy, u2_row _ _ hy]
    have f478 : F4 78 = ct := (f4o _ (by omega)).trans f78
    refine ⟨z_up1 F4 83 (s_go ct t (q1' + 1) st1), hmt M2 h2 _ _ _ (e_jR ?_), fun y y1 y2 => by rw [u1_n _ _ y2, f4o _ y2], u1_s _ _ _⟩
    have h5 : s_tr st t 5 = nI q1' := hK.1.2.2.1
    have h56 : ¬ s_tr st t 5 = 6 := by
      rw [h5]
      exact fun qq => hq5 ((nI_eq (b := 6) (by omega) (by omega)).mp qq)
    rw [kn_cv h9, kn_st h9 (hs0' M2 h2) hns hs, if_neg (by decide), g9_wi, wr_ok hr1 hr3, if_neg (by decide), kn_cv h9, kn_of5 h9 ht3, F0_83, e83, if_neg h56, kn_cv h9]
    refine (e_run m2).trans ?_
    have i1 : 6 + 2 * q1' < 18 := by omega
    have i2 : 6 + 2 * q1' + 1 < 18 := by omega
    have ee1 : (6 : Int32) + 2 * nI q1' = nI (6 + 2 * q1') := by rw [oL_mul, oL_add]
    have ee2 : nI (6 + 2 * q1') + 1 = nI (6 + 2 * q1' + 1) := nI_1 _
    have v1 : s_tr (z_up2 F2 83 (22 + 18 * t + (6 + 2 * q1')) (nI s) 83) t 5 = nI q1' := by
      show z_up2 F2 83 (22 + 18 * t + (6 + 2 * q1')) (nI s) 83 (22 + 18 * t + 5) = _
      rw [u2_n _ _ (by omega), f83]
      exact h5
    have v2 : s_tr (z_up2 (z_up2 F2 83 (22 + 18 * t + (6 + 2 * q1')) (nI s)) 83 (22 + 18 * t + (6 + 2 * q1' + 1)) (nI x) 83) t 5 = nI q1' := by
      show z_up2 (z_up2 F2 83 (22 + 18 * t + (6 + 2 * q1')) (nI s)) 83 (22 + 18 * t + (6 + 2 * q1' + 1)) (nI x) 83 (22 + 18 * t + 5) = _
      rw [u2_n _ _ (by omega), u2_n _ _ (by omega), f83]
      exact h5
    rw [kn_cv h9, kn_of5 h9 ht3, f83, h5, ee1, kn_cv h9, kn_put h9 ht3 i1, kn_cv h9, kn_of5 h9 ht3, v1, ee1, ee2, kn_cv h9, kn_put h9 ht3 i2, kn_cv h9, kn_of5 h9 ht3, v2, nI_1, kn_cv h9, kn_put5 h9 ht3, ← eF4, kn_cv h9]
    have hgo : ∀ f : Unit → zP (Unit ⊕ Int32), (z_bd (p_X9_goOn 75 (nI t)) f).1 (KI M2 F4) = (f ()).1 (KI M2 (z_up1 F4 83 (s_go ct t (q1' + 1) st1))) := fun f => by
      have e1 : KI M2 F4 = K9 (KI M2 F4) (F4 82) st1 := by rw [← f483]; exact KI_K9
      rw [e1, kk_go (M := KI M2 F4) (n := ns) h9 ht3 hns hRK1.1, K9_KI]
      refine congrArg (f ()).1 ?_
      show KI M2 (z_up1 (z_up1 F4 82 (F4 82)) 83 (s_go (F4 78) t (q1' + 1) st1)) = _
      rw [up1_id, f478]
    rw [hgo, kn_cv h9, kn_of5 h9 ht3, u1_s]
    rfl
end PA25
