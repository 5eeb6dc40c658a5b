/-! ===== PHASE 2: more of the law's readers ===== -/
section PA15
variable {β : Type} {M : zM} {F : Nat → Nat → Int32} {ct cd st bf : Nat → Int32} {i j k q c sp n ns nt np nc L : Nat} {H : List (Nat → Int32)} {S : Nat → Option (Nat → Int32)} {v w x y code : Int32} {xs : Nat → Int32} {f : Unit → zP β}
theorem bad_ne {m : Nat} (h : x < 0 ∨ nI m ≤ x) (hm : m < 2 ^ 31 := by omega) : ∀ j : Nat, j < m → ¬ x = nI j := fun j hj e => by
  subst e
  rcases h with h | h
  · exact nI_pos (by omega) h
  · exact nI_ge hj hm h
theorem bad_wi {n : Nat} (h : x < 0 ∨ nI (n + 1) ≤ x) (hn : n + 1 < 2 ^ 31) : x < 0 ∨ nI n < x := by
  rcases h with h | h
  · exact Or.inl h
  · refine Or.inr ?_
    rw [i_le, nI_toInt hn] at h
    rw [i_lt, nI_toInt (by omega)]
    omega
theorem wr_ok {lo hi : Int32} (h : ¬ x < lo) (h2 : ¬ hi < x) : (if x < lo then (0 : Int32) else if hi < x then 0 else 1) = 1 := by rw [if_neg h, if_neg h2]
theorem wr_bad {lo hi : Int32} (h : x < lo ∨ hi < x) : (if x < lo then (0 : Int32) else if hi < x then 0 else 1) = 0 := by
  by_cases h1 : x < lo
  · rw [if_pos h1]
  · rw [if_neg h1, if_pos (h.resolve_left h1)]
theorem m_tot {f : Int32 → zP β} (h : L9 M) (hs : F 78 1 = nI nt) (hnt : nt ≤ 3) (hj : j ≤ 5) : (z_bd (p_X9_totalOf 75 (nI j)) f).1 (KI M F) = (f (if j = 5 then s_sum 0 (fun t => s_tr (F 83) t 4) nt else F 83 (1 + j))).1 (KI M F) := by
  unfold p_X9_totalOf
  by_cases e : j = 5
  · subst e
    rw [if_pos (show nI 5 = 5 from rfl), if_pos rfl, b_bd, kn_cv h, kn_loads h hs hnt]
    rfl
  · rw [if_neg (show ¬ nI j = 5 from fun q => e ((nI_eq (b := 5) (by omega) (by omega)).mp q)), if_neg e]
    have h1 : 1 + j < 3277 := by omega
    simp (disch := first | assumption | omega) only [e_pu, e_ite, oL_add, oL_addr, oL_mul, nI_add, nI_1, b_pu, b_bd, b_ite, j_L, j_R, j_ite, j_bd, z_ex, ↓reduceIte, if_true, if_false, kn_gI, kn_pI, kn_cv, kn_g76, kn_a76, kn_s76, kn_g77, kn_a77, kn_s77, kn_g78, kn_a78, kn_s78, kn_g79, kn_a79, kn_s79, kn_g80, kn_a80, kn_s80, kn_g81, kn_a81, kn_s81, kn_g82, kn_a82, kn_s82, kn_g83, kn_a83, kn_s83, kn_g84, kn_a84, kn_s84, kn_g85, kn_a85, kn_s85, kn_g86, kn_g87, kn_a87, kn_s87, kn_g88, kn_a88, kn_s88, kn_g89, kn_a89, kn_s89, kn_g90, kn_a90, kn_s90, kn_g91, kn_a91, kn_s91, kn_g92, kn_a92, kn_s92, kn_g93, kn_a93, kn_s93, kn_g94, kn_a94, kn_s94, kn_l77_0, kn_t77_0, kn_l77_1, kn_t77_1, kn_l77_2, kn_t77_2, kn_l77_3, kn_t77_3, kn_l77_4, kn_t77_4, kn_l77_5, kn_t77_5, kn_l77_6, kn_t77_6, kn_l77_7, kn_t77_7, kn_l77_8, kn_t77_8, kn_l78_0, kn_t78_0, kn_l78_1, kn_t78_1, kn_l78_2, kn_t78_2, kn_l78_3, kn_t78_3, kn_l78_4, kn_t78_4, kn_l78_5, kn_t78_5, kn_l78_6, kn_t78_6, kn_l78_7, kn_t78_7, kn_l78_8, kn_t78_8, kn_l79_0, kn_t79_0, kn_l82_0, kn_t82_0, kn_l83_0, kn_t83_0, kn_l83_1, kn_t83_1, kn_l83_2, kn_t83_2, kn_l83_3, kn_t83_3, kn_l83_4, kn_t83_4, kn_l83_5, kn_t83_5, kn_l83_204, kn_t83_204, kn_wk, kn_fr, kn_mk, kn_ev, kn_bn, kn_ds, kn_rd, kn_dr, kn_of, kn_of0, kn_of1, kn_of2, kn_of3, kn_of4, kn_of5, kn_of6, kn_near, kn_loads, kn_all, kn_fare, kn_fail, kn_told, g9_wi, g9_at]
theorem kx_trk {f : Nat → zP β} {a t : Nat} (hL : LZ a M) (ht : t < 3) : (z_bd (z_gA 5 a 4) (fun v3 => (z_bd (z_aA 14 v3 (nI t)) f))).1 (KI M F) = (f (a + 8 + 3 * t)).1 (KI M F) := by
  simp (disch := first | assumption | omega | (apply LZ_R; assumption) | (apply LZ_T <;> first | assumption | omega) | (apply LC_F; assumption)) only [e_pu, e_ite, oL_add, oL_addr, oL_mul, nI_add, nI_1, b_pu, b_bd, b_ite, j_L, j_R, j_ite, j_bd, z_ex, ↓reduceIte, if_true, if_false, kt_gI, kt_pI, kt_cv, kt_g0, kt_g1, kt_a1, kt_s1, kt_n1, kt_z1, kt_a2, kt_s2, kt_n2, kt_z2, kr_gI, kr_pI, kr_cv, kr_g0, kr_a1, kr_s1, kr_n1, kr_z1, kf_gI, kf_pI, kf_cv, kf_g0, kf_g1, kf_a1, kf_s1, kf_n1, kf_z1, kf_a2, kf_s2, kf_n2, kf_z2, kc_gI, kc_pI, kc_cv, kc_g0, kc_g1, kc_g2, kc_g3, kc_g4, kc_g5, kc_g6, kc_g7, kc_g8, kc_g9, kc_a1, kc_s1, kc_n1, kc_z1, kc_a2, kc_s2, kc_n2, kc_z2, kc_a3, kc_s3, kc_n3, kc_z3, kc_a4, kc_s4, kc_n4, kc_z4, kc_a5, kc_s5, kc_n5, kc_z5, kc_a6, kc_s6, kc_n6, kc_z6, kc_a7, kc_s7, kc_n7, kc_z7, kc_a8, kc_s8, kc_n8, kc_z8, kc_a9, kc_s9, kc_n9, kc_z9, ks_gI, ks_pI, ks_cv, ks_g0, ks_g1, ks_g2, ks_g3, ks_g4, ks_g5, ks_a1, ks_s1, ks_n1, ks_z1, ks_a2, ks_s2, ks_n2, ks_z2, ks_a3, ks_s3, ks_n3, ks_z3, ks_a4, ks_s4, ks_n4, ks_z4, ks_tr]
/-- bikes, working docks, free docks and mark of a station as numbers -/
theorem st_num (hc : c_ok ct cd ns nt np nc) (hn : n_ok ct st ns nt) (hj : j < ns) : ∃ b w g m, st (6 + j) = nI b ∧ s_wk ct st j = nI w ∧ s_fr ct st j = nI g ∧ s_mk ct st j = nI m ∧ b + g = w ∧ w ≤ 20 ∧ m * 2 ≤ w := by
  obtain ⟨b, br, e, e1, e2, e3, h1, h2⟩ := hn.1 j hj
  obtain ⟨_, _, u, _, _, _, _, hu, _, _, _, _, eu, _⟩ := hc.2.2.2.2.1
  have hw : s_wk ct st j = nI (e - br) := by unfold s_wk; rw [e3, e2, nI_sub (by omega)]
  have hmul : (e - br) * u ≤ 20 * 50 := Nat.mul_le_mul (by omega) (by omega)
  refine ⟨b, e - br, e - br - b, (e - br) * u / 100, e1, hw, ?_, ?_, by omega, by omega, ?_⟩
  · unfold s_fr; rw [hw, e1, nI_sub (by omega)]
  · unfold s_mk; rw [hw, eu, nI_mul, show (100 : Int32) = nI 100 from rfl, pk_div (by omega) (by decide) (by decide)]
  · have h3 : (e - br) * u ≤ (e - br) * 50 := Nat.mul_le_mul_left _ (by omega)
    omega
theorem ms_ev (hc : c_ok ct cd ns nt np nc) (hn : n_ok ct st ns nt) (hj : j < ns) : s_ms ct st j = 0 ↔ s_ev ct st j = 1 := by
  obtain ⟨b, w, g, m, e1, e2, e3, e4, h1, h2, h3⟩ := st_num hc hn hj
  have neg : ∀ x y : Nat, x < y → y < 1000 → ¬ (0 : Int32) ≤ nI x - nI y := fun x y hxy hy => by
    have := pk_sneg (a := x) (b := y) (by omega) hxy
    rw [i_lt] at this
    rw [i_le]
    omega
  unfold s_ms s_ev
  rw [e1, e3, e4]
  by_cases c1 : b < m
  · rw [if_pos (nI_lt c1 (by omega)), nI_sub (by omega), if_pos (nI_pos' (by omega))]
    refine ⟨fun q => ?_, fun q => absurd q (by decide)⟩
    by_cases c2 : g ≤ m
    · rw [nI_sub c2, if_pos (nI_pos' (by omega)), nI_add] at q
      exact absurd q (nI_ne0 (by omega) (by omega))
    · rw [if_neg (neg _ _ (by omega) (by omega)), Int32.add_zero] at q
      exact absurd q (nI_ne0 (by omega) (by omega))
  · rw [if_neg (nI_nlt (by omega) (by omega))]
    have ez : (if (0 : Int32) ≤ nI m - nI b then nI m - nI b else 0) = 0 := by
      by_cases c3 : m = b
      · subst c3; rw [Int32.sub_self]; rfl
      · rw [if_neg (neg _ _ (by omega) (by omega))]
    rw [ez, Int32.zero_add]
    by_cases c2 : g < m
    · rw [if_pos (nI_lt c2 (by omega)), nI_sub (by omega), if_pos (nI_pos' (by omega))]
      exact ⟨fun q => absurd q (nI_ne0 (by omega) (by omega)), fun q => absurd q (by decide)⟩
    · rw [if_neg (nI_nlt (by omega) (by omega))]
      refine ⟨fun _ => rfl, fun _ => ?_⟩
      by_cases c3 : m = g
      · subst c3; rw [Int32.sub_self]; rfl
      · rw [if_neg (neg _ _ (by omega) (by omega))]
theorem glue_b {pc pm : zP Int32} {hE : String → zP Int32} (hI : CI k M c sp ct cd ns nt np nc st H S n bf) (hm : MI M ct cd st H S n bf) (hv : v = 0 ∨ v = 1) (hc : (code = 0 ∧ cres pc k M v c sp ct cd ns nt np nc st H S n bf) ∨ (¬ code = 0 ∧ ∃ E, pc.1 M = some (.inl E, z_mk M 99 0 6) ∧ hE E = z_pu code)) (hp : ∀ M1, MI M1 ct cd st H S n bf → mres pm M1 v code ct cd st H S n bf) :
    STEP (z_bd (z_ct (z_cv 8 0 pc) hE (fun r1 => (z_jn (τ := Int64) (if r1 = 0 then (z_pu (.inl 0)) else (z_pu (.inl 1))) (fun t2 => (z_bd (z_sJ 15 95 0 t2) (fun _ => (z_pu 0))))))) (fun r102 => (z_bd (z_cv 9 75 pm) (fun r104 => (z_bd (z_cv 9 75 (p_X9_thrown 75)) (fun r105 => (if r105 = r102 then (if r102 = 0 then (z_bd (z_aJ 15 95 0) (fun v106 => (z_jn (τ := Int64) (if r104 = 0 then (z_pu (.inl 0)) else (z_pu (.inl 1))) (fun t107 => (if (lg_cmp v106 t107) = 0 then (z_pu (.inl ((nI i + 6)))) else (z_pu (.inr 0))))))) else (z_pu (.inl ((nI i + 6))))) else (z_pu (.inr 0))))))))) k M i := by
  have h0 := hI.1.1
  rcases hc with ⟨rfl, M1, e1, c1, l9, f1, x1, x2⟩ | ⟨h0c, E, hc, hh⟩
  · have h01 := c1.1.1
    have h91 := l9 hm.1
    have hout := L0_out h01
    obtain ⟨b, hb⟩ : ∃ b : Int64, b = (if v = 0 then 0 else 1) := ⟨_, rfl⟩
    have hjn : ∀ {γ : Type} (g : Int64 → zP γ), (z_jn (τ := Int64) (if v = 0 then (z_pu (.inl 0)) else (z_pu (.inl 1))) g) = g b := fun g => by
      rw [hb]
      split <;> rfl
    obtain ⟨F, m1, m2, m3, m4⟩ := hp (z_wj M1 95 0 b) (MI_tr hm h91 f1)
    refine ⟨KI (z_wj M1 95 0 b) F, ?_, ⟨c, sp, ct, cd, ns, nt, np, nc, st, H, S, n, bf, CI_M c1 _ m3, m4⟩, by show z_nx M1 ≤ _; omega, by show z_sl M1 ≤ _; omega⟩
    have ew : (z_ct (z_cv 8 0 pc) hE (fun r1 => (z_jn (τ := Int64) (if r1 = 0 then (z_pu (.inl 0)) else (z_pu (.inl 1))) (fun t2 => (z_bd (z_sJ 15 95 0 t2) (fun _ => (z_pu 0))))))).1 M = some (.inr 0, z_wj M1 95 0 b) := by
      refine (e_ct ((z_cv_pos (k0_is0 h0)).trans e1)).trans ?_
      rw [hjn]
      exact e_sJ hout
    refine (e_run ew).trans ?_
    refine (e_run ((z_cv_pos (q9_is (M := z_wj M1 95 0 b) h91)).trans m1)).trans ?_
    have h9K : L9 (KI (z_wj M1 95 0 b) F) := h91
    rw [e_cv (q9_is h9K)]
    unfold p_X9_thrown
    rw [b_bd, q9_gI h9K]
    have e0 : z_i (KI (z_wj M1 95 0 b) F) 75 0 = 0 := m2
    rw [b_pu, e0, if_pos rfl, if_pos rfl, e_aJ (L0_out (M := KI (z_wj M1 95 0 b) F) h01)]
    have ej : z_j (KI (z_wj M1 95 0 b) F) 95 (0 : Int32).toNatClampNeg = b := by
      show z_up2 (z_j M1) 95 0 b 95 0 = _
      exact if_pos ⟨rfl, rfl⟩
    rw [ej, hjn, lg_rf, if_pos rfl]
    rfl
  · have hm1 : MI (z_mk M 99 0 6) ct cd st H S n bf := MI_ext hm (ext_mk 99 0 6)
    have hI1 : CI k (z_mk M 99 0 6) c sp ct cd ns nt np nc st H S n bf := CI_loc hI (loc_ext (ext_mk 99 0 6))
    obtain ⟨F, m1, m2, m3, m4⟩ := hp _ hm1
    refine ⟨KI (z_mk M 99 0 6) F, ?_, ⟨c, sp, ct, cd, ns, nt, np, nc, st, H, S, n, bf, CI_kk (k := k) (CI_M0 hI1 m3) (by omega), m4⟩, by show z_nx M + 1 ≤ _; omega, by show z_sl M + 6 ≤ _; omega⟩
    have ew : (z_ct (z_cv 8 0 pc) hE (fun r1 => (z_jn (τ := Int64) (if r1 = 0 then (z_pu (.inl 0)) else (z_pu (.inl 1))) (fun t2 => (z_bd (z_sJ 15 95 0 t2) (fun _ => (z_pu 0))))))).1 M = some (.inr code, z_mk M 99 0 6) := by
      refine (e_ctt ((z_cv_pos (k0_is0 h0)).trans hc)).trans ?_
      rw [hh]
      rfl
    refine (e_run ew).trans ?_
    refine (e_run ((z_cv_pos (q9_is hm1.1)).trans m1)).trans ?_
    have h9K : L9 (KI (z_mk M 99 0 6) F) := hm1.1
    rw [e_cv (q9_is h9K)]
    unfold p_X9_thrown
    rw [b_bd, q9_gI h9K]
    have e0 : z_i (KI (z_mk M 99 0 6) F) 75 0 = code := m2
    rw [b_pu, e0, if_pos rfl, if_neg h0c]
    rfl
theorem L_c2 (hI : CI k M c sp ct cd ns nt np nc st H S n bf) (hm : MI M ct cd st H S n bf) (hi : i + 6 ≤ L) (hL : L ≤ 3072) : STEP (p_L_c2 xs L 0 75 95 (nI i)) k M i := by
  have hc := CI_c hI
  have hns := hc.1.2.1
  have hnt := hc.1.2.2.2.1
  obtain ⟨h0, hcy, hC, T, d, R, l, hT, hS, hn, hst0, hg, hd⟩ := CI_un hI
  have E := CI_E hI
  have hL41 := E.1.1
  unfold p_L_c2 p_L_size
  rw [show nI i + 1 = nI (i + 1) from oL_addr 1 i]
  simp only [z_xs_ok (xs := xs) (show i + 1 < L by omega) hL, b_pu]
  rcases pk_ix (xs (i + 1)) (n := 3) (by omega) with h | h | ⟨j, hj, e⟩
  · have hne : ∀ m : Nat, m < 3 → ¬ xs (i + 1) = nI m := bad_ne (Or.inl h)
    refine glue_t hI hm ?_ (if_pos rfl) (by decide) (fun M1 h1 => mres_th2 (w := 0) h1 (v := 0) ?_)
    · unfold p_X8_size
      rw [if_neg (show ¬ xs (i + 1) = 0 from hne 0 (by omega)), if_neg (show ¬ xs (i + 1) = 1 from hne 1 (by omega)), if_neg (show ¬ xs (i + 1) = 2 from hne 2 (by omega))]
      rfl
    · unfold p_X9_size
      show (z_bd (z_pI 9 75 0 0) _).1 (KI M1 (z_i M1)) = _
      rw [kn_pI h1.1, g9_wi, wr_bad (show xs (i + 1) < 0 ∨ (2 : Int32) < xs (i + 1) from bad_wi (n := 2) (Or.inl h) (by omega)), if_pos rfl, kn_cv h1.1, kn_fail h1.1]
      rfl
  · have hne : ∀ m : Nat, m < 3 → ¬ xs (i + 1) = nI m := bad_ne (Or.inr h)
    refine glue_t hI hm ?_ (if_pos rfl) (by decide) (fun M1 h1 => mres_th2 (w := 0) h1 (v := 0) ?_)
    · unfold p_X8_size
      rw [if_neg (show ¬ xs (i + 1) = 0 from hne 0 (by omega)), if_neg (show ¬ xs (i + 1) = 1 from hne 1 (by omega)), if_neg (show ¬ xs (i + 1) = 2 from hne 2 (by omega))]
      rfl
    · unfold p_X9_size
      show (z_bd (z_pI 9 75 0 0) _).1 (KI M1 (z_i M1)) = _
      rw [kn_pI h1.1, g9_wi, wr_bad (show xs (i + 1) < 0 ∨ (2 : Int32) < xs (i + 1) from bad_wi (n := 2) (Or.inr h) (by omega)), if_pos rfl, kn_cv h1.1, kn_fail h1.1]
      rfl
  · rw [e]
    refine glue_r hI hm (v := ct j) (cres_of hI ?_) (fun M1 h1 => mres_th h1 ?_)
    · obtain rfl | rfl | rfl : j = 0 ∨ j = 1 ∨ j = 2 := by omega
      · unfold p_X8_size
        rw [if_pos (show nI 0 = 0 from rfl)]
        show (z_bd (z_gA 8 0 9) _).1 (KI M (z_i M)) = _
        rw [k8_city h0 hcy, kc_gI hC, E.2.1.1.1.1]
        rfl
      · unfold p_X8_size
        rw [if_neg (show ¬ nI 1 = 0 by decide), if_pos (show nI 1 = 1 from rfl)]
        show (z_bd (z_gA 8 0 9) _).1 (KI M (z_i M)) = _
        rw [k8_city h0 hcy, kc_gI hC, E.2.1.1.1.2.1]
        rfl
      · unfold p_X8_size
        rw [if_neg (show ¬ nI 2 = 0 by decide), if_neg (show ¬ nI 2 = 1 by decide), if_pos (show nI 2 = 2 from rfl)]
        show (z_bd (z_gA 8 0 9) _).1 (KI M (z_i M)) = _
        rw [k8_city h0 hcy, kc_gI hC, E.2.1.1.1.2.2.1]
        rfl
    · obtain ⟨h9, e78, e80, e83⟩ := MI_0 h1
      unfold p_X9_size
      show (z_bd (z_pI 9 75 0 0) _).1 (KI M1 (z_i M1)) = _
      rw [kn_pI h9, g9_wi, wr_ok (nI_pos (by omega)) (show ¬ (2 : Int32) < nI j from nI_nlt (a := 2) (by omega) (by omega)), if_neg (by decide)]
      have hj138 : 0 + j < 138 := by omega
      simp (disch := first | assumption | omega) only [e_pu, e_ite, oL_add, oL_addr, oL_mul, nI_add, nI_1, b_pu, b_bd, b_ite, j_L, j_R, j_ite, j_bd, z_ex, ↓reduceIte, if_true, if_false, kn_gI, kn_pI, kn_cv, kn_g76, kn_a76, kn_s76, kn_g77, kn_a77, kn_s77, kn_g78, kn_a78, kn_s78, kn_g79, kn_a79, kn_s79, kn_g80, kn_a80, kn_s80, kn_g81, kn_a81, kn_s81, kn_g82, kn_a82, kn_s82, kn_g83, kn_a83, kn_s83, kn_g84, kn_a84, kn_s84, kn_g85, kn_a85, kn_s85, kn_g86, kn_g87, kn_a87, kn_s87, kn_g88, kn_a88, kn_s88, kn_g89, kn_a89, kn_s89, kn_g90, kn_a90, kn_s90, kn_g91, kn_a91, kn_s91, kn_g92, kn_a92, kn_s92, kn_g93, kn_a93, kn_s93, kn_g94, kn_a94, kn_s94, kn_l77_0, kn_t77_0, kn_l77_1, kn_t77_1, kn_l77_2, kn_t77_2, kn_l77_3, kn_t77_3, kn_l77_4, kn_t77_4, kn_l77_5, kn_t77_5, kn_l77_6, kn_t77_6, kn_l77_7, kn_t77_7, kn_l77_8, kn_t77_8, kn_l78_0, kn_t78_0, kn_l78_1, kn_t78_1, kn_l78_2, kn_t78_2, kn_l78_3, kn_t78_3, kn_l78_4, kn_t78_4, kn_l78_5, kn_t78_5, kn_l78_6, kn_t78_6, kn_l78_7, kn_t78_7, kn_l78_8, kn_t78_8, kn_l79_0, kn_t79_0, kn_l82_0, kn_t82_0, kn_l83_0, kn_t83_0, kn_l83_1, kn_t83_1, kn_l83_2, kn_t83_2, kn_l83_3, kn_t83_3, kn_l83_4, kn_t83_4, kn_l83_5, kn_t83_5, kn_l83_204, kn_t83_204, kn_wk, kn_fr, kn_mk, kn_ev, kn_bn, kn_ds, kn_rd, kn_dr, kn_of, kn_of0, kn_of1, kn_of2, kn_of3, kn_of4, kn_of5, kn_of6, kn_near, kn_loads, kn_all, kn_fare, kn_fail, kn_told, g9_wi, g9_at, F0_78, e78]
      rw [Nat.zero_add]
theorem L_c22 (hI : CI k M c sp ct cd ns nt np nc st H S n bf) (hm : MI M ct cd st H S n bf) (hi : i + 6 ≤ L) (hL : L ≤ 3072) : STEP (p_L_c22 xs L 0 75 95 (nI i)) k M i := by
  have hc := CI_c hI
  have hns := hc.1.2.1
  have hnt := hc.1.2.2.2.1
  obtain ⟨h0, hcy, hC, T, d, R, l, hT, hS, hn, hst0, hg, hd⟩ := CI_un hI
  have E := CI_E hI
  have hL41 := E.1.1
  unfold p_L_c22 p_L_total
  rw [show nI i + 1 = nI (i + 1) from oL_addr 1 i]
  simp only [z_xs_ok (xs := xs) (show i + 1 < L by omega) hL, b_pu]
  rcases pk_ix (xs (i + 1)) (n := 6) (by omega) with h | h | ⟨j, hj, e⟩
  · refine glue_t hI hm ?_ (if_pos rfl) (by decide) (fun M1 h1 => mres_th2 (w := 0) h1 (v := 0) ?_)
    · unfold p_X8_total p_X8_checkTotal
      rw [b_bd]
      exact c_rgb (bad_wi (n := 5) (Or.inl h) (by omega))
    · unfold p_X9_total
      show (z_bd (z_pI 9 75 0 0) _).1 (KI M1 (z_i M1)) = _
      rw [kn_pI h1.1, g9_wi, wr_bad (show xs (i + 1) < 0 ∨ (5 : Int32) < xs (i + 1) from bad_wi (n := 5) (Or.inl h) (by omega)), if_pos rfl, kn_cv h1.1, kn_fail h1.1]
      rfl
  · refine glue_t hI hm ?_ (if_pos rfl) (by decide) (fun M1 h1 => mres_th2 (w := 0) h1 (v := 0) ?_)
    · unfold p_X8_total p_X8_checkTotal
      rw [b_bd]
      exact c_rgb (bad_wi (n := 5) (Or.inr h) (by omega))
    · unfold p_X9_total
      show (z_bd (z_pI 9 75 0 0) _).1 (KI M1 (z_i M1)) = _
      rw [kn_pI h1.1, g9_wi, wr_bad (show xs (i + 1) < 0 ∨ (5 : Int32) < xs (i + 1) from bad_wi (n := 5) (Or.inr h) (by omega)), if_pos rfl, kn_cv h1.1, kn_fail h1.1]
      rfl
  · rw [e]
    refine glue_r hI hm (v := if j = 5 then s_sum 0 (fun t => s_tr st t 4) nt else st (1 + j)) (cres_of hI ?_) (fun M1 h1 => mres_th h1 ?_)
    · unfold p_X8_total p_X8_checkTotal
      rw [b_bd, c_rg (show ¬ nI j < 0 from nI_pos (by omega)) (show nI j ≤ (5 : Int32) from nI_le (b := 5) (by omega) (by omega)), b_pu]
      show (z_bd (z_gA 8 0 6) _).1 (KI M (z_i M)) = _
      rw [k0_g0_6 h0, ks_cv hL41]
      exact kx_sum hS (by omega)
    · obtain ⟨h9, e78, e80, e83⟩ := MI_0 h1
      unfold p_X9_total
      show (z_bd (z_pI 9 75 0 0) _).1 (KI M1 (z_i M1)) = _
      rw [kn_pI h9, g9_wi, wr_ok (nI_pos (by omega)) (show ¬ (5 : Int32) < nI j from nI_nlt (a := 5) (by omega) (by omega)), if_neg (by decide), kn_cv h9]
      have hs : z_up2 (z_i M1) 75 0 0 78 1 = nI nt := by rw [u2_n _ _ (by omega), e78]; exact hc.1.2.2.1
      refine (m_tot h9 hs hnt (by omega)).trans ?_
      rw [F0_83, e83]
      rfl
theorem L_c19 (hI : CI k M c sp ct cd ns nt np nc st H S n bf) (hm : MI M ct cd st H S n bf) (hi : i + 6 ≤ L) (hL : L ≤ 3072) : STEP (p_L_c19 xs L 0 75 95 (nI i)) k M i := by
  have hc := CI_c hI
  have hns := hc.1.2.1
  have hnt := hc.1.2.2.2.1
  obtain ⟨h0, hcy, hC, T, d, R, l, hT, hS, hn, hst0, hg, hd⟩ := CI_un hI
  have E := CI_E hI
  have hL41 := E.1.1
  unfold p_L_c19 p_L_truck
  rw [show nI i + 1 = nI (i + 1) from oL_addr 1 i, show nI i + 2 = nI (i + 2) from oL_addr 2 i]
  simp only [z_xs_ok (xs := xs) (show i + 1 < L by omega) hL, z_xs_ok (xs := xs) (show i + 2 < L by omega) hL, b_pu]
  rcases pk_ix (xs (i + 1)) (n := nt) (by omega) with h | h | ⟨t, ht, e⟩
  · exact glue_t hI hm (c_tkb hI (Or.inl h)) (if_pos rfl) (by decide) (fun M1 h1 => m_tkb h1 hc (Or.inl h))
  · exact glue_t hI hm (c_tkb hI (Or.inr h)) (if_pos rfl) (by decide) (fun M1 h1 => m_tkb h1 hc (Or.inr h))
  · rw [e]
    have ht3 : t < 3 := by omega
    obtain ⟨qq, hK⟩ := hS.2.2.2.1 t ht
    have hLT := LZ_T hL41 ht3
    have hcls : ∀ f : Nat → zP Int32, (z_bd (z_gA 8 0 6) (fun v2 => (z_bd (z_gA 5 v2 4) (fun v3 => (z_bd (z_aA 14 v3 (nI t)) f))))).1 M = (f (41 + 8 + 3 * t)).1 (KI M (z_i M)) := fun f => by
      show (z_bd (z_gA 8 0 6) _).1 (KI M (z_i M)) = _
      rw [k0_g0_6 h0]
      exact kx_trk hL41 ht3
    rcases pk_ix (xs (i + 2)) (n := 6) (by omega) with h | h | ⟨m, hm6, e2⟩
    · have hne : ∀ m : Nat, m < 6 → ¬ xs (i + 2) = nI m := bad_ne (Or.inl h)
      refine glue_t hI hm (E := "java/lang/IllegalArgumentException") ?_ (by rw [if_neg (by decide), if_pos rfl]) (show ¬ (2 : Int32) = 0 by decide) (fun M1 h1 => mres_th2 (w := 0) h1 (v := 0) ?_)
      · unfold p_X8_truck
        rw [c_tk hI ht, hcls]
        rw [if_neg (show ¬ xs (i + 2) = 0 from hne 0 (by omega)), if_neg (show ¬ xs (i + 2) = 1 from hne 1 (by omega)), if_neg (show ¬ xs (i + 2) = 2 from hne 2 (by omega)), if_neg (show ¬ xs (i + 2) = 3 from hne 3 (by omega)), if_neg (show ¬ xs (i + 2) = 4 from hne 4 (by omega)), if_neg (show ¬ xs (i + 2) = 5 from hne 5 (by omega))]
        rfl
      · unfold p_X9_truck
        rw [m_tk h1 hc ht, if_neg (show ¬ xs (i + 2) = 0 from hne 0 (by omega)), if_neg (show ¬ xs (i + 2) = 1 from hne 1 (by omega)), if_neg (show ¬ xs (i + 2) = 2 from hne 2 (by omega)), if_neg (show ¬ xs (i + 2) = 3 from hne 3 (by omega)), if_neg (show ¬ xs (i + 2) = 4 from hne 4 (by omega)), if_neg (show ¬ xs (i + 2) = 5 from hne 5 (by omega)), kn_cv h1.1, kn_fail h1.1]
        rfl
    · have hne : ∀ m : Nat, m < 6 → ¬ xs (i + 2) = nI m := bad_ne (Or.inr h)
      refine glue_t hI hm (E := "java/lang/IllegalArgumentException") ?_ (by rw [if_neg (by decide), if_pos rfl]) (show ¬ (2 : Int32) = 0 by decide) (fun M1 h1 => mres_th2 (w := 0) h1 (v := 0) ?_)
      · unfold p_X8_truck
        rw [c_tk hI ht, hcls]
        rw [if_neg (show ¬ xs (i + 2) = 0 from hne 0 (by omega)), if_neg (show ¬ xs (i + 2) = 1 from hne 1 (by omega)), if_neg (show ¬ xs (i + 2) = 2 from hne 2 (by omega)), if_neg (show ¬ xs (i + 2) = 3 from hne 3 (by omega)), if_neg (show ¬ xs (i + 2) = 4 from hne 4 (by omega)), if_neg (show ¬ xs (i + 2) = 5 from hne 5 (by omega))]
        rfl
      · unfold p_X9_truck
        rw [m_tk h1 hc ht, if_neg (show ¬ xs (i + 2) = 0 from hne 0 (by omega)), if_neg (show ¬ xs (i + 2) = 1 from hne 1 (by omega)), if_neg (show ¬ xs (i + 2) = 2 from hne 2 (by omega)), if_neg (show ¬ xs (i + 2) = 3 from hne 3 (by omega)), if_neg (show ¬ xs (i + 2) = 4 from hne 4 (by omega)), if_neg (show ¬ xs (i + 2) = 5 from hne 5 (by omega)), kn_cv h1.1, kn_fail h1.1]
        rfl
    · rw [e2]
      obtain ⟨k0, k2, k3, k4, k6, k5, k7, ko⟩ := hK
      obtain hmm | hmm | hmm | hmm | hmm | hmm : m = 0 ∨ m = 1 ∨ m = 2 ∨ m = 3 ∨ m = 4 ∨ m = 5 := by omega
      · subst hmm
        refine glue_r hI hm (v := s_tr st t 0) (cres_of hI ?_) (fun M1 h1 => mres_th h1 ?_)
        · unfold p_X8_truck
          rw [c_tk hI ht, hcls, if_pos (show nI 0 = 0 from rfl)]
          simp only [kt_cv hLT, kt_dr hLT, k6]
          rcases k0.1 with ⟨p, hp, p0, p1, p2⟩ | ⟨p0, ⟨p, hp, p1⟩, b, hb, p2⟩
          · rw [p2, if_pos rfl, if_pos rfl, kt_gI hLT, k5 p hp p0, p0]
            rfl
          · rw [if_neg (show ¬ s_tr st t 2 = -1 by rw [p2]; exact nI_nm1 (by omega)), if_neg (show ¬ (1 : Int32) = 0 by decide), p0]
            rfl
        · obtain ⟨h9, e78, e80, e83⟩ := MI_0 h1
          unfold p_X9_truck
          rw [m_tk h1 hc ht, if_pos (show nI 0 = 0 from rfl)]
          simp (disch := first | assumption | omega) only [e_pu, e_ite, oL_add, oL_addr, oL_mul, nI_add, nI_1, b_pu, b_bd, b_ite, j_L, j_R, j_ite, j_bd, z_ex, ↓reduceIte, if_true, if_false, kn_gI, kn_pI, kn_cv, kn_g76, kn_a76, kn_s76, kn_g77, kn_a77, kn_s77, kn_g78, kn_a78, kn_s78, kn_g79, kn_a79, kn_s79, kn_g80, kn_a80, kn_s80, kn_g81, kn_a81, kn_s81, kn_g82, kn_a82, kn_s82, kn_g83, kn_a83, kn_s83, kn_g84, kn_a84, kn_s84, kn_g85, kn_a85, kn_s85, kn_g86, kn_g87, kn_a87, kn_s87, kn_g88, kn_a88, kn_s88, kn_g89, kn_a89, kn_s89, kn_g90, kn_a90, kn_s90, kn_g91, kn_a91, kn_s91, kn_g92, kn_a92, kn_s92, kn_g93, kn_a93, kn_s93, kn_g94, kn_a94, kn_s94, kn_l77_0, kn_t77_0, kn_l77_1, kn_t77_1, kn_l77_2, kn_t77_2, kn_l77_3, kn_t77_3, kn_l77_4, kn_t77_4, kn_l77_5, kn_t77_5, kn_l77_6, kn_t77_6, kn_l77_7, kn_t77_7, kn_l77_8, kn_t77_8, kn_l78_0, kn_t78_0, kn_l78_1, kn_t78_1, kn_l78_2, kn_t78_2, kn_l78_3, kn_t78_3, kn_l78_4, kn_t78_4, kn_l78_5, kn_t78_5, kn_l78_6, kn_t78_6, kn_l78_7, kn_t78_7, kn_l78_8, kn_t78_8, kn_l79_0, kn_t79_0, kn_l82_0, kn_t82_0, kn_l83_0, kn_t83_0, kn_l83_1, kn_t83_1, kn_l83_2, kn_t83_2, kn_l83_3, kn_t83_3, kn_l83_4, kn_t83_4, kn_l83_5, kn_t83_5, kn_l83_204, kn_t83_204, kn_wk, kn_fr, kn_mk, kn_ev, kn_bn, kn_ds, kn_rd, kn_dr, kn_of, kn_of0, kn_of1, kn_of2, kn_of3, kn_of4, kn_of5, kn_of6, kn_near, kn_loads, kn_all, kn_fare, kn_fail, kn_told, g9_wi, g9_at, F0_78, F0_83, e78, e83]
      · subst hmm
        refine glue_r hI hm (v := s_tr st t 1) (cres_of hI ?_) (fun M1 h1 => mres_th h1 ?_)
        · unfold p_X8_truck
          rw [c_tk hI ht, hcls, if_neg (show ¬ nI 1 = 0 by decide), if_pos (show nI 1 = 1 from rfl)]
          simp only [kt_cv hLT, kt_dr hLT, k6]
          rcases k0.1 with ⟨p, hp, p0, p1, p2⟩ | ⟨p0, ⟨p, hp, p1⟩, b, hb, p2⟩
          · rw [p2, if_pos rfl, if_pos rfl, p1]
            rfl
          · rw [if_neg (show ¬ s_tr st t 2 = -1 by rw [p2]; exact nI_nm1 (by omega)), if_neg (show ¬ (1 : Int32) = 0 by decide), kt_gI hLT, (k7 p0).1]
            rfl
        · obtain ⟨h9, e78, e80, e83⟩ := MI_0 h1
          unfold p_X9_truck
          rw [m_tk h1 hc ht, if_neg (show ¬ nI 1 = 0 by decide), if_pos (show nI 1 = 1 from rfl)]
          simp (disch := first | assumption | omega) only [e_pu, e_ite, oL_add, oL_addr, oL_mul, nI_add, nI_1, b_pu, b_bd, b_ite, j_L, j_R, j_ite, j_bd, z_ex, ↓reduceIte, if_true, if_false, kn_gI, kn_pI, kn_cv, kn_g76, kn_a76, kn_s76, kn_g77, kn_a77, kn_s77, kn_g78, kn_a78, kn_s78, kn_g79, kn_a79, kn_s79, kn_g80, kn_a80, kn_s80, kn_g81, kn_a81, kn_s81, kn_g82, kn_a82, kn_s82, kn_g83, kn_a83, kn_s83, kn_g84, kn_a84, kn_s84, kn_g85, kn_a85, kn_s85, kn_g86, kn_g87, kn_a87, kn_s87, kn_g88, kn_a88, kn_s88, kn_g89, kn_a89, kn_s89, kn_g90, kn_a90, kn_s90, kn_g91, kn_a91, kn_s91, kn_g92, kn_a92, kn_s92, kn_g93, kn_a93, kn_s93, kn_g94, kn_a94, kn_s94, kn_l77_0, kn_t77_0, kn_l77_1, kn_t77_1, kn_l77_2, kn_t77_2, kn_l77_3, kn_t77_3, kn_l77_4, kn_t77_4, kn_l77_5, kn_t77_5, kn_l77_6, kn_t77_6, kn_l77_7, kn_t77_7, kn_l77_8, kn_t77_8, kn_l78_0, kn_t78_0, kn_l78_1, kn_t78_1, kn_l78_2, kn_t78_2, kn_l78_3, kn_t78_3, kn_l78_4, kn_t78_4, kn_l78_5, kn_t78_5, kn_l78_6, kn_t78_6, kn_l78_7, kn_t78_7, kn_l78_8, kn_t78_8, kn_l79_0, kn_t79_0, kn_l82_0, kn_t82_0, kn_l83_0, kn_t83_0, kn_l83_1, kn_t83_1, kn_l83_2, kn_t83_2, kn_l83_3, kn_t83_3, kn_l83_4, kn_t83_4, kn_l83_5, kn_t83_5, kn_l83_204, kn_t83_204, kn_wk, kn_fr, kn_mk, kn_ev, kn_bn, kn_ds, kn_rd, kn_dr, kn_of, kn_of0, kn_of1, kn_of2, kn_of3, kn_of4, kn_of5, kn_of6, kn_near, kn_loads, kn_all, kn_fare, kn_fail, kn_told, g9_wi, g9_at, F0_78, F0_83, e78, e83]
      · subst hmm
        refine glue_r hI hm (v := s_tr st t 2) (cres_of hI ?_) (fun M1 h1 => mres_th h1 ?_)
        · unfold p_X8_truck
          rw [c_tk hI ht, hcls, if_neg (show ¬ nI 2 = 0 by decide), if_neg (show ¬ nI 2 = 1 by decide), if_pos (show nI 2 = 2 from rfl)]
          rw [kt_gI hLT, k6]
          rfl
        · obtain ⟨h9, e78, e80, e83⟩ := MI_0 h1
          unfold p_X9_truck
          rw [m_tk h1 hc ht, if_neg (show ¬ nI 2 = 0 by decide), if_neg (show ¬ nI 2 = 1 by decide), if_pos (show nI 2 = 2 from rfl)]
          simp (disch := first | assumption | omega) only [e_pu, e_ite, oL_add, oL_addr, oL_mul, nI_add, nI_1, b_pu, b_bd, b_ite, j_L, j_R, j_ite, j_bd, z_ex, ↓reduceIte, if_true, if_false, kn_gI, kn_pI, kn_cv, kn_g76, kn_a76, kn_s76, kn_g77, kn_a77, kn_s77, kn_g78, kn_a78, kn_s78, kn_g79, kn_a79, kn_s79, kn_g80, kn_a80, kn_s80, kn_g81, kn_a81, kn_s81, kn_g82, kn_a82, kn_s82, kn_g83, kn_a83, kn_s83, kn_g84, kn_a84, kn_s84, kn_g85, kn_a85, kn_s85, kn_g86, kn_g87, kn_a87, kn_s87, kn_g88, kn_a88, kn_s88, kn_g89, kn_a89, kn_s89, kn_g90, kn_a90, kn_s90, kn_g91, kn_a91, kn_s91, kn_g92, kn_a92, kn_s92, kn_g93, kn_a93, kn_s93, kn_g94, kn_a94, kn_s94, kn_l77_0, kn_t77_0, kn_l77_1, kn_t77_1, kn_l77_2, kn_t77_2, kn_l77_3, kn_t77_3, kn_l77_4, kn_t77_4, kn_l77_5, kn_t77_5, kn_l77_6, kn_t77_6, kn_l77_7, kn_t77_7, kn_l77_8, kn_t77_8, kn_l78_0, kn_t78_0, kn_l78_1, kn_t78_1, kn_l78_2, kn_t78_2, kn_l78_3, kn_t78_3, kn_l78_4, kn_t78_4, kn_l78_5, kn_t78_5, kn_l78_6, kn_t78_6, kn_l78_7, kn_t78_7, kn_l78_8, kn_t78_8, kn_l79_0, kn_t79_0, kn_l82_0, kn_t82_0, kn_l83_0, kn_t83_0, kn_l83_1, kn_t83_1, kn_l83_2, kn_t83_2, kn_l83_3, kn_t83_3, kn_l83_4, kn_t83_4, kn_l83_5, kn_t83_5, kn_l83_204, kn_t83_204, kn_wk, kn_fr, kn_mk, kn_ev, kn_bn, kn_ds, kn_rd, kn_dr, kn_of, kn_of0, kn_of1, kn_of2, kn_of3, kn_of4, kn_of5, kn_of6, kn_near, kn_loads, kn_all, kn_fare, kn_fail, kn_told, g9_wi, g9_at, F0_78, F0_83, e78, e83]
      · subst hmm
        refine glue_r hI hm (v := s_tr st t 4) (cres_of hI ?_) (fun M1 h1 => mres_th h1 ?_)
        · unfold p_X8_truck
          rw [c_tk hI ht, hcls, if_neg (show ¬ nI 3 = 0 by decide), if_neg (show ¬ nI 3 = 1 by decide), if_neg (show ¬ nI 3 = 2 by decide), if_pos (show nI 3 = 3 from rfl)]
          rw [kt_gI hLT, k4]
          rfl
        · obtain ⟨h9, e78, e80, e83⟩ := MI_0 h1
          unfold p_X9_truck
          rw [m_tk h1 hc ht, if_neg (show ¬ nI 3 = 0 by decide), if_neg (show ¬ nI 3 = 1 by decide), if_neg (show ¬ nI 3 = 2 by decide), if_pos (show nI 3 = 3 from rfl)]
          simp (disch := first | assumption | omega) only [e_pu, e_ite, oL_add, oL_addr, oL_mul, nI_add, nI_1, b_pu, b_bd, b_ite, j_L, j_R, j_ite, j_bd, z_ex, ↓reduceIte, if_true, if_false, kn_gI, kn_pI, kn_cv, kn_g76, kn_a76, kn_s76, kn_g77, kn_a77, kn_s77, kn_g78, kn_a78, kn_s78, kn_g79, kn_a79, kn_s79, kn_g80, kn_a80, kn_s80, kn_g81, kn_a81, kn_s81, kn_g82, kn_a82, kn_s82, kn_g83, kn_a83, kn_s83, kn_g84, kn_a84, kn_s84, kn_g85, kn_a85, kn_s85, kn_g86, kn_g87, kn_a87, kn_s87, kn_g88, kn_a88, kn_s88, kn_g89, kn_a89, kn_s89, kn_g90, kn_a90, kn_s90, kn_g91, kn_a91, kn_s91, kn_g92, kn_a92, kn_s92, kn_g93, kn_a93, kn_s93, kn_g94, kn_a94, kn_s94, kn_l77_0, kn_t77_0, kn_l77_1, kn_t77_1, kn_l77_2, kn_t77_2, kn_l77_3, kn_t77_3, kn_l77_4, kn_t77_4, kn_l77_5, kn_t77_5, kn_l77_6, kn_t77_6, kn_l77_7, kn_t77_7, kn_l77_8, kn_t77_8, kn_l78_0, kn_t78_0, kn_l78_1, kn_t78_1, kn_l78_2, kn_t78_2, kn_l78_3, kn_t78_3, kn_l78_4, kn_t78_4, kn_l78_5, kn_t78_5, kn_l78_6, kn_t78_6, kn_l78_7, kn_t78_7, kn_l78_8, kn_t78_8, kn_l79_0, kn_t79_0, kn_l82_0, kn_t82_0, kn_l83_0, kn_t83_0, kn_l83_1, kn_t83_1, kn_l83_2, kn_t83_2, kn_l83_3, kn_t83_3, kn_l83_4, kn_t83_4, kn_l83_5, kn_t83_5, kn_l83_204, kn_t83_204, kn_wk, kn_fr, kn_mk, kn_ev, kn_bn, kn_ds, kn_rd, kn_dr, kn_of, kn_of0, kn_of1, kn_of2, kn_of3, kn_of4, kn_of5, kn_of6, kn_near, kn_loads, kn_all, kn_fare, kn_fail, kn_told, g9_wi, g9_at, F0_78, F0_83, e78, e83]
      · subst hmm
        refine glue_r hI hm (v := ct (45 + t)) (cres_of hI ?_) (fun M1 h1 => mres_th h1 ?_)
        · unfold p_X8_truck
          rw [c_tk hI ht, hcls, if_neg (show ¬ nI 4 = 0 by decide), if_neg (show ¬ nI 4 = 1 by decide), if_neg (show ¬ nI 4 = 2 by decide), if_neg (show ¬ nI 4 = 3 by decide), if_pos (show nI 4 = 4 from rfl)]
          rw [kt_gI hLT, k3]
          rfl
        · obtain ⟨h9, e78, e80, e83⟩ := MI_0 h1
          unfold p_X9_truck
          rw [m_tk h1 hc ht, if_neg (show ¬ nI 4 = 0 by decide), if_neg (show ¬ nI 4 = 1 by decide), if_neg (show ¬ nI 4 = 2 by decide), if_neg (show ¬ nI 4 = 3 by decide), if_pos (show nI 4 = 4 from rfl)]
          simp (disch := first | assumption | omega) only [e_pu, e_ite, oL_add, oL_addr, oL_mul, nI_add, nI_1, b_pu, b_bd, b_ite, j_L, j_R, j_ite, j_bd, z_ex, ↓reduceIte, if_true, if_false, kn_gI, kn_pI, kn_cv, kn_g76, kn_a76, kn_s76, kn_g77, kn_a77, kn_s77, kn_g78, kn_a78, kn_s78, kn_g79, kn_a79, kn_s79, kn_g80, kn_a80, kn_s80, kn_g81, kn_a81, kn_s81, kn_g82, kn_a82, kn_s82, kn_g83, kn_a83, kn_s83, kn_g84, kn_a84, kn_s84, kn_g85, kn_a85, kn_s85, kn_g86, kn_g87, kn_a87, kn_s87, kn_g88, kn_a88, kn_s88, kn_g89, kn_a89, kn_s89, kn_g90, kn_a90, kn_s90, kn_g91, kn_a91, kn_s91, kn_g92, kn_a92, kn_s92, kn_g93, kn_a93, kn_s93, kn_g94, kn_a94, kn_s94, kn_l77_0, kn_t77_0, kn_l77_1, kn_t77_1, kn_l77_2, kn_t77_2, kn_l77_3, kn_t77_3, kn_l77_4, kn_t77_4, kn_l77_5, kn_t77_5, kn_l77_6, kn_t77_6, kn_l77_7, kn_t77_7, kn_l77_8, kn_t77_8, kn_l78_0, kn_t78_0, kn_l78_1, kn_t78_1, kn_l78_2, kn_t78_2, kn_l78_3, kn_t78_3, kn_l78_4, kn_t78_4, kn_l78_5, kn_t78_5, kn_l78_6, kn_t78_6, kn_l78_7, kn_t78_7, kn_l78_8, kn_t78_8, kn_l79_0, kn_t79_0, kn_l82_0, kn_t82_0, kn_l83_0, kn_t83_0, kn_l83_1, kn_t83_1, kn_l83_2, kn_t83_2, kn_l83_3, kn_t83_3, kn_l83_4, kn_t83_4, kn_l83_5, kn_t83_5, kn_l83_204, kn_t83_204, kn_wk, kn_fr, kn_mk, kn_ev, kn_bn, kn_ds, kn_rd, kn_dr, kn_of, kn_of0, kn_of1, kn_of2, kn_of3, kn_of4, kn_of5, kn_of6, kn_near, kn_loads, kn_all, kn_fare, kn_fail, kn_told, g9_wi, g9_at, F0_78, F0_83, e78, e83]
      · subst hmm
        refine glue_r hI hm (v := s_tr st t 5) (cres_of hI ?_) (fun M1 h1 => mres_th h1 ?_)
        · unfold p_X8_truck
          rw [c_tk hI ht, hcls, if_neg (show ¬ nI 5 = 0 by decide), if_neg (show ¬ nI 5 = 1 by decide), if_neg (show ¬ nI 5 = 2 by decide), if_neg (show ¬ nI 5 = 3 by decide), if_neg (show ¬ nI 5 = 4 by decide), if_pos (show nI 5 = 5 from rfl)]
          rw [kt_gI hLT, k2, ← k0.2.2.1]
          rfl
        · obtain ⟨h9, e78, e80, e83⟩ := MI_0 h1
          unfold p_X9_truck
          rw [m_tk h1 hc ht, if_neg (show ¬ nI 5 = 0 by decide), if_neg (show ¬ nI 5 = 1 by decide), if_neg (show ¬ nI 5 = 2 by decide), if_neg (show ¬ nI 5 = 3 by decide), if_neg (show ¬ nI 5 = 4 by decide), if_pos (show nI 5 = 5 from rfl)]
          simp (disch := first | assumption | omega) only [e_pu, e_ite, oL_add, oL_addr, oL_mul, nI_add, nI_1, b_pu, b_bd, b_ite, j_L, j_R, j_ite, j_bd, z_ex, ↓reduceIte, if_true, if_false, kn_gI, kn_pI, kn_cv, kn_g76, kn_a76, kn_s76, kn_g77, kn_a77, kn_s77, kn_g78, kn_a78, kn_s78, kn_g79, kn_a79, kn_s79, kn_g80, kn_a80, kn_s80, kn_g81, kn_a81, kn_s81, kn_g82, kn_a82, kn_s82, kn_g83, kn_a83, kn_s83, kn_g84, kn_a84, kn_s84, kn_g85, kn_a85, kn_s85, kn_g86, kn_g87, kn_a87, kn_s87, kn_g88, kn_a88, kn_s88, kn_g89, kn_a89, kn_s89, kn_g90, kn_a90, kn_s90, kn_g91, kn_a91, kn_s91, kn_g92, kn_a92, kn_s92, kn_g93, kn_a93, kn_s93, kn_g94, kn_a94, kn_s94, kn_l77_0, kn_t77_0, kn_l77_1, kn_t77_1, kn_l77_2, kn_t77_2, kn_l77_3, kn_t77_3, kn_l77_4, kn_t77_4, kn_l77_5, kn_t77_5, kn_l77_6, kn_t77_6, kn_l77_7, kn_t77_7, kn_l77_8, kn_t77_8, kn_l78_0, kn_t78_0, kn_l78_1, kn_t78_1, kn_l78_2, kn_t78_2, kn_l78_3, kn_t78_3, kn_l78_4, kn_t78_4, kn_l78_5, kn_t78_5, kn_l78_6, kn_t78_6, kn_l78_7, kn_t78_7, kn_l78_8, kn_t78_8, kn_l79_0, kn_t79_0, kn_l82_0, kn_t82_0, kn_l83_0, kn_t83_0, kn_l83_1, kn_t83_1, kn_l83_2, kn_t83_2, kn_l83_3, kn_t83_3, kn_l83_4, kn_t83_4, kn_l83_5, kn_t83_5, kn_l83_204, kn_t83_204, kn_wk, kn_fr, kn_mk, kn_ev, kn_bn, kn_ds, kn_rd, kn_dr, kn_of, kn_of0, kn_of1, kn_of2, kn_of3, kn_of4, kn_of5, kn_of6, kn_near, kn_loads, kn_all, kn_fare, kn_fail, kn_told, g9_wi, g9_at, F0_78, F0_83, e78, e83]
theorem L_c8 (hI : CI k M c sp ct cd ns nt np nc st H S n bf) (hm : MI M ct cd st H S n bf) (hi : i + 6 ≤ L) (hL : L ≤ 3072) : STEP (p_L_c8 xs L 0 75 95 (nI i)) k M i := by
  have hc := CI_c hI
  have hns := hc.1.2.1
  have hnt := hc.1.2.2.2.1
  obtain ⟨h0, hcy, hC, T, d, R, l, hT, hS, hn, hst0, hg, hd⟩ := CI_un hI
  have E := CI_E hI
  have hL41 := E.1.1
  unfold p_L_c8 p_L_isBalanced
  rw [show nI i + 1 = nI (i + 1) from oL_addr 1 i]
  simp only [z_xs_ok (xs := xs) (show i + 1 < L by omega) hL, b_pu]
  rcases pk_ix (xs (i + 1)) (n := ns) (by omega) with h | h | ⟨j, hj, e⟩
  · refine glue_b hI hm (v := 0) (code := 1) (Or.inl rfl) (Or.inr ⟨by decide, _, c_stb hI (Or.inl h), if_pos rfl⟩) (fun M1 h1 => mres_th h1 ?_)
    obtain ⟨h9, e78, e80, e83⟩ := MI_0 h1
    have hs : z_i M1 78 0 = nI ns := by rw [e78]; exact hc.1.1
    unfold p_X9_isBalanced
    show (z_bd (z_cv 9 75 _) _).1 (KI M1 (z_i M1)) = _
    rw [kn_cv h9, kn_stb h9 hs hns (Or.inl h), if_pos rfl, j_L, kn_pI h9, kn_gI h9, u2_s, if_neg (by decide)]
    rfl
  · refine glue_b hI hm (v := 0) (code := 1) (Or.inl rfl) (Or.inr ⟨by decide, _, c_stb hI (Or.inr h), if_pos rfl⟩) (fun M1 h1 => mres_th h1 ?_)
    obtain ⟨h9, e78, e80, e83⟩ := MI_0 h1
    have hs : z_i M1 78 0 = nI ns := by rw [e78]; exact hc.1.1
    unfold p_X9_isBalanced
    show (z_bd (z_cv 9 75 _) _).1 (KI M1 (z_i M1)) = _
    rw [kn_cv h9, kn_stb h9 hs hns (Or.inr h), if_pos rfl, j_L, kn_pI h9, kn_gI h9, u2_s, if_neg (by decide)]
    rfl
  · rw [e]
    have hj8 : j < 8 := by omega
    refine glue_b hI hm (v := s_ev ct st j) (code := 0) ?_ (Or.inl ⟨rfl, cres_of hI ?_⟩) (fun M1 h1 => mres_th h1 ?_)
    · unfold s_ev
      split
      · exact Or.inl rfl
      · split
        · exact Or.inl rfl
        · exact Or.inr rfl
    · unfold p_X8_isBalanced
      rw [c_st hI hj]
      show (z_bd (z_gA 8 0 6) _).1 (KI M (z_i M)) = _
      rw [k0_g0_6 h0, ks_cv hL41, kx_ms E hj]
      have hev := ms_ev hc hn.1 hj
      by_cases h0 : s_ms ct st j = 0
      · rw [if_pos h0, hev.mp h0]
        rfl
      · rw [if_neg h0]
        have : s_ev ct st j = 0 := by
          have h2 : ¬ s_ev ct st j = 1 := fun q => h0 (hev.mpr q)
          unfold s_ev at h2 ⊢
          split
          · rfl
          · split
            · rfl
            · rename_i a b
              rw [if_neg a, if_neg b] at h2
              exact absurd rfl h2
        rw [this]
        rfl
    · obtain ⟨h9, e78, e80, e83⟩ := MI_0 h1
      have hs : z_i M1 78 0 = nI ns := by rw [e78]; exact hc.1.1
      unfold p_X9_isBalanced
      show (z_bd (z_cv 9 75 _) _).1 (KI M1 (z_i M1)) = _
      rw [kn_cv h9, kn_st h9 hs hns hj, if_neg (by decide), j_L, kn_pI h9, kn_gI h9, u2_s, if_pos rfl, kn_cv h9, kn_ev h9 hj8, F0_78, F0_83, e78, e83]
      unfold s_ev
      split
      · rfl
      · split <;> rfl
end PA15
