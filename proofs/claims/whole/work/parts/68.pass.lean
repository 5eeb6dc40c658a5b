/-! ===== PHASE 2: passMinute of the model ===== -/
/-- a city's rows: stations, trucks, trips, the fare's items -/
def c_ok (ct cd : Nat → Int32) (ns nt np nc : Nat) : Prop := (ct 0 = nI ns ∧ ns ≤ 8 ∧ ct 1 = nI nt ∧ nt ≤ 3 ∧ ct 2 = nI np ∧ np ≤ 30) ∧ (ct 8 = nI nc ∧ nc ≤ 700 ∧ 1 ≤ nc ∧ s_cw cd nc) ∧ (∀ p, p < np → ∃ a b c, a < ns ∧ b < ns ∧ c < 1440 ∧ ct (48 + p) = nI a ∧ ct (78 + p) = nI b ∧ ct (108 + p) = nI c) ∧ (∀ k, k < ns → ∃ x y d b, x < 100 ∧ y < 100 ∧ 1 ≤ d ∧ d ≤ 20 ∧ b ≤ d ∧ ct (10 + k) = nI x ∧ ct (18 + k) = nI y ∧ ct (26 + k) = nI d ∧ ct (34 + k) = nI b) ∧ (∃ a b c d e, a < 100 ∧ b < 100 ∧ c ≤ 50 ∧ d ≤ 100 ∧ e < 1000 ∧ ct 3 = nI a ∧ ct 4 = nI b ∧ ct 5 = nI c ∧ ct 6 = nI d ∧ ct 7 = nI e) ∧ (∀ t, t < nt → ∃ a b, a < ns ∧ 1 ≤ b ∧ b ≤ 20 ∧ ct (42 + t) = nI a ∧ ct (45 + t) = nI b)
/-- riders' rows -/
def r_ok (st : Nat → Int32) (n r : Nat) : Prop := st 204 = nI r ∧ ∀ k, k < r → ∃ a b, a < n ∧ b < n ∧ st (205 + 3 * k + 1) = nI a ∧ st (205 + 3 * k + 2) = nI b
def s_tp (ct cd : Nat → Int32) (nc : Nat) (st : Nat → Int32) : Nat → Nat → Int32
  | 0 => st
  | p + 1 => if ct (108 + p) = s_tp ct cd nc st p 0 - s_tp ct cd nc st p 0 / 1440 * 1440 then (if s_tp ct cd nc st p (6 + ix (ct (48 + p))) = 0 then s_up (s_tp ct cd nc st p) 4 (s_tp ct cd nc st p 4 + 1) else s_beg ct cd (s_tp ct cd nc st p) nc (ix (s_tp ct cd nc st p 204)) (ix (ct (48 + p))) (ix (ct (78 + p)))) else s_tp ct cd nc st p
def s_m1 (ct : Nat → Int32) (nt : Nat) (st : Nat → Int32) : Nat → Int32 := s_tl ct (s_up st 0 (st 0 + 1)) nt
def s_m2 (ct : Nat → Int32) (ns nt : Nat) (st : Nat → Int32) : Nat × (Nat → Int32) := s_rl ct ns (s_m1 ct nt st) (ix (st 204))
def s_min (ct cd : Nat → Int32) (ns nt np nc : Nat) (st : Nat → Int32) : Nat → Int32 := s_tp ct cd nc (s_up (s_m2 ct ns nt st).2 204 (nI (s_m2 ct ns nt st).1)) np
section PK5
variable {β : Type} {M : zM} {ct cd g st : Nat → Int32} {i j k n m t q s p l r ns nt np nc : Nat} {v x : Int32}
theorem s_beg_204 : s_beg ct cd st n r j k 204 = nI (r + 1) := s_ups _ _ _
theorem s_tp_r (hp : ∀ p, p < np → ∃ a, a < 8 ∧ ct (48 + p) = nI a) : ∀ p, p ≤ np → st 204 = nI r → r + 30 < 1024 → np ≤ 30 → ∃ r', r' ≤ r + p ∧ s_tp ct cd nc st p 204 = nI r'
  | 0, _, h, _, _ => ⟨r, Nat.le_refl _, h⟩
  | p + 1, hp1, h, h3, h4 => by
    obtain ⟨r', h1, h2⟩ := s_tp_r hp p (by omega) h h3 h4
    unfold s_tp
    split
    · split
      · exact ⟨r', by omega, (s_upn _ _ (by decide)).trans h2⟩
      · rw [h2, ix_nI (by omega)]
        exact ⟨r' + 1, by omega, s_beg_204⟩
    · exact ⟨r', by omega, h2⟩
theorem kk_tpL (f : Int32) (h : L9 M) (hc : c_ok (z_i M 78) (z_i M 80) ns nt np nc) (hr : st 204 = nI r) (hr1 : r + 30 < 1024) : ∃ g', (z_lp (fun (t25 : Int32) => (z_bd (z_gA 9 75 11) (fun v26 => (z_bd (z_aI 11 v26 2) (fun v27 => (if v27 ≤ t25 then (z_pu (.inr f)) else (z_bd (z_gA 9 75 11) (fun v28 => (z_bd (z_aI 11 v28 (108 + t25)) (fun v29 => (z_bd (z_gA 9 75 19) (fun v30 => (z_bd (z_aI 11 v30 0) (fun v31 => (if v29 = (v31 - v31 / 1440 * 1440) then (z_bd (z_gA 9 75 19) (fun v32 => (z_bd (z_gA 9 75 11) (fun v33 => (z_bd (z_aI 11 v33 (48 + t25)) (fun v34 => (z_bd (z_aI 11 v32 (6 + v34)) (fun v35 => (if v35 = 0 then (z_bd (z_gA 9 75 19) (fun v41 => (z_bd (z_aI 11 v41 4) (fun v42 => (z_bd (z_sI 11 v41 4 (v42 + 1)) (fun _ => (z_pu (.inl ((t25 + 1)))))))))) else (z_bd (z_gA 9 75 11) (fun v36 => (z_bd (z_aI 11 v36 (48 + t25)) (fun v37 => (z_bd (z_gA 9 75 11) (fun v38 => (z_bd (z_aI 11 v38 (78 + t25)) (fun v39 => (z_bd (z_cv 9 75 (p_X9_begin 75 v37 v39)) (fun r40 => (z_pu (.inl ((t25 + 1))))))))))))))))))))))) else (z_pu (.inl ((t25 + 1))))))))))))))))))) 0).1 (K9 M g st) = some (.inr f, K9 M g' (s_tp (z_i M 78) (z_i M 80) nc st np)) := by
  obtain ⟨⟨c0, hns, c1, hnt, c2, hnp⟩, ⟨c8, hnc, hnc1, hcw⟩, htp, _⟩ := hc
  suffices hz : ∃ b M', (z_lp (fun (t25 : Int32) => (z_bd (z_gA 9 75 11) (fun v26 => (z_bd (z_aI 11 v26 2) (fun v27 => (if v27 ≤ t25 then (z_pu (.inr f)) else (z_bd (z_gA 9 75 11) (fun v28 => (z_bd (z_aI 11 v28 (108 + t25)) (fun v29 => (z_bd (z_gA 9 75 19) (fun v30 => (z_bd (z_aI 11 v30 0) (fun v31 => (if v29 = (v31 - v31 / 1440 * 1440) then (z_bd (z_gA 9 75 19) (fun v32 => (z_bd (z_gA 9 75 11) (fun v33 => (z_bd (z_aI 11 v33 (48 + t25)) (fun v34 => (z_bd (z_aI 11 v32 (6 + v34)) (fun v35 => (if v35 = 0 then (z_bd (z_gA 9 75 19) (fun v41 => (z_bd (z_aI 11 v41 4) (fun v42 => (z_bd (z_sI 11 v41 4 (v42 + 1)) (fun _ => (z_pu (.inl ((t25 + 1)))))))))) else (z_bd (z_gA 9 75 11) (fun v36 => (z_bd (z_aI 11 v36 (48 + t25)) (fun v37 => (z_bd (z_gA 9 75 11) (fun v38 => (z_bd (z_aI 11 v38 (78 + t25)) (fun v39 => (z_bd (z_cv 9 75 (p_X9_begin 75 v37 v39)) (fun r40 => (z_pu (.inl ((t25 + 1))))))))))))))))))))))) else (z_pu (.inl ((t25 + 1))))))))))))))))))) (nI 0)).1 (K9 M g st) = some (.inr b, M') ∧ b = f ∧ ∃ g', M' = K9 M g' (s_tp (z_i M 78) (z_i M 80) nc st np) by
    obtain ⟨b, M', hz, hb, g', hM⟩ := hz
    subst hb
    subst hM
    exact ⟨g', hz⟩
  refine lp_ct np (fun p => nI p) (fun p M' => ∃ g', M' = K9 M g' (s_tp (z_i M 78) (z_i M 80) nc st p)) (fun b M' => b = f ∧ ∃ g', M' = K9 M g' (s_tp (z_i M 78) (z_i M 80) nc st np)) ?_ ?_ _ ⟨g, rfl⟩
  · rintro p _ hp ⟨g', rfl⟩
    obtain ⟨a, b, c, ha, hb, hc, ea, eb, ec⟩ := htp p hp
    obtain ⟨r', hr', er'⟩ := s_tp_r (ct := z_i M 78) (cd := z_i M 80) (nc := nc) (np := np) (fun p hp => by obtain ⟨a, b, c, ha, hb, hc, ea, eb, ec⟩ := htp p hp; exact ⟨a, by omega, ea⟩) p (by omega) hr (by omega) hnp
    have hnj : ¬ nI np ≤ nI p := nI_ge hp (by omega)
    have ha8 : a < 8 := by omega
    have hb8 : b < 8 := by omega
    by_cases h1 : z_i M 78 (108 + p) = s_tp (z_i M 78) (z_i M 80) nc st p 0 - s_tp (z_i M 78) (z_i M 80) nc st p 0 / 1440 * 1440
    · by_cases h2 : s_tp (z_i M 78) (z_i M 80) nc st p (6 + a) = 0
      · refine ⟨K9 M g' (s_up (s_tp (z_i M 78) (z_i M 80) nc st p) 4 (s_tp (z_i M 78) (z_i M 80) nc st p 4 + 1)), ?_, g', ?_⟩
        · simp (disch := first | assumption | omega) only [e_pu, e_ite, oL_add, oL_addr, oL_mul, nI_add, nI_1, b_pu, b_bd, b_ite, j_L, j_R, j_ite, j_bd, z_ex, ↓reduceIte, if_true, if_false, kk_cv, kk_a83, kk_s83, kk_a78, kk_g78, kk_g80, kk_g82, kk_g83, kk_l78_0, kk_l78_1, kk_l78_2, kk_l78_3, kk_l78_4, kk_l78_5, kk_l78_6, kk_l78_7, kk_l78_8, kk_l83_0, kk_t83_0, kk_l83_1, kk_t83_1, kk_l83_2, kk_t83_2, kk_l83_3, kk_t83_3, kk_l83_4, kk_t83_4, kk_l83_5, kk_t83_5, kk_l83_204, kk_t83_204, kk_wk, kk_fr, kk_mk, kk_ev, kk_bn, kk_ds, kk_rd, kk_dr, kk_of, kk_of0, kk_of1, kk_of2, kk_of3, kk_of4, kk_of5, kk_of6, kk_of7, kk_near, kk_loads, kk_all, kk_fare, g9_at, g9_ap, kk_put0, kk_put1, kk_put2, kk_put3, kk_put4, kk_put5, kk_put6, kk_put7, kk_put, kk_ra0, kk_ra1, kk_ra2, kk_ra, kk_beg, kk_car, kk_beg, c2, hnj, ea, eb]
          rw [if_pos h1, if_pos h2]
        · rw [s_tp, if_pos h1, ea, ix_nI (by omega), if_pos h2]
      · refine ⟨K9 M (s_fa (z_i M 80) (s_val (z_i M 78) (s_tp (z_i M 78) (z_i M 80) nc st p) a b) g' nc) (s_beg (z_i M 78) (z_i M 80) (s_tp (z_i M 78) (z_i M 80) nc st p) nc r' a b), ?_, s_fa (z_i M 80) (s_val (z_i M 78) (s_tp (z_i M 78) (z_i M 80) nc st p) a b) g' nc, ?_⟩
        · simp (disch := first | assumption | omega) only [e_pu, e_ite, oL_add, oL_addr, oL_mul, nI_add, nI_1, b_pu, b_bd, b_ite, j_L, j_R, j_ite, j_bd, z_ex, ↓reduceIte, if_true, if_false, kk_cv, kk_a83, kk_s83, kk_a78, kk_g78, kk_g80, kk_g82, kk_g83, kk_l78_0, kk_l78_1, kk_l78_2, kk_l78_3, kk_l78_4, kk_l78_5, kk_l78_6, kk_l78_7, kk_l78_8, kk_l83_0, kk_t83_0, kk_l83_1, kk_t83_1, kk_l83_2, kk_t83_2, kk_l83_3, kk_t83_3, kk_l83_4, kk_t83_4, kk_l83_5, kk_t83_5, kk_l83_204, kk_t83_204, kk_wk, kk_fr, kk_mk, kk_ev, kk_bn, kk_ds, kk_rd, kk_dr, kk_of, kk_of0, kk_of1, kk_of2, kk_of3, kk_of4, kk_of5, kk_of6, kk_of7, kk_near, kk_loads, kk_all, kk_fare, g9_at, g9_ap, kk_put0, kk_put1, kk_put2, kk_put3, kk_put4, kk_put5, kk_put6, kk_put7, kk_put, kk_ra0, kk_ra1, kk_ra2, kk_ra, kk_beg, kk_car, c2, hnj, ea, eb]
          rw [if_pos h1, if_neg h2]
        · rw [s_tp, if_pos h1, ea, eb, ix_nI (by omega), ix_nI (by omega), if_neg h2, er', ix_nI (by omega)]
    · refine ⟨K9 M g' (s_tp (z_i M 78) (z_i M 80) nc st p), ?_, g', ?_⟩
      · simp (disch := first | assumption | omega) only [e_pu, e_ite, oL_add, oL_addr, oL_mul, nI_add, nI_1, b_pu, b_bd, b_ite, j_L, j_R, j_ite, j_bd, z_ex, ↓reduceIte, if_true, if_false, kk_cv, kk_a83, kk_s83, kk_a78, kk_g78, kk_g80, kk_g82, kk_g83, kk_l78_0, kk_l78_1, kk_l78_2, kk_l78_3, kk_l78_4, kk_l78_5, kk_l78_6, kk_l78_7, kk_l78_8, kk_l83_0, kk_t83_0, kk_l83_1, kk_t83_1, kk_l83_2, kk_t83_2, kk_l83_3, kk_t83_3, kk_l83_4, kk_t83_4, kk_l83_5, kk_t83_5, kk_l83_204, kk_t83_204, kk_wk, kk_fr, kk_mk, kk_ev, kk_bn, kk_ds, kk_rd, kk_dr, kk_of, kk_of0, kk_of1, kk_of2, kk_of3, kk_of4, kk_of5, kk_of6, kk_of7, kk_near, kk_loads, kk_all, kk_fare, g9_at, g9_ap, kk_put0, kk_put1, kk_put2, kk_put3, kk_put4, kk_put5, kk_put6, kk_put7, kk_put, kk_ra0, kk_ra1, kk_ra2, kk_ra, kk_beg, kk_car, c2, hnj, ea, eb]
        rw [if_neg h1]
      · rw [s_tp, if_neg h1]
  · rintro _ ⟨g', rfl⟩
    refine ⟨f, K9 M g' (s_tp (z_i M 78) (z_i M 80) nc st np), ?_, rfl, g', rfl⟩
    simp (disch := first | assumption | omega) only [e_pu, e_ite, oL_add, oL_addr, oL_mul, nI_add, nI_1, b_pu, b_bd, b_ite, j_L, j_R, j_ite, j_bd, z_ex, ↓reduceIte, if_true, if_false, kk_cv, kk_a83, kk_s83, kk_a78, kk_g78, kk_g80, kk_g82, kk_g83, kk_l78_0, kk_l78_1, kk_l78_2, kk_l78_3, kk_l78_4, kk_l78_5, kk_l78_6, kk_l78_7, kk_l78_8, kk_l83_0, kk_t83_0, kk_l83_1, kk_t83_1, kk_l83_2, kk_t83_2, kk_l83_3, kk_t83_3, kk_l83_4, kk_t83_4, kk_l83_5, kk_t83_5, kk_l83_204, kk_t83_204, kk_wk, kk_fr, kk_mk, kk_ev, kk_bn, kk_ds, kk_rd, kk_dr, kk_of, kk_of0, kk_of1, kk_of2, kk_of3, kk_of4, kk_of5, kk_of6, kk_of7, kk_near, kk_loads, kk_all, kk_fare, g9_at, g9_ap, kk_put0, kk_put1, kk_put2, kk_put3, kk_put4, kk_put5, kk_put6, kk_put7, kk_put, kk_ra0, kk_ra1, kk_ra2, kk_ra, kk_beg, kk_car, c2, show nI np ≤ nI np from Int32.le_refl _]
theorem kk_min (h : L9 M) (hc : c_ok (z_i M 78) (z_i M 80) ns nt np nc) (hv : ∀ t, t < nt → ∃ q, t_ok st ns t q) (hb : ∃ b, b < 11999 ∧ st 0 = nI b) (hdr : ∀ p s, p < ns → s < ns → ∃ b, b < 8000 ∧ s_dr (z_i M 78) p s = nI b) (hr : r_ok st ns r) (hr1 : r + 30 < 1024) :
    ∃ g', (p_X9_passMinute 75).1 (K9 M g st) = some (.inr (nI r - nI (s_m2 (z_i M 78) ns nt st).1), K9 M g' (s_min (z_i M 78) (z_i M 80) ns nt np nc st)) := by
  have hcc := hc
  obtain ⟨⟨c0, hns, c1, hnt, c2, hnp⟩, ⟨c8, hnc, hnc1, hcw⟩, htp, _⟩ := hc
  have hv1 : ∀ t, t < nt → ∃ q, t_ok (s_up st 0 (st 0 + 1)) ns t q := fun t ht => by
    obtain ⟨q, hq⟩ := hv t ht
    exact ⟨q, t_ok_eq (fun i hi => s_upn _ _ (by omega)) hq⟩
  have hb1 : ∃ b, b < 12000 ∧ (s_up st 0 (st 0 + 1)) 0 = nI b := by
    obtain ⟨b, h1, h2⟩ := hb
    exact ⟨b + 1, by omega, by rw [s_ups, h2, nI_1]⟩
  have hT := fun t ht => s_tl_ok (ct := z_i M 78) hns hv1 hb1 hdr t ht
  have er : st 204 = nI r := hr.1
  have e204 : s_m1 (z_i M 78) nt st 204 = nI r := by
    unfold s_m1
    rw [(hT nt (Nat.le_refl _)).1 204 (by omega), s_upn _ _ (by decide)]
    exact hr.1
  have hm2 : s_m2 (z_i M 78) ns nt st = s_rl (z_i M 78) ns (s_m1 (z_i M 78) nt st) r := by unfold s_m2; rw [er, ix_nI (by omega)]
  have hv2 : ∀ k, k < r → ∃ s, s < ns ∧ s_m1 (z_i M 78) nt st (205 + 3 * k + 1) = nI s := fun k hk => by
    obtain ⟨a, b, ha, _, h1, _⟩ := hr.2 k hk
    refine ⟨a, ha, ?_⟩
    unfold s_m1
    rw [(hT nt (Nat.le_refl _)).1 _ (by omega), s_upn _ _ (by omega)]
    exact h1
  have hR := fun k hk => s_rl_o (ct := z_i M 78) hns hv2 k hk
  have h204 : (s_up (s_m2 (z_i M 78) ns nt st).2 204 (nI (s_m2 (z_i M 78) ns nt st).1)) 204 = nI (s_m2 (z_i M 78) ns nt st).1 := s_ups _ _ _
  have hl : (s_m2 (z_i M 78) ns nt st).1 ≤ r := by rw [hm2]; exact s_rl_le _ _ _ r
  obtain ⟨g', hz⟩ := kk_tpL (g := g) (nI r - nI (s_m2 (z_i M 78) ns nt st).1) h hcc h204 (by omega)
  refine ⟨g', ?_⟩
  unfold p_X9_passMinute
  simp (disch := first | assumption | omega) only [kk_g83, kk_l83_0, kk_t83_0]
  refine (e_jL (t := ()) (M1 := K9 M g (s_m1 (z_i M 78) nt st)) ?_).trans ?_
  · refine lp_cnt nt (fun t => nI t) (fun t => K9 M g (s_tl (z_i M 78) (s_up st 0 (st 0 + 1)) t)) _ _ ?_ ?_
    · intro t ht
      have hnj : ¬ nI nt ≤ nI t := nI_ge ht (by omega)
      have ht3 : t < 3 := by omega
      obtain ⟨q, hq⟩ := (hT t (by omega)).2 t ht
      have hq6 := hq.2.1
      rcases hq.1 with ⟨p, hp, e0, _, _⟩ | ⟨e0, ⟨p, hp, e1⟩, _⟩
      · simp (disch := first | assumption | omega) only [e_pu, e_ite, oL_add, oL_addr, oL_mul, nI_add, nI_1, b_pu, b_bd, b_ite, j_L, j_R, j_ite, j_bd, z_ex, ↓reduceIte, if_true, if_false, kk_cv, kk_a83, kk_s83, kk_a78, kk_g78, kk_g80, kk_g82, kk_g83, kk_l78_0, kk_l78_1, kk_l78_2, kk_l78_3, kk_l78_4, kk_l78_5, kk_l78_6, kk_l78_7, kk_l78_8, kk_l83_0, kk_t83_0, kk_l83_1, kk_t83_1, kk_l83_2, kk_t83_2, kk_l83_3, kk_t83_3, kk_l83_4, kk_t83_4, kk_l83_5, kk_t83_5, kk_l83_204, kk_t83_204, kk_wk, kk_fr, kk_mk, kk_ev, kk_bn, kk_ds, kk_rd, kk_dr, kk_of, kk_of0, kk_of1, kk_of2, kk_of3, kk_of4, kk_of5, kk_of6, kk_of7, kk_near, kk_loads, kk_all, kk_fare, g9_at, g9_ap, kk_put0, kk_put1, kk_put2, kk_put3, kk_put4, kk_put5, kk_put6, kk_put7, kk_put, kk_ra0, kk_ra1, kk_ra2, kk_ra, kk_beg, kk_car, c1, hnj, e0, nI_pos' (show p < 2 ^ 31 by omega), s_tl]
      · by_cases h2 : s_tr (s_tl (z_i M 78) (s_up st 0 (st 0 + 1)) t) t 2 = s_tl (z_i M 78) (s_up st 0 (st 0 + 1)) t 0
        · simp (disch := first | assumption | omega) only [e_pu, e_ite, oL_add, oL_addr, oL_mul, nI_add, nI_1, b_pu, b_bd, b_ite, j_L, j_R, j_ite, j_bd, z_ex, ↓reduceIte, if_true, if_false, kk_cv, kk_a83, kk_s83, kk_a78, kk_g78, kk_g80, kk_g82, kk_g83, kk_l78_0, kk_l78_1, kk_l78_2, kk_l78_3, kk_l78_4, kk_l78_5, kk_l78_6, kk_l78_7, kk_l78_8, kk_l83_0, kk_t83_0, kk_l83_1, kk_t83_1, kk_l83_2, kk_t83_2, kk_l83_3, kk_t83_3, kk_l83_4, kk_t83_4, kk_l83_5, kk_t83_5, kk_l83_204, kk_t83_204, kk_wk, kk_fr, kk_mk, kk_ev, kk_bn, kk_ds, kk_rd, kk_dr, kk_of, kk_of0, kk_of1, kk_of2, kk_of3, kk_of4, kk_of5, kk_of6, kk_of7, kk_near, kk_loads, kk_all, kk_fare, g9_at, g9_ap, kk_put0, kk_put1, kk_put2, kk_put3, kk_put4, kk_put5, kk_put6, kk_put7, kk_put, kk_ra0, kk_ra1, kk_ra2, kk_ra, kk_beg, kk_car, c1, hnj, e0, show ¬ (0 : Int32) ≤ -1 by decide, h2, kk_arr h ht3 hns hp e1 hq, s_tl, hq.2.2.1, e1, ix_nI (show q < 2 ^ 31 by omega), ix_nI (show p < 2 ^ 31 by omega)]
        · simp (disch := first | assumption | omega) only [e_pu, e_ite, oL_add, oL_addr, oL_mul, nI_add, nI_1, b_pu, b_bd, b_ite, j_L, j_R, j_ite, j_bd, z_ex, ↓reduceIte, if_true, if_false, kk_cv, kk_a83, kk_s83, kk_a78, kk_g78, kk_g80, kk_g82, kk_g83, kk_l78_0, kk_l78_1, kk_l78_2, kk_l78_3, kk_l78_4, kk_l78_5, kk_l78_6, kk_l78_7, kk_l78_8, kk_l83_0, kk_t83_0, kk_l83_1, kk_t83_1, kk_l83_2, kk_t83_2, kk_l83_3, kk_t83_3, kk_l83_4, kk_t83_4, kk_l83_5, kk_t83_5, kk_l83_204, kk_t83_204, kk_wk, kk_fr, kk_mk, kk_ev, kk_bn, kk_ds, kk_rd, kk_dr, kk_of, kk_of0, kk_of1, kk_of2, kk_of3, kk_of4, kk_of5, kk_of6, kk_of7, kk_near, kk_loads, kk_all, kk_fare, g9_at, g9_ap, kk_put0, kk_put1, kk_put2, kk_put3, kk_put4, kk_put5, kk_put6, kk_put7, kk_put, kk_ra0, kk_ra1, kk_ra2, kk_ra, kk_beg, kk_car, c1, hnj, e0, show ¬ (0 : Int32) ≤ -1 by decide, h2, s_tl]
    · simp (disch := first | assumption | omega) only [e_pu, e_ite, oL_add, oL_addr, oL_mul, nI_add, nI_1, b_pu, b_bd, b_ite, j_L, j_R, j_ite, j_bd, z_ex, ↓reduceIte, if_true, if_false, kk_cv, kk_a83, kk_s83, kk_a78, kk_g78, kk_g80, kk_g82, kk_g83, kk_l78_0, kk_l78_1, kk_l78_2, kk_l78_3, kk_l78_4, kk_l78_5, kk_l78_6, kk_l78_7, kk_l78_8, kk_l83_0, kk_t83_0, kk_l83_1, kk_t83_1, kk_l83_2, kk_t83_2, kk_l83_3, kk_t83_3, kk_l83_4, kk_t83_4, kk_l83_5, kk_t83_5, kk_l83_204, kk_t83_204, kk_wk, kk_fr, kk_mk, kk_ev, kk_bn, kk_ds, kk_rd, kk_dr, kk_of, kk_of0, kk_of1, kk_of2, kk_of3, kk_of4, kk_of5, kk_of6, kk_of7, kk_near, kk_loads, kk_all, kk_fare, g9_at, g9_ap, kk_put0, kk_put1, kk_put2, kk_put3, kk_put4, kk_put5, kk_put6, kk_put7, kk_put, kk_ra0, kk_ra1, kk_ra2, kk_ra, kk_beg, kk_car, c1, show nI nt ≤ nI nt from Int32.le_refl _]
      rfl
  · simp (disch := first | assumption | omega) only [kk_g83, kk_l83_204, e204]
    refine (e_jL (t := nI (s_m2 (z_i M 78) ns nt st).1) (M1 := K9 M g (s_m2 (z_i M 78) ns nt st).2) ?_).trans ?_
    · rw [hm2]
      refine lp_cnt r (fun k => (nI (s_rl (z_i M 78) ns (s_m1 (z_i M 78) nt st) k).1, nI k)) (fun k => K9 M g (s_rl (z_i M 78) ns (s_m1 (z_i M 78) nt st) k).2) _ _ ?_ ?_
      · intro k hk
        have hnj : ¬ nI r ≤ nI k := nI_ge hk (by omega)
        have hk24 : k < 1024 := by omega
        obtain ⟨s, hs, es⟩ := hv2 k hk
        have e1 : (s_rl (z_i M 78) ns (s_m1 (z_i M 78) nt st) k).2 (205 + 3 * k + 1) = nI s := (hR k (by omega) _ (by omega)).trans es
        have hl := s_rl_le (z_i M 78) ns (s_m1 (z_i M 78) nt st) k
        have hs8 : s < 8 := by omega
        rw [show s_rl (z_i M 78) ns (s_m1 (z_i M 78) nt st) (k + 1) = (if (s_rl (z_i M 78) ns (s_m1 (z_i M 78) nt st) k).2 (205 + 3 * k) = (s_rl (z_i M 78) ns (s_m1 (z_i M 78) nt st) k).2 0 then (if s_fr (z_i M 78) (s_rl (z_i M 78) ns (s_m1 (z_i M 78) nt st) k).2 (ix ((s_rl (z_i M 78) ns (s_m1 (z_i M 78) nt st) k).2 (205 + 3 * k + 1))) ≤ 0 then ((s_rl (z_i M 78) ns (s_m1 (z_i M 78) nt st) k).1 + 1, s_cp (s_tun (z_i M 78) (s_rl (z_i M 78) ns (s_m1 (z_i M 78) nt st) k).2 ns k (ix ((s_rl (z_i M 78) ns (s_m1 (z_i M 78) nt st) k).2 (205 + 3 * k + 1)))) k (s_rl (z_i M 78) ns (s_m1 (z_i M 78) nt st) k).1 3) else ((s_rl (z_i M 78) ns (s_m1 (z_i M 78) nt st) k).1, s_lnd (z_i M 78) (s_rl (z_i M 78) ns (s_m1 (z_i M 78) nt st) k).2 (ix ((s_rl (z_i M 78) ns (s_m1 (z_i M 78) nt st) k).2 (205 + 3 * k + 1))))) else ((s_rl (z_i M 78) ns (s_m1 (z_i M 78) nt st) k).1 + 1, s_cp (s_rl (z_i M 78) ns (s_m1 (z_i M 78) nt st) k).2 k (s_rl (z_i M 78) ns (s_m1 (z_i M 78) nt st) k).1 3)) from rfl, e1, ix_nI (by omega)]
        generalize s_rl (z_i M 78) ns (s_m1 (z_i M 78) nt st) k = R at e1 hl ⊢
        obtain ⟨l, w⟩ := R
        simp only at e1 hl ⊢
        have hl24 : l < 1024 := by omega
        by_cases h1 : w (205 + 3 * k) = w 0
        · rw [if_pos h1]
          by_cases h2 : s_fr (z_i M 78) w s ≤ 0
          · rw [if_pos h2]
            simp (disch := first | assumption | omega) only [e_pu, e_ite, oL_add, oL_addr, oL_mul, nI_add, nI_1, b_pu, b_bd, b_ite, j_L, j_R, j_ite, j_bd, z_ex, ↓reduceIte, if_true, if_false, kk_cv, kk_a83, kk_s83, kk_a78, kk_g78, kk_g80, kk_g82, kk_g83, kk_l78_0, kk_l78_1, kk_l78_2, kk_l78_3, kk_l78_4, kk_l78_5, kk_l78_6, kk_l78_7, kk_l78_8, kk_l83_0, kk_t83_0, kk_l83_1, kk_t83_1, kk_l83_2, kk_t83_2, kk_l83_3, kk_t83_3, kk_l83_4, kk_t83_4, kk_l83_5, kk_t83_5, kk_l83_204, kk_t83_204, kk_wk, kk_fr, kk_mk, kk_ev, kk_bn, kk_ds, kk_rd, kk_dr, kk_of, kk_of0, kk_of1, kk_of2, kk_of3, kk_of4, kk_of5, kk_of6, kk_of7, kk_near, kk_loads, kk_all, kk_fare, g9_at, g9_ap, kk_put0, kk_put1, kk_put2, kk_put3, kk_put4, kk_put5, kk_put6, kk_put7, kk_put, kk_ra0, kk_ra1, kk_ra2, kk_ra, kk_beg, kk_car, hnj, h1, kk_com h c0 hns hk24 e1 hs8, h2, Nat.add_zero]
            refine lp_cnt 3 (fun i => nI i) (fun i => K9 M g (s_cp (s_tun (z_i M 78) w ns k s) k l i)) _ _ ?_ ?_
            · intro i hi
              have h3 : ¬ (3 : Int32) ≤ nI i := nI_ge (b := 3) hi (by decide)
              simp (disch := first | assumption | omega) only [e_pu, e_ite, oL_add, oL_addr, oL_mul, nI_add, nI_1, b_pu, b_bd, b_ite, j_L, j_R, j_ite, j_bd, z_ex, ↓reduceIte, if_true, if_false, kk_cv, kk_a83, kk_s83, kk_a78, kk_g78, kk_g80, kk_g82, kk_g83, kk_l78_0, kk_l78_1, kk_l78_2, kk_l78_3, kk_l78_4, kk_l78_5, kk_l78_6, kk_l78_7, kk_l78_8, kk_l83_0, kk_t83_0, kk_l83_1, kk_t83_1, kk_l83_2, kk_t83_2, kk_l83_3, kk_t83_3, kk_l83_4, kk_t83_4, kk_l83_5, kk_t83_5, kk_l83_204, kk_t83_204, kk_wk, kk_fr, kk_mk, kk_ev, kk_bn, kk_ds, kk_rd, kk_dr, kk_of, kk_of0, kk_of1, kk_of2, kk_of3, kk_of4, kk_of5, kk_of6, kk_of7, kk_near, kk_loads, kk_all, kk_fare, g9_at, g9_ap, kk_put0, kk_put1, kk_put2, kk_put3, kk_put4, kk_put5, kk_put6, kk_put7, kk_put, kk_ra0, kk_ra1, kk_ra2, kk_ra, kk_beg, kk_car, h3, s_cp]
            · simp (disch := first | assumption | omega) only [e_pu, e_ite, oL_add, oL_addr, oL_mul, nI_add, nI_1, b_pu, b_bd, b_ite, j_L, j_R, j_ite, j_bd, z_ex, ↓reduceIte, if_true, if_false, kk_cv, kk_a83, kk_s83, kk_a78, kk_g78, kk_g80, kk_g82, kk_g83, kk_l78_0, kk_l78_1, kk_l78_2, kk_l78_3, kk_l78_4, kk_l78_5, kk_l78_6, kk_l78_7, kk_l78_8, kk_l83_0, kk_t83_0, kk_l83_1, kk_t83_1, kk_l83_2, kk_t83_2, kk_l83_3, kk_t83_3, kk_l83_4, kk_t83_4, kk_l83_5, kk_t83_5, kk_l83_204, kk_t83_204, kk_wk, kk_fr, kk_mk, kk_ev, kk_bn, kk_ds, kk_rd, kk_dr, kk_of, kk_of0, kk_of1, kk_of2, kk_of3, kk_of4, kk_of5, kk_of6, kk_of7, kk_near, kk_loads, kk_all, kk_fare, g9_at, g9_ap, kk_put0, kk_put1, kk_put2, kk_put3, kk_put4, kk_put5, kk_put6, kk_put7, kk_put, kk_ra0, kk_ra1, kk_ra2, kk_ra, kk_beg, kk_car, show (3 : Int32) ≤ nI 3 from Int32.le_refl _]
          · rw [if_neg h2]
            simp (disch := first | assumption | omega) only [e_pu, e_ite, oL_add, oL_addr, oL_mul, nI_add, nI_1, b_pu, b_bd, b_ite, j_L, j_R, j_ite, j_bd, z_ex, ↓reduceIte, if_true, if_false, kk_cv, kk_a83, kk_s83, kk_a78, kk_g78, kk_g80, kk_g82, kk_g83, kk_l78_0, kk_l78_1, kk_l78_2, kk_l78_3, kk_l78_4, kk_l78_5, kk_l78_6, kk_l78_7, kk_l78_8, kk_l83_0, kk_t83_0, kk_l83_1, kk_t83_1, kk_l83_2, kk_t83_2, kk_l83_3, kk_t83_3, kk_l83_4, kk_t83_4, kk_l83_5, kk_t83_5, kk_l83_204, kk_t83_204, kk_wk, kk_fr, kk_mk, kk_ev, kk_bn, kk_ds, kk_rd, kk_dr, kk_of, kk_of0, kk_of1, kk_of2, kk_of3, kk_of4, kk_of5, kk_of6, kk_of7, kk_near, kk_loads, kk_all, kk_fare, g9_at, g9_ap, kk_put0, kk_put1, kk_put2, kk_put3, kk_put4, kk_put5, kk_put6, kk_put7, kk_put, kk_ra0, kk_ra1, kk_ra2, kk_ra, kk_beg, kk_car, hnj, h1, kk_com h c0 hns hk24 e1 hs8, h2, Nat.add_zero, show ¬ (1 : Int32) = 0 by decide]
        · rw [if_neg h1]
          simp (disch := first | assumption | omega) only [e_pu, e_ite, oL_add, oL_addr, oL_mul, nI_add, nI_1, b_pu, b_bd, b_ite, j_L, j_R, j_ite, j_bd, z_ex, ↓reduceIte, if_true, if_false, kk_cv, kk_a83, kk_s83, kk_a78, kk_g78, kk_g80, kk_g82, kk_g83, kk_l78_0, kk_l78_1, kk_l78_2, kk_l78_3, kk_l78_4, kk_l78_5, kk_l78_6, kk_l78_7, kk_l78_8, kk_l83_0, kk_t83_0, kk_l83_1, kk_t83_1, kk_l83_2, kk_t83_2, kk_l83_3, kk_t83_3, kk_l83_4, kk_t83_4, kk_l83_5, kk_t83_5, kk_l83_204, kk_t83_204, kk_wk, kk_fr, kk_mk, kk_ev, kk_bn, kk_ds, kk_rd, kk_dr, kk_of, kk_of0, kk_of1, kk_of2, kk_of3, kk_of4, kk_of5, kk_of6, kk_of7, kk_near, kk_loads, kk_all, kk_fare, g9_at, g9_ap, kk_put0, kk_put1, kk_put2, kk_put3, kk_put4, kk_put5, kk_put6, kk_put7, kk_put, kk_ra0, kk_ra1, kk_ra2, kk_ra, kk_beg, kk_car, hnj, h1, Nat.add_zero]
          refine lp_cnt 3 (fun i => nI i) (fun i => K9 M g (s_cp w k l i)) _ _ ?_ ?_
          · intro i hi
            have h3 : ¬ (3 : Int32) ≤ nI i := nI_ge (b := 3) hi (by decide)
            simp (disch := first | assumption | omega) only [e_pu, e_ite, oL_add, oL_addr, oL_mul, nI_add, nI_1, b_pu, b_bd, b_ite, j_L, j_R, j_ite, j_bd, z_ex, ↓reduceIte, if_true, if_false, kk_cv, kk_a83, kk_s83, kk_a78, kk_g78, kk_g80, kk_g82, kk_g83, kk_l78_0, kk_l78_1, kk_l78_2, kk_l78_3, kk_l78_4, kk_l78_5, kk_l78_6, kk_l78_7, kk_l78_8, kk_l83_0, kk_t83_0, kk_l83_1, kk_t83_1, kk_l83_2, kk_t83_2, kk_l83_3, kk_t83_3, kk_l83_4, kk_t83_4, kk_l83_5, kk_t83_5, kk_l83_204, kk_t83_204, kk_wk, kk_fr, kk_mk, kk_ev, kk_bn, kk_ds, kk_rd, kk_dr, kk_of, kk_of0, kk_of1, kk_of2, kk_of3, kk_of4, kk_of5, kk_of6, kk_of7, kk_near, kk_loads, kk_all, kk_fare, g9_at, g9_ap, kk_put0, kk_put1, kk_put2, kk_put3, kk_put4, kk_put5, kk_put6, kk_put7, kk_put, kk_ra0, kk_ra1, kk_ra2, kk_ra, kk_beg, kk_car, h3, s_cp]
          · simp (disch := first | assumption | omega) only [e_pu, e_ite, oL_add, oL_addr, oL_mul, nI_add, nI_1, b_pu, b_bd, b_ite, j_L, j_R, j_ite, j_bd, z_ex, ↓reduceIte, if_true, if_false, kk_cv, kk_a83, kk_s83, kk_a78, kk_g78, kk_g80, kk_g82, kk_g83, kk_l78_0, kk_l78_1, kk_l78_2, kk_l78_3, kk_l78_4, kk_l78_5, kk_l78_6, kk_l78_7, kk_l78_8, kk_l83_0, kk_t83_0, kk_l83_1, kk_t83_1, kk_l83_2, kk_t83_2, kk_l83_3, kk_t83_3, kk_l83_4, kk_t83_4, kk_l83_5, kk_t83_5, kk_l83_204, kk_t83_204, kk_wk, kk_fr, kk_mk, kk_ev, kk_bn, kk_ds, kk_rd, kk_dr, kk_of, kk_of0, kk_of1, kk_of2, kk_of3, kk_of4, kk_of5, kk_of6, kk_of7, kk_near, kk_loads, kk_all, kk_fare, g9_at, g9_ap, kk_put0, kk_put1, kk_put2, kk_put3, kk_put4, kk_put5, kk_put6, kk_put7, kk_put, kk_ra0, kk_ra1, kk_ra2, kk_ra, kk_beg, kk_car, show (3 : Int32) ≤ nI 3 from Int32.le_refl _]
      · simp (disch := first | assumption | omega) only [e_pu, e_ite, oL_add, oL_addr, oL_mul, nI_add, nI_1, b_pu, b_bd, b_ite, j_L, j_R, j_ite, j_bd, z_ex, ↓reduceIte, if_true, if_false, kk_cv, kk_a83, kk_s83, kk_a78, kk_g78, kk_g80, kk_g82, kk_g83, kk_l78_0, kk_l78_1, kk_l78_2, kk_l78_3, kk_l78_4, kk_l78_5, kk_l78_6, kk_l78_7, kk_l78_8, kk_l83_0, kk_t83_0, kk_l83_1, kk_t83_1, kk_l83_2, kk_t83_2, kk_l83_3, kk_t83_3, kk_l83_4, kk_t83_4, kk_l83_5, kk_t83_5, kk_l83_204, kk_t83_204, kk_wk, kk_fr, kk_mk, kk_ev, kk_bn, kk_ds, kk_rd, kk_dr, kk_of, kk_of0, kk_of1, kk_of2, kk_of3, kk_of4, kk_of5, kk_of6, kk_of7, kk_near, kk_loads, kk_all, kk_fare, g9_at, g9_ap, kk_put0, kk_put1, kk_put2, kk_put3, kk_put4, kk_put5, kk_put6, kk_put7, kk_put, kk_ra0, kk_ra1, kk_ra2, kk_ra, kk_beg, kk_car, show nI r ≤ nI r from Int32.le_refl _]
    · simp (disch := first | assumption | omega) only [kk_g83, kk_t83_204]
      exact hz
end PK5
