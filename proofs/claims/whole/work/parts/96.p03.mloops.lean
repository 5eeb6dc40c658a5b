/-! ===== PHASE 2: the model's loops over minutes ===== -/
section PA3
variable {β : Type} {M : zM} {g st : Nat → Int32} {k n ns nt np nc T : Nat} {x : Int32}
theorem kk_minP (h : L9 M) (hc : c_ok (z_i M 78) (z_i M 80) ns nt np nc) (hp : PV st ns nt T) (hT : T < 11999) : ∃ g', (p_X9_passMinute 75).1 (K9 M g st) = some (.inr (s_e1 (z_i M 78) ns nt st), K9 M g' (s_min (z_i M 78) (z_i M 80) ns nt np nc st)) := by
  obtain ⟨hv, h0, r, hr, hrr⟩ := hp
  obtain ⟨g', e⟩ := kk_min (g := g) h hc hv ⟨T, hT, h0⟩ (dr_ok hc) hrr (by omega)
  refine ⟨g', e.trans ?_⟩
  unfold s_e1
  rw [hrr.1]
theorem kk_passL (h : L9 M) (hc : c_ok (z_i M 78) (z_i M 80) ns nt np nc) (hn : n < 2 ^ 31) : ∀ m g st T j e, j + m = n → (∀ i, i < m → PV (s_its (z_i M 78) (z_i M 80) ns nt np nc i st) ns nt (T + i)) → T + m < 11999 →
    ∃ g', (z_lp (fun (t5 : Int32 × Int32) => (if (nI n) ≤ t5.2 then (z_pu (.inr t5.1)) else (z_bd (z_cv 9 75 (p_X9_passMinute 75)) (fun r6 => (z_bd (z_pu ((t5.1 + r6))) (fun x7 => (z_pu (.inl (x7, (t5.2 + 1)))))))))) (e, nI j)).1 (K9 M g st) = some (.inr (e + s_en (z_i M 78) (z_i M 80) ns nt np nc m st), K9 M g' (s_its (z_i M 78) (z_i M 80) ns nt np nc m st))
  | 0, g, st, T, j, e, hj, hv, hT => by
    refine ⟨g, z_lp_end ?_⟩
    have hle : nI n ≤ nI j := nI_le (by omega) (by omega)
    simp (disch := first | assumption | omega) only [e_pu, e_ite, oL_add, oL_addr, oL_mul, nI_add, nI_1, b_pu, b_bd, b_ite, j_L, j_R, j_ite, j_bd, z_ex, ↓reduceIte, if_true, if_false, kk_cv, kk_a83, kk_s83, kk_a78, kk_g78, kk_g80, kk_g82, kk_g83, kk_l78_0, kk_l78_1, kk_l78_2, kk_l78_3, kk_l78_4, kk_l78_5, kk_l78_6, kk_l78_7, kk_l78_8, kk_l83_0, kk_t83_0, kk_l83_1, kk_t83_1, kk_l83_2, kk_t83_2, kk_l83_3, kk_t83_3, kk_l83_4, kk_t83_4, kk_l83_5, kk_t83_5, kk_l83_204, kk_t83_204, kk_wk, kk_fr, kk_mk, kk_ev, kk_bn, kk_ds, kk_rd, kk_dr, kk_of, kk_of0, kk_of1, kk_of2, kk_of3, kk_of4, kk_of5, kk_of6, kk_of7, kk_near, kk_loads, kk_all, kk_fare, g9_at, g9_ap, kk_put0, kk_put1, kk_put2, kk_put3, kk_put4, kk_put5, kk_put6, kk_put7, kk_put, kk_ra0, kk_ra1, kk_ra2, kk_ra, kk_beg, kk_car, kk_beg, hle, s_en, s_its, Int32.add_zero]
  | m + 1, g, st, T, j, e, hj, hv, hT => by
    obtain ⟨g1, k1⟩ := kk_minP (g := g) (st := st) (T := T) h hc (hv 0 (by omega)) (by omega)
    obtain ⟨g2, k2⟩ := kk_passL h hc hn m g1 _ (T + 1) (j + 1) (e + s_e1 (z_i M 78) ns nt st) (by omega) (fun i hi => by
      have := hv (i + 1) (by omega)
      rw [show T + 1 + i = T + (i + 1) by omega]
      exact this) (by omega)
    refine ⟨g2, ?_⟩
    rw [s_en, ← Int32.add_assoc]
    refine (z_lp_step ?_).trans k2
    have hle : ¬ nI n ≤ nI j := nI_ge (by omega) (by omega)
    simp (disch := first | assumption | omega) only [e_pu, e_ite, oL_add, oL_addr, oL_mul, nI_add, nI_1, b_pu, b_bd, b_ite, j_L, j_R, j_ite, j_bd, z_ex, ↓reduceIte, if_true, if_false, kk_cv, kk_a83, kk_s83, kk_a78, kk_g78, kk_g80, kk_g82, kk_g83, kk_l78_0, kk_l78_1, kk_l78_2, kk_l78_3, kk_l78_4, kk_l78_5, kk_l78_6, kk_l78_7, kk_l78_8, kk_l83_0, kk_t83_0, kk_l83_1, kk_t83_1, kk_l83_2, kk_t83_2, kk_l83_3, kk_t83_3, kk_l83_4, kk_t83_4, kk_l83_5, kk_t83_5, kk_l83_204, kk_t83_204, kk_wk, kk_fr, kk_mk, kk_ev, kk_bn, kk_ds, kk_rd, kk_dr, kk_of, kk_of0, kk_of1, kk_of2, kk_of3, kk_of4, kk_of5, kk_of6, kk_of7, kk_near, kk_loads, kk_all, kk_fare, g9_at, g9_ap, kk_put0, kk_put1, kk_put2, kk_put3, kk_put4, kk_put5, kk_put6, kk_put7, kk_put, kk_ra0, kk_ra1, kk_ra2, kk_ra, kk_beg, kk_car, kk_beg, hle]
    refine (e_run k1).trans ?_
    simp (disch := first | assumption | omega) only [e_pu, e_ite, oL_add, oL_addr, oL_mul, nI_add, nI_1, b_pu, b_bd, b_ite, j_L, j_R, j_ite, j_bd, z_ex, ↓reduceIte, if_true, if_false, kk_cv, kk_a83, kk_s83, kk_a78, kk_g78, kk_g80, kk_g82, kk_g83, kk_l78_0, kk_l78_1, kk_l78_2, kk_l78_3, kk_l78_4, kk_l78_5, kk_l78_6, kk_l78_7, kk_l78_8, kk_l83_0, kk_t83_0, kk_l83_1, kk_t83_1, kk_l83_2, kk_t83_2, kk_l83_3, kk_t83_3, kk_l83_4, kk_t83_4, kk_l83_5, kk_t83_5, kk_l83_204, kk_t83_204, kk_wk, kk_fr, kk_mk, kk_ev, kk_bn, kk_ds, kk_rd, kk_dr, kk_of, kk_of0, kk_of1, kk_of2, kk_of3, kk_of4, kk_of5, kk_of6, kk_of7, kk_near, kk_loads, kk_all, kk_fare, g9_at, g9_ap, kk_put0, kk_put1, kk_put2, kk_put3, kk_put4, kk_put5, kk_put6, kk_put7, kk_put, kk_ra0, kk_ra1, kk_ra2, kk_ra, kk_beg, kk_car, kk_beg]
theorem kk_foreL (h : L9 M) (hc : c_ok (z_i M 78) (z_i M 80) ns nt np nc) (hn : n < 2 ^ 31) : ∀ m g st T j, j + m = n → (∀ i, i < m → PV (s_its (z_i M 78) (z_i M 80) ns nt np nc i st) ns nt (T + i)) → T + m < 11999 →
    ∃ g', (z_lp (fun (t6 : Int32) => (if (nI n) ≤ t6 then (z_pu (.inr (.inl ()))) else (z_bd (z_cv 9 75 (p_X9_passMinute 75)) (fun r7 => (z_pu (.inl ((t6 + 1)))))))) (nI j) : zP (Unit ⊕ (Unit ⊕ Int32))).1 (K9 M g st) = some (.inr (.inl ()), K9 M g' (s_its (z_i M 78) (z_i M 80) ns nt np nc m st))
  | 0, g, st, T, j, hj, hv, hT => by
    refine ⟨g, z_lp_end ?_⟩
    have hle : nI n ≤ nI j := nI_le (by omega) (by omega)
    simp (disch := first | assumption | omega) only [e_pu, e_ite, oL_add, oL_addr, oL_mul, nI_add, nI_1, b_pu, b_bd, b_ite, j_L, j_R, j_ite, j_bd, z_ex, ↓reduceIte, if_true, if_false, kk_cv, kk_a83, kk_s83, kk_a78, kk_g78, kk_g80, kk_g82, kk_g83, kk_l78_0, kk_l78_1, kk_l78_2, kk_l78_3, kk_l78_4, kk_l78_5, kk_l78_6, kk_l78_7, kk_l78_8, kk_l83_0, kk_t83_0, kk_l83_1, kk_t83_1, kk_l83_2, kk_t83_2, kk_l83_3, kk_t83_3, kk_l83_4, kk_t83_4, kk_l83_5, kk_t83_5, kk_l83_204, kk_t83_204, kk_wk, kk_fr, kk_mk, kk_ev, kk_bn, kk_ds, kk_rd, kk_dr, kk_of, kk_of0, kk_of1, kk_of2, kk_of3, kk_of4, kk_of5, kk_of6, kk_of7, kk_near, kk_loads, kk_all, kk_fare, g9_at, g9_ap, kk_put0, kk_put1, kk_put2, kk_put3, kk_put4, kk_put5, kk_put6, kk_put7, kk_put, kk_ra0, kk_ra1, kk_ra2, kk_ra, kk_beg, kk_car, kk_beg, hle, s_its]
  | m + 1, g, st, T, j, hj, hv, hT => by
    obtain ⟨g1, k1⟩ := kk_minP (g := g) (st := st) (T := T) h hc (hv 0 (by omega)) (by omega)
    obtain ⟨g2, k2⟩ := kk_foreL h hc hn m g1 _ (T + 1) (j + 1) (by omega) (fun i hi => by
      have := hv (i + 1) (by omega)
      rw [show T + 1 + i = T + (i + 1) by omega]
      exact this) (by omega)
    refine ⟨g2, ?_⟩
    refine (z_lp_step ?_).trans k2
    have hle : ¬ nI n ≤ nI j := nI_ge (by omega) (by omega)
    simp (disch := first | assumption | omega) only [e_pu, e_ite, oL_add, oL_addr, oL_mul, nI_add, nI_1, b_pu, b_bd, b_ite, j_L, j_R, j_ite, j_bd, z_ex, ↓reduceIte, if_true, if_false, kk_cv, kk_a83, kk_s83, kk_a78, kk_g78, kk_g80, kk_g82, kk_g83, kk_l78_0, kk_l78_1, kk_l78_2, kk_l78_3, kk_l78_4, kk_l78_5, kk_l78_6, kk_l78_7, kk_l78_8, kk_l83_0, kk_t83_0, kk_l83_1, kk_t83_1, kk_l83_2, kk_t83_2, kk_l83_3, kk_t83_3, kk_l83_4, kk_t83_4, kk_l83_5, kk_t83_5, kk_l83_204, kk_t83_204, kk_wk, kk_fr, kk_mk, kk_ev, kk_bn, kk_ds, kk_rd, kk_dr, kk_of, kk_of0, kk_of1, kk_of2, kk_of3, kk_of4, kk_of5, kk_of6, kk_of7, kk_near, kk_loads, kk_all, kk_fare, g9_at, g9_ap, kk_put0, kk_put1, kk_put2, kk_put3, kk_put4, kk_put5, kk_put6, kk_put7, kk_put, kk_ra0, kk_ra1, kk_ra2, kk_ra, kk_beg, kk_car, kk_beg, hle]
    refine (e_run k1).trans ?_
    simp (disch := first | assumption | omega) only [e_pu, e_ite, oL_add, oL_addr, oL_mul, nI_add, nI_1, b_pu, b_bd, b_ite, j_L, j_R, j_ite, j_bd, z_ex, ↓reduceIte, if_true, if_false, kk_cv, kk_a83, kk_s83, kk_a78, kk_g78, kk_g80, kk_g82, kk_g83, kk_l78_0, kk_l78_1, kk_l78_2, kk_l78_3, kk_l78_4, kk_l78_5, kk_l78_6, kk_l78_7, kk_l78_8, kk_l83_0, kk_t83_0, kk_l83_1, kk_t83_1, kk_l83_2, kk_t83_2, kk_l83_3, kk_t83_3, kk_l83_4, kk_t83_4, kk_l83_5, kk_t83_5, kk_l83_204, kk_t83_204, kk_wk, kk_fr, kk_mk, kk_ev, kk_bn, kk_ds, kk_rd, kk_dr, kk_of, kk_of0, kk_of1, kk_of2, kk_of3, kk_of4, kk_of5, kk_of6, kk_of7, kk_near, kk_loads, kk_all, kk_fare, g9_at, g9_ap, kk_put0, kk_put1, kk_put2, kk_put3, kk_put4, kk_put5, kk_put6, kk_put7, kk_put, kk_ra0, kk_ra1, kk_ra2, kk_ra, kk_beg, kk_car, kk_beg]
theorem kk_bk {f : Int32 → zP β} (h : L9 M) (hk : k < 8) : (z_jn (τ := Int32) (if x = 0 then (z_bd (z_gA 9 75 19) (fun v6 => (z_bd (z_aI 11 v6 (6 + (nI k))) (fun v7 => (z_pu (.inl v7)))))) else (z_bd (z_cv 9 75 (p_X9_free 75 (nI k))) (fun r8 => (z_pu (.inl r8))))) f).1 (K9 M g st) = (f (s_bk (z_i M 78) st x k)).1 (K9 M g st) := by
  unfold s_bk
  by_cases hx : x = 0
  · simp (disch := first | assumption | omega) only [e_pu, e_ite, oL_add, oL_addr, oL_mul, nI_add, nI_1, b_pu, b_bd, b_ite, j_L, j_R, j_ite, j_bd, z_ex, ↓reduceIte, if_true, if_false, kk_cv, kk_a83, kk_s83, kk_a78, kk_g78, kk_g80, kk_g82, kk_g83, kk_l78_0, kk_l78_1, kk_l78_2, kk_l78_3, kk_l78_4, kk_l78_5, kk_l78_6, kk_l78_7, kk_l78_8, kk_l83_0, kk_t83_0, kk_l83_1, kk_t83_1, kk_l83_2, kk_t83_2, kk_l83_3, kk_t83_3, kk_l83_4, kk_t83_4, kk_l83_5, kk_t83_5, kk_l83_204, kk_t83_204, kk_wk, kk_fr, kk_mk, kk_ev, kk_bn, kk_ds, kk_rd, kk_dr, kk_of, kk_of0, kk_of1, kk_of2, kk_of3, kk_of4, kk_of5, kk_of6, kk_of7, kk_near, kk_loads, kk_all, kk_fare, g9_at, g9_ap, kk_put0, kk_put1, kk_put2, kk_put3, kk_put4, kk_put5, kk_put6, kk_put7, kk_put, kk_ra0, kk_ra1, kk_ra2, kk_ra, kk_beg, kk_car, kk_beg, hx]
  · simp (disch := first | assumption | omega) only [e_pu, e_ite, oL_add, oL_addr, oL_mul, nI_add, nI_1, b_pu, b_bd, b_ite, j_L, j_R, j_ite, j_bd, z_ex, ↓reduceIte, if_true, if_false, kk_cv, kk_a83, kk_s83, kk_a78, kk_g78, kk_g80, kk_g82, kk_g83, kk_l78_0, kk_l78_1, kk_l78_2, kk_l78_3, kk_l78_4, kk_l78_5, kk_l78_6, kk_l78_7, kk_l78_8, kk_l83_0, kk_t83_0, kk_l83_1, kk_t83_1, kk_l83_2, kk_t83_2, kk_l83_3, kk_t83_3, kk_l83_4, kk_t83_4, kk_l83_5, kk_t83_5, kk_l83_204, kk_t83_204, kk_wk, kk_fr, kk_mk, kk_ev, kk_bn, kk_ds, kk_rd, kk_dr, kk_of, kk_of0, kk_of1, kk_of2, kk_of3, kk_of4, kk_of5, kk_of6, kk_of7, kk_near, kk_loads, kk_all, kk_fare, g9_at, g9_ap, kk_put0, kk_put1, kk_put2, kk_put3, kk_put4, kk_put5, kk_put6, kk_put7, kk_put, kk_ra0, kk_ra1, kk_ra2, kk_ra, kk_beg, kk_car, kk_beg, hx]
theorem kk_outL (h : L9 M) (hc : c_ok (z_i M 78) (z_i M 80) ns nt np nc) (hk : k < 8) : ∀ n g st T p, p + n = 1440 → (∀ i, i ≤ n → PV (s_its (z_i M 78) (z_i M 80) ns nt np nc i st) ns nt (T + i)) → (∀ i, i ≤ n → ∃ b, b < 2 ^ 31 ∧ s_bk (z_i M 78) (s_its (z_i M 78) (z_i M 80) ns nt np nc i st) x k = nI b) → T + n < 11998 →
    ∃ t g' st', (z_lp (fun (t4 : Int32) => (if 1440 < t4 then (z_pu (.inr (.inl t4))) else (z_jn (τ := Int32) (if x = 0 then (z_bd (z_gA 9 75 19) (fun v6 => (z_bd (z_aI 11 v6 (6 + (nI k))) (fun v7 => (z_pu (.inl v7)))))) else (z_bd (z_cv 9 75 (p_X9_free 75 (nI k))) (fun r8 => (z_pu (.inl r8))))) (fun t5 => (if t5 ≤ 0 then (z_pu (.inr (.inl t4))) else (z_bd (z_cv 9 75 (p_X9_passMinute 75)) (fun r9 => (z_pu (.inl ((t4 + 1))))))))))) (nI p) : zP (Int32 ⊕ Int32)).1 (K9 M g st) = some (.inr (.inl t), K9 M g' st') ∧ (if t ≤ 1440 then t else -1) = (if s_bk (z_i M 78) st x k = 0 then nI p else s_ro (z_i M 78) (z_i M 80) ns nt np nc k x n (p + 1) st)
  | n, g, st, T, p, hp, hv, hb, hT => by
    obtain ⟨b, hb1, hb2⟩ := hb 0 (by omega)
    have hb2 : s_bk (z_i M 78) st x k = nI b := hb2
    have hle : ¬ (1440 : Int32) < nI p := nI_nlt (b := p) (a := 1440) (by omega) (by decide)
    have hle2 : nI p ≤ 1440 := nI_le (b := 1440) (by omega) (by decide)
    by_cases h0 : s_bk (z_i M 78) st x k = 0
    · refine ⟨nI p, g, st, z_lp_end ?_, ?_⟩
      · rw [if_neg hle]
        refine (kk_bk h hk).trans ?_
        rw [if_pos (by rw [h0]; exact Int32.le_refl _)]
        rfl
      · rw [if_pos hle2, if_pos h0]
    · have hn0 : ¬ s_bk (z_i M 78) st x k ≤ 0 := by
        rw [hb2]
        refine nI_nle ?_ hb1
        rcases Nat.eq_zero_or_pos b with e | e
        · rw [hb2, e] at h0; exact absurd rfl h0
        · exact e
      obtain ⟨g1, k1⟩ := kk_minP (g := g) (st := st) (T := T) h hc (hv 0 (by omega)) (by omega)
      have hstep : ∀ (z : zR (Int32 ⊕ Int32)), (z_lp (fun (t4 : Int32) => (if 1440 < t4 then (z_pu (.inr (.inl t4))) else (z_jn (τ := Int32) (if x = 0 then (z_bd (z_gA 9 75 19) (fun v6 => (z_bd (z_aI 11 v6 (6 + (nI k))) (fun v7 => (z_pu (.inl v7)))))) else (z_bd (z_cv 9 75 (p_X9_free 75 (nI k))) (fun r8 => (z_pu (.inl r8))))) (fun t5 => (if t5 ≤ 0 then (z_pu (.inr (.inl t4))) else (z_bd (z_cv 9 75 (p_X9_passMinute 75)) (fun r9 => (z_pu (.inl ((t4 + 1))))))))))) (nI (p + 1)) : zP (Int32 ⊕ Int32)).1 (K9 M g1 (s_min (z_i M 78) (z_i M 80) ns nt np nc st)) = z → (z_lp (fun (t4 : Int32) => (if 1440 < t4 then (z_pu (.inr (.inl t4))) else (z_jn (τ := Int32) (if x = 0 then (z_bd (z_gA 9 75 19) (fun v6 => (z_bd (z_aI 11 v6 (6 + (nI k))) (fun v7 => (z_pu (.inl v7)))))) else (z_bd (z_cv 9 75 (p_X9_free 75 (nI k))) (fun r8 => (z_pu (.inl r8))))) (fun t5 => (if t5 ≤ 0 then (z_pu (.inr (.inl t4))) else (z_bd (z_cv 9 75 (p_X9_passMinute 75)) (fun r9 => (z_pu (.inl ((t4 + 1))))))))))) (nI p) : zP (Int32 ⊕ Int32)).1 (K9 M g st) = z := by
        intro z hz
        refine (z_lp_step ?_).trans hz
        rw [if_neg hle]
        refine (kk_bk h hk).trans ?_
        rw [if_neg hn0]
        simp (disch := first | assumption | omega) only [e_pu, e_ite, oL_add, oL_addr, oL_mul, nI_add, nI_1, b_pu, b_bd, b_ite, j_L, j_R, j_ite, j_bd, z_ex, ↓reduceIte, if_true, if_false, kk_cv, kk_a83, kk_s83, kk_a78, kk_g78, kk_g80, kk_g82, kk_g83, kk_l78_0, kk_l78_1, kk_l78_2, kk_l78_3, kk_l78_4, kk_l78_5, kk_l78_6, kk_l78_7, kk_l78_8, kk_l83_0, kk_t83_0, kk_l83_1, kk_t83_1, kk_l83_2, kk_t83_2, kk_l83_3, kk_t83_3, kk_l83_4, kk_t83_4, kk_l83_5, kk_t83_5, kk_l83_204, kk_t83_204, kk_wk, kk_fr, kk_mk, kk_ev, kk_bn, kk_ds, kk_rd, kk_dr, kk_of, kk_of0, kk_of1, kk_of2, kk_of3, kk_of4, kk_of5, kk_of6, kk_of7, kk_near, kk_loads, kk_all, kk_fare, g9_at, g9_ap, kk_put0, kk_put1, kk_put2, kk_put3, kk_put4, kk_put5, kk_put6, kk_put7, kk_put, kk_ra0, kk_ra1, kk_ra2, kk_ra, kk_beg, kk_car, kk_beg]
        refine (e_run k1).trans ?_
        simp (disch := first | assumption | omega) only [e_pu, e_ite, oL_add, oL_addr, oL_mul, nI_add, nI_1, b_pu, b_bd, b_ite, j_L, j_R, j_ite, j_bd, z_ex, ↓reduceIte, if_true, if_false, kk_cv, kk_a83, kk_s83, kk_a78, kk_g78, kk_g80, kk_g82, kk_g83, kk_l78_0, kk_l78_1, kk_l78_2, kk_l78_3, kk_l78_4, kk_l78_5, kk_l78_6, kk_l78_7, kk_l78_8, kk_l83_0, kk_t83_0, kk_l83_1, kk_t83_1, kk_l83_2, kk_t83_2, kk_l83_3, kk_t83_3, kk_l83_4, kk_t83_4, kk_l83_5, kk_t83_5, kk_l83_204, kk_t83_204, kk_wk, kk_fr, kk_mk, kk_ev, kk_bn, kk_ds, kk_rd, kk_dr, kk_of, kk_of0, kk_of1, kk_of2, kk_of3, kk_of4, kk_of5, kk_of6, kk_of7, kk_near, kk_loads, kk_all, kk_fare, g9_at, g9_ap, kk_put0, kk_put1, kk_put2, kk_put3, kk_put4, kk_put5, kk_put6, kk_put7, kk_put, kk_ra0, kk_ra1, kk_ra2, kk_ra, kk_beg, kk_car, kk_beg]
      cases n with
      | zero =>
        refine ⟨nI (p + 1), g1, s_min (z_i M 78) (z_i M 80) ns nt np nc st, hstep _ (z_lp_end ?_), ?_⟩
        · rw [if_pos (show (1440 : Int32) < nI (p + 1) from nI_lt (a := 1440) (by omega) (by omega))]
          rfl
        · rw [if_neg (show ¬ nI (p + 1) ≤ (1440 : Int32) from nI_ge (b := p + 1) (a := 1440) (by omega) (by omega)), if_neg h0]
          rfl
      | succ n =>
        obtain ⟨t, g2, st2, k2, k3⟩ := kk_outL h hc hk n g1 (s_min (z_i M 78) (z_i M 80) ns nt np nc st) (T + 1) (p + 1) (by omega) (fun i hi => by
          have := hv (i + 1) (by omega)
          rw [show T + 1 + i = T + (i + 1) by omega]
          exact this) (fun i hi => hb (i + 1) (by omega)) (by omega)
        exact ⟨t, g2, st2, hstep _ k2, by rw [k3, if_neg h0]; rfl⟩
end PA3
