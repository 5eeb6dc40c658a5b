/-! ===== PHASE 2: the model's trucks and minutes ===== -/
def s_le3 (a b c : Int32) : Int32 := if b ≤ a then (if c ≤ b then c else b) else (if c ≤ a then c else a)
def s_mv (ct st : Nat → Int32) (t s : Nat) (x : Int32) : Int32 := if x - st (6 + s) ≤ 0 then - s_le3 (-(x - st (6 + s))) (ct (45 + t) - s_tr st t 4) (-(x - st (6 + s))) else s_le3 (x - st (6 + s)) (s_tr st t 4) (s_fr ct st s)
def s_put (st : Nat → Int32) (t q : Nat) (v : Int32) : Nat → Int32 := s_up st (22 + 18 * t + q) v
def s_car (ct st : Nat → Int32) (t s : Nat) (x : Int32) : Nat → Int32 := s_put (s_up st (6 + s) (st (6 + s) + s_mv ct st t s x)) t 4 (s_tr st t 4 - s_mv ct st t s x)
/-- the orders move up by m places -/
def s_sh (st : Nat → Int32) (t : Nat) : Nat → Nat → Int32
  | 0 => st
  | m + 1 => s_put (s_sh st t m) t (6 + m) (s_tr (s_sh st t m) t (6 + m + 2))
/-- the truck's first order, taken off: q orders are left -/
def s_drop (st : Nat → Int32) (t q : Nat) : Nat → Int32 := s_sh (s_put st t 5 (nI q)) t (2 * q)
def s_set (ct st : Nat → Int32) (t p s : Nat) (x : Int32) : Nat → Int32 := s_put (s_put (s_put (s_put st t 1 (nI s)) t 2 (st 0 + s_dr ct p s)) t 3 x) t 0 (-1)
def s_go (ct : Nat → Int32) (t : Nat) : Nat → (Nat → Int32) → Nat → Int32
  | 0, st => st
  | q + 1, st => if s_tr st t 0 < 0 then st else
      if s_tr st t 6 = s_tr st t 0 then s_go ct t q (s_car ct (s_drop st t q) t (ix (s_tr st t 6)) (s_tr st t 7))
      else s_set ct (s_drop st t q) t (ix (s_tr st t 0)) (ix (s_tr st t 6)) (s_tr st t 7)
theorem s_put_tr (st : Nat → Int32) {t q i : Nat} (v : Int32) : s_tr (s_put st t q v) t i = if i = q then v else s_tr st t i := by
  unfold s_put s_tr s_up
  by_cases h : i = q
  · rw [if_pos h, if_pos (by omega)]
  · rw [if_neg h, if_neg (by omega)]
theorem s_put_o (st : Nat → Int32) {t q j : Nat} (v : Int32) (h : j ≠ 22 + 18 * t + q) : s_put st t q v j = st j := if_neg h
theorem s_sh_tr (st : Nat → Int32) (t : Nat) : ∀ m i, s_tr (s_sh st t m) t i = if 6 ≤ i ∧ i < 6 + m then s_tr st t (i + 2) else s_tr st t i
  | 0, i => by rw [if_neg (by omega)]; rfl
  | m + 1, i => by
    have ih := s_sh_tr st t m
    unfold s_sh
    rw [s_put_tr]
    by_cases h : i = 6 + m
    · rw [if_pos h, if_pos (by omega), ih, if_neg (by omega), h]
    · rw [if_neg h, ih]
      by_cases h2 : 6 ≤ i ∧ i < 6 + m
      · rw [if_pos h2, if_pos (by omega)]
      · rw [if_neg h2, if_neg (by omega)]
theorem s_sh_o (st : Nat → Int32) {t j : Nat} : ∀ m, (j < 22 + 18 * t + 6 ∨ 22 + 18 * t + 6 + m ≤ j) → s_sh st t m j = st j
  | 0, _ => rfl
  | m + 1, h => by
    unfold s_sh
    rw [s_put_o _ _ (by omega)]
    exact s_sh_o st m (by omega)
section PK2
variable {β : Type} {M : zM} {g st : Nat → Int32} {i j k n m t q s p : Nat} {v x : Int32}
theorem g9_le3 (a b c : Int32) {f : Int32 → zP β} : (z_bd (p_X9_least a b c) f).1 M = (f (s_le3 a b c)).1 M := by
  unfold p_X9_least s_le3
  simp only [b_ite, b_pu, e_ite]
  repeat' (split <;> try rfl)
theorem kk_car {f : Unit → zP β} (h : L9 M) (ht : t < 3) (hs : s < 8) : (z_bd (p_X9_carryOut 75 (nI t) (nI s) x) f).1 (K9 M g st) = (f ()).1 (K9 M g (s_car (z_i M 78) st t s x)) := by
  have e4 : ∀ v : Int32, s_tr (s_up st (6 + s) v) t 4 = s_tr st t 4 := fun v => s_upn _ _ (by omega)
  unfold p_X9_carryOut s_car s_mv s_put
  by_cases h0 : x - st (6 + s) ≤ 0
  · simp (disch := first | assumption | omega) only [e_pu, e_ite, oL_add, oL_addr, oL_mul, nI_add, nI_1, b_pu, b_bd, b_ite, j_L, j_R, j_ite, j_bd, z_ex, ↓reduceIte, if_true, if_false, kk_cv, kk_a83, kk_s83, kk_a78, kk_g78, kk_g80, kk_g82, kk_g83, kk_l78_0, kk_l78_1, kk_l78_2, kk_l78_3, kk_l78_4, kk_l78_5, kk_l78_6, kk_l78_7, kk_l78_8, kk_l83_0, kk_t83_0, kk_l83_1, kk_t83_1, kk_l83_2, kk_t83_2, kk_l83_3, kk_t83_3, kk_l83_4, kk_t83_4, kk_l83_5, kk_t83_5, kk_l83_204, kk_t83_204, kk_wk, kk_fr, kk_mk, kk_ev, kk_bn, kk_ds, kk_rd, kk_dr, kk_of, kk_of0, kk_of1, kk_of2, kk_of3, kk_of4, kk_of5, kk_of6, kk_of7, kk_near, kk_loads, kk_all, kk_fare, g9_at, g9_ap, kk_put0, kk_put1, kk_put2, kk_put3, kk_put4, kk_put5, kk_put6, kk_put7, kk_put, kk_ra0, kk_ra1, kk_ra2, kk_ra, kk_beg, g9_le3, h0, e4]
  · simp (disch := first | assumption | omega) only [e_pu, e_ite, oL_add, oL_addr, oL_mul, nI_add, nI_1, b_pu, b_bd, b_ite, j_L, j_R, j_ite, j_bd, z_ex, ↓reduceIte, if_true, if_false, kk_cv, kk_a83, kk_s83, kk_a78, kk_g78, kk_g80, kk_g82, kk_g83, kk_l78_0, kk_l78_1, kk_l78_2, kk_l78_3, kk_l78_4, kk_l78_5, kk_l78_6, kk_l78_7, kk_l78_8, kk_l83_0, kk_t83_0, kk_l83_1, kk_t83_1, kk_l83_2, kk_t83_2, kk_l83_3, kk_t83_3, kk_l83_4, kk_t83_4, kk_l83_5, kk_t83_5, kk_l83_204, kk_t83_204, kk_wk, kk_fr, kk_mk, kk_ev, kk_bn, kk_ds, kk_rd, kk_dr, kk_of, kk_of0, kk_of1, kk_of2, kk_of3, kk_of4, kk_of5, kk_of6, kk_of7, kk_near, kk_loads, kk_all, kk_fare, g9_at, g9_ap, kk_put0, kk_put1, kk_put2, kk_put3, kk_put4, kk_put5, kk_put6, kk_put7, kk_put, kk_ra0, kk_ra1, kk_ra2, kk_ra, kk_beg, g9_le3, h0, e4]
theorem kk_sh {f : Unit → zP β} (h : L9 M) (ht : t < 3) (hq : q < 6) (h5 : s_tr st t 5 = nI q) : (z_jn (τ := Unit) (z_lp (fun (t9 : Int32) => (z_bd (z_cv 9 75 (p_X9_of 75 (nI t) 5)) (fun r10 => (if (6 + (2 * r10)) ≤ t9 then (z_pu (.inr (.inl ()))) else (z_bd (z_cv 9 75 (p_X9_of 75 (nI t) (t9 + 2))) (fun r11 => (z_bd (z_cv 9 75 (p_X9_put 75 (nI t) t9 r11)) (fun _ => (z_pu (.inl ((t9 + 1)))))))))))) 6) f).1 (K9 M g st) = (f ()).1 (K9 M g (s_sh st t (2 * q))) := by
  refine e_jL (t := ()) (M1 := K9 M g (s_sh st t (2 * q))) ?_
  refine lp_cnt (2 * q) (fun m => nI (6 + m)) (fun m => K9 M g (s_sh st t m)) _ _ ?_ ?_
  · intro m hm
    have e5 : s_tr (s_sh st t m) t 5 = nI q := by rw [s_sh_tr, if_neg (by omega)]; exact h5
    have hn : ¬ nI (6 + 2 * q) ≤ nI (6 + m) := nI_ge (by omega) (by omega)
    simp (disch := first | assumption | omega) only [e_pu, e_ite, oL_add, oL_addr, oL_mul, nI_add, nI_1, b_pu, b_bd, b_ite, j_L, j_R, j_ite, j_bd, z_ex, ↓reduceIte, if_true, if_false, kk_cv, kk_a83, kk_s83, kk_a78, kk_g78, kk_g80, kk_g82, kk_g83, kk_l78_0, kk_l78_1, kk_l78_2, kk_l78_3, kk_l78_4, kk_l78_5, kk_l78_6, kk_l78_7, kk_l78_8, kk_l83_0, kk_t83_0, kk_l83_1, kk_t83_1, kk_l83_2, kk_t83_2, kk_l83_3, kk_t83_3, kk_l83_4, kk_t83_4, kk_l83_5, kk_t83_5, kk_l83_204, kk_t83_204, kk_wk, kk_fr, kk_mk, kk_ev, kk_bn, kk_ds, kk_rd, kk_dr, kk_of, kk_of0, kk_of1, kk_of2, kk_of3, kk_of4, kk_of5, kk_of6, kk_of7, kk_near, kk_loads, kk_all, kk_fare, g9_at, g9_ap, kk_put0, kk_put1, kk_put2, kk_put3, kk_put4, kk_put5, kk_put6, kk_put7, kk_put, kk_ra0, kk_ra1, kk_ra2, kk_ra, kk_beg, e5, hn]
    rfl
  · have e5 : s_tr (s_sh st t (2 * q)) t 5 = nI q := by rw [s_sh_tr, if_neg (by omega)]; exact h5
    simp (disch := first | assumption | omega) only [e_pu, e_ite, oL_add, oL_addr, oL_mul, nI_add, nI_1, b_pu, b_bd, b_ite, j_L, j_R, j_ite, j_bd, z_ex, ↓reduceIte, if_true, if_false, kk_cv, kk_a83, kk_s83, kk_a78, kk_g78, kk_g80, kk_g82, kk_g83, kk_l78_0, kk_l78_1, kk_l78_2, kk_l78_3, kk_l78_4, kk_l78_5, kk_l78_6, kk_l78_7, kk_l78_8, kk_l83_0, kk_t83_0, kk_l83_1, kk_t83_1, kk_l83_2, kk_t83_2, kk_l83_3, kk_t83_3, kk_l83_4, kk_t83_4, kk_l83_5, kk_t83_5, kk_l83_204, kk_t83_204, kk_wk, kk_fr, kk_mk, kk_ev, kk_bn, kk_ds, kk_rd, kk_dr, kk_of, kk_of0, kk_of1, kk_of2, kk_of3, kk_of4, kk_of5, kk_of6, kk_of7, kk_near, kk_loads, kk_all, kk_fare, g9_at, g9_ap, kk_put0, kk_put1, kk_put2, kk_put3, kk_put4, kk_put5, kk_put6, kk_put7, kk_put, kk_ra0, kk_ra1, kk_ra2, kk_ra, kk_beg, e5, show nI (6 + 2 * q) ≤ nI (6 + 2 * q) from Int32.le_refl _]
/-- a truck's row: parked at a station, or driving to one; its orders -/
def t_ok (st : Nat → Int32) (n t q : Nat) : Prop := ((∃ p, p < n ∧ s_tr st t 0 = nI p ∧ s_tr st t 1 = -1 ∧ s_tr st t 2 = -1) ∨ (s_tr st t 0 = -1 ∧ (∃ p, p < n ∧ s_tr st t 1 = nI p) ∧ ∃ b, b < 20000 ∧ s_tr st t 2 = nI b)) ∧ q ≤ 6 ∧ s_tr st t 5 = nI q ∧ ∀ i, i < q → ∃ p, p < n ∧ s_tr st t (6 + 2 * i) = nI p

theorem s_drop_tr (st : Nat → Int32) (t q i : Nat) (hi : i < 6 + 2 * q) : s_tr (s_drop st t q) t i = if i = 5 then nI q else if 6 ≤ i then s_tr st t (i + 2) else s_tr st t i := by
  unfold s_drop
  rw [s_sh_tr]
  by_cases h6 : 6 ≤ i
  · rw [if_pos ⟨h6, hi⟩, s_put_tr, if_neg (by omega), if_neg (by omega), if_pos h6]
  · rw [if_neg (fun q => h6 q.1), s_put_tr, if_neg h6]
theorem s_drop_o (st : Nat → Int32) (t q j : Nat) (hj : j < 22 + 18 * t + 5 ∨ 22 + 18 * t + 6 + 2 * q ≤ j) : s_drop st t q j = st j := by
  unfold s_drop
  rw [s_sh_o _ _ (by omega), s_put_o _ _ (by omega)]
theorem s_car_tr (ct st : Nat → Int32) {t s i : Nat} (x : Int32) (hs : s < 8) (hi : i ≠ 4) : s_tr (s_car ct st t s x) t i = s_tr st t i := by
  unfold s_car
  rw [s_put_tr, if_neg hi]
  exact s_upn _ _ (by omega)
theorem t_ok_drop (h : t_ok st n t (q + 1)) : t_ok (s_drop st t q) n t q := by
  obtain ⟨h1, h2, h3, h4⟩ := h
  refine ⟨?_, by omega, by rw [s_drop_tr _ _ _ _ (by omega), if_pos rfl], fun i hi => ?_⟩
  · rw [s_drop_tr _ _ _ 0 (by omega), s_drop_tr _ _ _ 1 (by omega), s_drop_tr _ _ _ 2 (by omega)]
    exact h1
  · rw [s_drop_tr _ _ _ _ (by omega), if_neg (by omega), if_pos (by omega)]
    exact h4 (i + 1) (by omega)
theorem t_ok_car {ct : Nat → Int32} (hs : s < 8) (h : t_ok st n t q) : t_ok (s_car ct st t s x) n t q := by
  obtain ⟨h1, h2, h3, h4⟩ := h
  refine ⟨?_, h2, by rw [s_car_tr _ _ _ hs (by decide)]; exact h3, fun i hi => ?_⟩
  · rw [s_car_tr _ _ _ hs (by decide), s_car_tr _ _ _ hs (by decide), s_car_tr _ _ _ hs (by decide)]
    exact h1
  · rw [s_car_tr _ _ _ hs (by omega)]
    exact h4 i hi
theorem s_set_tr0 {ct : Nat → Int32} : s_tr (s_set ct st t p s x) t 0 = -1 := by
  unfold s_set
  rw [s_put_tr, if_pos rfl]
theorem ix_nI (h : n < 2 ^ 31) : ix (nI n) = n := nI_clamp h
theorem kk_goL (h : L9 M) (ht : t < 3) (hn : n ≤ 8) : ∀ q st, t_ok st n t q → (p_X9_goOn 75 (nI t)).1 (K9 M g st) = some (.inr (), K9 M g (s_go (z_i M 78) t q st)) := by
  intro q
  induction q with
  | zero =>
    intro st hk
    unfold p_X9_goOn
    refine z_lp_end ?_
    rcases hk.1 with ⟨p, hp, e0, _, _⟩ | ⟨e0, _⟩
    · simp (disch := first | assumption | omega) only [e_pu, e_ite, oL_add, oL_addr, oL_mul, nI_add, nI_1, b_pu, b_bd, b_ite, j_L, j_R, j_ite, j_bd, z_ex, ↓reduceIte, if_true, if_false, kk_cv, kk_a83, kk_s83, kk_a78, kk_g78, kk_g80, kk_g82, kk_g83, kk_l78_0, kk_l78_1, kk_l78_2, kk_l78_3, kk_l78_4, kk_l78_5, kk_l78_6, kk_l78_7, kk_l78_8, kk_l83_0, kk_t83_0, kk_l83_1, kk_t83_1, kk_l83_2, kk_t83_2, kk_l83_3, kk_t83_3, kk_l83_4, kk_t83_4, kk_l83_5, kk_t83_5, kk_l83_204, kk_t83_204, kk_wk, kk_fr, kk_mk, kk_ev, kk_bn, kk_ds, kk_rd, kk_dr, kk_of, kk_of0, kk_of1, kk_of2, kk_of3, kk_of4, kk_of5, kk_of6, kk_of7, kk_near, kk_loads, kk_all, kk_fare, g9_at, g9_ap, kk_put0, kk_put1, kk_put2, kk_put3, kk_put4, kk_put5, kk_put6, kk_put7, kk_put, kk_ra0, kk_ra1, kk_ra2, kk_ra, kk_beg, e0, hk.2.2.1, nI_pos (show p < 2 ^ 31 by omega), show nI 0 ≤ 0 from Int32.le_refl _]
      rfl
    · simp (disch := first | assumption | omega) only [e_pu, e_ite, oL_add, oL_addr, oL_mul, nI_add, nI_1, b_pu, b_bd, b_ite, j_L, j_R, j_ite, j_bd, z_ex, ↓reduceIte, if_true, if_false, kk_cv, kk_a83, kk_s83, kk_a78, kk_g78, kk_g80, kk_g82, kk_g83, kk_l78_0, kk_l78_1, kk_l78_2, kk_l78_3, kk_l78_4, kk_l78_5, kk_l78_6, kk_l78_7, kk_l78_8, kk_l83_0, kk_t83_0, kk_l83_1, kk_t83_1, kk_l83_2, kk_t83_2, kk_l83_3, kk_t83_3, kk_l83_4, kk_t83_4, kk_l83_5, kk_t83_5, kk_l83_204, kk_t83_204, kk_wk, kk_fr, kk_mk, kk_ev, kk_bn, kk_ds, kk_rd, kk_dr, kk_of, kk_of0, kk_of1, kk_of2, kk_of3, kk_of4, kk_of5, kk_of6, kk_of7, kk_near, kk_loads, kk_all, kk_fare, g9_at, g9_ap, kk_put0, kk_put1, kk_put2, kk_put3, kk_put4, kk_put5, kk_put6, kk_put7, kk_put, kk_ra0, kk_ra1, kk_ra2, kk_ra, kk_beg, e0, show (-1 : Int32) < 0 by decide]
      rfl
  | succ q ih =>
    intro st hk
    have hq6 := hk.2.1
    rcases hk.1 with ⟨p, hp, e0, _, _⟩ | ⟨e0, _⟩
    · obtain ⟨s, hs, e6⟩ := hk.2.2.2 0 (by omega)
      have e6 : s_tr st t 6 = nI s := e6
      have e5 := hk.2.2.1
      have d5 : s_tr (s_up st (22 + 18 * t + 5) (nI q)) t 5 = nI q := s_ups _ _ _
      have dr : s_sh (s_up st (22 + 18 * t + 5) (nI q)) t (2 * q) = s_drop st t q := rfl
      have d0 : s_tr (s_drop st t q) t 0 = nI p := by rw [s_drop_tr _ _ _ _ (by omega)]; exact e0
      have hdp := t_ok_drop hk
      have he : (nI s = nI p) = (s = p) := propext (nI_eq (by omega) (by omega))
      have h50 : ¬ nI (q + 1) ≤ 0 := nI_nle (by omega) (by omega)
      have hgo : s_go (z_i M 78) t (q + 1) st = if s = p then s_go (z_i M 78) t q (s_car (z_i M 78) (s_drop st t q) t s (s_tr st t 7)) else s_set (z_i M 78) (s_drop st t q) t p s (s_tr st t 7) := by
        show (if s_tr st t 0 < 0 then st else _) = _
        rw [e0, e6, if_neg (nI_pos (by omega)), ix_nI (by omega), ix_nI (by omega)]
        simp only [he]
      rw [hgo]
      by_cases hsp : s = p
      · rw [if_pos hsp]
        unfold p_X9_goOn
        refine (z_lp_step (s' := ()) (M1 := K9 M g (s_car (z_i M 78) (s_drop st t q) t s (s_tr st t 7))) ?_).trans (ih _ (t_ok_car (by omega) hdp))
        simp (disch := first | assumption | omega) only [e_pu, e_ite, oL_add, oL_addr, oL_mul, nI_add, nI_1, b_pu, b_bd, b_ite, j_L, j_R, j_ite, j_bd, z_ex, ↓reduceIte, if_true, if_false, kk_cv, kk_a83, kk_s83, kk_a78, kk_g78, kk_g80, kk_g82, kk_g83, kk_l78_0, kk_l78_1, kk_l78_2, kk_l78_3, kk_l78_4, kk_l78_5, kk_l78_6, kk_l78_7, kk_l78_8, kk_l83_0, kk_t83_0, kk_l83_1, kk_t83_1, kk_l83_2, kk_t83_2, kk_l83_3, kk_t83_3, kk_l83_4, kk_t83_4, kk_l83_5, kk_t83_5, kk_l83_204, kk_t83_204, kk_wk, kk_fr, kk_mk, kk_ev, kk_bn, kk_ds, kk_rd, kk_dr, kk_of, kk_of0, kk_of1, kk_of2, kk_of3, kk_of4, kk_of5, kk_of6, kk_of7, kk_near, kk_loads, kk_all, kk_fare, g9_at, g9_ap, kk_put0, kk_put1, kk_put2, kk_put3, kk_put4, kk_put5, kk_put6, kk_put7, kk_put, kk_ra0, kk_ra1, kk_ra2, kk_ra, kk_beg, e0, e5, e6, nI_pos (show p < 2 ^ 31 by omega), h50, nI_pred]
        rw [kk_sh h ht (by omega) d5, dr]
        simp (disch := first | assumption | omega) only [e_pu, e_ite, oL_add, oL_addr, oL_mul, nI_add, nI_1, b_pu, b_bd, b_ite, j_L, j_R, j_ite, j_bd, z_ex, ↓reduceIte, if_true, if_false, kk_cv, kk_a83, kk_s83, kk_a78, kk_g78, kk_g80, kk_g82, kk_g83, kk_l78_0, kk_l78_1, kk_l78_2, kk_l78_3, kk_l78_4, kk_l78_5, kk_l78_6, kk_l78_7, kk_l78_8, kk_l83_0, kk_t83_0, kk_l83_1, kk_t83_1, kk_l83_2, kk_t83_2, kk_l83_3, kk_t83_3, kk_l83_4, kk_t83_4, kk_l83_5, kk_t83_5, kk_l83_204, kk_t83_204, kk_wk, kk_fr, kk_mk, kk_ev, kk_bn, kk_ds, kk_rd, kk_dr, kk_of, kk_of0, kk_of1, kk_of2, kk_of3, kk_of4, kk_of5, kk_of6, kk_of7, kk_near, kk_loads, kk_all, kk_fare, g9_at, g9_ap, kk_put0, kk_put1, kk_put2, kk_put3, kk_put4, kk_put5, kk_put6, kk_put7, kk_put, kk_ra0, kk_ra1, kk_ra2, kk_ra, kk_beg, d0, he, hsp, kk_car]
      · rw [if_neg hsp]
        unfold p_X9_goOn
        refine (z_lp_step (s' := ()) (M1 := K9 M g (s_set (z_i M 78) (s_drop st t q) t p s (s_tr st t 7))) ?_).trans ?_
        · have d0' : ∀ v, s_tr (s_up (s_drop st t q) (22 + 18 * t + 1) v) t 0 = nI p := fun v => (s_upn _ _ (by omega)).trans d0
          simp (disch := first | assumption | omega) only [e_pu, e_ite, oL_add, oL_addr, oL_mul, nI_add, nI_1, b_pu, b_bd, b_ite, j_L, j_R, j_ite, j_bd, z_ex, ↓reduceIte, if_true, if_false, kk_cv, kk_a83, kk_s83, kk_a78, kk_g78, kk_g80, kk_g82, kk_g83, kk_l78_0, kk_l78_1, kk_l78_2, kk_l78_3, kk_l78_4, kk_l78_5, kk_l78_6, kk_l78_7, kk_l78_8, kk_l83_0, kk_t83_0, kk_l83_1, kk_t83_1, kk_l83_2, kk_t83_2, kk_l83_3, kk_t83_3, kk_l83_4, kk_t83_4, kk_l83_5, kk_t83_5, kk_l83_204, kk_t83_204, kk_wk, kk_fr, kk_mk, kk_ev, kk_bn, kk_ds, kk_rd, kk_dr, kk_of, kk_of0, kk_of1, kk_of2, kk_of3, kk_of4, kk_of5, kk_of6, kk_of7, kk_near, kk_loads, kk_all, kk_fare, g9_at, g9_ap, kk_put0, kk_put1, kk_put2, kk_put3, kk_put4, kk_put5, kk_put6, kk_put7, kk_put, kk_ra0, kk_ra1, kk_ra2, kk_ra, kk_beg, e0, e5, e6, nI_pos (show p < 2 ^ 31 by omega), h50, nI_pred]
          rw [kk_sh h ht (by omega) d5, dr]
          simp (disch := first | assumption | omega) only [e_pu, e_ite, oL_add, oL_addr, oL_mul, nI_add, nI_1, b_pu, b_bd, b_ite, j_L, j_R, j_ite, j_bd, z_ex, ↓reduceIte, if_true, if_false, kk_cv, kk_a83, kk_s83, kk_a78, kk_g78, kk_g80, kk_g82, kk_g83, kk_l78_0, kk_l78_1, kk_l78_2, kk_l78_3, kk_l78_4, kk_l78_5, kk_l78_6, kk_l78_7, kk_l78_8, kk_l83_0, kk_t83_0, kk_l83_1, kk_t83_1, kk_l83_2, kk_t83_2, kk_l83_3, kk_t83_3, kk_l83_4, kk_t83_4, kk_l83_5, kk_t83_5, kk_l83_204, kk_t83_204, kk_wk, kk_fr, kk_mk, kk_ev, kk_bn, kk_ds, kk_rd, kk_dr, kk_of, kk_of0, kk_of1, kk_of2, kk_of3, kk_of4, kk_of5, kk_of6, kk_of7, kk_near, kk_loads, kk_all, kk_fare, g9_at, g9_ap, kk_put0, kk_put1, kk_put2, kk_put3, kk_put4, kk_put5, kk_put6, kk_put7, kk_put, kk_ra0, kk_ra1, kk_ra2, kk_ra, kk_beg, d0, d0', he, hsp, s_upn]
          rfl
        · refine z_lp_end ?_
          simp (disch := first | assumption | omega) only [e_pu, e_ite, oL_add, oL_addr, oL_mul, nI_add, nI_1, b_pu, b_bd, b_ite, j_L, j_R, j_ite, j_bd, z_ex, ↓reduceIte, if_true, if_false, kk_cv, kk_a83, kk_s83, kk_a78, kk_g78, kk_g80, kk_g82, kk_g83, kk_l78_0, kk_l78_1, kk_l78_2, kk_l78_3, kk_l78_4, kk_l78_5, kk_l78_6, kk_l78_7, kk_l78_8, kk_l83_0, kk_t83_0, kk_l83_1, kk_t83_1, kk_l83_2, kk_t83_2, kk_l83_3, kk_t83_3, kk_l83_4, kk_t83_4, kk_l83_5, kk_t83_5, kk_l83_204, kk_t83_204, kk_wk, kk_fr, kk_mk, kk_ev, kk_bn, kk_ds, kk_rd, kk_dr, kk_of, kk_of0, kk_of1, kk_of2, kk_of3, kk_of4, kk_of5, kk_of6, kk_of7, kk_near, kk_loads, kk_all, kk_fare, g9_at, g9_ap, kk_put0, kk_put1, kk_put2, kk_put3, kk_put4, kk_put5, kk_put6, kk_put7, kk_put, kk_ra0, kk_ra1, kk_ra2, kk_ra, kk_beg, s_set_tr0, show (-1 : Int32) < 0 by decide]
    · have hgo : s_go (z_i M 78) t (q + 1) st = st := by
        show (if s_tr st t 0 < 0 then st else _) = _
        rw [e0, if_pos (by decide)]
      rw [hgo]
      unfold p_X9_goOn
      refine z_lp_end ?_
      simp (disch := first | assumption | omega) only [e_pu, e_ite, oL_add, oL_addr, oL_mul, nI_add, nI_1, b_pu, b_bd, b_ite, j_L, j_R, j_ite, j_bd, z_ex, ↓reduceIte, if_true, if_false, kk_cv, kk_a83, kk_s83, kk_a78, kk_g78, kk_g80, kk_g82, kk_g83, kk_l78_0, kk_l78_1, kk_l78_2, kk_l78_3, kk_l78_4, kk_l78_5, kk_l78_6, kk_l78_7, kk_l78_8, kk_l83_0, kk_t83_0, kk_l83_1, kk_t83_1, kk_l83_2, kk_t83_2, kk_l83_3, kk_t83_3, kk_l83_4, kk_t83_4, kk_l83_5, kk_t83_5, kk_l83_204, kk_t83_204, kk_wk, kk_fr, kk_mk, kk_ev, kk_bn, kk_ds, kk_rd, kk_dr, kk_of, kk_of0, kk_of1, kk_of2, kk_of3, kk_of4, kk_of5, kk_of6, kk_of7, kk_near, kk_loads, kk_all, kk_fare, g9_at, g9_ap, kk_put0, kk_put1, kk_put2, kk_put3, kk_put4, kk_put5, kk_put6, kk_put7, kk_put, kk_ra0, kk_ra1, kk_ra2, kk_ra, kk_beg, e0, show (-1 : Int32) < 0 by decide]
theorem kk_go {f : Unit → zP β} (h : L9 M) (ht : t < 3) (hn : n ≤ 8) (hk : t_ok st n t q) : (z_bd (p_X9_goOn 75 (nI t)) f).1 (K9 M g st) = (f ()).1 (K9 M g (s_go (z_i M 78) t q st)) := e_run (kk_goL h ht hn q st hk)
def s_arr (ct st : Nat → Int32) (t q p : Nat) : Nat → Int32 := s_go ct t q (s_car ct (s_put (s_put (s_put st t 0 (nI p)) t 1 (-1)) t 2 (-1)) t p (s_tr st t 3))
theorem kk_arr {f : Unit → zP β} (h : L9 M) (ht : t < 3) (hn : n ≤ 8) (hp : p < n) (e1 : s_tr st t 1 = nI p) (hk : t_ok st n t q) : (z_bd (p_X9_arrive 75 (nI t)) f).1 (K9 M g st) = (f ()).1 (K9 M g (s_arr (z_i M 78) st t q p)) := by
  have d3 : ∀ a b c : Int32, s_tr (s_up (s_up (s_up st (22 + 18 * t + 0) a) (22 + 18 * t + 1) b) (22 + 18 * t + 2) c) t 3 = s_tr st t 3 := fun a b c => (s_upn _ _ (by omega)).trans ((s_upn _ _ (by omega)).trans (s_upn _ _ (by omega)))
  have hk2 : t_ok (s_put (s_put (s_put st t 0 (nI p)) t 1 (-1)) t 2 (-1)) n t q := by
    refine ⟨Or.inl ⟨p, hp, ?_, ?_, ?_⟩, hk.2.1, ?_, fun i hi => ?_⟩
    · rw [s_put_tr, if_neg (by decide), s_put_tr, if_neg (by decide), s_put_tr, if_pos rfl]
    · rw [s_put_tr, if_neg (by decide), s_put_tr, if_pos rfl]
    · rw [s_put_tr, if_pos rfl]
    · rw [s_put_tr, if_neg (by decide), s_put_tr, if_neg (by decide), s_put_tr, if_neg (by decide)]; exact hk.2.2.1
    · rw [s_put_tr, if_neg (by omega), s_put_tr, if_neg (by omega), s_put_tr, if_neg (by omega)]; exact hk.2.2.2 i hi
  unfold p_X9_arrive
  simp (disch := first | assumption | omega) only [e_pu, e_ite, oL_add, oL_addr, oL_mul, nI_add, nI_1, b_pu, b_bd, b_ite, j_L, j_R, j_ite, j_bd, z_ex, ↓reduceIte, if_true, if_false, kk_cv, kk_a83, kk_s83, kk_a78, kk_g78, kk_g80, kk_g82, kk_g83, kk_l78_0, kk_l78_1, kk_l78_2, kk_l78_3, kk_l78_4, kk_l78_5, kk_l78_6, kk_l78_7, kk_l78_8, kk_l83_0, kk_t83_0, kk_l83_1, kk_t83_1, kk_l83_2, kk_t83_2, kk_l83_3, kk_t83_3, kk_l83_4, kk_t83_4, kk_l83_5, kk_t83_5, kk_l83_204, kk_t83_204, kk_wk, kk_fr, kk_mk, kk_ev, kk_bn, kk_ds, kk_rd, kk_dr, kk_of, kk_of0, kk_of1, kk_of2, kk_of3, kk_of4, kk_of5, kk_of6, kk_of7, kk_near, kk_loads, kk_all, kk_fare, g9_at, g9_ap, kk_put0, kk_put1, kk_put2, kk_put3, kk_put4, kk_put5, kk_put6, kk_put7, kk_put, kk_ra0, kk_ra1, kk_ra2, kk_ra, kk_beg, e1, d3, kk_car]
  exact kk_go (f := fun _ => f ()) h ht hn (t_ok_car (by omega) hk2)

end PK2
