/-! ===== PHASE 2: the model's setDefaults, takeDraft ===== -/
def s_df (j : Nat) : Int32 := if j = 3 then 10 else if j = 4 then 5 else if j = 5 then 20 else if j = 8 then 1 else 0
section PA27
variable {β : Type} {M : zM} {F : Nat → Nat → Int32} {ct cd st bf : Nat → Int32} {i j k q c sp n ns nt np nc L t : Nat} {v w x y : Int32}
theorem fl_loop {f : Int32 → zP (Int32 ⊕ β)} {b : β} (n y : Nat) (hn : n < 2 ^ 31) (hs : ∀ t g, t < n → (f (nI t)).1 (KI M (z_up1 F y g)) = some (.inr (.inl (nI (t + 1))), KI M (z_up2 (z_up1 F y g) y t 0))) (he : ∀ g, (f (nI n)).1 (KI M (z_up1 F y g)) = some (.inr (.inr b), KI M (z_up1 F y g))) : (z_lp f (nI 0)).1 (KI M F) = some (.inr b, KI M (z_up1 F y (f_fl (F y) n))) := by
  have h0 : KI M F = KI M (z_up1 F y (f_fl (F y) 0)) := by
    have : f_fl (F y) 0 = F y := by
      funext j
      exact if_neg (Nat.not_lt_zero _)
    rw [this, up1_id]
  rw [h0]
  refine lp_cnt n (fun t => nI t) (fun t => KI M (z_up1 F y (f_fl (F y) t))) b _ ?_ (he _)
  intro t ht
  rw [hs t _ ht]
  refine congrArg (fun G => some (Sum.inr (Sum.inl (nI (t + 1))), KI M G)) ?_
  funext u j
  by_cases e : u = y
  · subst e
    rw [u1_s]
    by_cases e2 : j = t
    · subst e2
      rw [u2_s]
      exact (if_pos (Nat.lt_succ_self _)).symm
    · rw [u2_n _ _ (Or.inr e2), u1_s]
      unfold f_fl
      by_cases e3 : j < t
      · rw [if_pos e3, if_pos (by omega)]
      · rw [if_neg e3, if_neg (by omega)]
  · rw [u2_n _ _ (Or.inl e), u1_n _ _ e, u1_n _ _ e]
theorem m_defaults (h9 : L9 M) : ∃ F', (p_X9_setDefaults 75).1 (KI M F) = some (.inr (), KI M F') ∧ (∀ j, j < 138 → F' 77 j = s_df j) ∧ F' 75 14 = 0 ∧ (∀ z, z ≠ 14 → F' 75 z = F 75 z) ∧ F' 79 0 = 100 ∧ ∀ y, y ≠ 75 → y ≠ 77 → y ≠ 79 → F' y = F y := by
  refine ⟨z_up2 (z_up2 (z_up2 (z_up2 (z_up2 (z_up2 (z_up1 F 77 (f_fl (F 77) 138)) 77 3 10) 77 4 5) 77 5 20) 75 14 0) 79 0 100) 77 8 1, ?_, ?_, ?_, ?_, ?_, ?_⟩
  · unfold p_X9_setDefaults
    refine (e_jL (t := ()) (M1 := KI M (z_up1 F 77 (f_fl (F 77) 138))) ?_).trans ?_
    · refine fl_loop 138 77 (by omega) (fun t g ht => ?_) (fun g => rfl)
      have h3 : ¬ (138 : Int32) ≤ nI t := nI_ge (b := 138) ht (by omega)
      simp (disch := first | assumption | omega) only [e_pu, e_ite, oL_add, oL_addr, oL_mul, nI_add, nI_1, b_pu, b_bd, b_ite, j_L, j_R, j_ite, j_bd, z_ex, ↓reduceIte, if_true, if_false, kn_gI, kn_pI, kn_cv, kn_g76, kn_a76, kn_s76, kn_g77, kn_a77, kn_s77, kn_g78, kn_a78, kn_s78, kn_g79, kn_a79, kn_s79, kn_g80, kn_a80, kn_s80, kn_g81, kn_a81, kn_s81, kn_g82, kn_a82, kn_s82, kn_g83, kn_a83, kn_s83, kn_g84, kn_a84, kn_s84, kn_g85, kn_a85, kn_s85, kn_g86, kn_g87, kn_a87, kn_s87, kn_g88, kn_a88, kn_s88, kn_g89, kn_a89, kn_s89, kn_g90, kn_a90, kn_s90, kn_g91, kn_a91, kn_s91, kn_g92, kn_a92, kn_s92, kn_g93, kn_a93, kn_s93, kn_g94, kn_a94, kn_s94, kn_l77_0, kn_t77_0, kn_l77_1, kn_t77_1, kn_l77_2, kn_t77_2, kn_l77_3, kn_t77_3, kn_l77_4, kn_t77_4, kn_l77_5, kn_t77_5, kn_l77_6, kn_t77_6, kn_l77_7, kn_t77_7, kn_l77_8, kn_t77_8, kn_l78_0, kn_t78_0, kn_l78_1, kn_t78_1, kn_l78_2, kn_t78_2, kn_l78_3, kn_t78_3, kn_l78_4, kn_t78_4, kn_l78_5, kn_t78_5, kn_l78_6, kn_t78_6, kn_l78_7, kn_t78_7, kn_l78_8, kn_t78_8, kn_l79_0, kn_t79_0, kn_l82_0, kn_t82_0, kn_l83_0, kn_t83_0, kn_l83_1, kn_t83_1, kn_l83_2, kn_t83_2, kn_l83_3, kn_t83_3, kn_l83_4, kn_t83_4, kn_l83_5, kn_t83_5, kn_l83_204, kn_t83_204, kn_wk, kn_fr, kn_mk, kn_ev, kn_bn, kn_ds, kn_rd, kn_dr, kn_of, kn_of0, kn_of1, kn_of2, kn_of3, kn_of4, kn_of5, kn_of6, kn_near, kn_loads, kn_all, kn_fare, kn_fail, kn_told, g9_wi, g9_at, h3]
    · simp (disch := first | assumption | omega) only [e_pu, e_ite, oL_add, oL_addr, oL_mul, nI_add, nI_1, b_pu, b_bd, b_ite, j_L, j_R, j_ite, j_bd, z_ex, ↓reduceIte, if_true, if_false, kn_gI, kn_pI, kn_cv, kn_g76, kn_a76, kn_s76, kn_g77, kn_a77, kn_s77, kn_g78, kn_a78, kn_s78, kn_g79, kn_a79, kn_s79, kn_g80, kn_a80, kn_s80, kn_g81, kn_a81, kn_s81, kn_g82, kn_a82, kn_s82, kn_g83, kn_a83, kn_s83, kn_g84, kn_a84, kn_s84, kn_g85, kn_a85, kn_s85, kn_g86, kn_g87, kn_a87, kn_s87, kn_g88, kn_a88, kn_s88, kn_g89, kn_a89, kn_s89, kn_g90, kn_a90, kn_s90, kn_g91, kn_a91, kn_s91, kn_g92, kn_a92, kn_s92, kn_g93, kn_a93, kn_s93, kn_g94, kn_a94, kn_s94, kn_l77_0, kn_t77_0, kn_l77_1, kn_t77_1, kn_l77_2, kn_t77_2, kn_l77_3, kn_t77_3, kn_l77_4, kn_t77_4, kn_l77_5, kn_t77_5, kn_l77_6, kn_t77_6, kn_l77_7, kn_t77_7, kn_l77_8, kn_t77_8, kn_l78_0, kn_t78_0, kn_l78_1, kn_t78_1, kn_l78_2, kn_t78_2, kn_l78_3, kn_t78_3, kn_l78_4, kn_t78_4, kn_l78_5, kn_t78_5, kn_l78_6, kn_t78_6, kn_l78_7, kn_t78_7, kn_l78_8, kn_t78_8, kn_l79_0, kn_t79_0, kn_l82_0, kn_t82_0, kn_l83_0, kn_t83_0, kn_l83_1, kn_t83_1, kn_l83_2, kn_t83_2, kn_l83_3, kn_t83_3, kn_l83_4, kn_t83_4, kn_l83_5, kn_t83_5, kn_l83_204, kn_t83_204, kn_wk, kn_fr, kn_mk, kn_ev, kn_bn, kn_ds, kn_rd, kn_dr, kn_of, kn_of0, kn_of1, kn_of2, kn_of3, kn_of4, kn_of5, kn_of6, kn_near, kn_loads, kn_all, kn_fare, kn_fail, kn_told, g9_wi, g9_at]
  · intro j hj
    unfold s_df
    by_cases e8 : j = 8
    · subst e8
      rw [u2_s]
      rfl
    · rw [u2_n _ _ (Or.inr e8), u2_n _ _ (by omega), u2_n _ _ (by omega)]
      by_cases e5 : j = 5
      · subst e5
        rw [u2_s]
        rfl
      · rw [u2_n _ _ (Or.inr e5)]
        by_cases e4 : j = 4
        · subst e4
          rw [u2_s]
          rfl
        · rw [u2_n _ _ (Or.inr e4)]
          by_cases e3 : j = 3
          · subst e3
            rw [u2_s]
            rfl
          · rw [u2_n _ _ (Or.inr e3), u1_s, if_neg e3, if_neg e4, if_neg e5, if_neg e8]
            exact if_pos hj
  · rw [u2_n _ _ (by omega), u2_n _ _ (by omega), u2_s]
  · intro z hz
    rw [u2_n _ _ (by omega), u2_n _ _ (by omega), u2_n _ _ (Or.inr hz), u2_n _ _ (by omega), u2_n _ _ (by omega), u2_n _ _ (by omega), u1_n _ _ (by omega)]
  · rw [u2_n _ _ (by omega), u2_s]
  · intro y h1 h2 h3
    rw [u2_row _ _ h2, u2_row _ _ h3, u2_row _ _ h1, u2_row _ _ h2, u2_row _ _ h2, u2_row _ _ h2, u1_n _ _ h2]
/-- bikes, then trucks of a new state -/
def s_tb1 (ct : Nat → Int32) (g : Nat → Int32) (t : Nat) : Nat → Int32 := fun j => if 6 ≤ j ∧ j < 6 + t then ct (34 + (j - 6)) else g j
def s_tb2 (ct : Nat → Int32) (g : Nat → Int32) : Nat → Nat → Int32
  | 0 => g
  | t + 1 => s_up (s_up (s_up (s_tb2 ct g t) (22 + 18 * t + 0) (ct (42 + t))) (22 + 18 * t + 1) (-1)) (22 + 18 * t + 2) (-1)
theorem s_tb2_v {g : Nat → Int32} : ∀ t j, s_tb2 ct g t j = if 22 ≤ j ∧ j < 22 + 18 * t ∧ (j - 22) % 18 < 3 then (if (j - 22) % 18 = 0 then ct (42 + (j - 22) / 18) else -1) else g j
  | 0, j => by rw [if_neg (by omega)]; rfl
  | t + 1, j => by
    show s_up (s_up (s_up (s_tb2 ct g t) (22 + 18 * t + 0) (ct (42 + t))) (22 + 18 * t + 1) (-1)) (22 + 18 * t + 2) (-1) j = _
    by_cases e2 : j = 22 + 18 * t + 2
    · rw [e2, s_ups, if_pos (by omega), if_neg (by omega)]
    · rw [s_upn _ _ e2]
      by_cases e1 : j = 22 + 18 * t + 1
      · rw [e1, s_ups, if_pos (by omega), if_neg (by omega)]
      · rw [s_upn _ _ e1]
        by_cases e0 : j = 22 + 18 * t + 0
        · rw [e0, s_ups, if_pos (by omega), if_pos (by omega)]
          congr 1
          omega
        · rw [s_upn _ _ e0, s_tb2_v t j]
          by_cases h : 22 ≤ j ∧ j < 22 + 18 * t ∧ (j - 22) % 18 < 3
          · rw [if_pos h, if_pos (show 22 ≤ j ∧ j < 22 + 18 * (t + 1) ∧ (j - 22) % 18 < 3 by omega)]
          · rw [if_neg h, if_neg (show ¬ (22 ≤ j ∧ j < 22 + 18 * (t + 1) ∧ (j - 22) % 18 < 3) by omega)]
theorem up12 {G : Nat → Nat → Int32} {g : Nat → Int32} {u m : Nat} : z_up2 (z_up1 G u g) u m v = z_up1 G u (s_up g m v) := by
  funext z j
  by_cases e : z = u
  · subst e
    rw [u1_s]
    by_cases e2 : j = m
    · rw [e2, u2_s, s_ups]
    · rw [u2_n _ _ (Or.inr e2), u1_s, s_upn _ _ e2]
  · rw [u2_n _ _ (Or.inl e), u1_n _ _ e, u1_n _ _ e]
theorem m_take (h9 : L9 M) (e8 : F 77 8 = nI nc) (hnc : nc ≤ 700) (e0 : F 77 0 = nI ns) (hns : ns ≤ 8) (e1 : F 77 1 = nI nt) (hnt : nt ≤ 3) : ∃ F', (p_X9_takeDraft 75).1 (KI M F) = some (.inr (), KI M F') ∧ F' 78 = va_cpy (F 77) (F 78) 0 0 138 ∧ F' 80 = va_cpy (F 79) (F 80) 0 0 nc ∧ (∀ j, j < 3277 → F' 83 j = s_b0 (F 77) ns nt j) ∧ F' 75 21 = 0 ∧ F' 86 0 = 0 ∧ F' 86 1 = 0 ∧ (∀ z, z ≠ 21 → F' 75 z = F 75 z) ∧ ∀ y, y ≠ 75 → y ≠ 78 → y ≠ 80 → y ≠ 83 → y ≠ 86 → F' y = F y := by
  obtain ⟨F1, eF1⟩ : ∃ F1, F1 = z_up1 F 78 (va_cpy (F 77) (F 78) 0 0 138) := ⟨_, rfl⟩
  obtain ⟨F2, eF2⟩ : ∃ F2, F2 = z_up1 F1 80 (va_cpy (F1 79) (F1 80) 0 0 nc) := ⟨_, rfl⟩
  obtain ⟨F3, eF3⟩ : ∃ F3, F3 = z_up1 F2 83 (f_fl (F2 83) 3277) := ⟨_, rfl⟩
  have a1 : ∀ y, y ≠ 78 → F1 y = F y := fun y hy => by rw [eF1, u1_n _ _ hy]
  have a2 : ∀ y, y ≠ 80 → F2 y = F1 y := fun y hy => by rw [eF2, u1_n _ _ hy]
  have a3 : ∀ y, y ≠ 83 → F3 y = F2 y := fun y hy => by rw [eF3, u1_n _ _ hy]
  have c78 : ∀ j, j < 138 → F3 78 j = F 77 j := fun j hj => by rw [a3 _ (by omega), a2 _ (by omega), eF1, u1_s, pk_cpy_in (by omega) (by omega), show 0 + (j - 0) = j by omega]
  obtain ⟨F4, eF4⟩ : ∃ F4, F4 = z_up1 F3 83 (s_tb1 (F3 78) (F3 83) ns) := ⟨_, rfl⟩
  have a4 : ∀ y, y ≠ 83 → F4 y = F3 y := fun y hy => by rw [eF4, u1_n _ _ hy]
  obtain ⟨F5, eF5⟩ : ∃ F5, F5 = z_up1 F4 83 (s_tb2 (F4 78) (F4 83) nt) := ⟨_, rfl⟩
  have a5 : ∀ y, y ≠ 83 → F5 y = F4 y := fun y hy => by rw [eF5, u1_n _ _ hy]
  have l1 : ((z_lp (fun (t2 : Int32) => (if 138 ≤ t2 then (z_pu (.inr (.inl ()))) else (z_bd (z_gA 9 75 11) (fun v3 => (z_bd (z_gA 9 75 10) (fun v4 => (z_bd (z_aI 11 v4 t2) (fun v5 => (z_bd (z_sI 11 v3 t2 v5) (fun _ => (z_pu (.inl ((t2 + 1)))))))))))))) 0) : zP (Unit ⊕ Unit)).1 (KI M F) = some (.inr (.inl ()), KI M F1) := by
    rw [eF1]
    refine cp_loop 138 0 0 77 78 (by omega) (fun t g ht => ?_) (fun g => rfl)
    have h3 : ¬ (138 : Int32) ≤ nI t := nI_ge (b := 138) ht (by omega)
    simp (disch := first | assumption | omega) only [e_pu, e_ite, oL_add, oL_addr, oL_mul, nI_add, nI_1, b_pu, b_bd, b_ite, j_L, j_R, j_ite, j_bd, z_ex, ↓reduceIte, if_true, if_false, kn_gI, kn_pI, kn_cv, kn_g76, kn_a76, kn_s76, kn_g77, kn_a77, kn_s77, kn_g78, kn_a78, kn_s78, kn_g79, kn_a79, kn_s79, kn_g80, kn_a80, kn_s80, kn_g81, kn_a81, kn_s81, kn_g82, kn_a82, kn_s82, kn_g83, kn_a83, kn_s83, kn_g84, kn_a84, kn_s84, kn_g85, kn_a85, kn_s85, kn_g86, kn_g87, kn_a87, kn_s87, kn_g88, kn_a88, kn_s88, kn_g89, kn_a89, kn_s89, kn_g90, kn_a90, kn_s90, kn_g91, kn_a91, kn_s91, kn_g92, kn_a92, kn_s92, kn_g93, kn_a93, kn_s93, kn_g94, kn_a94, kn_s94, kn_l77_0, kn_t77_0, kn_l77_1, kn_t77_1, kn_l77_2, kn_t77_2, kn_l77_3, kn_t77_3, kn_l77_4, kn_t77_4, kn_l77_5, kn_t77_5, kn_l77_6, kn_t77_6, kn_l77_7, kn_t77_7, kn_l77_8, kn_t77_8, kn_l78_0, kn_t78_0, kn_l78_1, kn_t78_1, kn_l78_2, kn_t78_2, kn_l78_3, kn_t78_3, kn_l78_4, kn_t78_4, kn_l78_5, kn_t78_5, kn_l78_6, kn_t78_6, kn_l78_7, kn_t78_7, kn_l78_8, kn_t78_8, kn_l79_0, kn_t79_0, kn_l82_0, kn_t82_0, kn_l83_0, kn_t83_0, kn_l83_1, kn_t83_1, kn_l83_2, kn_t83_2, kn_l83_3, kn_t83_3, kn_l83_4, kn_t83_4, kn_l83_5, kn_t83_5, kn_l83_204, kn_t83_204, kn_wk, kn_fr, kn_mk, kn_ev, kn_bn, kn_ds, kn_rd, kn_dr, kn_of, kn_of0, kn_of1, kn_of2, kn_of3, kn_of4, kn_of5, kn_of6, kn_near, kn_loads, kn_all, kn_fare, kn_fail, kn_told, g9_wi, g9_at, h3, u1_n]
    rw [Nat.zero_add]
  have l2 : ((z_lp (fun (t7 : Int32) => (z_bd (z_gA 9 75 10) (fun v8 => (z_bd (z_aI 11 v8 8) (fun v9 => (if v9 ≤ t7 then (z_pu (.inr (.inl ()))) else (z_bd (z_gA 9 75 13) (fun v10 => (z_bd (z_gA 9 75 12) (fun v11 => (z_bd (z_aI 11 v11 t7) (fun v12 => (z_bd (z_sI 11 v10 t7 v12) (fun _ => (z_pu (.inl ((t7 + 1)))))))))))))))))) 0) : zP (Unit ⊕ Unit)).1 (KI M F1) = some (.inr (.inl ()), KI M F2) := by
    rw [eF2]
    have e8' : F1 77 8 = nI nc := by rw [a1 _ (by omega)]; exact e8
    refine cp_loop nc 0 0 79 80 (by omega) (fun t g ht => ?_) (fun g => ?_)
    · have h3 : ¬ nI nc ≤ nI t := nI_ge ht (by omega)
      have ht7 : t < 700 := by omega
      have e8'' : z_up1 F1 80 g 77 8 = nI nc := by rw [u1_n _ _ (by omega)]; exact e8'
      simp (disch := first | assumption | omega) only [e_pu, e_ite, oL_add, oL_addr, oL_mul, nI_add, nI_1, b_pu, b_bd, b_ite, j_L, j_R, j_ite, j_bd, z_ex, ↓reduceIte, if_true, if_false, kn_gI, kn_pI, kn_cv, kn_g76, kn_a76, kn_s76, kn_g77, kn_a77, kn_s77, kn_g78, kn_a78, kn_s78, kn_g79, kn_a79, kn_s79, kn_g80, kn_a80, kn_s80, kn_g81, kn_a81, kn_s81, kn_g82, kn_a82, kn_s82, kn_g83, kn_a83, kn_s83, kn_g84, kn_a84, kn_s84, kn_g85, kn_a85, kn_s85, kn_g86, kn_g87, kn_a87, kn_s87, kn_g88, kn_a88, kn_s88, kn_g89, kn_a89, kn_s89, kn_g90, kn_a90, kn_s90, kn_g91, kn_a91, kn_s91, kn_g92, kn_a92, kn_s92, kn_g93, kn_a93, kn_s93, kn_g94, kn_a94, kn_s94, kn_l77_0, kn_t77_0, kn_l77_1, kn_t77_1, kn_l77_2, kn_t77_2, kn_l77_3, kn_t77_3, kn_l77_4, kn_t77_4, kn_l77_5, kn_t77_5, kn_l77_6, kn_t77_6, kn_l77_7, kn_t77_7, kn_l77_8, kn_t77_8, kn_l78_0, kn_t78_0, kn_l78_1, kn_t78_1, kn_l78_2, kn_t78_2, kn_l78_3, kn_t78_3, kn_l78_4, kn_t78_4, kn_l78_5, kn_t78_5, kn_l78_6, kn_t78_6, kn_l78_7, kn_t78_7, kn_l78_8, kn_t78_8, kn_l79_0, kn_t79_0, kn_l82_0, kn_t82_0, kn_l83_0, kn_t83_0, kn_l83_1, kn_t83_1, kn_l83_2, kn_t83_2, kn_l83_3, kn_t83_3, kn_l83_4, kn_t83_4, kn_l83_5, kn_t83_5, kn_l83_204, kn_t83_204, kn_wk, kn_fr, kn_mk, kn_ev, kn_bn, kn_ds, kn_rd, kn_dr, kn_of, kn_of0, kn_of1, kn_of2, kn_of3, kn_of4, kn_of5, kn_of6, kn_near, kn_loads, kn_all, kn_fare, kn_fail, kn_told, g9_wi, g9_at, e8'', h3, u1_n]
      rw [Nat.zero_add]
    · have e8'' : z_up1 F1 80 g 77 8 = nI nc := by rw [u1_n _ _ (by omega)]; exact e8'
      simp (disch := first | assumption | omega) only [e_pu, e_ite, oL_add, oL_addr, oL_mul, nI_add, nI_1, b_pu, b_bd, b_ite, j_L, j_R, j_ite, j_bd, z_ex, ↓reduceIte, if_true, if_false, kn_gI, kn_pI, kn_cv, kn_g76, kn_a76, kn_s76, kn_g77, kn_a77, kn_s77, kn_g78, kn_a78, kn_s78, kn_g79, kn_a79, kn_s79, kn_g80, kn_a80, kn_s80, kn_g81, kn_a81, kn_s81, kn_g82, kn_a82, kn_s82, kn_g83, kn_a83, kn_s83, kn_g84, kn_a84, kn_s84, kn_g85, kn_a85, kn_s85, kn_g86, kn_g87, kn_a87, kn_s87, kn_g88, kn_a88, kn_s88, kn_g89, kn_a89, kn_s89, kn_g90, kn_a90, kn_s90, kn_g91, kn_a91, kn_s91, kn_g92, kn_a92, kn_s92, kn_g93, kn_a93, kn_s93, kn_g94, kn_a94, kn_s94, kn_l77_0, kn_t77_0, kn_l77_1, kn_t77_1, kn_l77_2, kn_t77_2, kn_l77_3, kn_t77_3, kn_l77_4, kn_t77_4, kn_l77_5, kn_t77_5, kn_l77_6, kn_t77_6, kn_l77_7, kn_t77_7, kn_l77_8, kn_t77_8, kn_l78_0, kn_t78_0, kn_l78_1, kn_t78_1, kn_l78_2, kn_t78_2, kn_l78_3, kn_t78_3, kn_l78_4, kn_t78_4, kn_l78_5, kn_t78_5, kn_l78_6, kn_t78_6, kn_l78_7, kn_t78_7, kn_l78_8, kn_t78_8, kn_l79_0, kn_t79_0, kn_l82_0, kn_t82_0, kn_l83_0, kn_t83_0, kn_l83_1, kn_t83_1, kn_l83_2, kn_t83_2, kn_l83_3, kn_t83_3, kn_l83_4, kn_t83_4, kn_l83_5, kn_t83_5, kn_l83_204, kn_t83_204, kn_wk, kn_fr, kn_mk, kn_ev, kn_bn, kn_ds, kn_rd, kn_dr, kn_of, kn_of0, kn_of1, kn_of2, kn_of3, kn_of4, kn_of5, kn_of6, kn_near, kn_loads, kn_all, kn_fare, kn_fail, kn_told, g9_wi, g9_at, e8'', show nI nc ≤ nI nc from Int32.le_refl _]
  have l3 : ((z_lp (fun (t14 : Int32) => (if 3277 ≤ t14 then (z_pu (.inr (.inl ()))) else (z_bd (z_gA 9 75 19) (fun v15 => (z_bd (z_sI 11 v15 t14 0) (fun _ => (z_pu (.inl ((t14 + 1)))))))))) 0) : zP (Unit ⊕ Unit)).1 (KI M F2) = some (.inr (.inl ()), KI M F3) := by
    rw [eF3]
    refine fl_loop 3277 83 (by omega) (fun t g ht => ?_) (fun g => rfl)
    have h3 : ¬ (3277 : Int32) ≤ nI t := nI_ge (b := 3277) ht (by omega)
    simp (disch := first | assumption | omega) only [e_pu, e_ite, oL_add, oL_addr, oL_mul, nI_add, nI_1, b_pu, b_bd, b_ite, j_L, j_R, j_ite, j_bd, z_ex, ↓reduceIte, if_true, if_false, kn_gI, kn_pI, kn_cv, kn_g76, kn_a76, kn_s76, kn_g77, kn_a77, kn_s77, kn_g78, kn_a78, kn_s78, kn_g79, kn_a79, kn_s79, kn_g80, kn_a80, kn_s80, kn_g81, kn_a81, kn_s81, kn_g82, kn_a82, kn_s82, kn_g83, kn_a83, kn_s83, kn_g84, kn_a84, kn_s84, kn_g85, kn_a85, kn_s85, kn_g86, kn_g87, kn_a87, kn_s87, kn_g88, kn_a88, kn_s88, kn_g89, kn_a89, kn_s89, kn_g90, kn_a90, kn_s90, kn_g91, kn_a91, kn_s91, kn_g92, kn_a92, kn_s92, kn_g93, kn_a93, kn_s93, kn_g94, kn_a94, kn_s94, kn_l77_0, kn_t77_0, kn_l77_1, kn_t77_1, kn_l77_2, kn_t77_2, kn_l77_3, kn_t77_3, kn_l77_4, kn_t77_4, kn_l77_5, kn_t77_5, kn_l77_6, kn_t77_6, kn_l77_7, kn_t77_7, kn_l77_8, kn_t77_8, kn_l78_0, kn_t78_0, kn_l78_1, kn_t78_1, kn_l78_2, kn_t78_2, kn_l78_3, kn_t78_3, kn_l78_4, kn_t78_4, kn_l78_5, kn_t78_5, kn_l78_6, kn_t78_6, kn_l78_7, kn_t78_7, kn_l78_8, kn_t78_8, kn_l79_0, kn_t79_0, kn_l82_0, kn_t82_0, kn_l83_0, kn_t83_0, kn_l83_1, kn_t83_1, kn_l83_2, kn_t83_2, kn_l83_3, kn_t83_3, kn_l83_4, kn_t83_4, kn_l83_5, kn_t83_5, kn_l83_204, kn_t83_204, kn_wk, kn_fr, kn_mk, kn_ev, kn_bn, kn_ds, kn_rd, kn_dr, kn_of, kn_of0, kn_of1, kn_of2, kn_of3, kn_of4, kn_of5, kn_of6, kn_near, kn_loads, kn_all, kn_fare, kn_fail, kn_told, g9_wi, g9_at, h3]
  have g0 : F3 78 0 = nI ns := (c78 0 (by omega)).trans e0
  have g1 : F3 78 1 = nI nt := (c78 1 (by omega)).trans e1
  have l4 : ((z_lp (fun (t17 : Int32) => (z_bd (z_gA 9 75 11) (fun v18 => (z_bd (z_aI 11 v18 0) (fun v19 => (if v19 ≤ t17 then (z_pu (.inr (.inl ()))) else (z_bd (z_gA 9 75 19) (fun v20 => (z_bd (z_gA 9 75 11) (fun v21 => (z_bd (z_aI 11 v21 (34 + t17)) (fun v22 => (z_bd (z_sI 11 v20 (6 + t17) v22) (fun _ => (z_pu (.inl ((t17 + 1)))))))))))))))))) 0) : zP (Unit ⊕ Unit)).1 (KI M F3) = some (.inr (.inl ()), KI M F4) := by
    have hz : KI M F3 = KI M (z_up1 F3 83 (s_tb1 (F3 78) (F3 83) 0)) := by
      have : s_tb1 (F3 78) (F3 83) 0 = F3 83 := by
        funext j
        exact if_neg (by omega)
      rw [this, up1_id]
    rw [hz, eF4]
    refine lp_cnt ns (fun t => nI t) (fun t => KI M (z_up1 F3 83 (s_tb1 (F3 78) (F3 83) t))) _ _ ?_ ?_
    · intro t ht
      have h3 : ¬ nI ns ≤ nI t := nI_ge ht (by omega)
      have g0' : z_up1 F3 83 (s_tb1 (F3 78) (F3 83) t) 78 0 = nI ns := by rw [u1_n _ _ (by omega)]; exact g0
      have i1 : 34 + t < 138 := by omega
      have i2 : 6 + t < 3277 := by omega
      simp (disch := first | assumption | omega) only [e_pu, e_ite, oL_add, oL_addr, oL_mul, nI_add, nI_1, b_pu, b_bd, b_ite, j_L, j_R, j_ite, j_bd, z_ex, ↓reduceIte, if_true, if_false, kn_gI, kn_pI, kn_cv, kn_g76, kn_a76, kn_s76, kn_g77, kn_a77, kn_s77, kn_g78, kn_a78, kn_s78, kn_g79, kn_a79, kn_s79, kn_g80, kn_a80, kn_s80, kn_g81, kn_a81, kn_s81, kn_g82, kn_a82, kn_s82, kn_g83, kn_a83, kn_s83, kn_g84, kn_a84, kn_s84, kn_g85, kn_a85, kn_s85, kn_g86, kn_g87, kn_a87, kn_s87, kn_g88, kn_a88, kn_s88, kn_g89, kn_a89, kn_s89, kn_g90, kn_a90, kn_s90, kn_g91, kn_a91, kn_s91, kn_g92, kn_a92, kn_s92, kn_g93, kn_a93, kn_s93, kn_g94, kn_a94, kn_s94, kn_l77_0, kn_t77_0, kn_l77_1, kn_t77_1, kn_l77_2, kn_t77_2, kn_l77_3, kn_t77_3, kn_l77_4, kn_t77_4, kn_l77_5, kn_t77_5, kn_l77_6, kn_t77_6, kn_l77_7, kn_t77_7, kn_l77_8, kn_t77_8, kn_l78_0, kn_t78_0, kn_l78_1, kn_t78_1, kn_l78_2, kn_t78_2, kn_l78_3, kn_t78_3, kn_l78_4, kn_t78_4, kn_l78_5, kn_t78_5, kn_l78_6, kn_t78_6, kn_l78_7, kn_t78_7, kn_l78_8, kn_t78_8, kn_l79_0, kn_t79_0, kn_l82_0, kn_t82_0, kn_l83_0, kn_t83_0, kn_l83_1, kn_t83_1, kn_l83_2, kn_t83_2, kn_l83_3, kn_t83_3, kn_l83_4, kn_t83_4, kn_l83_5, kn_t83_5, kn_l83_204, kn_t83_204, kn_wk, kn_fr, kn_mk, kn_ev, kn_bn, kn_ds, kn_rd, kn_dr, kn_of, kn_of0, kn_of1, kn_of2, kn_of3, kn_of4, kn_of5, kn_of6, kn_near, kn_loads, kn_all, kn_fare, kn_fail, kn_told, g9_wi, g9_at, g0', h3, u1_n]
      refine congrArg (fun G => some (Sum.inr (Sum.inl (nI (t + 1))), KI M G)) ?_
      funext u j
      by_cases e : u = 83
      · subst e
        rw [u1_s]
        by_cases e2 : j = 6 + t
        · subst e2
          rw [u2_s]
          unfold s_tb1
          rw [if_pos (by omega)]
          congr 1
          omega
        · rw [u2_n _ _ (Or.inr e2), u1_s]
          unfold s_tb1
          by_cases e3 : 6 ≤ j ∧ j < 6 + t
          · rw [if_pos e3, if_pos (by omega)]
          · rw [if_neg e3, if_neg (by omega)]
      · rw [u2_n _ _ (Or.inl e), u1_n _ _ e, u1_n _ _ e]
    · have g0' : z_up1 F3 83 (s_tb1 (F3 78) (F3 83) ns) 78 0 = nI ns := by rw [u1_n _ _ (by omega)]; exact g0
      simp (disch := first | assumption | omega) only [e_pu, e_ite, oL_add, oL_addr, oL_mul, nI_add, nI_1, b_pu, b_bd, b_ite, j_L, j_R, j_ite, j_bd, z_ex, ↓reduceIte, if_true, if_false, kn_gI, kn_pI, kn_cv, kn_g76, kn_a76, kn_s76, kn_g77, kn_a77, kn_s77, kn_g78, kn_a78, kn_s78, kn_g79, kn_a79, kn_s79, kn_g80, kn_a80, kn_s80, kn_g81, kn_a81, kn_s81, kn_g82, kn_a82, kn_s82, kn_g83, kn_a83, kn_s83, kn_g84, kn_a84, kn_s84, kn_g85, kn_a85, kn_s85, kn_g86, kn_g87, kn_a87, kn_s87, kn_g88, kn_a88, kn_s88, kn_g89, kn_a89, kn_s89, kn_g90, kn_a90, kn_s90, kn_g91, kn_a91, kn_s91, kn_g92, kn_a92, kn_s92, kn_g93, kn_a93, kn_s93, kn_g94, kn_a94, kn_s94, kn_l77_0, kn_t77_0, kn_l77_1, kn_t77_1, kn_l77_2, kn_t77_2, kn_l77_3, kn_t77_3, kn_l77_4, kn_t77_4, kn_l77_5, kn_t77_5, kn_l77_6, kn_t77_6, kn_l77_7, kn_t77_7, kn_l77_8, kn_t77_8, kn_l78_0, kn_t78_0, kn_l78_1, kn_t78_1, kn_l78_2, kn_t78_2, kn_l78_3, kn_t78_3, kn_l78_4, kn_t78_4, kn_l78_5, kn_t78_5, kn_l78_6, kn_t78_6, kn_l78_7, kn_t78_7, kn_l78_8, kn_t78_8, kn_l79_0, kn_t79_0, kn_l82_0, kn_t82_0, kn_l83_0, kn_t83_0, kn_l83_1, kn_t83_1, kn_l83_2, kn_t83_2, kn_l83_3, kn_t83_3, kn_l83_4, kn_t83_4, kn_l83_5, kn_t83_5, kn_l83_204, kn_t83_204, kn_wk, kn_fr, kn_mk, kn_ev, kn_bn, kn_ds, kn_rd, kn_dr, kn_of, kn_of0, kn_of1, kn_of2, kn_of3, kn_of4, kn_of5, kn_of6, kn_near, kn_loads, kn_all, kn_fare, kn_fail, kn_told, g9_wi, g9_at, g0', show nI ns ≤ nI ns from Int32.le_refl _]
  have g1' : F4 78 1 = nI nt := by rw [a4 _ (by omega)]; exact g1
  have l5 : ((z_lp (fun (t24 : Int32) => (z_bd (z_gA 9 75 11) (fun v25 => (z_bd (z_aI 11 v25 1) (fun v26 => (if v26 ≤ t24 then (z_pu (.inr (.inl ()))) else (z_bd (z_gA 9 75 11) (fun v27 => (z_bd (z_aI 11 v27 (42 + t24)) (fun v28 => (z_bd (z_cv 9 75 (p_X9_put 75 t24 0 v28)) (fun _ => (z_bd (z_cv 9 75 (p_X9_put 75 t24 1 (-1))) (fun _ => (z_bd (z_cv 9 75 (p_X9_put 75 t24 2 (-1))) (fun _ => (z_pu (.inl ((t24 + 1)))))))))))))))))))) 0) : zP (Unit ⊕ Unit)).1 (KI M F4) = some (.inr (.inl ()), KI M F5) := by
    have hz : KI M F4 = KI M (z_up1 F4 83 (s_tb2 (F4 78) (F4 83) 0)) := by
      show KI M F4 = KI M (z_up1 F4 83 (F4 83))
      rw [up1_id]
    rw [hz, eF5]
    refine lp_cnt nt (fun t => nI t) (fun t => KI M (z_up1 F4 83 (s_tb2 (F4 78) (F4 83) t))) _ _ ?_ ?_
    · intro t ht
      have h3 : ¬ nI nt ≤ nI t := nI_ge ht (by omega)
      have g1'' : z_up1 F4 83 (s_tb2 (F4 78) (F4 83) t) 78 1 = nI nt := by rw [u1_n _ _ (by omega)]; exact g1'
      have i1 : 42 + t < 138 := by omega
      have ht3 : t < 3 := by omega
      have p0 : ∀ (G : Nat → Nat → Int32) (v : Int32) (f : Unit → zP (Int32 ⊕ (Unit ⊕ Unit))), (z_bd (p_X9_put 75 (nI t) 0 v) f).1 (KI M G) = (f ()).1 (KI M (z_up2 G 83 (22 + 18 * t + 0) v)) := fun G v f => kn_put (q := 0) h9 ht3 (by omega)
      have p1 : ∀ (G : Nat → Nat → Int32) (v : Int32) (f : Unit → zP (Int32 ⊕ (Unit ⊕ Unit))), (z_bd (p_X9_put 75 (nI t) 1 v) f).1 (KI M G) = (f ()).1 (KI M (z_up2 G 83 (22 + 18 * t + 1) v)) := fun G v f => kn_put (q := 1) h9 ht3 (by omega)
      have p2 : ∀ (G : Nat → Nat → Int32) (v : Int32) (f : Unit → zP (Int32 ⊕ (Unit ⊕ Unit))), (z_bd (p_X9_put 75 (nI t) 2 v) f).1 (KI M G) = (f ()).1 (KI M (z_up2 G 83 (22 + 18 * t + 2) v)) := fun G v f => kn_put (q := 2) h9 ht3 (by omega)
      simp (disch := first | assumption | omega) only [e_pu, e_ite, oL_add, oL_addr, oL_mul, nI_add, nI_1, b_pu, b_bd, b_ite, j_L, j_R, j_ite, j_bd, z_ex, ↓reduceIte, if_true, if_false, kn_gI, kn_pI, kn_cv, kn_g76, kn_a76, kn_s76, kn_g77, kn_a77, kn_s77, kn_g78, kn_a78, kn_s78, kn_g79, kn_a79, kn_s79, kn_g80, kn_a80, kn_s80, kn_g81, kn_a81, kn_s81, kn_g82, kn_a82, kn_s82, kn_g83, kn_a83, kn_s83, kn_g84, kn_a84, kn_s84, kn_g85, kn_a85, kn_s85, kn_g86, kn_g87, kn_a87, kn_s87, kn_g88, kn_a88, kn_s88, kn_g89, kn_a89, kn_s89, kn_g90, kn_a90, kn_s90, kn_g91, kn_a91, kn_s91, kn_g92, kn_a92, kn_s92, kn_g93, kn_a93, kn_s93, kn_g94, kn_a94, kn_s94, kn_l77_0, kn_t77_0, kn_l77_1, kn_t77_1, kn_l77_2, kn_t77_2, kn_l77_3, kn_t77_3, kn_l77_4, kn_t77_4, kn_l77_5, kn_t77_5, kn_l77_6, kn_t77_6, kn_l77_7, kn_t77_7, kn_l77_8, kn_t77_8, kn_l78_0, kn_t78_0, kn_l78_1, kn_t78_1, kn_l78_2, kn_t78_2, kn_l78_3, kn_t78_3, kn_l78_4, kn_t78_4, kn_l78_5, kn_t78_5, kn_l78_6, kn_t78_6, kn_l78_7, kn_t78_7, kn_l78_8, kn_t78_8, kn_l79_0, kn_t79_0, kn_l82_0, kn_t82_0, kn_l83_0, kn_t83_0, kn_l83_1, kn_t83_1, kn_l83_2, kn_t83_2, kn_l83_3, kn_t83_3, kn_l83_4, kn_t83_4, kn_l83_5, kn_t83_5, kn_l83_204, kn_t83_204, kn_wk, kn_fr, kn_mk, kn_ev, kn_bn, kn_ds, kn_rd, kn_dr, kn_of, kn_of0, kn_of1, kn_of2, kn_of3, kn_of4, kn_of5, kn_of6, kn_near, kn_loads, kn_all, kn_fare, kn_fail, kn_told, g9_wi, g9_at, g1'', h3, u1_n, p0, p1, p2]
      refine congrArg (fun G => some (Sum.inr (Sum.inl (nI (t + 1))), KI M G)) ?_
      show z_up2 (z_up2 (z_up2 (z_up1 F4 83 (s_tb2 (F4 78) (F4 83) t)) 83 (22 + 18 * t + 0) (F4 78 (42 + t))) 83 (22 + 18 * t + 1) (-1)) 83 (22 + 18 * t + 2) (-1) = z_up1 F4 83 (s_up (s_up (s_up (s_tb2 (F4 78) (F4 83) t) (22 + 18 * t + 0) (F4 78 (42 + t))) (22 + 18 * t + 1) (-1)) (22 + 18 * t + 2) (-1))
      rw [up12, up12, up12]
    · have g1'' : z_up1 F4 83 (s_tb2 (F4 78) (F4 83) nt) 78 1 = nI nt := by rw [u1_n _ _ (by omega)]; exact g1'
      simp (disch := first | assumption | omega) only [e_pu, e_ite, oL_add, oL_addr, oL_mul, nI_add, nI_1, b_pu, b_bd, b_ite, j_L, j_R, j_ite, j_bd, z_ex, ↓reduceIte, if_true, if_false, kn_gI, kn_pI, kn_cv, kn_g76, kn_a76, kn_s76, kn_g77, kn_a77, kn_s77, kn_g78, kn_a78, kn_s78, kn_g79, kn_a79, kn_s79, kn_g80, kn_a80, kn_s80, kn_g81, kn_a81, kn_s81, kn_g82, kn_a82, kn_s82, kn_g83, kn_a83, kn_s83, kn_g84, kn_a84, kn_s84, kn_g85, kn_a85, kn_s85, kn_g86, kn_g87, kn_a87, kn_s87, kn_g88, kn_a88, kn_s88, kn_g89, kn_a89, kn_s89, kn_g90, kn_a90, kn_s90, kn_g91, kn_a91, kn_s91, kn_g92, kn_a92, kn_s92, kn_g93, kn_a93, kn_s93, kn_g94, kn_a94, kn_s94, kn_l77_0, kn_t77_0, kn_l77_1, kn_t77_1, kn_l77_2, kn_t77_2, kn_l77_3, kn_t77_3, kn_l77_4, kn_t77_4, kn_l77_5, kn_t77_5, kn_l77_6, kn_t77_6, kn_l77_7, kn_t77_7, kn_l77_8, kn_t77_8, kn_l78_0, kn_t78_0, kn_l78_1, kn_t78_1, kn_l78_2, kn_t78_2, kn_l78_3, kn_t78_3, kn_l78_4, kn_t78_4, kn_l78_5, kn_t78_5, kn_l78_6, kn_t78_6, kn_l78_7, kn_t78_7, kn_l78_8, kn_t78_8, kn_l79_0, kn_t79_0, kn_l82_0, kn_t82_0, kn_l83_0, kn_t83_0, kn_l83_1, kn_t83_1, kn_l83_2, kn_t83_2, kn_l83_3, kn_t83_3, kn_l83_4, kn_t83_4, kn_l83_5, kn_t83_5, kn_l83_204, kn_t83_204, kn_wk, kn_fr, kn_mk, kn_ev, kn_bn, kn_ds, kn_rd, kn_dr, kn_of, kn_of0, kn_of1, kn_of2, kn_of3, kn_of4, kn_of5, kn_of6, kn_near, kn_loads, kn_all, kn_fare, kn_fail, kn_told, g9_wi, g9_at, g1'', show nI nt ≤ nI nt from Int32.le_refl _]
  have hz86 : ∀ (G : Nat → Nat → Int32) (f : Unit → zP Unit), (z_bd (z_sZ 86 0 0) f).1 (KI M G) = (f ()).1 (KI M (z_up2 G 86 0 0)) := fun G f => e_sZ (M := KI M G) (n_in (M := KI M G) (k := 0) (q9_is86 (M := M) h9) (q9_m86 (M := M) h9).2.1 (by decide) (by decide)) (Or.inl rfl)
  have hz87 : ∀ (G : Nat → Nat → Int32) (f : Unit → zP Unit), (z_bd (z_sZ 86 1 0) f).1 (KI M G) = (f ()).1 (KI M (z_up2 G 86 1 0)) := fun G f => e_sZ (M := KI M G) (n_in (M := KI M G) (k := 1) (q9_is86 (M := M) h9) (q9_m86 (M := M) h9).2.1 (by decide) (by decide)) (Or.inl rfl)
  refine ⟨z_up2 (z_up2 (z_up2 F5 75 21 0) 86 0 0) 86 1 0, ?_, ?_, ?_, ?_, ?_, ?_, ?_, ?_, ?_⟩
  · unfold p_X9_takeDraft
    refine (e_jL l1).trans ?_
    refine (e_jL l2).trans ?_
    refine (e_jL l3).trans ?_
    refine (e_jL l4).trans ?_
    refine (e_jL l5).trans ?_
    rw [kn_pI h9, kn_g86 h9, hz86, kn_g86 h9, hz87]
    rfl
  · rw [u2_row _ _ (by omega), u2_row _ _ (by omega), u2_row _ _ (by omega), a5 _ (by omega), a4 _ (by omega), a3 _ (by omega), a2 _ (by omega), eF1, u1_s]
  · rw [u2_row _ _ (by omega), u2_row _ _ (by omega), u2_row _ _ (by omega), a5 _ (by omega), a4 _ (by omega), a3 _ (by omega), eF2, u1_s, a1 _ (by omega), a1 _ (by omega)]
  · intro j hj
    rw [u2_n _ _ (by omega), u2_n _ _ (by omega), u2_n _ _ (by omega), eF5, u1_s, s_tb2_v]
    have h83 : F3 83 j = 0 := by rw [eF3, u1_s]; exact if_pos hj
    have h4 : F4 83 j = if 6 ≤ j ∧ j < 6 + ns then F 77 (34 + (j - 6)) else 0 := by
      rw [eF4, u1_s]
      unfold s_tb1
      by_cases h : 6 ≤ j ∧ j < 6 + ns
      · rw [if_pos h, if_pos h, c78 _ (by omega)]
      · rw [if_neg h, if_neg h, h83]
    unfold s_b0
    by_cases h : 22 ≤ j ∧ j < 22 + 18 * nt ∧ (j - 22) % 18 < 3
    · rw [if_pos h, if_neg (show ¬ (6 ≤ j ∧ j < 6 + ns) by omega), if_pos (show 22 ≤ j ∧ j < 22 + 18 * nt by omega)]
      by_cases hm : (j - 22) % 18 = 0
      · rw [if_pos hm, if_pos hm, a4 _ (by omega), c78 _ (by omega)]
      · rw [if_neg hm, if_neg hm, if_pos (by omega)]
    · rw [if_neg h, h4]
      by_cases h6 : 6 ≤ j ∧ j < 6 + ns
      · rw [if_pos h6, if_pos h6]
      · rw [if_neg h6, if_neg h6]
        by_cases h22 : 22 ≤ j ∧ j < 22 + 18 * nt
        · rw [if_pos h22, if_neg (by omega), if_neg (by omega)]
        · rw [if_neg h22]
  · rw [u2_n _ _ (by omega), u2_n _ _ (by omega), u2_s]
  · rw [u2_n _ _ (by omega), u2_s]
  · rw [u2_s]
  · intro z hz
    rw [u2_n _ _ (by omega), u2_n _ _ (by omega), u2_n _ _ (Or.inr hz), a5 _ (by omega), a4 _ (by omega), a3 _ (by omega), a2 _ (by omega), a1 _ (by omega)]
  · intro y h1 h2 h3 h4 h5
    rw [u2_row _ _ h5, u2_row _ _ h5, u2_row _ _ h1, a5 _ h4, a4 _ h4, a3 _ h4, a2 _ h3, a1 _ h2]
end PA27
