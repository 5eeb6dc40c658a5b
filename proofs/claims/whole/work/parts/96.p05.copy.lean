/-! ===== PHASE 2: State.copy ===== -/
def f_tc (F : Nat → Nat → Int32) (x y : Nat) : Nat → Nat → Int32 := z_up1 (z_up1 (z_up2 (z_up2 (z_up2 (z_up2 (z_up2 (z_up2 F x 2 (F y 2)) x 3 (F y 3)) x 4 (F y 4)) x 5 (F y 5)) x 6 (F y 6)) x 7 (F y 7)) (x + 1) (va_cpy (F (y + 1)) (F (x + 1)) 0 0 6)) (x + 2) (va_cpy (F (y + 2)) (F (x + 2)) 0 0 6)
def f_sc (F : Nat → Nat → Int32) (a b r : Nat) : Nat → Nat → Int32 := z_up1 (z_up1 (z_up1 (z_up1 (z_up1 (z_up2 (z_up2 (z_up2 (z_up2 (z_up2 (z_up2 (z_up2 F a 7 (F b 7)) a 8 (F b 8)) a 9 (F b 9)) a 10 (F b 10)) a 11 (F b 11)) a 12 (F b 12)) (a + 6) 1 (nI r)) (a + 6 + 1) (va_cpy (F (b + 6 + 1)) (F (a + 6 + 1)) 0 0 r)) (a + 1) (va_cpy (F (b + 1)) (F (a + 1)) 0 0 8)) (a + 2) (va_cpy (F (b + 2)) (F (a + 2)) 0 0 8)) (a + 3) (va_cpy (F (b + 3)) (F (a + 3)) 0 0 64)) (a + 4) (va_cpy (F (b + 4)) (F (a + 4)) 0 0 64)
def f_tcs (G : Nat → Nat → Int32) (a b : Nat) : Nat → Nat → Nat → Int32
  | 0 => G
  | t + 1 => f_tc (f_tcs G a b t) (a + 8 + 3 * t) (b + 8 + 3 * t)
section PA5
variable {β : Type} {M M' : zM} {F F' G : Nat → Nat → Int32} {ct cd st st' : Nat → Int32} {a b c d k ns nt np nc kk T r x y : Nat} {v : Option Nat}
theorem ki_pR {f : Unit → zP β} (h : z_is d a M) : (z_bd (z_pR d a k v) f).1 (KI M F) = (f ()).1 (KI (z_wr M a k v) F) := e_pR (M := KI M F) h
theorem ks_pR {f : Unit → zP β} (h : LZ a M) : (z_bd (z_pR 5 a 6 v) f).1 (KI M F) = (f ()).1 (KI (z_wr M a 6 v) F) := ki_pR h.1
theorem kt_cc1 {f : Unit → zP β} (h : LT x M) (h2 : LT y M) : (z_bd (z_cp (y + 1) 0 (x + 1) 0 6) f).1 (KI M F) = (f ()).1 (KI M (z_up1 F (x + 1) (va_cpy (F (y + 1)) (F (x + 1)) 0 0 6))) := ki_cp (sp := 0) (dp := 0) (m := 6) h2.2.1 h.2.1 (by decide) (by decide) (by decide) (by decide)
theorem kt_cc2 {f : Unit → zP β} (h : LT x M) (h2 : LT y M) : (z_bd (z_cp (y + 2) 0 (x + 2) 0 6) f).1 (KI M F) = (f ()).1 (KI M (z_up1 F (x + 2) (va_cpy (F (y + 2)) (F (x + 2)) 0 0 6))) := ki_cp (sp := 0) (dp := 0) (m := 6) h2.2.2.1 h.2.2.1 (by decide) (by decide) (by decide) (by decide)
theorem kr_c1 {f : Unit → zP β} (h : LR x M) (h2 : LR y M) (hr : r ≤ 768) : (z_bd (z_cp (y + 1) 0 (x + 1) 0 (nI r)) f).1 (KI M F) = (f ()).1 (KI M (z_up1 F (x + 1) (va_cpy (F (y + 1)) (F (x + 1)) 0 0 r))) := ki_cp (sp := 0) (dp := 0) (m := r) h2.2.1 h.2.1 (by omega) (by omega) (by decide) (by decide)
theorem ks_c1 {f : Unit → zP β} (h : LZ a M) (h2 : LZ b M) : (z_bd (z_cp (b + 1) 0 (a + 1) 0 8) f).1 (KI M F) = (f ()).1 (KI M (z_up1 F (a + 1) (va_cpy (F (b + 1)) (F (a + 1)) 0 0 8))) := ki_cp (sp := 0) (dp := 0) (m := 8) h2.2.1.1 h.2.1.1 (by decide) (by decide) (by decide) (by decide)
theorem ks_c2 {f : Unit → zP β} (h : LZ a M) (h2 : LZ b M) : (z_bd (z_cp (b + 2) 0 (a + 2) 0 8) f).1 (KI M F) = (f ()).1 (KI M (z_up1 F (a + 2) (va_cpy (F (b + 2)) (F (a + 2)) 0 0 8))) := ki_cp (sp := 0) (dp := 0) (m := 8) h2.2.1.2.1 h.2.1.2.1 (by decide) (by decide) (by decide) (by decide)
theorem ks_c3 {f : Unit → zP β} (h : LZ a M) (h2 : LZ b M) : (z_bd (z_cp (b + 3) 0 (a + 3) 0 (nI 64)) f).1 (KI M F) = (f ()).1 (KI M (z_up1 F (a + 3) (va_cpy (F (b + 3)) (F (a + 3)) 0 0 64))) := ki_cp (sp := 0) (dp := 0) (m := 64) h2.2.1.2.2.1 h.2.1.2.2.1 (by decide) (by decide) (by decide) (by decide)
theorem ks_c4 {f : Unit → zP β} (h : LZ a M) (h2 : LZ b M) : (z_bd (z_cp (b + 4) 0 (a + 4) 0 (nI 64)) f).1 (KI M F) = (f ()).1 (KI M (z_up1 F (a + 4) (va_cpy (F (b + 4)) (F (a + 4)) 0 0 64))) := ki_cp (sp := 0) (dp := 0) (m := 64) h2.2.1.2.2.2.1 h.2.1.2.2.2.1 (by decide) (by decide) (by decide) (by decide)
theorem kt_copy {f : Unit → zP β} (h : LT x M) (h2 : LT y M) (hxy : x + 3 ≤ y ∨ y + 3 ≤ x) : (z_bd (p_X7_copy x y) f).1 (KI M F) = (f ()).1 (KI M (f_tc F x y)) := by
  unfold p_X7_copy f_tc
  simp (disch := first | assumption | omega | (apply LZ_R; assumption) | (apply LZ_T <;> first | assumption | omega) | (apply LC_F; assumption)) only [e_pu, e_ite, oL_add, oL_addr, oL_mul, nI_add, nI_1, b_pu, b_bd, b_ite, j_L, j_R, j_ite, j_bd, z_ex, ↓reduceIte, if_true, if_false, kt_gI, kt_pI, kt_cv, kt_g0, kt_g1, kt_a1, kt_s1, kt_n1, kt_z1, kt_a2, kt_s2, kt_n2, kt_z2, kr_gI, kr_pI, kr_cv, kr_g0, kr_a1, kr_s1, kr_n1, kr_z1, kf_gI, kf_pI, kf_cv, kf_g0, kf_g1, kf_a1, kf_s1, kf_n1, kf_z1, kf_a2, kf_s2, kf_n2, kf_z2, kc_gI, kc_pI, kc_cv, kc_g0, kc_g1, kc_g2, kc_g3, kc_g4, kc_g5, kc_g6, kc_g7, kc_g8, kc_g9, kc_a1, kc_s1, kc_n1, kc_z1, kc_a2, kc_s2, kc_n2, kc_z2, kc_a3, kc_s3, kc_n3, kc_z3, kc_a4, kc_s4, kc_n4, kc_z4, kc_a5, kc_s5, kc_n5, kc_z5, kc_a6, kc_s6, kc_n6, kc_z6, kc_a7, kc_s7, kc_n7, kc_z7, kc_a8, kc_s8, kc_n8, kc_z8, kc_a9, kc_s9, kc_n9, kc_z9, ks_gI, ks_pI, ks_cv, ks_g0, ks_g1, ks_g2, ks_g3, ks_g4, ks_g5, ks_a1, ks_s1, ks_n1, ks_z1, ks_a2, ks_s2, ks_n2, ks_z2, ks_a3, ks_s3, ks_n3, ks_z3, ks_a4, ks_s4, ks_n4, ks_z4, ks_tr, kt_cc1, kt_cc2, u2_row, u1_n]
theorem f_tc_o {z : Nat} (h0 : z ≠ x) (h1 : z ≠ x + 1) (h2 : z ≠ x + 2) : f_tc F x y z = F z := by
  unfold f_tc
  simp (disch := omega) only [u2_row, u1_n]
theorem f_tc_v (hxy : x + 3 ≤ y ∨ y + 3 ≤ x) : (∀ k, 2 ≤ k → k ≤ 7 → f_tc F x y x k = F y k) ∧ ∀ i, i < 6 → f_tc F x y (x + 1) i = F (y + 1) i ∧ f_tc F x y (x + 2) i = F (y + 2) i := by
  refine ⟨fun k h1 h2 => ?_, fun i hi => ⟨?_, ?_⟩⟩
  · obtain rfl | rfl | rfl | rfl | rfl | rfl : k = 2 ∨ k = 3 ∨ k = 4 ∨ k = 5 ∨ k = 6 ∨ k = 7 := by omega
    all_goals
      unfold f_tc
      simp (disch := omega) only [u2_s, u2_n, u1_n]
  · unfold f_tc
    rw [u1_n _ _ (by omega), u1_s, pk_cpy_in (by omega) (by omega)]
    congr 1
    omega
  · unfold f_tc
    rw [u1_s, pk_cpy_in (by omega) (by omega)]
    congr 1
    omega
theorem f_tcs_o {z : Nat} : ∀ t, (∀ i, i < t → z ≠ a + 8 + 3 * i ∧ z ≠ a + 8 + 3 * i + 1 ∧ z ≠ a + 8 + 3 * i + 2) → f_tcs G a b t z = G z
  | 0, _ => rfl
  | t + 1, h => by
    have h1 := h t (by omega)
    rw [f_tcs, f_tc_o h1.1 h1.2.1 h1.2.2]
    exact f_tcs_o t (fun i hi => h i (by omega))
theorem f_tcs_v (hab : a + 17 ≤ b ∨ b + 17 ≤ a) : ∀ t, t ≤ 3 → ∀ i, i < t → (∀ k, 2 ≤ k → k ≤ 7 → f_tcs G a b t (a + 8 + 3 * i) k = G (b + 8 + 3 * i) k) ∧ ∀ j, j < 6 → f_tcs G a b t (a + 8 + 3 * i + 1) j = G (b + 8 + 3 * i + 1) j ∧ f_tcs G a b t (a + 8 + 3 * i + 2) j = G (b + 8 + 3 * i + 2) j
  | 0, _, i, hi => absurd hi (Nat.not_lt_zero _)
  | t + 1, ht, i, hi => by
    by_cases e : i = t
    · subst e
      obtain ⟨v1, v2⟩ := f_tc_v (F := f_tcs G a b i) (x := a + 8 + 3 * i) (y := b + 8 + 3 * i) (by omega)
      have o0 : f_tcs G a b i (b + 8 + 3 * i) = G (b + 8 + 3 * i) := f_tcs_o i (fun j hj => by omega)
      have o1 : f_tcs G a b i (b + 8 + 3 * i + 1) = G (b + 8 + 3 * i + 1) := f_tcs_o i (fun j hj => by omega)
      have o2 : f_tcs G a b i (b + 8 + 3 * i + 2) = G (b + 8 + 3 * i + 2) := f_tcs_o i (fun j hj => by omega)
      rw [f_tcs]
      refine ⟨fun k h1 h2 => ?_, fun j hj => ?_⟩
      · rw [v1 k h1 h2, o0]
      · rw [(v2 j hj).1, (v2 j hj).2, o1, o2]
        exact ⟨rfl, rfl⟩
    · obtain ⟨v1, v2⟩ := f_tcs_v hab t (by omega) i (by omega)
      rw [f_tcs, f_tc_o (by omega) (by omega) (by omega), f_tc_o (by omega) (by omega) (by omega), f_tc_o (by omega) (by omega) (by omega)]
      exact ⟨v1, v2⟩
theorem f_sc_o {z : Nat} (h0 : z ≠ a) (h1 : z ≠ a + 1) (h2 : z ≠ a + 2) (h3 : z ≠ a + 3) (h4 : z ≠ a + 4) (h5 : z ≠ a + 6) (h6 : z ≠ a + 6 + 1) : f_sc F a b r z = F z := by
  unfold f_sc
  simp (disch := omega) only [u2_row, u1_n]
theorem SC_f (hab : a + 17 ≤ b ∨ b + 17 ≤ a) (h6 : F (b + 6) 1 = nI r) : SC (f_tcs (f_sc F a b r) a b 3) F a b r := by
  refine ⟨fun k h1 h2 => ?_, fun i hi => ⟨?_, ?_⟩, fun i hi => ⟨?_, ?_⟩, ?_, fun i hi => ?_, fun t ht => ?_⟩
  · rw [f_tcs_o 3 (fun i hi => by omega)]
    obtain rfl | rfl | rfl | rfl | rfl | rfl : k = 7 ∨ k = 8 ∨ k = 9 ∨ k = 10 ∨ k = 11 ∨ k = 12 := by omega
    all_goals
      unfold f_sc
      simp (disch := omega) only [u2_s, u2_n, u1_n]
  · rw [f_tcs_o 3 (fun i hi => by omega)]
    unfold f_sc
    rw [u1_n _ _ (by omega), u1_n _ _ (by omega), u1_n _ _ (by omega), u1_s, pk_cpy_in (by omega) (by omega)]
    congr 1
    omega
  · rw [f_tcs_o 3 (fun i hi => by omega)]
    unfold f_sc
    rw [u1_n _ _ (by omega), u1_n _ _ (by omega), u1_s, pk_cpy_in (by omega) (by omega)]
    congr 1
    omega
  · rw [f_tcs_o 3 (fun i hi => by omega)]
    unfold f_sc
    rw [u1_n _ _ (by omega), u1_s, pk_cpy_in (by omega) (by omega)]
    congr 1
    omega
  · rw [f_tcs_o 3 (fun i hi => by omega)]
    unfold f_sc
    rw [u1_s, pk_cpy_in (by omega) (by omega)]
    congr 1
    omega
  · rw [f_tcs_o 3 (fun i hi => by omega), h6]
    unfold f_sc
    rw [u1_n _ _ (by omega), u1_n _ _ (by omega), u1_n _ _ (by omega), u1_n _ _ (by omega), u1_n _ _ (by omega), u2_s]
  · rw [f_tcs_o 3 (fun i hi => by omega)]
    unfold f_sc
    rw [u1_n _ _ (by omega), u1_n _ _ (by omega), u1_n _ _ (by omega), u1_n _ _ (by omega), u1_s, pk_cpy_in (by omega) (by omega)]
    congr 1
    omega
  · obtain ⟨v1, v2⟩ := f_tcs_v (G := f_sc F a b r) hab 3 (Nat.le_refl _) t ht
    refine ⟨fun k h1 h2 => ?_, fun j hj => ?_⟩
    · rw [v1 k h1 h2, f_sc_o (by omega) (by omega) (by omega) (by omega) (by omega) (by omega) (by omega)]
    · rw [(v2 j hj).1, (v2 j hj).2, f_sc_o (by omega) (by omega) (by omega) (by omega) (by omega) (by omega) (by omega), f_sc_o (by omega) (by omega) (by omega) (by omega) (by omega) (by omega) (by omega)]
      exact ⟨rfl, rfl⟩
theorem kr_copy {f : Unit → zP β} (h : LR x M) (h2 : LR y M) (hxy : x + 2 ≤ y ∨ y + 2 ≤ x) (hr : F y 1 = nI r) (hr1 : r ≤ 768) : (z_bd (p_X4_copy x y) f).1 (KI M F) = (f ()).1 (KI M (z_up1 (z_up2 F x 1 (nI r)) (x + 1) (va_cpy (F (y + 1)) (F (x + 1)) 0 0 r))) := by
  unfold p_X4_copy
  simp (disch := first | assumption | omega | (apply LZ_R; assumption) | (apply LZ_T <;> first | assumption | omega) | (apply LC_F; assumption)) only [e_pu, e_ite, oL_add, oL_addr, oL_mul, nI_add, nI_1, b_pu, b_bd, b_ite, j_L, j_R, j_ite, j_bd, z_ex, ↓reduceIte, if_true, if_false, kt_gI, kt_pI, kt_cv, kt_g0, kt_g1, kt_a1, kt_s1, kt_n1, kt_z1, kt_a2, kt_s2, kt_n2, kt_z2, kr_gI, kr_pI, kr_cv, kr_g0, kr_a1, kr_s1, kr_n1, kr_z1, kf_gI, kf_pI, kf_cv, kf_g0, kf_g1, kf_a1, kf_s1, kf_n1, kf_z1, kf_a2, kf_s2, kf_n2, kf_z2, kc_gI, kc_pI, kc_cv, kc_g0, kc_g1, kc_g2, kc_g3, kc_g4, kc_g5, kc_g6, kc_g7, kc_g8, kc_g9, kc_a1, kc_s1, kc_n1, kc_z1, kc_a2, kc_s2, kc_n2, kc_z2, kc_a3, kc_s3, kc_n3, kc_z3, kc_a4, kc_s4, kc_n4, kc_z4, kc_a5, kc_s5, kc_n5, kc_z5, kc_a6, kc_s6, kc_n6, kc_z6, kc_a7, kc_s7, kc_n7, kc_z7, kc_a8, kc_s8, kc_n8, kc_z8, kc_a9, kc_s9, kc_n9, kc_z9, ks_gI, ks_pI, ks_cv, ks_g0, ks_g1, ks_g2, ks_g3, ks_g4, ks_g5, ks_a1, ks_s1, ks_n1, ks_z1, ks_a2, ks_s2, ks_n2, ks_z2, ks_a3, ks_s3, ks_n3, ks_z3, ks_a4, ks_s4, ks_n4, ks_z4, ks_tr, hr, kr_c1, u2_row, u2_s, u1_n]
theorem kx_copyF (hL : LZ a M) (hL2 : LZ b M) (hab : a + 17 ≤ b ∨ b + 17 ≤ a) (hc : z_r M b 6 = some c) (hr : F (b + 6) 1 = nI r) (hr1 : r ≤ 768) : (p_X5_copy a b).1 (KI M F) = some (.inr (), KI (z_wr M a 6 (some c)) (f_tcs (f_sc F a b r) a b 3)) := by
  have hLa : LZ a (z_wr M a 6 (some c)) := LZ_wr hL
  have hLb : LZ b (z_wr M a 6 (some c)) := LZ_wr hL2
  have hRa := LZ_R hLa
  have hRb := LZ_R hLb
  unfold p_X5_copy
  have hc2 : ∀ f : Nat → zP Unit, (z_bd (z_gA 5 b 6) f).1 (KI M F) = (f c).1 (KI M F) := fun f => ks_city hc hL2
  rw [hc2]
  have hp : ∀ f : Unit → zP Unit, (z_bd (z_pR 5 a 6 (some c)) f).1 (KI M F) = (f ()).1 (KI (z_wr M a 6 (some c)) F) := fun f => ks_pR hL
  rw [hp]
  simp (disch := first | assumption | omega | (apply LZ_R; assumption) | (apply LZ_T <;> first | assumption | omega) | (apply LC_F; assumption)) only [e_pu, e_ite, oL_add, oL_addr, oL_mul, nI_add, nI_1, b_pu, b_bd, b_ite, j_L, j_R, j_ite, j_bd, z_ex, ↓reduceIte, if_true, if_false, kt_gI, kt_pI, kt_cv, kt_g0, kt_g1, kt_a1, kt_s1, kt_n1, kt_z1, kt_a2, kt_s2, kt_n2, kt_z2, kr_gI, kr_pI, kr_cv, kr_g0, kr_a1, kr_s1, kr_n1, kr_z1, kf_gI, kf_pI, kf_cv, kf_g0, kf_g1, kf_a1, kf_s1, kf_n1, kf_z1, kf_a2, kf_s2, kf_n2, kf_z2, kc_gI, kc_pI, kc_cv, kc_g0, kc_g1, kc_g2, kc_g3, kc_g4, kc_g5, kc_g6, kc_g7, kc_g8, kc_g9, kc_a1, kc_s1, kc_n1, kc_z1, kc_a2, kc_s2, kc_n2, kc_z2, kc_a3, kc_s3, kc_n3, kc_z3, kc_a4, kc_s4, kc_n4, kc_z4, kc_a5, kc_s5, kc_n5, kc_z5, kc_a6, kc_s6, kc_n6, kc_z6, kc_a7, kc_s7, kc_n7, kc_z7, kc_a8, kc_s8, kc_n8, kc_z8, kc_a9, kc_s9, kc_n9, kc_z9, ks_gI, ks_pI, ks_cv, ks_g0, ks_g1, ks_g2, ks_g3, ks_g4, ks_g5, ks_a1, ks_s1, ks_n1, ks_z1, ks_a2, ks_s2, ks_n2, ks_z2, ks_a3, ks_s3, ks_n3, ks_z3, ks_a4, ks_s4, ks_n4, ks_z4, ks_tr, u2_row, u1_n]
  refine (kr_copy (r := r) hRa hRb (by omega) (by simp (disch := omega) only [u2_row]; exact hr) hr1).trans ?_
  simp (disch := first | assumption | omega | (apply LZ_R; assumption) | (apply LZ_T <;> first | assumption | omega) | (apply LC_F; assumption)) only [e_pu, e_ite, oL_add, oL_addr, oL_mul, nI_add, nI_1, b_pu, b_bd, b_ite, j_L, j_R, j_ite, j_bd, z_ex, ↓reduceIte, if_true, if_false, kt_gI, kt_pI, kt_cv, kt_g0, kt_g1, kt_a1, kt_s1, kt_n1, kt_z1, kt_a2, kt_s2, kt_n2, kt_z2, kr_gI, kr_pI, kr_cv, kr_g0, kr_a1, kr_s1, kr_n1, kr_z1, kf_gI, kf_pI, kf_cv, kf_g0, kf_g1, kf_a1, kf_s1, kf_n1, kf_z1, kf_a2, kf_s2, kf_n2, kf_z2, kc_gI, kc_pI, kc_cv, kc_g0, kc_g1, kc_g2, kc_g3, kc_g4, kc_g5, kc_g6, kc_g7, kc_g8, kc_g9, kc_a1, kc_s1, kc_n1, kc_z1, kc_a2, kc_s2, kc_n2, kc_z2, kc_a3, kc_s3, kc_n3, kc_z3, kc_a4, kc_s4, kc_n4, kc_z4, kc_a5, kc_s5, kc_n5, kc_z5, kc_a6, kc_s6, kc_n6, kc_z6, kc_a7, kc_s7, kc_n7, kc_z7, kc_a8, kc_s8, kc_n8, kc_z8, kc_a9, kc_s9, kc_n9, kc_z9, ks_gI, ks_pI, ks_cv, ks_g0, ks_g1, ks_g2, ks_g3, ks_g4, ks_g5, ks_a1, ks_s1, ks_n1, ks_z1, ks_a2, ks_s2, ks_n2, ks_z2, ks_a3, ks_s3, ks_n3, ks_z3, ks_a4, ks_s4, ks_n4, ks_z4, ks_tr, ks_c1, ks_c2, ks_c3, ks_c4, u2_row, u1_n]
  refine lp_cnt 3 (fun t => nI t) (fun t => KI (z_wr M a 6 (some c)) (f_tcs (f_sc F a b r) a b t)) _ _ ?_ ?_
  · intro t ht
    have h3 : ¬ (3 : Int32) ≤ nI t := nI_ge (b := 3) ht (by decide)
    have hTa := LZ_T hLa ht
    have hTb := LZ_T hLb ht
    simp (disch := first | assumption | omega | (apply LZ_R; assumption) | (apply LZ_T <;> first | assumption | omega) | (apply LC_F; assumption)) only [e_pu, e_ite, oL_add, oL_addr, oL_mul, nI_add, nI_1, b_pu, b_bd, b_ite, j_L, j_R, j_ite, j_bd, z_ex, ↓reduceIte, if_true, if_false, kt_gI, kt_pI, kt_cv, kt_g0, kt_g1, kt_a1, kt_s1, kt_n1, kt_z1, kt_a2, kt_s2, kt_n2, kt_z2, kr_gI, kr_pI, kr_cv, kr_g0, kr_a1, kr_s1, kr_n1, kr_z1, kf_gI, kf_pI, kf_cv, kf_g0, kf_g1, kf_a1, kf_s1, kf_n1, kf_z1, kf_a2, kf_s2, kf_n2, kf_z2, kc_gI, kc_pI, kc_cv, kc_g0, kc_g1, kc_g2, kc_g3, kc_g4, kc_g5, kc_g6, kc_g7, kc_g8, kc_g9, kc_a1, kc_s1, kc_n1, kc_z1, kc_a2, kc_s2, kc_n2, kc_z2, kc_a3, kc_s3, kc_n3, kc_z3, kc_a4, kc_s4, kc_n4, kc_z4, kc_a5, kc_s5, kc_n5, kc_z5, kc_a6, kc_s6, kc_n6, kc_z6, kc_a7, kc_s7, kc_n7, kc_z7, kc_a8, kc_s8, kc_n8, kc_z8, kc_a9, kc_s9, kc_n9, kc_z9, ks_gI, ks_pI, ks_cv, ks_g0, ks_g1, ks_g2, ks_g3, ks_g4, ks_g5, ks_a1, ks_s1, ks_n1, ks_z1, ks_a2, ks_s2, ks_n2, ks_z2, ks_a3, ks_s3, ks_n3, ks_z3, ks_a4, ks_s4, ks_n4, ks_z4, ks_tr, h3, kt_copy hTa hTb (show a + 8 + 3 * t + 3 ≤ b + 8 + 3 * t ∨ b + 8 + 3 * t + 3 ≤ a + 8 + 3 * t by omega), f_tcs]
  · rfl
theorem kx_copy (h : AV M F b c ct cd st ns nt np nc kk T) (hL : LZ a M) (hab : a + 17 ≤ b ∨ b + 17 ≤ a) (hac : a + 17 ≤ c ∨ c + 13 ≤ a) : ∃ F', (p_X5_copy a b).1 (KI M F) = some (.inr (), KI (z_wr M a 6 (some c)) F') ∧ AV (z_wr M a 6 (some c)) F' a c ct cd st ns nt np nc kk T ∧ ∀ y, ¬ (a ≤ y ∧ y < a + 17) → F' y = F y := by
  have E := AV_EN h
  have h0 := h
  obtain ⟨d, R, l, hS, hn, _, hg, hd⟩ := h
  have hlen := RS_len hS
  have h6 := hS.2.2.2.2.1.1
  have ho : ∀ y, ¬ (a ≤ y ∧ y < a + 17) → f_tcs (f_sc F a b R.length) a b 3 y = F y := fun y hy => by
    rw [f_tcs_o 3 (fun i hi => by omega), f_sc_o (by omega) (by omega) (by omega) (by omega) (by omega) (by omega) (by omega)]
  refine ⟨_, kx_copyF hL E.1.1 hab E.1.2.1 h6 (by omega), AV_cp h0 (LZ_wr hL) r_wrs (LC_wr E.1.2.2.1 (by omega)) hac (fun r hr hr2 => ?_) (fun y y1 y2 => ho y (by omega)), ho⟩
  have : r = R.length := (nI_eq (by omega) (by omega)).mp (hr.symm.trans hS.2.2.2.2.1.2.1)
  subst this
  exact SC_f hab h6
end PA5
