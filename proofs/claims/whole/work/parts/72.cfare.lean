/-! ===== PHASE 2: the class's nearest, fare, sums ===== -/
theorem nI_nm1 {m : Nat} (h : m < 2 ^ 31) : ¬ nI m = -1 := by
  intro e
  have := i_eq.mp e
  rw [nI_toInt h] at this
  have e2 : (-1 : Int32).toInt = -1 := rfl
  omega
section PC3
variable {β : Type} {M : zM} {F : Nat → Nat → Int32} {ct cd st : Nat → Int32} {a b c d i j k n v ns nt np nc : Nat} {x : Int32}
def s_nl (ct : Nat → Int32) (k : Nat) : Option Nat → Int32
  | none => 0
  | some m => s_ds ct k m
theorem kx_near {f : Int32 → zP β} (E : EN M F a c ct cd st ns nt np nc) (hk : k < ns) (x : Int32) : (z_bd (p_X5_nearestOther a (nI k) x) f).1 (KI M F) = (f (iO (s_near ct st k x ns))).1 (KI M F) := by
  have h8 := EN_ns E
  have E' := E
  obtain ⟨⟨hL, hcy, hC, hdis⟩, ⟨rc, hok⟩, rb, r0⟩ := E'
  have hs0 := EN_s0 E
  refine e_run ?_
  unfold p_X5_nearestOther
  refine lp_cnt ns (fun j => (iO (s_near ct st k x j), s_nl ct k (s_near ct st k x j), nI j)) (fun _ => KI M F) _ _ ?_ ?_
  · intro j hj
    have hj8 : j < 8 := by omega
    have b1 := rb j hj
    have hnj : ¬ nI ns ≤ nI j := nI_ge hj (by omega)
    have hjk : (nI j = nI k) = (j = k) := propext (nI_eq (by omega) (by omega))
    simp (disch := first | assumption | omega | (apply LZ_R; assumption) | (apply LZ_T <;> first | assumption | omega) | (apply LC_F; assumption)) only [e_pu, e_ite, oL_add, oL_addr, oL_mul, nI_add, nI_1, b_pu, b_bd, b_ite, j_L, j_R, j_ite, j_bd, z_ex, ↓reduceIte, if_true, if_false, kt_gI, kt_pI, kt_cv, kt_g0, kt_g1, kt_a1, kt_s1, kt_n1, kt_z1, kt_a2, kt_s2, kt_n2, kt_z2, kr_gI, kr_pI, kr_cv, kr_g0, kr_a1, kr_s1, kr_n1, kr_z1, kf_gI, kf_pI, kf_cv, kf_g0, kf_g1, kf_a1, kf_s1, kf_n1, kf_z1, kf_a2, kf_s2, kf_n2, kf_z2, kc_gI, kc_pI, kc_cv, kc_g0, kc_g1, kc_g2, kc_g3, kc_g4, kc_g5, kc_g6, kc_g7, kc_g8, kc_g9, kc_a1, kc_s1, kc_n1, kc_z1, kc_a2, kc_s2, kc_n2, kc_z2, kc_a3, kc_s3, kc_n3, kc_z3, kc_a4, kc_s4, kc_n4, kc_z4, kc_a5, kc_s5, kc_n5, kc_z5, kc_a6, kc_s6, kc_n6, kc_z6, kc_a7, kc_s7, kc_n7, kc_z7, kc_a8, kc_s8, kc_n8, kc_z8, kc_a9, kc_s9, kc_n9, kc_z9, ks_gI, ks_pI, ks_cv, ks_g0, ks_g1, ks_g2, ks_g3, ks_g4, ks_g5, ks_a1, ks_s1, ks_n1, ks_z1, ks_a2, ks_s2, ks_n2, ks_z2, ks_a3, ks_s3, ks_n3, ks_z3, ks_a4, ks_s4, ks_n4, ks_z4, ks_tr, ks_city hcy, hs0, hnj, hjk, kx_wk E, kx_fr E, kx_mk E, kx_ds E, kx_rd E, kx_dr E, kx_bn E, kx_ms E, b1.1]
    by_cases h1 : j = k
    · simp only [s_near, h1, if_true]
    · simp only [s_near, h1, if_false]
      by_cases hd : x = 0
      · simp (disch := first | assumption | omega | (apply LZ_R; assumption) | (apply LZ_T <;> first | assumption | omega) | (apply LC_F; assumption)) only [e_pu, e_ite, oL_add, oL_addr, oL_mul, nI_add, nI_1, b_pu, b_bd, b_ite, j_L, j_R, j_ite, j_bd, z_ex, ↓reduceIte, if_true, if_false, kt_gI, kt_pI, kt_cv, kt_g0, kt_g1, kt_a1, kt_s1, kt_n1, kt_z1, kt_a2, kt_s2, kt_n2, kt_z2, kr_gI, kr_pI, kr_cv, kr_g0, kr_a1, kr_s1, kr_n1, kr_z1, kf_gI, kf_pI, kf_cv, kf_g0, kf_g1, kf_a1, kf_s1, kf_n1, kf_z1, kf_a2, kf_s2, kf_n2, kf_z2, kc_gI, kc_pI, kc_cv, kc_g0, kc_g1, kc_g2, kc_g3, kc_g4, kc_g5, kc_g6, kc_g7, kc_g8, kc_g9, kc_a1, kc_s1, kc_n1, kc_z1, kc_a2, kc_s2, kc_n2, kc_z2, kc_a3, kc_s3, kc_n3, kc_z3, kc_a4, kc_s4, kc_n4, kc_z4, kc_a5, kc_s5, kc_n5, kc_z5, kc_a6, kc_s6, kc_n6, kc_z6, kc_a7, kc_s7, kc_n7, kc_z7, kc_a8, kc_s8, kc_n8, kc_z8, kc_a9, kc_s9, kc_n9, kc_z9, ks_gI, ks_pI, ks_cv, ks_g0, ks_g1, ks_g2, ks_g3, ks_g4, ks_g5, ks_a1, ks_s1, ks_n1, ks_z1, ks_a2, ks_s2, ks_n2, ks_z2, ks_a3, ks_s3, ks_n3, ks_z3, ks_a4, ks_s4, ks_n4, ks_z4, ks_tr, s_bk, hd]
        cases hc : s_near ct st k 0 j with
        | none =>
          simp (disch := first | assumption | omega | (apply LZ_R; assumption) | (apply LZ_T <;> first | assumption | omega) | (apply LC_F; assumption)) only [e_pu, e_ite, oL_add, oL_addr, oL_mul, nI_add, nI_1, b_pu, b_bd, b_ite, j_L, j_R, j_ite, j_bd, z_ex, ↓reduceIte, if_true, if_false, kt_gI, kt_pI, kt_cv, kt_g0, kt_g1, kt_a1, kt_s1, kt_n1, kt_z1, kt_a2, kt_s2, kt_n2, kt_z2, kr_gI, kr_pI, kr_cv, kr_g0, kr_a1, kr_s1, kr_n1, kr_z1, kf_gI, kf_pI, kf_cv, kf_g0, kf_g1, kf_a1, kf_s1, kf_n1, kf_z1, kf_a2, kf_s2, kf_n2, kf_z2, kc_gI, kc_pI, kc_cv, kc_g0, kc_g1, kc_g2, kc_g3, kc_g4, kc_g5, kc_g6, kc_g7, kc_g8, kc_g9, kc_a1, kc_s1, kc_n1, kc_z1, kc_a2, kc_s2, kc_n2, kc_z2, kc_a3, kc_s3, kc_n3, kc_z3, kc_a4, kc_s4, kc_n4, kc_z4, kc_a5, kc_s5, kc_n5, kc_z5, kc_a6, kc_s6, kc_n6, kc_z6, kc_a7, kc_s7, kc_n7, kc_z7, kc_a8, kc_s8, kc_n8, kc_z8, kc_a9, kc_s9, kc_n9, kc_z9, ks_gI, ks_pI, ks_cv, ks_g0, ks_g1, ks_g2, ks_g3, ks_g4, ks_g5, ks_a1, ks_s1, ks_n1, ks_z1, ks_a2, ks_s2, ks_n2, ks_z2, ks_a3, ks_s3, ks_n3, ks_z3, ks_a4, ks_s4, ks_n4, ks_z4, ks_tr, show iO none = -1 from rfl]
          split <;> rfl
        | some m =>
          have hm := (s_near_lt _ _ _ _ _ _ hc).1
          simp (disch := first | assumption | omega | (apply LZ_R; assumption) | (apply LZ_T <;> first | assumption | omega) | (apply LC_F; assumption)) only [e_pu, e_ite, oL_add, oL_addr, oL_mul, nI_add, nI_1, b_pu, b_bd, b_ite, j_L, j_R, j_ite, j_bd, z_ex, ↓reduceIte, if_true, if_false, kt_gI, kt_pI, kt_cv, kt_g0, kt_g1, kt_a1, kt_s1, kt_n1, kt_z1, kt_a2, kt_s2, kt_n2, kt_z2, kr_gI, kr_pI, kr_cv, kr_g0, kr_a1, kr_s1, kr_n1, kr_z1, kf_gI, kf_pI, kf_cv, kf_g0, kf_g1, kf_a1, kf_s1, kf_n1, kf_z1, kf_a2, kf_s2, kf_n2, kf_z2, kc_gI, kc_pI, kc_cv, kc_g0, kc_g1, kc_g2, kc_g3, kc_g4, kc_g5, kc_g6, kc_g7, kc_g8, kc_g9, kc_a1, kc_s1, kc_n1, kc_z1, kc_a2, kc_s2, kc_n2, kc_z2, kc_a3, kc_s3, kc_n3, kc_z3, kc_a4, kc_s4, kc_n4, kc_z4, kc_a5, kc_s5, kc_n5, kc_z5, kc_a6, kc_s6, kc_n6, kc_z6, kc_a7, kc_s7, kc_n7, kc_z7, kc_a8, kc_s8, kc_n8, kc_z8, kc_a9, kc_s9, kc_n9, kc_z9, ks_gI, ks_pI, ks_cv, ks_g0, ks_g1, ks_g2, ks_g3, ks_g4, ks_g5, ks_a1, ks_s1, ks_n1, ks_z1, ks_a2, ks_s2, ks_n2, ks_z2, ks_a3, ks_s3, ks_n3, ks_z3, ks_a4, ks_s4, ks_n4, ks_z4, ks_tr, nI_nm1 (show m < 2 ^ 31 by omega), iO_some, s_nl]
          by_cases hle : s_ds ct k m ≤ s_ds ct k j
          · simp only [hle, if_true]
            split <;> rfl
          · simp only [hle, if_false]
            split <;> rfl
      · simp (disch := first | assumption | omega | (apply LZ_R; assumption) | (apply LZ_T <;> first | assumption | omega) | (apply LC_F; assumption)) only [e_pu, e_ite, oL_add, oL_addr, oL_mul, nI_add, nI_1, b_pu, b_bd, b_ite, j_L, j_R, j_ite, j_bd, z_ex, ↓reduceIte, if_true, if_false, kt_gI, kt_pI, kt_cv, kt_g0, kt_g1, kt_a1, kt_s1, kt_n1, kt_z1, kt_a2, kt_s2, kt_n2, kt_z2, kr_gI, kr_pI, kr_cv, kr_g0, kr_a1, kr_s1, kr_n1, kr_z1, kf_gI, kf_pI, kf_cv, kf_g0, kf_g1, kf_a1, kf_s1, kf_n1, kf_z1, kf_a2, kf_s2, kf_n2, kf_z2, kc_gI, kc_pI, kc_cv, kc_g0, kc_g1, kc_g2, kc_g3, kc_g4, kc_g5, kc_g6, kc_g7, kc_g8, kc_g9, kc_a1, kc_s1, kc_n1, kc_z1, kc_a2, kc_s2, kc_n2, kc_z2, kc_a3, kc_s3, kc_n3, kc_z3, kc_a4, kc_s4, kc_n4, kc_z4, kc_a5, kc_s5, kc_n5, kc_z5, kc_a6, kc_s6, kc_n6, kc_z6, kc_a7, kc_s7, kc_n7, kc_z7, kc_a8, kc_s8, kc_n8, kc_z8, kc_a9, kc_s9, kc_n9, kc_z9, ks_gI, ks_pI, ks_cv, ks_g0, ks_g1, ks_g2, ks_g3, ks_g4, ks_g5, ks_a1, ks_s1, ks_n1, ks_z1, ks_a2, ks_s2, ks_n2, ks_z2, ks_a3, ks_s3, ks_n3, ks_z3, ks_a4, ks_s4, ks_n4, ks_z4, ks_tr, s_bk, hd]
        cases hc : s_near ct st k x j with
        | none =>
          simp (disch := first | assumption | omega | (apply LZ_R; assumption) | (apply LZ_T <;> first | assumption | omega) | (apply LC_F; assumption)) only [e_pu, e_ite, oL_add, oL_addr, oL_mul, nI_add, nI_1, b_pu, b_bd, b_ite, j_L, j_R, j_ite, j_bd, z_ex, ↓reduceIte, if_true, if_false, kt_gI, kt_pI, kt_cv, kt_g0, kt_g1, kt_a1, kt_s1, kt_n1, kt_z1, kt_a2, kt_s2, kt_n2, kt_z2, kr_gI, kr_pI, kr_cv, kr_g0, kr_a1, kr_s1, kr_n1, kr_z1, kf_gI, kf_pI, kf_cv, kf_g0, kf_g1, kf_a1, kf_s1, kf_n1, kf_z1, kf_a2, kf_s2, kf_n2, kf_z2, kc_gI, kc_pI, kc_cv, kc_g0, kc_g1, kc_g2, kc_g3, kc_g4, kc_g5, kc_g6, kc_g7, kc_g8, kc_g9, kc_a1, kc_s1, kc_n1, kc_z1, kc_a2, kc_s2, kc_n2, kc_z2, kc_a3, kc_s3, kc_n3, kc_z3, kc_a4, kc_s4, kc_n4, kc_z4, kc_a5, kc_s5, kc_n5, kc_z5, kc_a6, kc_s6, kc_n6, kc_z6, kc_a7, kc_s7, kc_n7, kc_z7, kc_a8, kc_s8, kc_n8, kc_z8, kc_a9, kc_s9, kc_n9, kc_z9, ks_gI, ks_pI, ks_cv, ks_g0, ks_g1, ks_g2, ks_g3, ks_g4, ks_g5, ks_a1, ks_s1, ks_n1, ks_z1, ks_a2, ks_s2, ks_n2, ks_z2, ks_a3, ks_s3, ks_n3, ks_z3, ks_a4, ks_s4, ks_n4, ks_z4, ks_tr, show iO none = -1 from rfl]
          split <;> rfl
        | some m =>
          have hm := (s_near_lt _ _ _ _ _ _ hc).1
          simp (disch := first | assumption | omega | (apply LZ_R; assumption) | (apply LZ_T <;> first | assumption | omega) | (apply LC_F; assumption)) only [e_pu, e_ite, oL_add, oL_addr, oL_mul, nI_add, nI_1, b_pu, b_bd, b_ite, j_L, j_R, j_ite, j_bd, z_ex, ↓reduceIte, if_true, if_false, kt_gI, kt_pI, kt_cv, kt_g0, kt_g1, kt_a1, kt_s1, kt_n1, kt_z1, kt_a2, kt_s2, kt_n2, kt_z2, kr_gI, kr_pI, kr_cv, kr_g0, kr_a1, kr_s1, kr_n1, kr_z1, kf_gI, kf_pI, kf_cv, kf_g0, kf_g1, kf_a1, kf_s1, kf_n1, kf_z1, kf_a2, kf_s2, kf_n2, kf_z2, kc_gI, kc_pI, kc_cv, kc_g0, kc_g1, kc_g2, kc_g3, kc_g4, kc_g5, kc_g6, kc_g7, kc_g8, kc_g9, kc_a1, kc_s1, kc_n1, kc_z1, kc_a2, kc_s2, kc_n2, kc_z2, kc_a3, kc_s3, kc_n3, kc_z3, kc_a4, kc_s4, kc_n4, kc_z4, kc_a5, kc_s5, kc_n5, kc_z5, kc_a6, kc_s6, kc_n6, kc_z6, kc_a7, kc_s7, kc_n7, kc_z7, kc_a8, kc_s8, kc_n8, kc_z8, kc_a9, kc_s9, kc_n9, kc_z9, ks_gI, ks_pI, ks_cv, ks_g0, ks_g1, ks_g2, ks_g3, ks_g4, ks_g5, ks_a1, ks_s1, ks_n1, ks_z1, ks_a2, ks_s2, ks_n2, ks_z2, ks_a3, ks_s3, ks_n3, ks_z3, ks_a4, ks_s4, ks_n4, ks_z4, ks_tr, nI_nm1 (show m < 2 ^ 31 by omega), iO_some, s_nl]
          by_cases hle : s_ds ct k m ≤ s_ds ct k j
          · simp only [hle, if_true]
            split <;> rfl
          · simp only [hle, if_false]
            split <;> rfl
  · simp (disch := first | assumption | omega | (apply LZ_R; assumption) | (apply LZ_T <;> first | assumption | omega) | (apply LC_F; assumption)) only [e_pu, e_ite, oL_add, oL_addr, oL_mul, nI_add, nI_1, b_pu, b_bd, b_ite, j_L, j_R, j_ite, j_bd, z_ex, ↓reduceIte, if_true, if_false, kt_gI, kt_pI, kt_cv, kt_g0, kt_g1, kt_a1, kt_s1, kt_n1, kt_z1, kt_a2, kt_s2, kt_n2, kt_z2, kr_gI, kr_pI, kr_cv, kr_g0, kr_a1, kr_s1, kr_n1, kr_z1, kf_gI, kf_pI, kf_cv, kf_g0, kf_g1, kf_a1, kf_s1, kf_n1, kf_z1, kf_a2, kf_s2, kf_n2, kf_z2, kc_gI, kc_pI, kc_cv, kc_g0, kc_g1, kc_g2, kc_g3, kc_g4, kc_g5, kc_g6, kc_g7, kc_g8, kc_g9, kc_a1, kc_s1, kc_n1, kc_z1, kc_a2, kc_s2, kc_n2, kc_z2, kc_a3, kc_s3, kc_n3, kc_z3, kc_a4, kc_s4, kc_n4, kc_z4, kc_a5, kc_s5, kc_n5, kc_z5, kc_a6, kc_s6, kc_n6, kc_z6, kc_a7, kc_s7, kc_n7, kc_z7, kc_a8, kc_s8, kc_n8, kc_z8, kc_a9, kc_s9, kc_n9, kc_z9, ks_gI, ks_pI, ks_cv, ks_g0, ks_g1, ks_g2, ks_g3, ks_g4, ks_g5, ks_a1, ks_s1, ks_n1, ks_z1, ks_a2, ks_s2, ks_n2, ks_z2, ks_a3, ks_s3, ks_n3, ks_z3, ks_a4, ks_s4, ks_n4, ks_z4, ks_tr, ks_city hcy, hs0, show nI ns ≤ nI ns from Int32.le_refl _]
theorem g2_ap (y z x : Int32) {f : Int32 → zP β} (hx : x = -43 ∨ x = -45 ∨ x = -42 ∨ x = -47) : (z_bd (p_X2_apply (s_it x) y z) f).1 M = (f (s_op (-x) y z)).1 M := by
  rcases hx with rfl | rfl | rfl | rfl
  · rw [show s_it (-43) = -5 by decide, show s_op (-(-43)) y z = y + z from rfl]
    unfold p_X2_apply
    rw [if_neg (by decide), if_neg (by decide), if_pos rfl, b_pu]
  · rw [show s_it (-45) = -6 by decide, show s_op (-(-45)) y z = y - z from rfl]
    unfold p_X2_apply
    rw [if_neg (by decide), if_pos rfl, b_pu]
  · rw [show s_it (-42) = -7 by decide, show s_op (-(-42)) y z = y * z from rfl]
    unfold p_X2_apply
    rw [if_pos rfl, b_pu]
  · rw [show s_it (-47) = -8 by decide, show s_op (-(-47)) y z = (if z = 0 then 0 else y / z) from rfl]
    unfold p_X2_apply
    rw [if_neg (by decide), if_neg (by decide), if_neg (by decide)]
    by_cases h0 : z = 0
    · rw [if_pos h0, if_pos h0, b_pu]
    · rw [if_neg h0, if_neg h0]
      unfold z_nz
      rw [if_neg h0, b_pu]
theorem s_it_ge (h : -4 ≤ x) : s_it x = x := by
  have e : ∀ y : Int32, y.toInt < -4 → ¬ x = y := fun y hy e => by
    rw [i_le] at h
    subst e
    have : (-4 : Int32).toInt = -4 := rfl
    omega
  unfold s_it
  rw [if_neg (e _ (by decide)), if_neg (e _ (by decide)), if_neg (e _ (by decide)), if_neg (e _ (by decide))]
theorem s_it_lt (hx : x = -43 ∨ x = -45 ∨ x = -42 ∨ x = -47) : ¬ (-5 : Int32) < s_it x := by
  rcases hx with rfl | rfl | rfl | rfl <;> decide
theorem s_iv_lt (hx : s_iv x) (h : x < -4) : x = -43 ∨ x = -45 ∨ x = -42 ∨ x = -47 := by
  rcases hx with hx | hx
  · rw [i_le] at hx; rw [i_lt] at h; omega
  · exact hx
theorem g2_od (hx : -4 ≤ x) {f : Int32 → zP β} : (z_bd (p_X2_operand x (s_rd ct j k) (st (6 + j)) (s_fr ct st k) (st 0 / 60 - st 0 / 60 / 24 * 24)) f).1 M = (f (s_val ct st j k x)).1 M := by
  unfold p_X2_operand s_val
  simp only [b_ite, b_pu, e_ite]
  by_cases h4 : x = -4
  · subst h4; rfl
  · by_cases h3 : x = -3
    · subst h3; rfl
    · by_cases h2 : x = -2
      · subst h2; rfl
      · by_cases h1 : x = -1
        · subst h1; rfl
        · rw [if_neg h4, if_neg h3, if_neg h2, if_neg h1, if_neg]
          intro h0
          rw [i_le] at hx
          rw [i_lt] at h0
          rw [i_eq] at h1 h2 h3 h4
          have e1 : (-1 : Int32).toInt = -1 := rfl
          have e2 : (-2 : Int32).toInt = -2 := rfl
          have e3 : (-3 : Int32).toInt = -3 := rfl
          have e4 : (-4 : Int32).toInt = -4 := rfl
          have e0 : (0 : Int32).toInt = 0 := rfl
          omega
theorem u1_id (F : Nat → Nat → Int32) (a : Nat) : z_up1 F a (F a) = F := by
  funext b
  unfold z_up1
  split
  · rename_i h; rw [h]
  · rfl
theorem u2_u1 (F : Nat → Nat → Int32) (a k : Nat) (g : Nat → Int32) (x : Int32) : z_up2 (z_up1 F a g) a k x = z_up1 F a (s_up g k x) := by
  funext b j
  unfold z_up2 z_up1 s_up
  by_cases hb : b = a
  · rw [if_pos hb, if_pos hb]
    by_cases hj : j = k
    · rw [if_pos ⟨hb, hj⟩, if_pos hj]
    · rw [if_neg (fun q => hj q.2), if_neg hj]
  · rw [if_neg hb, if_neg hb, if_neg (fun q => hb q.1)]
theorem u1_s (F : Nat → Nat → Int32) (a : Nat) (g : Nat → Int32) : z_up1 F a g a = g := if_pos rfl
theorem u1_n (F : Nat → Nat → Int32) {a b : Nat} (g : Nat → Int32) (h : b ≠ a) : z_up1 F a g b = F b := if_neg h
theorem cl_eq (r : Int32) : (if (0 : Int32) < (if r < 9999 then r else 9999) then (if r < 9999 then r else 9999) else 0) = s_cl r := by
  unfold s_cl
  have e0 : (0 : Int32).toInt = 0 := rfl
  have e9 : (9999 : Int32).toInt = 9999 := rfl
  by_cases h9 : r < 9999
  · rw [if_pos h9, mx_eq]
    rw [if_pos (Int32.le_of_lt h9)]
  · rw [if_neg h9, if_pos (by decide)]
    rw [i_lt] at h9
    rw [if_pos (by rw [i_le]; omega)]
    split
    · rename_i h
      rw [i_le] at h
      exact i_eq.mpr (by omega)
    · rfl
/-- a fare: the stack's row is used -/
theorem kx_fare {f : Int32 → zP β} (E : EN M F a c ct cd st ns nt np nc) (hj : j < ns) (hk : k < ns) : (z_bd (p_X5_fareNow a (nI j) (nI k)) f).1 (KI M F) = (f (s_fare ct cd st nc j k)).1 (KI M (z_up1 F (c + 10 + 2) (s_fa cd (s_val ct st j k) (F (c + 10 + 2)) nc))) := by
  have h8 := EN_ns E
  have E' := E
  obtain ⟨⟨hL, hcy, hC, hdis⟩, ⟨rc, hok⟩, rb, r0⟩ := E'
  have hk8 : k < 8 := by omega
  have b1 := rb k hk
  have c1 := rc.2.1 k hk
  have hj8 : j < 8 := by omega
  have b2 := rb j hj
  have c2 := rc.2.1 j hj
  have hF := LC_F hC
  obtain ⟨hc8, hnc, hnc1, hcw⟩ := hok.2.1
  have hcf := rc.2.2.2.2
  unfold p_X5_fareNow
  simp (disch := first | assumption | omega | (apply LZ_R; assumption) | (apply LZ_T <;> first | assumption | omega) | (apply LC_F; assumption)) only [e_pu, e_ite, oL_add, oL_addr, oL_mul, nI_add, nI_1, b_pu, b_bd, b_ite, j_L, j_R, j_ite, j_bd, z_ex, ↓reduceIte, if_true, if_false, kt_gI, kt_pI, kt_cv, kt_g0, kt_g1, kt_a1, kt_s1, kt_n1, kt_z1, kt_a2, kt_s2, kt_n2, kt_z2, kr_gI, kr_pI, kr_cv, kr_g0, kr_a1, kr_s1, kr_n1, kr_z1, kf_gI, kf_pI, kf_cv, kf_g0, kf_g1, kf_a1, kf_s1, kf_n1, kf_z1, kf_a2, kf_s2, kf_n2, kf_z2, kc_gI, kc_pI, kc_cv, kc_g0, kc_g1, kc_g2, kc_g3, kc_g4, kc_g5, kc_g6, kc_g7, kc_g8, kc_g9, kc_a1, kc_s1, kc_n1, kc_z1, kc_a2, kc_s2, kc_n2, kc_z2, kc_a3, kc_s3, kc_n3, kc_z3, kc_a4, kc_s4, kc_n4, kc_z4, kc_a5, kc_s5, kc_n5, kc_z5, kc_a6, kc_s6, kc_n6, kc_z6, kc_a7, kc_s7, kc_n7, kc_z7, kc_a8, kc_s8, kc_n8, kc_z8, kc_a9, kc_s9, kc_n9, kc_z9, ks_gI, ks_pI, ks_cv, ks_g0, ks_g1, ks_g2, ks_g3, ks_g4, ks_g5, ks_a1, ks_s1, ks_n1, ks_z1, ks_a2, ks_s2, ks_n2, ks_z2, ks_a3, ks_s3, ks_n3, ks_z3, ks_a4, ks_s4, ks_n4, ks_z4, ks_tr, ks_city hcy, kx_wk E, kx_fr E, kx_mk E, kx_ds E, kx_rd E, kx_dr E, kx_bn E, kx_ms E, b2.1, r0]
  refine (e_run (a := s_fa cd (s_val ct st j k) (F (c + 10 + 2)) nc 0) (M1 := KI M (z_up1 F (c + 10 + 2) (s_fa cd (s_val ct st j k) (F (c + 10 + 2)) nc))) ?_).trans ?_
  · unfold p_X2_worth
    refine (e_jL (t := ()) (M1 := KI M (z_up1 F (c + 10 + 2) (s_fa cd (s_val ct st j k) (F (c + 10 + 2)) nc))) ?_).trans ?_
    · have e0 : KI M F = KI M (z_up1 F (c + 10 + 2) (s_fa cd (s_val ct st j k) (F (c + 10 + 2)) 0)) := by
        show _ = KI M (z_up1 F (c + 10 + 2) (F (c + 10 + 2)))
        rw [u1_id]
      rw [e0]
      refine lp_cnt nc (fun i => (nI (s_dp cd i), nI i)) (fun i => KI M (z_up1 F (c + 10 + 2) (s_fa cd (s_val ct st j k) (F (c + 10 + 2)) i))) _ _ ?_ ?_
      · intro i hi
        have hni : ¬ nI nc ≤ nI i := nI_ge hi (by omega)
        have hwi := hcw i hi
        have hit := hcf.2 i hi
        have hd : s_dp cd i < 16 := hwi.2
        have hd16 : nI (s_dp cd i) < 16 := nI_lt (b := 16) hd (by decide)
        by_cases hc4 : cd i < -4
        · have h2 := hwi.1 hc4
          have hop := s_iv_lt hit.2 hc4
          have h2' : (2 : Int32) ≤ nI (s_dp cd i) := nI_le (a := 2) h2 (by omega)
          simp (disch := first | assumption | omega | (apply LZ_R; assumption) | (apply LZ_T <;> first | assumption | omega) | (apply LC_F; assumption)) only [e_pu, e_ite, oL_add, oL_addr, oL_mul, nI_add, nI_1, b_pu, b_bd, b_ite, j_L, j_R, j_ite, j_bd, z_ex, ↓reduceIte, if_true, if_false, kt_gI, kt_pI, kt_cv, kt_g0, kt_g1, kt_a1, kt_s1, kt_n1, kt_z1, kt_a2, kt_s2, kt_n2, kt_z2, kr_gI, kr_pI, kr_cv, kr_g0, kr_a1, kr_s1, kr_n1, kr_z1, kf_gI, kf_pI, kf_cv, kf_g0, kf_g1, kf_a1, kf_s1, kf_n1, kf_z1, kf_a2, kf_s2, kf_n2, kf_z2, kc_gI, kc_pI, kc_cv, kc_g0, kc_g1, kc_g2, kc_g3, kc_g4, kc_g5, kc_g6, kc_g7, kc_g8, kc_g9, kc_a1, kc_s1, kc_n1, kc_z1, kc_a2, kc_s2, kc_n2, kc_z2, kc_a3, kc_s3, kc_n3, kc_z3, kc_a4, kc_s4, kc_n4, kc_z4, kc_a5, kc_s5, kc_n5, kc_z5, kc_a6, kc_s6, kc_n6, kc_z6, kc_a7, kc_s7, kc_n7, kc_z7, kc_a8, kc_s8, kc_n8, kc_z8, kc_a9, kc_s9, kc_n9, kc_z9, ks_gI, ks_pI, ks_cv, ks_g0, ks_g1, ks_g2, ks_g3, ks_g4, ks_g5, ks_a1, ks_s1, ks_n1, ks_z1, ks_a2, ks_s2, ks_n2, ks_z2, ks_a3, ks_s3, ks_n3, ks_z3, ks_a4, ks_s4, ks_n4, ks_z4, ks_tr, u1_n, u1_s, hcf.1, hni, hit.1, s_it_lt hop, h2', nI_dec, nI_dec', g2_ap _ _ _ hop, u2_u1, s_fa, s_dp, hc4]
          rw [show s_dp cd i - 1 - 1 = s_dp cd i - 2 by omega]
        · have hge : -4 ≤ cd i := by
            rw [i_lt] at hc4
            rw [i_le]
            omega
          have h5 : (-5 : Int32) < s_it (cd i) := by
            rw [s_it_ge hge]
            rw [i_le] at hge
            rw [i_lt]
            have e4 : (-4 : Int32).toInt = -4 := rfl
            have e5 : (-5 : Int32).toInt = -5 := rfl
            omega
          rw [s_it_ge hge] at h5 hit
          simp (disch := first | assumption | omega | (apply LZ_R; assumption) | (apply LZ_T <;> first | assumption | omega) | (apply LC_F; assumption)) only [e_pu, e_ite, oL_add, oL_addr, oL_mul, nI_add, nI_1, b_pu, b_bd, b_ite, j_L, j_R, j_ite, j_bd, z_ex, ↓reduceIte, if_true, if_false, kt_gI, kt_pI, kt_cv, kt_g0, kt_g1, kt_a1, kt_s1, kt_n1, kt_z1, kt_a2, kt_s2, kt_n2, kt_z2, kr_gI, kr_pI, kr_cv, kr_g0, kr_a1, kr_s1, kr_n1, kr_z1, kf_gI, kf_pI, kf_cv, kf_g0, kf_g1, kf_a1, kf_s1, kf_n1, kf_z1, kf_a2, kf_s2, kf_n2, kf_z2, kc_gI, kc_pI, kc_cv, kc_g0, kc_g1, kc_g2, kc_g3, kc_g4, kc_g5, kc_g6, kc_g7, kc_g8, kc_g9, kc_a1, kc_s1, kc_n1, kc_z1, kc_a2, kc_s2, kc_n2, kc_z2, kc_a3, kc_s3, kc_n3, kc_z3, kc_a4, kc_s4, kc_n4, kc_z4, kc_a5, kc_s5, kc_n5, kc_z5, kc_a6, kc_s6, kc_n6, kc_z6, kc_a7, kc_s7, kc_n7, kc_z7, kc_a8, kc_s8, kc_n8, kc_z8, kc_a9, kc_s9, kc_n9, kc_z9, ks_gI, ks_pI, ks_cv, ks_g0, ks_g1, ks_g2, ks_g3, ks_g4, ks_g5, ks_a1, ks_s1, ks_n1, ks_z1, ks_a2, ks_s2, ks_n2, ks_z2, ks_a3, ks_s3, ks_n3, ks_z3, ks_a4, ks_s4, ks_n4, ks_z4, ks_tr, u1_n, u1_s, hcf.1, hni, hit.1, h5, hd16, g2_od hge, u2_u1, s_fa, s_dp, hc4]
      · simp (disch := first | assumption | omega | (apply LZ_R; assumption) | (apply LZ_T <;> first | assumption | omega) | (apply LC_F; assumption)) only [e_pu, e_ite, oL_add, oL_addr, oL_mul, nI_add, nI_1, b_pu, b_bd, b_ite, j_L, j_R, j_ite, j_bd, z_ex, ↓reduceIte, if_true, if_false, kt_gI, kt_pI, kt_cv, kt_g0, kt_g1, kt_a1, kt_s1, kt_n1, kt_z1, kt_a2, kt_s2, kt_n2, kt_z2, kr_gI, kr_pI, kr_cv, kr_g0, kr_a1, kr_s1, kr_n1, kr_z1, kf_gI, kf_pI, kf_cv, kf_g0, kf_g1, kf_a1, kf_s1, kf_n1, kf_z1, kf_a2, kf_s2, kf_n2, kf_z2, kc_gI, kc_pI, kc_cv, kc_g0, kc_g1, kc_g2, kc_g3, kc_g4, kc_g5, kc_g6, kc_g7, kc_g8, kc_g9, kc_a1, kc_s1, kc_n1, kc_z1, kc_a2, kc_s2, kc_n2, kc_z2, kc_a3, kc_s3, kc_n3, kc_z3, kc_a4, kc_s4, kc_n4, kc_z4, kc_a5, kc_s5, kc_n5, kc_z5, kc_a6, kc_s6, kc_n6, kc_z6, kc_a7, kc_s7, kc_n7, kc_z7, kc_a8, kc_s8, kc_n8, kc_z8, kc_a9, kc_s9, kc_n9, kc_z9, ks_gI, ks_pI, ks_cv, ks_g0, ks_g1, ks_g2, ks_g3, ks_g4, ks_g5, ks_a1, ks_s1, ks_n1, ks_z1, ks_a2, ks_s2, ks_n2, ks_z2, ks_a3, ks_s3, ks_n3, ks_z3, ks_a4, ks_s4, ks_n4, ks_z4, ks_tr, u1_n, hcf.1, show nI nc ≤ nI nc from Int32.le_refl _]
    · simp (disch := first | assumption | omega | (apply LZ_R; assumption) | (apply LZ_T <;> first | assumption | omega) | (apply LC_F; assumption)) only [e_pu, e_ite, oL_add, oL_addr, oL_mul, nI_add, nI_1, b_pu, b_bd, b_ite, j_L, j_R, j_ite, j_bd, z_ex, ↓reduceIte, if_true, if_false, kt_gI, kt_pI, kt_cv, kt_g0, kt_g1, kt_a1, kt_s1, kt_n1, kt_z1, kt_a2, kt_s2, kt_n2, kt_z2, kr_gI, kr_pI, kr_cv, kr_g0, kr_a1, kr_s1, kr_n1, kr_z1, kf_gI, kf_pI, kf_cv, kf_g0, kf_g1, kf_a1, kf_s1, kf_n1, kf_z1, kf_a2, kf_s2, kf_n2, kf_z2, kc_gI, kc_pI, kc_cv, kc_g0, kc_g1, kc_g2, kc_g3, kc_g4, kc_g5, kc_g6, kc_g7, kc_g8, kc_g9, kc_a1, kc_s1, kc_n1, kc_z1, kc_a2, kc_s2, kc_n2, kc_z2, kc_a3, kc_s3, kc_n3, kc_z3, kc_a4, kc_s4, kc_n4, kc_z4, kc_a5, kc_s5, kc_n5, kc_z5, kc_a6, kc_s6, kc_n6, kc_z6, kc_a7, kc_s7, kc_n7, kc_z7, kc_a8, kc_s8, kc_n8, kc_z8, kc_a9, kc_s9, kc_n9, kc_z9, ks_gI, ks_pI, ks_cv, ks_g0, ks_g1, ks_g2, ks_g3, ks_g4, ks_g5, ks_a1, ks_s1, ks_n1, ks_z1, ks_a2, ks_s2, ks_n2, ks_z2, ks_a3, ks_s3, ks_n3, ks_z3, ks_a4, ks_s4, ks_n4, ks_z4, ks_tr, u1_s]
  · have e1 := s_fa_eq cd (s_val ct st j k) (F (c + 10 + 2)) (fun _ => 0) nc hcw 0 (s_dp_pos _ nc hcw hnc1)
    simp only [b_pu, cl_eq]
    rw [e1]
    rfl
end PC3
