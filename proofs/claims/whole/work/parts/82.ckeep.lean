/-! ===== PHASE 2: the class's keepOfFront ===== -/
theorem nI_sub {x y : Nat} (h : y ≤ x) : nI x - nI y = nI (x - y) := by
  have : nI x = nI (x - y) + nI y := by rw [nI_add]; congr 1; omega
  rw [this, Int32.add_sub_cancel]
theorem u12_com (F : Nat → Nat → Int32) {a b k : Nat} (g : Nat → Int32) (v : Int32) (h : a ≠ b) : z_up2 (z_up1 F a g) b k v = z_up1 (z_up2 F b k v) a g := by
  funext y z
  by_cases hy : y = a
  · subst hy
    rw [u2_n _ _ (Or.inl h), u1_s, u1_s]
  · rw [u1_n _ _ hy]
    unfold z_up2
    rw [u1_n _ _ hy]
theorem u1_u1 (F : Nat → Nat → Int32) (a : Nat) (g g' : Nat → Int32) : z_up1 (z_up1 F a g) a g' = z_up1 F a g' := by
  funext y
  by_cases hy : y = a
  · subst hy; rw [u1_s, u1_s]
  · rw [u1_n _ _ hy, u1_n _ _ hy, u1_n _ _ hy]
section PR8
variable {β : Type} {M : zM} {F : Nat → Nat → Int32} {b n2 e : Nat} {K l2 : List Nat}
theorem kr_keep {f : Unit → zP β} (h : LR b M) (hK : rw_is (F (b + 1)) K) (hl2 : ∀ i x, l2[i]? = some x → F (b + 1) (e + i) = nI x) (h1 : F b 1 = nI (e + l2.length)) (hke : K.length ≤ e) (he : e + l2.length ≤ 768) (hnd : (K ++ l2).Nodup) (hb : ∀ z ∈ K ++ l2, z < 2 ^ 31) (hs : l2.Pairwise (· < ·)) :
    ∃ g l', (z_bd (p_X4_keepOfFront b (nI e) (nI K.length)) f).1 (KI M F) = (f ()).1 (KI M (z_up1 (z_up2 F b 1 (nI (K.length + l2.length))) (b + 1) g)) ∧ rw_is g l' ∧ l'.Perm (K ++ l2) ∧ l'.Pairwise (· < ·) := by
  have q1 : ¬ nI K.length < 0 := nI_pos (by omega)
  have q2 : ¬ nI e < nI K.length := nI_nlt hke (by omega)
  have q3 : nI e ≤ nI (e + l2.length) := nI_le (by omega) (by omega)
  have q4 : nI (e + l2.length) - nI e = nI l2.length := by rw [nI_sub (by omega)]; congr 1; omega
  have q5 : nI (e + l2.length) - (nI e - nI K.length) = nI (K.length + l2.length) := by rw [nI_sub hke, nI_sub (by omega)]; congr 1; omega
  have hcp : ∀ (f' : Unit → zP β), (z_bd (z_cp (b + 1) (nI e) (b + 1) (nI K.length) (nI l2.length)) f').1 (KI M F) = (f' ()).1 (KI M (z_up1 F (b + 1) (va_cpy (F (b + 1)) (F (b + 1)) e K.length l2.length))) := fun f' => ki_cp h.2.1 h.2.1 (by omega) (by omega) (by decide) (by decide)
  have hrow : rw_is (va_cpy (F (b + 1)) (F (b + 1)) e K.length l2.length) (K ++ l2) := by
    intro i x hx
    by_cases hi : i < K.length
    · rw [List.getElem?_append_left hi] at hx
      rw [pk_cpy_out (Or.inl hi)]
      exact hK i x hx
    · rw [List.getElem?_append_right (by omega)] at hx
      have hi2 : i - K.length < l2.length := by
        rcases Nat.lt_or_ge (i - K.length) l2.length with h | h
        · exact h
        · rw [List.getElem?_eq_none h] at hx; cases hx
      rw [pk_cpy_in (by omega) (by omega)]
      exact hl2 _ x hx
  by_cases hk0 : K.length = 0
  · have hKn : K = [] := List.eq_nil_of_length_eq_zero hk0
    subst hKn
    refine ⟨_, [] ++ l2, ?_, hrow, List.Perm.refl _, hs⟩
    rw [← u12_com _ _ _ (by omega)]
    have q6 : nI ([] : List Nat).length ≤ 0 := Int32.le_refl _
    have e1 : ∀ g, z_up1 F (b + 1) g b 1 = nI (e + l2.length) := fun g => by rw [u1_n _ _ (by omega)]; exact h1
    unfold p_X4_keepOfFront
    simp (disch := first | assumption | omega | (apply LZ_R; assumption) | (apply LZ_T <;> first | assumption | omega) | (apply LC_F; assumption)) only [e_pu, e_ite, oL_add, oL_addr, oL_mul, nI_add, nI_1, b_pu, b_bd, b_ite, j_L, j_R, j_ite, j_bd, z_ex, ↓reduceIte, if_true, if_false, kt_gI, kt_pI, kt_cv, kt_g0, kt_g1, kt_a1, kt_s1, kt_n1, kt_z1, kt_a2, kt_s2, kt_n2, kt_z2, kr_gI, kr_pI, kr_cv, kr_g0, kr_a1, kr_s1, kr_n1, kr_z1, kf_gI, kf_pI, kf_cv, kf_g0, kf_g1, kf_a1, kf_s1, kf_n1, kf_z1, kf_a2, kf_s2, kf_n2, kf_z2, kc_gI, kc_pI, kc_cv, kc_g0, kc_g1, kc_g2, kc_g3, kc_g4, kc_g5, kc_g6, kc_g7, kc_g8, kc_g9, kc_a1, kc_s1, kc_n1, kc_z1, kc_a2, kc_s2, kc_n2, kc_z2, kc_a3, kc_s3, kc_n3, kc_z3, kc_a4, kc_s4, kc_n4, kc_z4, kc_a5, kc_s5, kc_n5, kc_z5, kc_a6, kc_s6, kc_n6, kc_z6, kc_a7, kc_s7, kc_n7, kc_z7, kc_a8, kc_s8, kc_n8, kc_z8, kc_a9, kc_s9, kc_n9, kc_z9, ks_gI, ks_pI, ks_cv, ks_g0, ks_g1, ks_g2, ks_g3, ks_g4, ks_g5, ks_a1, ks_s1, ks_n1, ks_z1, ks_a2, ks_s2, ks_n2, ks_z2, ks_a3, ks_s3, ks_n3, ks_z3, ks_a4, ks_s4, ks_n4, ks_z4, ks_tr, q1, q2, h1, q3, q4, hcp, e1, q5, q6]
  · have q6 : ¬ nI K.length ≤ 0 := nI_nle (by omega) (by omega)
    have e1 : ∀ g, z_up1 F (b + 1) g b 1 = nI (e + l2.length) := fun g => by rw [u1_n _ _ (by omega)]; exact h1
    obtain ⟨g, l', k1, k2, k3, k4⟩ := kr_sort (F := z_up2 (z_up1 F (b + 1) (va_cpy (F (b + 1)) (F (b + 1)) e K.length l2.length)) b 1 (nI (K.length + l2.length))) h (by rw [u2_row _ _ (by omega), u1_s]; exact hrow) (by rw [u2_s, List.length_append]) (by rw [List.length_append]; omega) (by rw [List.length_append]; omega) hnd hb
    refine ⟨g, l', ?_, k2, k3, k4⟩
    rw [u12_com _ _ _ (by omega), u1_u1] at k1
    unfold p_X4_keepOfFront
    simp (disch := first | assumption | omega | (apply LZ_R; assumption) | (apply LZ_T <;> first | assumption | omega) | (apply LC_F; assumption)) only [e_pu, e_ite, oL_add, oL_addr, oL_mul, nI_add, nI_1, b_pu, b_bd, b_ite, j_L, j_R, j_ite, j_bd, z_ex, ↓reduceIte, if_true, if_false, kt_gI, kt_pI, kt_cv, kt_g0, kt_g1, kt_a1, kt_s1, kt_n1, kt_z1, kt_a2, kt_s2, kt_n2, kt_z2, kr_gI, kr_pI, kr_cv, kr_g0, kr_a1, kr_s1, kr_n1, kr_z1, kf_gI, kf_pI, kf_cv, kf_g0, kf_g1, kf_a1, kf_s1, kf_n1, kf_z1, kf_a2, kf_s2, kf_n2, kf_z2, kc_gI, kc_pI, kc_cv, kc_g0, kc_g1, kc_g2, kc_g3, kc_g4, kc_g5, kc_g6, kc_g7, kc_g8, kc_g9, kc_a1, kc_s1, kc_n1, kc_z1, kc_a2, kc_s2, kc_n2, kc_z2, kc_a3, kc_s3, kc_n3, kc_z3, kc_a4, kc_s4, kc_n4, kc_z4, kc_a5, kc_s5, kc_n5, kc_z5, kc_a6, kc_s6, kc_n6, kc_z6, kc_a7, kc_s7, kc_n7, kc_z7, kc_a8, kc_s8, kc_n8, kc_z8, kc_a9, kc_s9, kc_n9, kc_z9, ks_gI, ks_pI, ks_cv, ks_g0, ks_g1, ks_g2, ks_g3, ks_g4, ks_g5, ks_a1, ks_s1, ks_n1, ks_z1, ks_a2, ks_s2, ks_n2, ks_z2, ks_a3, ks_s3, ks_n3, ks_z3, ks_a4, ks_s4, ks_n4, ks_z4, ks_tr, q1, q2, h1, q3, q4, hcp, e1, q5, q6]
    rw [u12_com _ _ _ (by omega)]
    exact e_run k1
end PR8
