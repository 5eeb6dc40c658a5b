/-! ===== PHASE 2: the class's city and state, as the model's rows tell; its readers ===== -/
def s_it (x : Int32) : Int32 := if x = -43 then -5 else if x = -45 then -6 else if x = -42 then -7 else if x = -47 then -8 else x
def s_iv (x : Int32) : Prop := -4 ≤ x ∨ x = -43 ∨ x = -45 ∨ x = -42 ∨ x = -47
/-- the city at c, read as the rows ct, cd -/
def RC (F : Nat → Nat → Int32) (c : Nat) (ct cd : Nat → Int32) (ns nt np nc : Nat) : Prop :=
  (F c 10 = ct 0 ∧ F c 11 = ct 1 ∧ F c 12 = ct 2 ∧ F c 13 = ct 3 ∧ F c 14 = ct 4 ∧ F c 15 = ct 5 ∧ F c 16 = ct 6 ∧ F c 17 = ct 7) ∧ (∀ k, k < ns → F (c + 1) k = ct (10 + k) ∧ F (c + 2) k = ct (18 + k) ∧ F (c + 3) k = ct (26 + k) ∧ F (c + 4) k = ct (34 + k))
  ∧ (∀ t, t < nt → F (c + 5) t = ct (42 + t) ∧ F (c + 6) t = ct (45 + t)) ∧ (∀ p, p < np → F (c + 7) p = ct (48 + p) ∧ F (c + 8) p = ct (78 + p) ∧ F (c + 9) p = ct (108 + p)) ∧ F (c + 10) 2 = nI nc ∧ ∀ i, i < nc → F (c + 10 + 1) i = s_it (cd i) ∧ s_iv (cd i)
/-- the state at a over the city at c: stations and time -/
def EN (M : zM) (F : Nat → Nat → Int32) (a c : Nat) (ct cd st : Nat → Int32) (ns nt np nc : Nat) : Prop :=
  (LZ a M ∧ z_r M a 6 = some c ∧ LC c M ∧ (a + 17 ≤ c ∨ c + 13 ≤ a)) ∧ (RC F c ct cd ns nt np nc ∧ c_ok ct cd ns nt np nc) ∧ (∀ k, k < ns → F (a + 1) k = st (6 + k) ∧ F (a + 2) k = st (14 + k)) ∧ F a 7 = st 0
section PC2
variable {β : Type} {M : zM} {F : Nat → Nat → Int32} {ct cd st : Nat → Int32} {a b c d j k n v ns nt np nc : Nat} {x : Int32}
theorem EN_ns (E : EN M F a c ct cd st ns nt np nc) : ns ≤ 8 := E.2.1.2.1.2.1
theorem EN_s0 (E : EN M F a c ct cd st ns nt np nc) : F c 10 = nI ns := E.2.1.1.1.1.trans E.2.1.2.1.1
theorem ki_cp {f : Unit → zP β} {a0 a : Nat} {sp dp m l l0 : Nat} (h0 : z_is 11 a0 M ∧ z_ln M a0 = l0) (h : z_is 11 a M ∧ z_ln M a = l) (hs : sp + m ≤ l0) (hd : dp + m ≤ l) (b0 : l0 < 2 ^ 31) (b1 : l < 2 ^ 31) :
    (z_bd (z_cp a0 (nI sp) a (nI dp) (nI m)) f).1 (KI M F) = (f ()).1 (KI M (z_up1 F a (va_cpy (F a0) (F a) sp dp m))) := by
  refine (e_cp (M := KI M F) ⟨h0.1, h.1, nI_pos (by omega), nI_pos (by omega), nI_pos (by omega), ?_, ?_⟩).trans ?_
  · rw [nI_clamp (by omega), nI_clamp (by omega)]
    show _ ≤ z_ln M a0
    omega
  · rw [nI_clamp (by omega), nI_clamp (by omega)]
    show _ ≤ z_ln M a
    omega
  · rw [nI_clamp (by omega), nI_clamp (by omega), nI_clamp (by omega)]
    rfl
theorem kx_wk {f : Int32 → zP β} (E : EN M F a c ct cd st ns nt np nc) (hk : k < ns) : (z_bd (p_X5_working a (nI k)) f).1 (KI M F) = (f (s_wk ct st k)).1 (KI M F) := by
  have h8 := EN_ns E
  have E' := E
  obtain ⟨⟨hL, hcy, hC, hdis⟩, ⟨rc, hok⟩, rb, r0⟩ := E'
  have hk8 : k < 8 := by omega
  have b1 := rb k hk
  have c1 := rc.2.1 k hk
  unfold p_X5_working s_wk
  simp (disch := first | assumption | omega | (apply LZ_R; assumption) | (apply LZ_T <;> first | assumption | omega) | (apply LC_F; assumption)) only [e_pu, e_ite, oL_add, oL_addr, oL_mul, nI_add, nI_1, b_pu, b_bd, b_ite, j_L, j_R, j_ite, j_bd, z_ex, ↓reduceIte, if_true, if_false, kt_gI, kt_pI, kt_cv, kt_g0, kt_g1, kt_a1, kt_s1, kt_n1, kt_z1, kt_a2, kt_s2, kt_n2, kt_z2, kr_gI, kr_pI, kr_cv, kr_g0, kr_a1, kr_s1, kr_n1, kr_z1, kf_gI, kf_pI, kf_cv, kf_g0, kf_g1, kf_a1, kf_s1, kf_n1, kf_z1, kf_a2, kf_s2, kf_n2, kf_z2, kc_gI, kc_pI, kc_cv, kc_g0, kc_g1, kc_g2, kc_g3, kc_g4, kc_g5, kc_g6, kc_g7, kc_g8, kc_g9, kc_a1, kc_s1, kc_n1, kc_z1, kc_a2, kc_s2, kc_n2, kc_z2, kc_a3, kc_s3, kc_n3, kc_z3, kc_a4, kc_s4, kc_n4, kc_z4, kc_a5, kc_s5, kc_n5, kc_z5, kc_a6, kc_s6, kc_n6, kc_z6, kc_a7, kc_s7, kc_n7, kc_z7, kc_a8, kc_s8, kc_n8, kc_z8, kc_a9, kc_s9, kc_n9, kc_z9, ks_gI, ks_pI, ks_cv, ks_g0, ks_g1, ks_g2, ks_g3, ks_g4, ks_g5, ks_a1, ks_s1, ks_n1, ks_z1, ks_a2, ks_s2, ks_n2, ks_z2, ks_a3, ks_s3, ks_n3, ks_z3, ks_a4, ks_s4, ks_n4, ks_z4, ks_tr, ks_city hcy, b1.2, c1.2.2.1]

theorem kx_fr {f : Int32 → zP β} (E : EN M F a c ct cd st ns nt np nc) (hk : k < ns) : (z_bd (p_X5_free a (nI k)) f).1 (KI M F) = (f (s_fr ct st k)).1 (KI M F) := by
  have h8 := EN_ns E
  have E' := E
  obtain ⟨⟨hL, hcy, hC, hdis⟩, ⟨rc, hok⟩, rb, r0⟩ := E'
  have hk8 : k < 8 := by omega
  have b1 := rb k hk
  have c1 := rc.2.1 k hk
  unfold p_X5_free s_fr s_wk
  simp (disch := first | assumption | omega | (apply LZ_R; assumption) | (apply LZ_T <;> first | assumption | omega) | (apply LC_F; assumption)) only [e_pu, e_ite, oL_add, oL_addr, oL_mul, nI_add, nI_1, b_pu, b_bd, b_ite, j_L, j_R, j_ite, j_bd, z_ex, ↓reduceIte, if_true, if_false, kt_gI, kt_pI, kt_cv, kt_g0, kt_g1, kt_a1, kt_s1, kt_n1, kt_z1, kt_a2, kt_s2, kt_n2, kt_z2, kr_gI, kr_pI, kr_cv, kr_g0, kr_a1, kr_s1, kr_n1, kr_z1, kf_gI, kf_pI, kf_cv, kf_g0, kf_g1, kf_a1, kf_s1, kf_n1, kf_z1, kf_a2, kf_s2, kf_n2, kf_z2, kc_gI, kc_pI, kc_cv, kc_g0, kc_g1, kc_g2, kc_g3, kc_g4, kc_g5, kc_g6, kc_g7, kc_g8, kc_g9, kc_a1, kc_s1, kc_n1, kc_z1, kc_a2, kc_s2, kc_n2, kc_z2, kc_a3, kc_s3, kc_n3, kc_z3, kc_a4, kc_s4, kc_n4, kc_z4, kc_a5, kc_s5, kc_n5, kc_z5, kc_a6, kc_s6, kc_n6, kc_z6, kc_a7, kc_s7, kc_n7, kc_z7, kc_a8, kc_s8, kc_n8, kc_z8, kc_a9, kc_s9, kc_n9, kc_z9, ks_gI, ks_pI, ks_cv, ks_g0, ks_g1, ks_g2, ks_g3, ks_g4, ks_g5, ks_a1, ks_s1, ks_n1, ks_z1, ks_a2, ks_s2, ks_n2, ks_z2, ks_a3, ks_s3, ks_n3, ks_z3, ks_a4, ks_s4, ks_n4, ks_z4, ks_tr, ks_city hcy, b1.1, b1.2, c1.2.2.1]

theorem kx_mk {f : Int32 → zP β} (E : EN M F a c ct cd st ns nt np nc) (hk : k < ns) : (z_bd (p_X5_mark a (nI k)) f).1 (KI M F) = (f (s_mk ct st k)).1 (KI M F) := by
  have h8 := EN_ns E
  have E' := E
  obtain ⟨⟨hL, hcy, hC, hdis⟩, ⟨rc, hok⟩, rb, r0⟩ := E'
  have hk8 : k < 8 := by omega
  have b1 := rb k hk
  have c1 := rc.2.1 k hk
  unfold p_X5_mark s_mk
  simp (disch := first | assumption | omega | (apply LZ_R; assumption) | (apply LZ_T <;> first | assumption | omega) | (apply LC_F; assumption)) only [e_pu, e_ite, oL_add, oL_addr, oL_mul, nI_add, nI_1, b_pu, b_bd, b_ite, j_L, j_R, j_ite, j_bd, z_ex, ↓reduceIte, if_true, if_false, kt_gI, kt_pI, kt_cv, kt_g0, kt_g1, kt_a1, kt_s1, kt_n1, kt_z1, kt_a2, kt_s2, kt_n2, kt_z2, kr_gI, kr_pI, kr_cv, kr_g0, kr_a1, kr_s1, kr_n1, kr_z1, kf_gI, kf_pI, kf_cv, kf_g0, kf_g1, kf_a1, kf_s1, kf_n1, kf_z1, kf_a2, kf_s2, kf_n2, kf_z2, kc_gI, kc_pI, kc_cv, kc_g0, kc_g1, kc_g2, kc_g3, kc_g4, kc_g5, kc_g6, kc_g7, kc_g8, kc_g9, kc_a1, kc_s1, kc_n1, kc_z1, kc_a2, kc_s2, kc_n2, kc_z2, kc_a3, kc_s3, kc_n3, kc_z3, kc_a4, kc_s4, kc_n4, kc_z4, kc_a5, kc_s5, kc_n5, kc_z5, kc_a6, kc_s6, kc_n6, kc_z6, kc_a7, kc_s7, kc_n7, kc_z7, kc_a8, kc_s8, kc_n8, kc_z8, kc_a9, kc_s9, kc_n9, kc_z9, ks_gI, ks_pI, ks_cv, ks_g0, ks_g1, ks_g2, ks_g3, ks_g4, ks_g5, ks_a1, ks_s1, ks_n1, ks_z1, ks_a2, ks_s2, ks_n2, ks_z2, ks_a3, ks_s3, ks_n3, ks_z3, ks_a4, ks_s4, ks_n4, ks_z4, ks_tr, ks_city hcy, kx_wk E, rc.1.2.2.2.2.2.1]

theorem kx_ds {f : Int32 → zP β} (E : EN M F a c ct cd st ns nt np nc) (hj : j < ns) (hk : k < ns) : (z_bd (p_X0_distance c (nI j) (nI k)) f).1 (KI M F) = (f (s_ds ct j k)).1 (KI M F) := by
  have h8 := EN_ns E
  have E' := E
  obtain ⟨⟨hL, hcy, hC, hdis⟩, ⟨rc, hok⟩, rb, r0⟩ := E'
  have hk8 : k < 8 := by omega
  have b1 := rb k hk
  have c1 := rc.2.1 k hk
  have hj8 : j < 8 := by omega
  have b2 := rb j hj
  have c2 := rc.2.1 j hj
  unfold p_X0_distance s_ds s_ab
  simp (disch := first | assumption | omega | (apply LZ_R; assumption) | (apply LZ_T <;> first | assumption | omega) | (apply LC_F; assumption)) only [e_pu, e_ite, oL_add, oL_addr, oL_mul, nI_add, nI_1, b_pu, b_bd, b_ite, j_L, j_R, j_ite, j_bd, z_ex, ↓reduceIte, if_true, if_false, kt_gI, kt_pI, kt_cv, kt_g0, kt_g1, kt_a1, kt_s1, kt_n1, kt_z1, kt_a2, kt_s2, kt_n2, kt_z2, kr_gI, kr_pI, kr_cv, kr_g0, kr_a1, kr_s1, kr_n1, kr_z1, kf_gI, kf_pI, kf_cv, kf_g0, kf_g1, kf_a1, kf_s1, kf_n1, kf_z1, kf_a2, kf_s2, kf_n2, kf_z2, kc_gI, kc_pI, kc_cv, kc_g0, kc_g1, kc_g2, kc_g3, kc_g4, kc_g5, kc_g6, kc_g7, kc_g8, kc_g9, kc_a1, kc_s1, kc_n1, kc_z1, kc_a2, kc_s2, kc_n2, kc_z2, kc_a3, kc_s3, kc_n3, kc_z3, kc_a4, kc_s4, kc_n4, kc_z4, kc_a5, kc_s5, kc_n5, kc_z5, kc_a6, kc_s6, kc_n6, kc_z6, kc_a7, kc_s7, kc_n7, kc_z7, kc_a8, kc_s8, kc_n8, kc_z8, kc_a9, kc_s9, kc_n9, kc_z9, ks_gI, ks_pI, ks_cv, ks_g0, ks_g1, ks_g2, ks_g3, ks_g4, ks_g5, ks_a1, ks_s1, ks_n1, ks_z1, ks_a2, ks_s2, ks_n2, ks_z2, ks_a3, ks_s3, ks_n3, ks_z3, ks_a4, ks_s4, ks_n4, ks_z4, ks_tr, ks_city hcy, c1.1, c1.2.1, c2.1, c2.2.1]
  split <;> split <;> rfl

theorem kx_rd {f : Int32 → zP β} (E : EN M F a c ct cd st ns nt np nc) (hj : j < ns) (hk : k < ns) : (z_bd (p_X0_riderMinutes c (nI j) (nI k)) f).1 (KI M F) = (f (s_rd ct j k)).1 (KI M F) := by
  have h8 := EN_ns E
  have E' := E
  obtain ⟨⟨hL, hcy, hC, hdis⟩, ⟨rc, hok⟩, rb, r0⟩ := E'
  unfold p_X0_riderMinutes s_rd
  simp (disch := first | assumption | omega | (apply LZ_R; assumption) | (apply LZ_T <;> first | assumption | omega) | (apply LC_F; assumption)) only [e_pu, e_ite, oL_add, oL_addr, oL_mul, nI_add, nI_1, b_pu, b_bd, b_ite, j_L, j_R, j_ite, j_bd, z_ex, ↓reduceIte, if_true, if_false, kt_gI, kt_pI, kt_cv, kt_g0, kt_g1, kt_a1, kt_s1, kt_n1, kt_z1, kt_a2, kt_s2, kt_n2, kt_z2, kr_gI, kr_pI, kr_cv, kr_g0, kr_a1, kr_s1, kr_n1, kr_z1, kf_gI, kf_pI, kf_cv, kf_g0, kf_g1, kf_a1, kf_s1, kf_n1, kf_z1, kf_a2, kf_s2, kf_n2, kf_z2, kc_gI, kc_pI, kc_cv, kc_g0, kc_g1, kc_g2, kc_g3, kc_g4, kc_g5, kc_g6, kc_g7, kc_g8, kc_g9, kc_a1, kc_s1, kc_n1, kc_z1, kc_a2, kc_s2, kc_n2, kc_z2, kc_a3, kc_s3, kc_n3, kc_z3, kc_a4, kc_s4, kc_n4, kc_z4, kc_a5, kc_s5, kc_n5, kc_z5, kc_a6, kc_s6, kc_n6, kc_z6, kc_a7, kc_s7, kc_n7, kc_z7, kc_a8, kc_s8, kc_n8, kc_z8, kc_a9, kc_s9, kc_n9, kc_z9, ks_gI, ks_pI, ks_cv, ks_g0, ks_g1, ks_g2, ks_g3, ks_g4, ks_g5, ks_a1, ks_s1, ks_n1, ks_z1, ks_a2, ks_s2, ks_n2, ks_z2, ks_a3, ks_s3, ks_n3, ks_z3, ks_a4, ks_s4, ks_n4, ks_z4, ks_tr, ks_city hcy, kx_ds E, rc.1.2.2.2.1]

theorem kx_dr {f : Int32 → zP β} (E : EN M F a c ct cd st ns nt np nc) (hj : j < ns) (hk : k < ns) : (z_bd (p_X0_truckMinutes c (nI j) (nI k)) f).1 (KI M F) = (f (s_dr ct j k)).1 (KI M F) := by
  have h8 := EN_ns E
  have E' := E
  obtain ⟨⟨hL, hcy, hC, hdis⟩, ⟨rc, hok⟩, rb, r0⟩ := E'
  unfold p_X0_truckMinutes s_dr
  simp (disch := first | assumption | omega | (apply LZ_R; assumption) | (apply LZ_T <;> first | assumption | omega) | (apply LC_F; assumption)) only [e_pu, e_ite, oL_add, oL_addr, oL_mul, nI_add, nI_1, b_pu, b_bd, b_ite, j_L, j_R, j_ite, j_bd, z_ex, ↓reduceIte, if_true, if_false, kt_gI, kt_pI, kt_cv, kt_g0, kt_g1, kt_a1, kt_s1, kt_n1, kt_z1, kt_a2, kt_s2, kt_n2, kt_z2, kr_gI, kr_pI, kr_cv, kr_g0, kr_a1, kr_s1, kr_n1, kr_z1, kf_gI, kf_pI, kf_cv, kf_g0, kf_g1, kf_a1, kf_s1, kf_n1, kf_z1, kf_a2, kf_s2, kf_n2, kf_z2, kc_gI, kc_pI, kc_cv, kc_g0, kc_g1, kc_g2, kc_g3, kc_g4, kc_g5, kc_g6, kc_g7, kc_g8, kc_g9, kc_a1, kc_s1, kc_n1, kc_z1, kc_a2, kc_s2, kc_n2, kc_z2, kc_a3, kc_s3, kc_n3, kc_z3, kc_a4, kc_s4, kc_n4, kc_z4, kc_a5, kc_s5, kc_n5, kc_z5, kc_a6, kc_s6, kc_n6, kc_z6, kc_a7, kc_s7, kc_n7, kc_z7, kc_a8, kc_s8, kc_n8, kc_z8, kc_a9, kc_s9, kc_n9, kc_z9, ks_gI, ks_pI, ks_cv, ks_g0, ks_g1, ks_g2, ks_g3, ks_g4, ks_g5, ks_a1, ks_s1, ks_n1, ks_z1, ks_a2, ks_s2, ks_n2, ks_z2, ks_a3, ks_s3, ks_n3, ks_z3, ks_a4, ks_s4, ks_n4, ks_z4, ks_tr, ks_city hcy, kx_ds E, rc.1.2.2.2.2.1]

theorem kx_bn {f : Int32 → zP β} (E : EN M F a c ct cd st ns nt np nc) (hk : k < ns) : (z_bd (p_X5_bonusNow a (nI k)) f).1 (KI M F) = (f (s_bn ct st k)).1 (KI M F) := by
  have h8 := EN_ns E
  have E' := E
  obtain ⟨⟨hL, hcy, hC, hdis⟩, ⟨rc, hok⟩, rb, r0⟩ := E'
  have hk8 : k < 8 := by omega
  have b1 := rb k hk
  have c1 := rc.2.1 k hk
  unfold p_X5_bonusNow s_bn
  simp (disch := first | assumption | omega | (apply LZ_R; assumption) | (apply LZ_T <;> first | assumption | omega) | (apply LC_F; assumption)) only [e_pu, e_ite, oL_add, oL_addr, oL_mul, nI_add, nI_1, b_pu, b_bd, b_ite, j_L, j_R, j_ite, j_bd, z_ex, ↓reduceIte, if_true, if_false, kt_gI, kt_pI, kt_cv, kt_g0, kt_g1, kt_a1, kt_s1, kt_n1, kt_z1, kt_a2, kt_s2, kt_n2, kt_z2, kr_gI, kr_pI, kr_cv, kr_g0, kr_a1, kr_s1, kr_n1, kr_z1, kf_gI, kf_pI, kf_cv, kf_g0, kf_g1, kf_a1, kf_s1, kf_n1, kf_z1, kf_a2, kf_s2, kf_n2, kf_z2, kc_gI, kc_pI, kc_cv, kc_g0, kc_g1, kc_g2, kc_g3, kc_g4, kc_g5, kc_g6, kc_g7, kc_g8, kc_g9, kc_a1, kc_s1, kc_n1, kc_z1, kc_a2, kc_s2, kc_n2, kc_z2, kc_a3, kc_s3, kc_n3, kc_z3, kc_a4, kc_s4, kc_n4, kc_z4, kc_a5, kc_s5, kc_n5, kc_z5, kc_a6, kc_s6, kc_n6, kc_z6, kc_a7, kc_s7, kc_n7, kc_z7, kc_a8, kc_s8, kc_n8, kc_z8, kc_a9, kc_s9, kc_n9, kc_z9, ks_gI, ks_pI, ks_cv, ks_g0, ks_g1, ks_g2, ks_g3, ks_g4, ks_g5, ks_a1, ks_s1, ks_n1, ks_z1, ks_a2, ks_s2, ks_n2, ks_z2, ks_a3, ks_s3, ks_n3, ks_z3, ks_a4, ks_s4, ks_n4, ks_z4, ks_tr, ks_city hcy, b1.1, kx_wk E, rc.1.2.2.2.2.2.2.1, rc.1.2.2.2.2.2.2.2]
  split <;> rfl

theorem mx_eq (y : Int32) : (if (0 : Int32) < y then y else 0) = if 0 ≤ y then y else 0 := by
  by_cases h : (0 : Int32) < y
  · rw [if_pos h, if_pos (Int32.le_of_lt h)]
  · rw [if_neg h]
    by_cases h2 : (0 : Int32) ≤ y
    · rw [if_pos h2]
      rw [i_lt] at h
      rw [i_le] at h2
      exact i_eq.mpr (by omega)
    · rw [if_neg h2]
theorem kx_ms {f : Int32 → zP β} (E : EN M F a c ct cd st ns nt np nc) (hk : k < ns) : (z_bd (p_X5_missing a (nI k)) f).1 (KI M F) = (f (s_ms ct st k)).1 (KI M F) := by
  have h8 := EN_ns E
  have E' := E
  obtain ⟨⟨hL, hcy, hC, hdis⟩, ⟨rc, hok⟩, rb, r0⟩ := E'
  have hk8 : k < 8 := by omega
  have b1 := rb k hk
  have c1 := rc.2.1 k hk
  unfold p_X5_missing s_ms
  simp (disch := first | assumption | omega | (apply LZ_R; assumption) | (apply LZ_T <;> first | assumption | omega) | (apply LC_F; assumption)) only [e_pu, e_ite, oL_add, oL_addr, oL_mul, nI_add, nI_1, b_pu, b_bd, b_ite, j_L, j_R, j_ite, j_bd, z_ex, ↓reduceIte, if_true, if_false, kt_gI, kt_pI, kt_cv, kt_g0, kt_g1, kt_a1, kt_s1, kt_n1, kt_z1, kt_a2, kt_s2, kt_n2, kt_z2, kr_gI, kr_pI, kr_cv, kr_g0, kr_a1, kr_s1, kr_n1, kr_z1, kf_gI, kf_pI, kf_cv, kf_g0, kf_g1, kf_a1, kf_s1, kf_n1, kf_z1, kf_a2, kf_s2, kf_n2, kf_z2, kc_gI, kc_pI, kc_cv, kc_g0, kc_g1, kc_g2, kc_g3, kc_g4, kc_g5, kc_g6, kc_g7, kc_g8, kc_g9, kc_a1, kc_s1, kc_n1, kc_z1, kc_a2, kc_s2, kc_n2, kc_z2, kc_a3, kc_s3, kc_n3, kc_z3, kc_a4, kc_s4, kc_n4, kc_z4, kc_a5, kc_s5, kc_n5, kc_z5, kc_a6, kc_s6, kc_n6, kc_z6, kc_a7, kc_s7, kc_n7, kc_z7, kc_a8, kc_s8, kc_n8, kc_z8, kc_a9, kc_s9, kc_n9, kc_z9, ks_gI, ks_pI, ks_cv, ks_g0, ks_g1, ks_g2, ks_g3, ks_g4, ks_g5, ks_a1, ks_s1, ks_n1, ks_z1, ks_a2, ks_s2, ks_n2, ks_z2, ks_a3, ks_s3, ks_n3, ks_z3, ks_a4, ks_s4, ks_n4, ks_z4, ks_tr, ks_city hcy, b1.1, kx_mk E, kx_fr E, mx_eq]

end PC2
