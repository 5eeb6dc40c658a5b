/-! ===== PHASE 2: the class's trucks ===== -/
theorem le3_a (x y : Int32) : s_le3 x y x = if y < x then y else x := by
  unfold s_le3
  by_cases h1 : y ≤ x
  · rw [if_pos h1]
    by_cases h2 : x ≤ y
    · rw [if_pos h2]
      split
      · rename_i h3; rw [i_lt] at h3; rw [i_le] at h1 h2; omega
      · rfl
    · rw [if_neg h2, if_pos (by rw [i_lt]; rw [i_le] at h1 h2; omega)]
  · rw [if_neg h1, if_pos (Int32.le_refl _), if_neg (by rw [i_lt]; rw [i_le] at h1; omega)]
theorem le3_b (w l f : Int32) : s_le3 w l f = if (if f < l then f else l) < w then (if f < l then f else l) else w := by
  unfold s_le3
  by_cases h1 : l ≤ w <;> by_cases h2 : f ≤ l <;> by_cases h3 : f < l <;> by_cases h4 : f ≤ w <;> by_cases h5 : f < w <;> by_cases h6 : l < w <;> simp only [h1, h2, h3, h4, h5, h6, if_true, if_false] <;> (simp only [i_lt, i_le] at h1 h2 h3 h4 h5 h6; first | exact i_eq.mpr (by omega) | omega)
/-- the truck at b, as the rows tell; q orders -/
def RK (F : Nat → Nat → Int32) (b : Nat) (ct st : Nat → Int32) (ns t q : Nat) : Prop := t_ok st ns t q ∧ F b 2 = nI q ∧ F b 3 = ct (45 + t) ∧ F b 4 = s_tr st t 4 ∧ F b 6 = s_tr st t 2 ∧ (∀ p, p < ns → s_tr st t 0 = nI p → F b 5 = nI p) ∧ (s_tr st t 0 = -1 → F b 5 = s_tr st t 1 ∧ F b 7 = s_tr st t 3) ∧ ∀ i, i < q → F (b + 1) i = s_tr st t (6 + 2 * i) ∧ F (b + 2) i = s_tr st t (7 + 2 * i)
section PC4
variable {β : Type} {M : zM} {F : Nat → Nat → Int32} {ct cd st : Nat → Int32} {a b c d i j k n p q s t v ns nt np nc : Nat} {x : Int32}
theorem kx_car {f : Unit → zP β} (E : EN M F a c ct cd st ns nt np nc) (hT : LT b M) (hb : b = a + 8 + 3 * t) (hp : p < ns) (e5 : F b 5 = nI p) (e3 : F b 3 = ct (45 + t)) (e4 : F b 4 = s_tr st t 4) :
    (z_bd (p_X5_carryOut a b x) f).1 (KI M F) = (f ()).1 (KI M (z_up2 (z_up2 F (a + 1) p (st (6 + p) + s_mv ct st t p x)) b 4 (s_tr st t 4 - s_mv ct st t p x))) := by
  have h8 := EN_ns E
  have E' := E
  obtain ⟨⟨hL, hcy, hC, hdis⟩, ⟨rc, hok⟩, rb, r0⟩ := E'
  have hp8 : p < 8 := by omega
  have b1 := rb p hp
  have q4 : ∀ y, z_up2 F (a + 1) p y b 4 = s_tr st t 4 := fun y => (u2_n _ _ (Or.inl (by omega))).trans e4
  unfold p_X5_carryOut s_mv
  by_cases h0 : x - st (6 + p) ≤ 0
  · simp (disch := first | assumption | omega | (apply LZ_R; assumption) | (apply LZ_T <;> first | assumption | omega) | (apply LC_F; assumption)) only [e_pu, e_ite, oL_add, oL_addr, oL_mul, nI_add, nI_1, b_pu, b_bd, b_ite, j_L, j_R, j_ite, j_bd, z_ex, ↓reduceIte, if_true, if_false, kt_gI, kt_pI, kt_cv, kt_g0, kt_g1, kt_a1, kt_s1, kt_n1, kt_z1, kt_a2, kt_s2, kt_n2, kt_z2, kr_gI, kr_pI, kr_cv, kr_g0, kr_a1, kr_s1, kr_n1, kr_z1, kf_gI, kf_pI, kf_cv, kf_g0, kf_g1, kf_a1, kf_s1, kf_n1, kf_z1, kf_a2, kf_s2, kf_n2, kf_z2, kc_gI, kc_pI, kc_cv, kc_g0, kc_g1, kc_g2, kc_g3, kc_g4, kc_g5, kc_g6, kc_g7, kc_g8, kc_g9, kc_a1, kc_s1, kc_n1, kc_z1, kc_a2, kc_s2, kc_n2, kc_z2, kc_a3, kc_s3, kc_n3, kc_z3, kc_a4, kc_s4, kc_n4, kc_z4, kc_a5, kc_s5, kc_n5, kc_z5, kc_a6, kc_s6, kc_n6, kc_z6, kc_a7, kc_s7, kc_n7, kc_z7, kc_a8, kc_s8, kc_n8, kc_z8, kc_a9, kc_s9, kc_n9, kc_z9, ks_gI, ks_pI, ks_cv, ks_g0, ks_g1, ks_g2, ks_g3, ks_g4, ks_g5, ks_a1, ks_s1, ks_n1, ks_z1, ks_a2, ks_s2, ks_n2, ks_z2, ks_a3, ks_s3, ks_n3, ks_z3, ks_a4, ks_s4, ks_n4, ks_z4, ks_tr, kx_wk E, kx_fr E, kx_mk E, kx_ds E, kx_rd E, kx_dr E, kx_bn E, kx_ms E, e5, e3, e4, b1.1, h0, q4, le3_a]
  · simp (disch := first | assumption | omega | (apply LZ_R; assumption) | (apply LZ_T <;> first | assumption | omega) | (apply LC_F; assumption)) only [e_pu, e_ite, oL_add, oL_addr, oL_mul, nI_add, nI_1, b_pu, b_bd, b_ite, j_L, j_R, j_ite, j_bd, z_ex, ↓reduceIte, if_true, if_false, kt_gI, kt_pI, kt_cv, kt_g0, kt_g1, kt_a1, kt_s1, kt_n1, kt_z1, kt_a2, kt_s2, kt_n2, kt_z2, kr_gI, kr_pI, kr_cv, kr_g0, kr_a1, kr_s1, kr_n1, kr_z1, kf_gI, kf_pI, kf_cv, kf_g0, kf_g1, kf_a1, kf_s1, kf_n1, kf_z1, kf_a2, kf_s2, kf_n2, kf_z2, kc_gI, kc_pI, kc_cv, kc_g0, kc_g1, kc_g2, kc_g3, kc_g4, kc_g5, kc_g6, kc_g7, kc_g8, kc_g9, kc_a1, kc_s1, kc_n1, kc_z1, kc_a2, kc_s2, kc_n2, kc_z2, kc_a3, kc_s3, kc_n3, kc_z3, kc_a4, kc_s4, kc_n4, kc_z4, kc_a5, kc_s5, kc_n5, kc_z5, kc_a6, kc_s6, kc_n6, kc_z6, kc_a7, kc_s7, kc_n7, kc_z7, kc_a8, kc_s8, kc_n8, kc_z8, kc_a9, kc_s9, kc_n9, kc_z9, ks_gI, ks_pI, ks_cv, ks_g0, ks_g1, ks_g2, ks_g3, ks_g4, ks_g5, ks_a1, ks_s1, ks_n1, ks_z1, ks_a2, ks_s2, ks_n2, ks_z2, ks_a3, ks_s3, ks_n3, ks_z3, ks_a4, ks_s4, ks_n4, ks_z4, ks_tr, kx_wk E, kx_fr E, kx_mk E, kx_ds E, kx_rd E, kx_dr E, kx_bn E, kx_ms E, e5, e3, e4, b1.1, h0, q4, le3_b]
theorem EN_car (E : EN M F a c ct cd st ns nt np nc) (ht : t < 3) (hb : b = a + 8 + 3 * t) (hp : p < ns) : EN M (z_up2 (z_up2 F (a + 1) p (st (6 + p) + s_mv ct st t p x)) b 4 (s_tr st t 4 - s_mv ct st t p x)) a c ct cd (s_car ct st t p x) ns nt np nc := by
  have h8 := EN_ns E
  have E' := E
  obtain ⟨⟨hL, hcy, hC, hdis⟩, ⟨rc, hok⟩, rb, r0⟩ := E'
  have fo : ∀ y, y ≠ a + 1 → y ≠ b → z_up2 (z_up2 F (a + 1) p (st (6 + p) + s_mv ct st t p x)) b 4 (s_tr st t 4 - s_mv ct st t p x) y = F y := fun y h1 h2 => by
    funext z
    rw [u2_n _ _ (Or.inl h2), u2_n _ _ (Or.inl h1)]
  refine ⟨⟨hL, hcy, hC, hdis⟩, ⟨?_, hok⟩, fun k hk => ?_, ?_⟩
  · unfold RC
    rw [fo c (by omega) (by omega), fo (c + 1) (by omega) (by omega), fo (c + 2) (by omega) (by omega), fo (c + 3) (by omega) (by omega), fo (c + 4) (by omega) (by omega), fo (c + 5) (by omega) (by omega), fo (c + 6) (by omega) (by omega), fo (c + 7) (by omega) (by omega), fo (c + 8) (by omega) (by omega), fo (c + 9) (by omega) (by omega), fo (c + 10) (by omega) (by omega), fo (c + 10 + 1) (by omega) (by omega)]
    exact rc
  · refine ⟨?_, ?_⟩
    · rw [u2_n _ _ (Or.inl (by omega))]
      unfold s_car
      rw [s_put_o _ _ (by omega)]
      by_cases hkp : k = p
      · subst hkp; rw [u2_s, s_ups]
      · rw [u2_n _ _ (Or.inr hkp), s_upn _ _ (by omega)]
        exact (rb k hk).1
    · rw [fo _ (by omega) (by omega), s_car_o (by omega)]
      exact (rb k hk).2
  · rw [fo _ (by omega) (by omega), s_car_o (by omega)]
    exact r0
theorem RK_car (hK : RK F b ct st ns t q) (hb : b = a + 8 + 3 * t) (hp : p < 8) : RK (z_up2 (z_up2 F (a + 1) p (st (6 + p) + s_mv ct st t p x)) b 4 (s_tr st t 4 - s_mv ct st t p x)) b ct (s_car ct st t p x) ns t q := by
  obtain ⟨h0, h2, h3, h4, h6, h5, h7, ho⟩ := hK
  have fo : ∀ y z, y ≠ a + 1 → (y ≠ b ∨ z ≠ 4) → z_up2 (z_up2 F (a + 1) p (st (6 + p) + s_mv ct st t p x)) b 4 (s_tr st t 4 - s_mv ct st t p x) y z = F y z := fun y z h1 h2 => by
    rw [u2_n _ _ h2, u2_n _ _ (Or.inl h1)]
  have tr : ∀ i, i ≠ 4 → s_tr (s_car ct st t p x) t i = s_tr st t i := fun i hi => s_car_tr _ _ _ hp hi
  refine ⟨t_ok_car hp h0, ?_, ?_, ?_, ?_, ?_, ?_, ?_⟩
  · rw [fo _ _ (by omega) (by omega)]; exact h2
  · rw [fo _ _ (by omega) (by omega)]; exact h3
  · rw [u2_s]
    unfold s_car
    rw [s_put_tr, if_pos rfl]
  · rw [fo _ _ (by omega) (by omega), tr _ (by decide)]; exact h6
  · intro r hr e
    rw [tr _ (by decide)] at e
    rw [fo _ _ (by omega) (by omega)]; exact h5 r hr e
  · intro e
    rw [tr _ (by decide)] at e
    rw [fo _ _ (by omega) (by omega), fo _ _ (by omega) (by omega), tr _ (by decide), tr _ (by decide)]; exact h7 e
  · intro i hi
    rw [fo _ _ (by omega) (by omega), fo _ _ (by omega) (by omega), tr _ (by omega), tr _ (by omega)]; exact ho i hi
end PC4
