/-! ===== PHASE 2: the arguments' checks, both sides ===== -/
section PA13
variable {β : Type} {M : zM} {F : Nat → Nat → Int32} {ct cd st bf : Nat → Int32} {i j k q c sp n ns nt np nc L : Nat} {H : List (Nat → Int32)} {S : Nat → Option (Nat → Int32)} {v w x y code : Int32} {xs : Nat → Int32} {f : Unit → zP β}
/-- what a call may take from the class's part -/
theorem CI_un (h : CI k M c sp ct cd ns nt np nc st H S n bf) : L0 M ∧ z_r M 0 9 = some c ∧ LC c M ∧ ∃ T d R l, T ≤ 9999 ∧ RS M (z_i M) 41 c ct cd st ns nt np nc d R l ∧ (n_ok ct st ns nt ∧ p_ok st d) ∧ st 0 = nI T ∧ (∀ x ∈ R, T < x.1) ∧ d ≤ k + s_W ct np T := by
  obtain ⟨T, hT, d, R, l, hS, hn, h0, hg, hd⟩ := h.2.1
  exact ⟨h.1.1, h.1.2.2.2.1.1, hS.1.1.2.2.1, T, d, R, l, hT, hS, hn, h0, hg, hd⟩
theorem CI_E (h : CI k M c sp ct cd ns nt np nc st H S n bf) : EN M (z_i M) 41 c ct cd st ns nt np nc := by
  obtain ⟨_, _, _, T, d, R, l, hT, hS, _⟩ := CI_un h
  exact hS.1
theorem CI_c (h : CI k M c sp ct cd ns nt np nc st H S n bf) : c_ok ct cd ns nt np nc := (CI_E h).2.1.2
theorem k8_city {f : Nat → zP β} (h : L0 M) (hc : z_r M 0 9 = some c) : (z_bd (z_gA 8 0 9) f).1 (KI M F) = (f c).1 (KI M F) := ki_gA (k0_is0 h) hc
theorem c_st (h : CI k M c sp ct cd ns nt np nc st H S n bf) (hj : j < ns) : (z_bd (z_cv 8 0 (p_X8_checkStation 0 (nI j))) f).1 M = (f ()).1 M := by
  obtain ⟨h0, hc, hC, _⟩ := CI_un h
  have E := CI_E h
  have h8 := EN_ns E
  show (z_bd (z_cv 8 0 (p_X8_checkStation 0 (nI j))) f).1 (KI M (z_i M)) = (f ()).1 (KI M (z_i M))
  unfold p_X8_checkStation
  simp (disch := first | assumption | omega | (apply LZ_R; assumption) | (apply LZ_T <;> first | assumption | omega) | (apply LC_F; assumption)) only [e_pu, e_ite, oL_add, oL_addr, oL_mul, nI_add, nI_1, b_pu, b_bd, b_ite, j_L, j_R, j_ite, j_bd, z_ex, ↓reduceIte, if_true, if_false, k0_cv0, k8_city h0 hc, kc_gI, EN_s0 E, if_neg (nI_pos (n := j) (by omega)), if_pos (nI_lt hj (show ns < 2 ^ 31 by omega))]
theorem c_stb (h : CI k M c sp ct cd ns nt np nc st H S n bf) (hx : x < 0 ∨ nI ns ≤ x) : (z_bd (z_cv 8 0 (p_X8_checkStation 0 x)) f).1 M = some (.inl "java/lang/IndexOutOfBoundsException", z_mk M 99 0 6) := by
  obtain ⟨h0, hc, hC, _⟩ := CI_un h
  have E := CI_E h
  have h8 := EN_ns E
  show (z_bd (z_cv 8 0 (p_X8_checkStation 0 x)) f).1 (KI M (z_i M)) = some (.inl "java/lang/IndexOutOfBoundsException", z_mk (KI M (z_i M)) 99 0 6)
  unfold p_X8_checkStation
  by_cases h1 : x < 0
  · simp (disch := first | assumption | omega | (apply LZ_R; assumption) | (apply LZ_T <;> first | assumption | omega) | (apply LC_F; assumption)) only [k0_cv0, if_pos h1]
    rfl
  · have h2 : ¬ x < nI ns := fun q => by
      have := hx.resolve_left h1
      rw [i_le] at this
      rw [i_lt] at q
      omega
    simp (disch := first | assumption | omega | (apply LZ_R; assumption) | (apply LZ_T <;> first | assumption | omega) | (apply LC_F; assumption)) only [e_pu, e_ite, oL_add, oL_addr, oL_mul, nI_add, nI_1, b_pu, b_bd, b_ite, j_L, j_R, j_ite, j_bd, z_ex, ↓reduceIte, if_true, if_false, k0_cv0, k8_city h0 hc, kc_gI, EN_s0 E, if_neg h1, if_neg h2]
    rfl
theorem c_tk (h : CI k M c sp ct cd ns nt np nc st H S n bf) (hj : j < nt) : (z_bd (z_cv 8 0 (p_X8_checkTruck 0 (nI j))) f).1 M = (f ()).1 M := by
  obtain ⟨h0, hc, hC, _⟩ := CI_un h
  have E := CI_E h
  have hnt := (CI_c h).1.2.2.2.1
  have e1 : z_i M c 11 = nI nt := E.2.1.1.1.2.1.trans (CI_c h).1.2.2.1
  show (z_bd (z_cv 8 0 (p_X8_checkTruck 0 (nI j))) f).1 (KI M (z_i M)) = (f ()).1 (KI M (z_i M))
  unfold p_X8_checkTruck
  simp (disch := first | assumption | omega | (apply LZ_R; assumption) | (apply LZ_T <;> first | assumption | omega) | (apply LC_F; assumption)) only [e_pu, e_ite, oL_add, oL_addr, oL_mul, nI_add, nI_1, b_pu, b_bd, b_ite, j_L, j_R, j_ite, j_bd, z_ex, ↓reduceIte, if_true, if_false, k0_cv0, k8_city h0 hc, kc_gI, e1, if_neg (nI_pos (n := j) (by omega)), if_pos (nI_lt hj (show nt < 2 ^ 31 by omega))]
theorem c_tkb (h : CI k M c sp ct cd ns nt np nc st H S n bf) (hx : x < 0 ∨ nI nt ≤ x) : (z_bd (z_cv 8 0 (p_X8_checkTruck 0 x)) f).1 M = some (.inl "java/lang/IndexOutOfBoundsException", z_mk M 99 0 6) := by
  obtain ⟨h0, hc, hC, _⟩ := CI_un h
  have E := CI_E h
  have hnt := (CI_c h).1.2.2.2.1
  have e1 : z_i M c 11 = nI nt := E.2.1.1.1.2.1.trans (CI_c h).1.2.2.1
  show (z_bd (z_cv 8 0 (p_X8_checkTruck 0 x)) f).1 (KI M (z_i M)) = some (.inl "java/lang/IndexOutOfBoundsException", z_mk (KI M (z_i M)) 99 0 6)
  unfold p_X8_checkTruck
  by_cases h1 : x < 0
  · simp (disch := first | assumption | omega | (apply LZ_R; assumption) | (apply LZ_T <;> first | assumption | omega) | (apply LC_F; assumption)) only [k0_cv0, if_pos h1]
    rfl
  · have h2 : ¬ x < nI nt := fun q => by
      have := hx.resolve_left h1
      rw [i_le] at this
      rw [i_lt] at q
      omega
    simp (disch := first | assumption | omega | (apply LZ_R; assumption) | (apply LZ_T <;> first | assumption | omega) | (apply LC_F; assumption)) only [e_pu, e_ite, oL_add, oL_addr, oL_mul, nI_add, nI_1, b_pu, b_bd, b_ite, j_L, j_R, j_ite, j_bd, z_ex, ↓reduceIte, if_true, if_false, k0_cv0, k8_city h0 hc, kc_gI, e1, if_neg h1, if_neg h2]
    rfl
theorem c_rg {a b : Int32} (h : ¬ x < a) (h2 : x ≤ b) : (z_bd (p_X8_checkRange x a b) f).1 M = (f ()).1 M := by
  unfold p_X8_checkRange
  rw [if_neg h, if_pos h2]
  rfl
theorem c_rgb {a b : Int32} (h : x < a ∨ b < x) : (z_bd (p_X8_checkRange x a b) f).1 M = some (.inl "java/lang/IllegalArgumentException", z_mk M 99 0 6) := by
  unfold p_X8_checkRange
  by_cases h1 : x < a
  · rw [if_pos h1]
    rfl
  · rw [if_neg h1, if_neg (fun q => by
      have := h.resolve_left h1
      rw [i_le] at q
      rw [i_lt] at this
      omega)]
    rfl
/-! the model -/
theorem MI_0 (h : MI M ct cd st H S n bf) : L9 M ∧ z_i M 78 = ct ∧ z_i M 80 = cd ∧ z_i M 83 = st := ⟨h.1, h.2.1⟩
theorem m_st {Q Q2 : zP Int32} (h : MI M ct cd st H S n bf) (hc : c_ok ct cd ns nt np nc) (hj : j < ns) : (z_bd (z_pI 9 75 0 0) (fun _ => z_bd (z_cv 9 75 (p_X9_isStation 75 (nI j))) (fun r1 => if r1 = 0 then Q2 else Q))).1 M = Q.1 (KI M (z_up2 (z_i M) 75 0 0)) := by
  obtain ⟨h9, e78, e80, e83⟩ := MI_0 h
  have hs : z_up2 (z_i M) 75 0 0 78 0 = nI ns := by rw [u2_n _ _ (by omega), e78]; exact hc.1.1
  have hns := hc.1.2.1
  show (z_bd (z_pI 9 75 0 0) _).1 (KI M (z_i M)) = _
  simp (disch := first | assumption | omega) only [kn_pI, kn_cv, kn_st (j := j) h9 hs hns hj, if_neg (show ¬ (1 : Int32) = 0 by decide)]
theorem m_stb {Q : zP Int32} (h : MI M ct cd st H S n bf) (hc : c_ok ct cd ns nt np nc) (hx : x < 0 ∨ nI ns ≤ x) : mres (z_bd (z_pI 9 75 0 0) (fun _ => z_bd (z_cv 9 75 (p_X9_isStation 75 x)) (fun r1 => if r1 = 0 then (z_bd (z_cv 9 75 (p_X9_fail 75 1)) (fun r2 => (z_pu r2))) else Q))) M 0 1 ct cd st H S n bf := by
  obtain ⟨h9, e78, e80, e83⟩ := MI_0 h
  have hs : z_up2 (z_i M) 75 0 0 78 0 = nI ns := by rw [u2_n _ _ (by omega), e78]; exact hc.1.1
  have hns := hc.1.2.1
  refine mres_th2 (w := 0) h ?_
  show (z_bd (z_pI 9 75 0 0) _).1 (KI M (z_i M)) = _
  simp (disch := first | assumption | omega) only [kn_pI, kn_cv, kn_stb h9 hs hns hx, if_true, kn_fail, e_pu]
theorem m_ss {Q Q2 : zP Int32} (h : MI M ct cd st H S n bf) (hc : c_ok ct cd ns nt np nc) (hj : j < ns) (hq : q < ns) : (z_bd (z_pI 9 75 0 0) (fun _ => z_bd (z_cv 9 75 (p_X9_areStations 75 (nI j) (nI q))) (fun r1 => if r1 = 0 then Q2 else Q))).1 M = Q.1 (KI M (z_up2 (z_i M) 75 0 0)) := by
  obtain ⟨h9, e78, e80, e83⟩ := MI_0 h
  have hs : z_up2 (z_i M) 75 0 0 78 0 = nI ns := by rw [u2_n _ _ (by omega), e78]; exact hc.1.1
  have hns := hc.1.2.1
  show (z_bd (z_pI 9 75 0 0) _).1 (KI M (z_i M)) = _
  simp (disch := first | assumption | omega) only [kn_pI, kn_cv, kn_ss (j := j) (k := q) h9 hs hns hj hq, if_neg (show ¬ (1 : Int32) = 0 by decide)]
theorem m_ssb {Q : zP Int32} (h : MI M ct cd st H S n bf) (hc : c_ok ct cd ns nt np nc) (hx : (x < 0 ∨ nI ns ≤ x) ∨ (y < 0 ∨ nI ns ≤ y)) : mres (z_bd (z_pI 9 75 0 0) (fun _ => z_bd (z_cv 9 75 (p_X9_areStations 75 x y)) (fun r1 => if r1 = 0 then (z_bd (z_cv 9 75 (p_X9_fail 75 1)) (fun r2 => (z_pu r2))) else Q))) M 0 1 ct cd st H S n bf := by
  obtain ⟨h9, e78, e80, e83⟩ := MI_0 h
  have hs : z_up2 (z_i M) 75 0 0 78 0 = nI ns := by rw [u2_n _ _ (by omega), e78]; exact hc.1.1
  have hns := hc.1.2.1
  refine mres_th2 (w := 0) h ?_
  show (z_bd (z_pI 9 75 0 0) _).1 (KI M (z_i M)) = _
  simp (disch := first | assumption | omega) only [kn_pI, kn_cv, kn_ssb h9 hs hns hx, if_true, kn_fail, e_pu]
theorem m_tk {Q Q2 : zP Int32} (h : MI M ct cd st H S n bf) (hc : c_ok ct cd ns nt np nc) (hj : j < nt) : (z_bd (z_pI 9 75 0 0) (fun _ => z_bd (z_cv 9 75 (p_X9_isTruck 75 (nI j))) (fun r1 => if r1 = 0 then Q2 else Q))).1 M = Q.1 (KI M (z_up2 (z_i M) 75 0 0)) := by
  obtain ⟨h9, e78, e80, e83⟩ := MI_0 h
  have hs : z_up2 (z_i M) 75 0 0 78 1 = nI nt := by rw [u2_n _ _ (by omega), e78]; exact hc.1.2.2.1
  have hnt := hc.1.2.2.2.1
  show (z_bd (z_pI 9 75 0 0) _).1 (KI M (z_i M)) = _
  simp (disch := first | assumption | omega) only [kn_pI, kn_cv, kn_tk (j := j) h9 hs hnt hj, if_neg (show ¬ (1 : Int32) = 0 by decide)]
theorem m_tkb {Q : zP Int32} (h : MI M ct cd st H S n bf) (hc : c_ok ct cd ns nt np nc) (hx : x < 0 ∨ nI nt ≤ x) : mres (z_bd (z_pI 9 75 0 0) (fun _ => z_bd (z_cv 9 75 (p_X9_isTruck 75 x)) (fun r1 => if r1 = 0 then (z_bd (z_cv 9 75 (p_X9_fail 75 1)) (fun r2 => (z_pu r2))) else Q))) M 0 1 ct cd st H S n bf := by
  obtain ⟨h9, e78, e80, e83⟩ := MI_0 h
  have hs : z_up2 (z_i M) 75 0 0 78 1 = nI nt := by rw [u2_n _ _ (by omega), e78]; exact hc.1.2.2.1
  have hnt := hc.1.2.2.2.1
  refine mres_th2 (w := 0) h ?_
  show (z_bd (z_pI 9 75 0 0) _).1 (KI M (z_i M)) = _
  simp (disch := first | assumption | omega) only [kn_pI, kn_cv, kn_tkb h9 hs hnt hx, if_true, kn_fail, e_pu]
/-- the rows behind 'thrown = 0' -/
theorem F0_78 (v : Int32) : z_up2 F 75 0 v 78 = F 78 := u2_row _ _ (by omega)
theorem F0_80 (v : Int32) : z_up2 F 75 0 v 80 = F 80 := u2_row _ _ (by omega)
theorem F0_82 (v : Int32) : z_up2 F 75 0 v 82 = F 82 := u2_row _ _ (by omega)
theorem F0_83 (v : Int32) : z_up2 F 75 0 v 83 = F 83 := u2_row _ _ (by omega)
end PA13
