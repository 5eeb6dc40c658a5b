/-! ===== PHASE 2: what the two sides answer, over the model's rows (ct: 138 of the city, st: 3277 of the state) ===== -/
def s_ab (v : Int32) : Int32 := if 0 ≤ v then v else -v
def s_wk (ct st : Nat → Int32) (k : Nat) : Int32 := ct (26 + k) - st (14 + k)
def s_fr (ct st : Nat → Int32) (k : Nat) : Int32 := s_wk ct st k - st (6 + k)
def s_mk (ct st : Nat → Int32) (k : Nat) : Int32 := s_wk ct st k * ct 5 / 100
def s_ds (ct : Nat → Int32) (a b : Nat) : Int32 := s_ab (ct (10 + a) - ct (10 + b)) + s_ab (ct (18 + a) - ct (18 + b))
def s_rd (ct : Nat → Int32) (a b : Nat) : Int32 := 1 + s_ds ct a b * ct 3 / 10
def s_dr (ct : Nat → Int32) (a b : Nat) : Int32 := 1 + s_ds ct a b * ct 4 / 10
def s_ev (ct st : Nat → Int32) (k : Nat) : Int32 := if st (6 + k) < s_mk ct st k then 0 else if s_fr ct st k < s_mk ct st k then 0 else 1
def s_bn (ct st : Nat → Int32) (k : Nat) : Int32 := if ct 6 * s_wk ct st k ≤ st (6 + k) * 100 then 0 else ct 7
section P9R
variable {M : zM} {j k n : Nat}
theorem f9_ab (v : Int32) : (p_X9_absolute v).1 M = some (.inr (s_ab v), M) := by
  unfold p_X9_absolute s_ab
  simp only [e_ite, b_ite, b_pu, j_ite, j_L, j_R, e_pu]
  split <;> rfl
theorem g9_ab {β : Type} {f : Int32 → zP β} (v : Int32) : (z_bd (p_X9_absolute v) f).1 M = (f (s_ab v)).1 M := e_run (f9_ab v)
theorem f9_wk  (h : L9 M) (hk : k < 8) : (p_X9_working 75 (nI k)).1 M = some (.inr (s_wk (z_i M 78) (z_i M 83) k), M) := by
  unfold p_X9_working s_wk
  simp (disch := first | assumption | omega | (simp only [L9_wi, L9_wI]; assumption)) only [e_pu, e_ite, oL_add, oL_addr, oL_mul, nI_add, nI_1, b_pu, b_bd, b_ite, j_L, j_R, j_ite, j_bd, z_ex, q9_gI, q9_pI, q9_cv, q9_g76, q9_g77, q9_g78, q9_g79, q9_g80, q9_g81, q9_g82, q9_g83, q9_g84, q9_g85, q9_g86, q9_g87, q9_g88, q9_g89, q9_g90, q9_g91, q9_g92, q9_g93, q9_g94, q9_a78, q9_s78, q9_a80, q9_s80, q9_a82, q9_s82, q9_a83, q9_s83, q9_l78_0, q9_t78_0, q9_l78_1, q9_t78_1, q9_l78_2, q9_t78_2, q9_l78_3, q9_t78_3, q9_l78_4, q9_t78_4, q9_l78_5, q9_t78_5, q9_l78_6, q9_t78_6, q9_l78_7, q9_t78_7, q9_l78_8, q9_t78_8, q9_l83_0, q9_t83_0, q9_l83_1, q9_t83_1, q9_l83_2, q9_t83_2, q9_l83_3, q9_t83_3, q9_l83_4, q9_t83_4, q9_l83_5, q9_t83_5, q9_l83_204, q9_t83_204, q9_l82_0, q9_t82_0]
theorem g9_wk {β : Type} {f : Int32 → zP β}  (h : L9 M) (hk : k < 8) : (z_bd (p_X9_working 75 (nI k)) f).1 M = (f (s_wk (z_i M 78) (z_i M 83) k)).1 (M) := e_run (f9_wk h hk)
theorem f9_fr  (h : L9 M) (hk : k < 8) : (p_X9_free 75 (nI k)).1 M = some (.inr (s_fr (z_i M 78) (z_i M 83) k), M) := by
  unfold p_X9_free s_fr
  simp (disch := first | assumption | omega | (simp only [L9_wi, L9_wI]; assumption)) only [e_pu, e_ite, oL_add, oL_addr, oL_mul, nI_add, nI_1, b_pu, b_bd, b_ite, j_L, j_R, j_ite, j_bd, z_ex, q9_gI, q9_pI, q9_cv, q9_g76, q9_g77, q9_g78, q9_g79, q9_g80, q9_g81, q9_g82, q9_g83, q9_g84, q9_g85, q9_g86, q9_g87, q9_g88, q9_g89, q9_g90, q9_g91, q9_g92, q9_g93, q9_g94, q9_a78, q9_s78, q9_a80, q9_s80, q9_a82, q9_s82, q9_a83, q9_s83, q9_l78_0, q9_t78_0, q9_l78_1, q9_t78_1, q9_l78_2, q9_t78_2, q9_l78_3, q9_t78_3, q9_l78_4, q9_t78_4, q9_l78_5, q9_t78_5, q9_l78_6, q9_t78_6, q9_l78_7, q9_t78_7, q9_l78_8, q9_t78_8, q9_l83_0, q9_t83_0, q9_l83_1, q9_t83_1, q9_l83_2, q9_t83_2, q9_l83_3, q9_t83_3, q9_l83_4, q9_t83_4, q9_l83_5, q9_t83_5, q9_l83_204, q9_t83_204, q9_l82_0, q9_t82_0, g9_wk]
theorem g9_fr {β : Type} {f : Int32 → zP β}  (h : L9 M) (hk : k < 8) : (z_bd (p_X9_free 75 (nI k)) f).1 M = (f (s_fr (z_i M 78) (z_i M 83) k)).1 (M) := e_run (f9_fr h hk)
theorem f9_mk  (h : L9 M) (hk : k < 8) : (p_X9_mark 75 (nI k)).1 M = some (.inr (s_mk (z_i M 78) (z_i M 83) k), M) := by
  unfold p_X9_mark s_mk
  simp (disch := first | assumption | omega | (simp only [L9_wi, L9_wI]; assumption)) only [e_pu, e_ite, oL_add, oL_addr, oL_mul, nI_add, nI_1, b_pu, b_bd, b_ite, j_L, j_R, j_ite, j_bd, z_ex, q9_gI, q9_pI, q9_cv, q9_g76, q9_g77, q9_g78, q9_g79, q9_g80, q9_g81, q9_g82, q9_g83, q9_g84, q9_g85, q9_g86, q9_g87, q9_g88, q9_g89, q9_g90, q9_g91, q9_g92, q9_g93, q9_g94, q9_a78, q9_s78, q9_a80, q9_s80, q9_a82, q9_s82, q9_a83, q9_s83, q9_l78_0, q9_t78_0, q9_l78_1, q9_t78_1, q9_l78_2, q9_t78_2, q9_l78_3, q9_t78_3, q9_l78_4, q9_t78_4, q9_l78_5, q9_t78_5, q9_l78_6, q9_t78_6, q9_l78_7, q9_t78_7, q9_l78_8, q9_t78_8, q9_l83_0, q9_t83_0, q9_l83_1, q9_t83_1, q9_l83_2, q9_t83_2, q9_l83_3, q9_t83_3, q9_l83_4, q9_t83_4, q9_l83_5, q9_t83_5, q9_l83_204, q9_t83_204, q9_l82_0, q9_t82_0, g9_wk, z_nz]
theorem g9_mk {β : Type} {f : Int32 → zP β}  (h : L9 M) (hk : k < 8) : (z_bd (p_X9_mark 75 (nI k)) f).1 M = (f (s_mk (z_i M 78) (z_i M 83) k)).1 (M) := e_run (f9_mk h hk)
theorem f9_ds  (h : L9 M) (hj : j < 8) (hk : k < 8) : (p_X9_distance 75 (nI j) (nI k)).1 M = some (.inr (s_ds (z_i M 78) j k), M) := by
  unfold p_X9_distance s_ds
  simp (disch := first | assumption | omega | (simp only [L9_wi, L9_wI]; assumption)) only [e_pu, e_ite, oL_add, oL_addr, oL_mul, nI_add, nI_1, b_pu, b_bd, b_ite, j_L, j_R, j_ite, j_bd, z_ex, q9_gI, q9_pI, q9_cv, q9_g76, q9_g77, q9_g78, q9_g79, q9_g80, q9_g81, q9_g82, q9_g83, q9_g84, q9_g85, q9_g86, q9_g87, q9_g88, q9_g89, q9_g90, q9_g91, q9_g92, q9_g93, q9_g94, q9_a78, q9_s78, q9_a80, q9_s80, q9_a82, q9_s82, q9_a83, q9_s83, q9_l78_0, q9_t78_0, q9_l78_1, q9_t78_1, q9_l78_2, q9_t78_2, q9_l78_3, q9_t78_3, q9_l78_4, q9_t78_4, q9_l78_5, q9_t78_5, q9_l78_6, q9_t78_6, q9_l78_7, q9_t78_7, q9_l78_8, q9_t78_8, q9_l83_0, q9_t83_0, q9_l83_1, q9_t83_1, q9_l83_2, q9_t83_2, q9_l83_3, q9_t83_3, q9_l83_4, q9_t83_4, q9_l83_5, q9_t83_5, q9_l83_204, q9_t83_204, q9_l82_0, q9_t82_0, g9_ab]
theorem g9_ds {β : Type} {f : Int32 → zP β}  (h : L9 M) (hj : j < 8) (hk : k < 8) : (z_bd (p_X9_distance 75 (nI j) (nI k)) f).1 M = (f (s_ds (z_i M 78) j k)).1 (M) := e_run (f9_ds h hj hk)
theorem f9_rd  (h : L9 M) (hj : j < 8) (hk : k < 8) : (p_X9_ride 75 (nI j) (nI k)).1 M = some (.inr (s_rd (z_i M 78) j k), M) := by
  unfold p_X9_ride s_rd
  simp (disch := first | assumption | omega | (simp only [L9_wi, L9_wI]; assumption)) only [e_pu, e_ite, oL_add, oL_addr, oL_mul, nI_add, nI_1, b_pu, b_bd, b_ite, j_L, j_R, j_ite, j_bd, z_ex, q9_gI, q9_pI, q9_cv, q9_g76, q9_g77, q9_g78, q9_g79, q9_g80, q9_g81, q9_g82, q9_g83, q9_g84, q9_g85, q9_g86, q9_g87, q9_g88, q9_g89, q9_g90, q9_g91, q9_g92, q9_g93, q9_g94, q9_a78, q9_s78, q9_a80, q9_s80, q9_a82, q9_s82, q9_a83, q9_s83, q9_l78_0, q9_t78_0, q9_l78_1, q9_t78_1, q9_l78_2, q9_t78_2, q9_l78_3, q9_t78_3, q9_l78_4, q9_t78_4, q9_l78_5, q9_t78_5, q9_l78_6, q9_t78_6, q9_l78_7, q9_t78_7, q9_l78_8, q9_t78_8, q9_l83_0, q9_t83_0, q9_l83_1, q9_t83_1, q9_l83_2, q9_t83_2, q9_l83_3, q9_t83_3, q9_l83_4, q9_t83_4, q9_l83_5, q9_t83_5, q9_l83_204, q9_t83_204, q9_l82_0, q9_t82_0, g9_ds]
theorem g9_rd {β : Type} {f : Int32 → zP β}  (h : L9 M) (hj : j < 8) (hk : k < 8) : (z_bd (p_X9_ride 75 (nI j) (nI k)) f).1 M = (f (s_rd (z_i M 78) j k)).1 (M) := e_run (f9_rd h hj hk)
theorem f9_dr  (h : L9 M) (hj : j < 8) (hk : k < 8) : (p_X9_drive 75 (nI j) (nI k)).1 M = some (.inr (s_dr (z_i M 78) j k), M) := by
  unfold p_X9_drive s_dr
  simp (disch := first | assumption | omega | (simp only [L9_wi, L9_wI]; assumption)) only [e_pu, e_ite, oL_add, oL_addr, oL_mul, nI_add, nI_1, b_pu, b_bd, b_ite, j_L, j_R, j_ite, j_bd, z_ex, q9_gI, q9_pI, q9_cv, q9_g76, q9_g77, q9_g78, q9_g79, q9_g80, q9_g81, q9_g82, q9_g83, q9_g84, q9_g85, q9_g86, q9_g87, q9_g88, q9_g89, q9_g90, q9_g91, q9_g92, q9_g93, q9_g94, q9_a78, q9_s78, q9_a80, q9_s80, q9_a82, q9_s82, q9_a83, q9_s83, q9_l78_0, q9_t78_0, q9_l78_1, q9_t78_1, q9_l78_2, q9_t78_2, q9_l78_3, q9_t78_3, q9_l78_4, q9_t78_4, q9_l78_5, q9_t78_5, q9_l78_6, q9_t78_6, q9_l78_7, q9_t78_7, q9_l78_8, q9_t78_8, q9_l83_0, q9_t83_0, q9_l83_1, q9_t83_1, q9_l83_2, q9_t83_2, q9_l83_3, q9_t83_3, q9_l83_4, q9_t83_4, q9_l83_5, q9_t83_5, q9_l83_204, q9_t83_204, q9_l82_0, q9_t82_0, g9_ds]
theorem g9_dr {β : Type} {f : Int32 → zP β}  (h : L9 M) (hj : j < 8) (hk : k < 8) : (z_bd (p_X9_drive 75 (nI j) (nI k)) f).1 M = (f (s_dr (z_i M 78) j k)).1 (M) := e_run (f9_dr h hj hk)
theorem f9_ev  (h : L9 M) (hk : k < 8) : (p_X9_isEven 75 (nI k)).1 M = some (.inr (s_ev (z_i M 78) (z_i M 83) k), M) := by
  unfold p_X9_isEven s_ev
  simp (disch := first | assumption | omega | (simp only [L9_wi, L9_wI]; assumption)) only [e_pu, e_ite, oL_add, oL_addr, oL_mul, nI_add, nI_1, b_pu, b_bd, b_ite, j_L, j_R, j_ite, j_bd, z_ex, q9_gI, q9_pI, q9_cv, q9_g76, q9_g77, q9_g78, q9_g79, q9_g80, q9_g81, q9_g82, q9_g83, q9_g84, q9_g85, q9_g86, q9_g87, q9_g88, q9_g89, q9_g90, q9_g91, q9_g92, q9_g93, q9_g94, q9_a78, q9_s78, q9_a80, q9_s80, q9_a82, q9_s82, q9_a83, q9_s83, q9_l78_0, q9_t78_0, q9_l78_1, q9_t78_1, q9_l78_2, q9_t78_2, q9_l78_3, q9_t78_3, q9_l78_4, q9_t78_4, q9_l78_5, q9_t78_5, q9_l78_6, q9_t78_6, q9_l78_7, q9_t78_7, q9_l78_8, q9_t78_8, q9_l83_0, q9_t83_0, q9_l83_1, q9_t83_1, q9_l83_2, q9_t83_2, q9_l83_3, q9_t83_3, q9_l83_4, q9_t83_4, q9_l83_5, q9_t83_5, q9_l83_204, q9_t83_204, q9_l82_0, q9_t82_0, g9_fr, g9_mk]
  split
  · rfl
  · split <;> rfl
theorem g9_ev {β : Type} {f : Int32 → zP β}  (h : L9 M) (hk : k < 8) : (z_bd (p_X9_isEven 75 (nI k)) f).1 M = (f (s_ev (z_i M 78) (z_i M 83) k)).1 (M) := e_run (f9_ev h hk)
theorem f9_bn  (h : L9 M) (hk : k < 8) : (p_X9_bonus 75 (nI k)).1 M = some (.inr (s_bn (z_i M 78) (z_i M 83) k), M) := by
  unfold p_X9_bonus s_bn
  simp (disch := first | assumption | omega | (simp only [L9_wi, L9_wI]; assumption)) only [e_pu, e_ite, oL_add, oL_addr, oL_mul, nI_add, nI_1, b_pu, b_bd, b_ite, j_L, j_R, j_ite, j_bd, z_ex, q9_gI, q9_pI, q9_cv, q9_g76, q9_g77, q9_g78, q9_g79, q9_g80, q9_g81, q9_g82, q9_g83, q9_g84, q9_g85, q9_g86, q9_g87, q9_g88, q9_g89, q9_g90, q9_g91, q9_g92, q9_g93, q9_g94, q9_a78, q9_s78, q9_a80, q9_s80, q9_a82, q9_s82, q9_a83, q9_s83, q9_l78_0, q9_t78_0, q9_l78_1, q9_t78_1, q9_l78_2, q9_t78_2, q9_l78_3, q9_t78_3, q9_l78_4, q9_t78_4, q9_l78_5, q9_t78_5, q9_l78_6, q9_t78_6, q9_l78_7, q9_t78_7, q9_l78_8, q9_t78_8, q9_l83_0, q9_t83_0, q9_l83_1, q9_t83_1, q9_l83_2, q9_t83_2, q9_l83_3, q9_t83_3, q9_l83_4, q9_t83_4, q9_l83_5, q9_t83_5, q9_l83_204, q9_t83_204, q9_l82_0, q9_t82_0, g9_wk]
  split <;> rfl
theorem g9_bn {β : Type} {f : Int32 → zP β}  (h : L9 M) (hk : k < 8) : (z_bd (p_X9_bonus 75 (nI k)) f).1 M = (f (s_bn (z_i M 78) (z_i M 83) k)).1 (M) := e_run (f9_bn h hk)
end P9R
