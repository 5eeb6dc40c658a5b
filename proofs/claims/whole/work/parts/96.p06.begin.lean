/-! ===== PHASE 2: State.begin ===== -/
def f_fl (g : Nat → Int32) (n : Nat) : Nat → Int32 := fun i => if i < n then 0 else g i
def f_b0 (F : Nat → Nat → Int32) (a c : Nat) : Nat → Nat → Int32 := z_up1 (z_up1 (z_up1 (z_up1 (z_up2 (z_up2 (z_up2 (z_up2 (z_up2 (z_up2 (z_up2 F a 7 0) a 8 0) a 9 0) a 10 0) a 11 0) a 12 0) (a + 6) 1 0) (a + 1) (va_cpy (F (c + 4)) (F (a + 1)) 0 0 8)) (a + 2) (f_fl (F (a + 2)) 8)) (a + 3) (f_fl (F (a + 3)) 64)) (a + 4) (f_fl (F (a + 4)) 64)
def f_tb (F : Nat → Nat → Int32) (x : Nat) (h m : Int32) : Nat → Nat → Int32 := z_up2 (z_up2 (z_up2 (z_up2 (z_up2 (z_up2 F x 2 0) x 3 m) x 4 0) x 5 h) x 6 (-1)) x 7 0
def f_tbs (G : Nat → Nat → Int32) (a c : Nat) : Nat → Nat → Nat → Int32
  | 0 => G
  | t + 1 => f_tb (f_tbs G a c t) (a + 8 + 3 * t) (G (c + 5) t) (G (c + 6) t)
/-- the model's state as a city begins -/
def s_b0 (ct : Nat → Int32) (ns nt : Nat) : Nat → Int32 := fun j => if 6 ≤ j ∧ j < 6 + ns then ct (34 + (j - 6)) else if 22 ≤ j ∧ j < 22 + 18 * nt then (if (j - 22) % 18 = 0 then ct (42 + (j - 22) / 18) else if (j - 22) % 18 = 1 ∨ (j - 22) % 18 = 2 then -1 else 0) else 0
section PA6
variable {β : Type} {M M' : zM} {F F' G : Nat → Nat → Int32} {ct cd st st' : Nat → Int32} {a b c d k n ns nt np nc kk T r x y : Nat} {v : Option Nat}
theorem s_b0_b (hns : ns ≤ 8) (hk : k < ns) : s_b0 ct ns nt (6 + k) = ct (34 + k) := by
  unfold s_b0
  rw [if_pos (by omega)]
  congr 2
  omega
theorem s_b0_z {j : Nat} (h1 : j < 6 ∨ 14 ≤ j) (h2 : j < 22 ∨ 76 ≤ j) (hns : ns ≤ 8) (hnt : nt ≤ 3) : s_b0 ct ns nt j = 0 := by
  unfold s_b0
  rw [if_neg (by omega), if_neg (by omega)]
theorem s_b0_t {t q : Nat} (hns : ns ≤ 8) (ht : t < nt) (hq : q < 18) : s_tr (s_b0 ct ns nt) t q = if q = 0 then ct (42 + t) else if q = 1 ∨ q = 2 then -1 else 0 := by
  unfold s_tr s_b0
  have e1 : (22 + 18 * t + q - 22) % 18 = q := by omega
  have e2 : (22 + 18 * t + q - 22) / 18 = t := by omega
  rw [if_neg (by omega), if_pos (by omega), e1, e2]
theorem kx_fill {f : Unit → zP β} (h : z_is 11 a M ∧ z_ln M a = n) (hn : n < 2 ^ 31) : (z_bd (p_J7_fill_53178 a 0) f).1 (KI M F) = (f ()).1 (KI M (z_up1 F a (f_fl (F a) n))) := by
  refine e_run ?_
  unfold p_J7_fill_53178
  rw [ki_al h]
  have e0 : z_up1 F a (f_fl (F a) 0) = F := by
    funext y j
    unfold z_up1 f_fl
    split
    · rename_i e
      show (if j < 0 then 0 else F a j) = F y j
      rw [if_neg (Nat.not_lt_zero _), e]
    · rfl
  have h0 : KI M F = KI M (z_up1 F a (f_fl (F a) 0)) := by rw [e0]
  rw [h0]
  refine lp_cnt n (fun t => nI t) (fun t => KI M (z_up1 F a (f_fl (F a) t))) () _ ?_ ?_
  · intro t ht
    have h1 : ¬ nI n ≤ nI t := nI_ge ht hn
    rw [if_neg h1]
    refine (ki_sI h ht hn).trans ?_
    rw [nI_1]
    refine congrArg (fun G => some (Sum.inr (Sum.inl (nI (t + 1))), KI M G)) ?_
    funext y j
    by_cases e : y = a
    · subst e
      rw [u1_s]
      by_cases e2 : j = t
      · subst e2
        rw [u2_s]
        exact (if_pos (Nat.lt_succ_self _)).symm
      · rw [u2_n _ _ (Or.inr e2), u1_s]
        unfold f_fl
        by_cases e3 : j < t
        · rw [if_pos e3, if_pos (by omega)]
        · rw [if_neg e3, if_neg (by omega)]
    · rw [u2_n _ _ (Or.inl e), u1_n _ _ e, u1_n _ _ e]
  · rw [if_pos (Int32.le_refl _)]
    rfl
theorem kt_begin {f : Unit → zP β} (h : LT x M) {p q : Int32} : (z_bd (p_X7_begin x p q) f).1 (KI M F) = (f ()).1 (KI M (f_tb F x p q)) := by
  unfold p_X7_begin f_tb
  simp (disch := first | assumption | omega | (apply LZ_R; assumption) | (apply LZ_T <;> first | assumption | omega) | (apply LC_F; assumption)) only [e_pu, e_ite, oL_add, oL_addr, oL_mul, nI_add, nI_1, b_pu, b_bd, b_ite, j_L, j_R, j_ite, j_bd, z_ex, ↓reduceIte, if_true, if_false, kt_gI, kt_pI, kt_cv, kt_g0, kt_g1, kt_a1, kt_s1, kt_n1, kt_z1, kt_a2, kt_s2, kt_n2, kt_z2, kr_gI, kr_pI, kr_cv, kr_g0, kr_a1, kr_s1, kr_n1, kr_z1, kf_gI, kf_pI, kf_cv, kf_g0, kf_g1, kf_a1, kf_s1, kf_n1, kf_z1, kf_a2, kf_s2, kf_n2, kf_z2, kc_gI, kc_pI, kc_cv, kc_g0, kc_g1, kc_g2, kc_g3, kc_g4, kc_g5, kc_g6, kc_g7, kc_g8, kc_g9, kc_a1, kc_s1, kc_n1, kc_z1, kc_a2, kc_s2, kc_n2, kc_z2, kc_a3, kc_s3, kc_n3, kc_z3, kc_a4, kc_s4, kc_n4, kc_z4, kc_a5, kc_s5, kc_n5, kc_z5, kc_a6, kc_s6, kc_n6, kc_z6, kc_a7, kc_s7, kc_n7, kc_z7, kc_a8, kc_s8, kc_n8, kc_z8, kc_a9, kc_s9, kc_n9, kc_z9, ks_gI, ks_pI, ks_cv, ks_g0, ks_g1, ks_g2, ks_g3, ks_g4, ks_g5, ks_a1, ks_s1, ks_n1, ks_z1, ks_a2, ks_s2, ks_n2, ks_z2, ks_a3, ks_s3, ks_n3, ks_z3, ks_a4, ks_s4, ks_n4, ks_z4, ks_tr]
theorem f_tb_o {z : Nat} {p q : Int32} (h0 : z ≠ x) : f_tb F x p q z = F z := by
  unfold f_tb
  simp (disch := omega) only [u2_row]
theorem f_tbs_o {z : Nat} : ∀ t, (∀ i, i < t → z ≠ a + 8 + 3 * i) → f_tbs G a c t z = G z
  | 0, _ => rfl
  | t + 1, h => by
    rw [f_tbs, f_tb_o (h t (by omega))]
    exact f_tbs_o t (fun i hi => h i (by omega))
theorem f_tbs_v : ∀ t i, i < t → f_tbs G a c t (a + 8 + 3 * i) 2 = 0 ∧ f_tbs G a c t (a + 8 + 3 * i) 3 = G (c + 6) i ∧ f_tbs G a c t (a + 8 + 3 * i) 4 = 0 ∧ f_tbs G a c t (a + 8 + 3 * i) 5 = G (c + 5) i ∧ f_tbs G a c t (a + 8 + 3 * i) 6 = -1 ∧ f_tbs G a c t (a + 8 + 3 * i) 7 = 0
  | 0, i, hi => absurd hi (Nat.not_lt_zero _)
  | t + 1, i, hi => by
    rw [f_tbs]
    by_cases e : i = t
    · subst e
      unfold f_tb
      refine ⟨?_, ?_, ?_, ?_, ?_, ?_⟩ <;> simp (disch := omega) only [u2_s, u2_n]
    · rw [f_tb_o (by omega)]
      exact f_tbs_v t i (by omega)
theorem f_b0_o {z : Nat} (h0 : z ≠ a) (h1 : z ≠ a + 1) (h2 : z ≠ a + 2) (h3 : z ≠ a + 3) (h4 : z ≠ a + 4) (h5 : z ≠ a + 6) : f_b0 F a c z = F z := by
  unfold f_b0
  simp (disch := omega) only [u2_row, u1_n]
theorem kx_beginF (hL : LZ a M) (hC : LC c M) (hdis : a + 17 ≤ c ∨ c + 13 ≤ a) : (p_X5_begin a c).1 (KI M F) = some (.inr (), KI (z_wr M a 6 (some c)) (f_tbs (f_b0 F a c) a c 3)) := by
  have hLa : LZ a (z_wr M a 6 (some c)) := LZ_wr hL
  have hCa : LC c (z_wr M a 6 (some c)) := LC_wr hC (by omega)
  have hRa := LZ_R hLa
  have hcy : z_r (z_wr M a 6 (some c)) a 6 = some c := r_wrs
  have hf2 : ∀ (G : Nat → Nat → Int32) (f : Unit → zP Unit), (z_bd (p_J7_fill_53178 (a + 2) 0) f).1 (KI (z_wr M a 6 (some c)) G) = (f ()).1 (KI (z_wr M a 6 (some c)) (z_up1 G (a + 2) (f_fl (G (a + 2)) 8))) := fun G f => kx_fill hLa.2.1.2.1 (by decide)
  have hf3 : ∀ (G : Nat → Nat → Int32) (f : Unit → zP Unit), (z_bd (p_J7_fill_53178 (a + 3) 0) f).1 (KI (z_wr M a 6 (some c)) G) = (f ()).1 (KI (z_wr M a 6 (some c)) (z_up1 G (a + 3) (f_fl (G (a + 3)) 64))) := fun G f => kx_fill hLa.2.1.2.2.1 (by decide)
  have hf4 : ∀ (G : Nat → Nat → Int32) (f : Unit → zP Unit), (z_bd (p_J7_fill_53178 (a + 4) 0) f).1 (KI (z_wr M a 6 (some c)) G) = (f ()).1 (KI (z_wr M a 6 (some c)) (z_up1 G (a + 4) (f_fl (G (a + 4)) 64))) := fun G f => kx_fill hLa.2.1.2.2.2.1 (by decide)
  have hcp : ∀ (G : Nat → Nat → Int32) (f : Unit → zP Unit), (z_bd (z_cp (c + 4) 0 (a + 1) 0 8) f).1 (KI (z_wr M a 6 (some c)) G) = (f ()).1 (KI (z_wr M a 6 (some c)) (z_up1 G (a + 1) (va_cpy (G (c + 4)) (G (a + 1)) 0 0 8))) := fun G f => ki_cp (sp := 0) (dp := 0) (m := 8) hCa.2.1.2.2.2.1 hLa.2.1.1 (by decide) (by decide) (by decide) (by decide)
  unfold p_X5_begin
  have hp : ∀ f : Unit → zP Unit, (z_bd (z_pR 5 a 6 (some c)) f).1 (KI M F) = (f ()).1 (KI (z_wr M a 6 (some c)) F) := fun f => ks_pR hL
  rw [hp]
  simp (disch := first | assumption | omega | (apply LZ_R; assumption) | (apply LZ_T <;> first | assumption | omega) | (apply LC_F; assumption)) only [e_pu, e_ite, oL_add, oL_addr, oL_mul, nI_add, nI_1, b_pu, b_bd, b_ite, j_L, j_R, j_ite, j_bd, z_ex, ↓reduceIte, if_true, if_false, kt_gI, kt_pI, kt_cv, kt_g0, kt_g1, kt_a1, kt_s1, kt_n1, kt_z1, kt_a2, kt_s2, kt_n2, kt_z2, kr_gI, kr_pI, kr_cv, kr_g0, kr_a1, kr_s1, kr_n1, kr_z1, kf_gI, kf_pI, kf_cv, kf_g0, kf_g1, kf_a1, kf_s1, kf_n1, kf_z1, kf_a2, kf_s2, kf_n2, kf_z2, kc_gI, kc_pI, kc_cv, kc_g0, kc_g1, kc_g2, kc_g3, kc_g4, kc_g5, kc_g6, kc_g7, kc_g8, kc_g9, kc_a1, kc_s1, kc_n1, kc_z1, kc_a2, kc_s2, kc_n2, kc_z2, kc_a3, kc_s3, kc_n3, kc_z3, kc_a4, kc_s4, kc_n4, kc_z4, kc_a5, kc_s5, kc_n5, kc_z5, kc_a6, kc_s6, kc_n6, kc_z6, kc_a7, kc_s7, kc_n7, kc_z7, kc_a8, kc_s8, kc_n8, kc_z8, kc_a9, kc_s9, kc_n9, kc_z9, ks_gI, ks_pI, ks_cv, ks_g0, ks_g1, ks_g2, ks_g3, ks_g4, ks_g5, ks_a1, ks_s1, ks_n1, ks_z1, ks_a2, ks_s2, ks_n2, ks_z2, ks_a3, ks_s3, ks_n3, ks_z3, ks_a4, ks_s4, ks_n4, ks_z4, ks_tr, ks_city hcy, hf2, hf3, hf4, hcp, u2_row, u1_n]
  refine lp_cnt 3 (fun t => nI t) (fun t => KI (z_wr M a 6 (some c)) (f_tbs (f_b0 F a c) a c t)) _ _ ?_ ?_
  · intro t ht
    have h3 : ¬ (3 : Int32) ≤ nI t := nI_ge (b := 3) ht (by decide)
    have hTa := LZ_T hLa ht
    have o5 : f_tbs (f_b0 F a c) a c t (c + 5) = f_b0 F a c (c + 5) := f_tbs_o t (fun i hi => by omega)
    have o6 : f_tbs (f_b0 F a c) a c t (c + 6) = f_b0 F a c (c + 6) := f_tbs_o t (fun i hi => by omega)
    simp (disch := first | assumption | omega | (apply LZ_R; assumption) | (apply LZ_T <;> first | assumption | omega) | (apply LC_F; assumption)) only [e_pu, e_ite, oL_add, oL_addr, oL_mul, nI_add, nI_1, b_pu, b_bd, b_ite, j_L, j_R, j_ite, j_bd, z_ex, ↓reduceIte, if_true, if_false, kt_gI, kt_pI, kt_cv, kt_g0, kt_g1, kt_a1, kt_s1, kt_n1, kt_z1, kt_a2, kt_s2, kt_n2, kt_z2, kr_gI, kr_pI, kr_cv, kr_g0, kr_a1, kr_s1, kr_n1, kr_z1, kf_gI, kf_pI, kf_cv, kf_g0, kf_g1, kf_a1, kf_s1, kf_n1, kf_z1, kf_a2, kf_s2, kf_n2, kf_z2, kc_gI, kc_pI, kc_cv, kc_g0, kc_g1, kc_g2, kc_g3, kc_g4, kc_g5, kc_g6, kc_g7, kc_g8, kc_g9, kc_a1, kc_s1, kc_n1, kc_z1, kc_a2, kc_s2, kc_n2, kc_z2, kc_a3, kc_s3, kc_n3, kc_z3, kc_a4, kc_s4, kc_n4, kc_z4, kc_a5, kc_s5, kc_n5, kc_z5, kc_a6, kc_s6, kc_n6, kc_z6, kc_a7, kc_s7, kc_n7, kc_z7, kc_a8, kc_s8, kc_n8, kc_z8, kc_a9, kc_s9, kc_n9, kc_z9, ks_gI, ks_pI, ks_cv, ks_g0, ks_g1, ks_g2, ks_g3, ks_g4, ks_g5, ks_a1, ks_s1, ks_n1, ks_z1, ks_a2, ks_s2, ks_n2, ks_z2, ks_a3, ks_s3, ks_n3, ks_z3, ks_a4, ks_s4, ks_n4, ks_z4, ks_tr, ks_city hcy, h3, kt_begin hTa, o5, o6, f_tbs]
  · rfl
theorem kx_begin (hL : LZ a M) (hC : LC c M) (hdis : a + 17 ≤ c ∨ c + 13 ≤ a) (hR : RC F c ct cd ns nt np nc) (hc : c_ok ct cd ns nt np nc) : ∃ F', (p_X5_begin a c).1 (KI M F) = some (.inr (), KI (z_wr M a 6 (some c)) F') ∧ AV (z_wr M a 6 (some c)) F' a c ct cd (s_b0 ct ns nt) ns nt np nc kk 0 ∧ ∀ y, ¬ (a ≤ y ∧ y < a + 17) → F' y = F y := by
  have hns := hc.1.2.1
  have hnt := hc.1.2.2.2.1
  have ho : ∀ y, ¬ (a ≤ y ∧ y < a + 17) → f_tbs (f_b0 F a c) a c 3 y = F y := fun y hy => by
    rw [f_tbs_o 3 (fun i hi => by omega), f_b0_o (by omega) (by omega) (by omega) (by omega) (by omega) (by omega)]
  have hz : ∀ j, (j < 6 ∨ 14 ≤ j) → (j < 22 ∨ 76 ≤ j) → s_b0 ct ns nt j = 0 := fun j h1 h2 => s_b0_z h1 h2 hns hnt
  have hfa : ∀ k, 7 ≤ k → k ≤ 12 → f_tbs (f_b0 F a c) a c 3 a k = 0 := fun k h1 h2 => by
    rw [f_tbs_o 3 (fun i hi => by omega)]
    obtain rfl | rfl | rfl | rfl | rfl | rfl : k = 7 ∨ k = 8 ∨ k = 9 ∨ k = 10 ∨ k = 11 ∨ k = 12 := by omega
    all_goals
      unfold f_b0
      simp (disch := omega) only [u2_s, u2_n, u1_n]
  refine ⟨_, kx_beginF hL hC hdis, ⟨0, [], [], ⟨⟨⟨LZ_wr hL, r_wrs, LC_wr hC (by omega), hdis⟩, ⟨?_, hc⟩, fun k hk => ⟨?_, ?_⟩, ?_⟩, ⟨?_, ?_, ?_, ?_, ?_⟩, fun p hp => ⟨?_, fun h => ?_⟩, fun t ht => ?_, ⟨?_, ?_, ?_, by decide⟩, fun k x hx => ?_, ⟨fun i x hx => ?_, List.Perm.nil, List.Pairwise.nil⟩, List.Pairwise.nil, fun x hx => ?_⟩, ⟨⟨fun k hk => ?_, fun t ht => ?_, fun t ht q hq h5 => ?_⟩, fun p hp => ⟨⟨0, by omega, hz (76 + p) (by omega) (by omega)⟩, fun h => absurd (hz (76 + p) (by omega) (by omega)) h⟩⟩, hz 0 (by omega) (by omega), fun x hx => ?_, Nat.zero_le _⟩, ho⟩
  · unfold RC
    rw [ho c (by omega), ho (c + 1) (by omega), ho (c + 2) (by omega), ho (c + 3) (by omega), ho (c + 4) (by omega), ho (c + 5) (by omega), ho (c + 6) (by omega), ho (c + 7) (by omega), ho (c + 8) (by omega), ho (c + 9) (by omega), ho (c + 10) (by omega), ho (c + 10 + 1) (by omega)]
    exact hR
  · rw [f_tbs_o 3 (fun i hi => by omega), s_b0_b hns hk]
    unfold f_b0
    rw [u1_n _ _ (by omega), u1_n _ _ (by omega), u1_n _ _ (by omega), u1_s, pk_cpy_in (by omega) (by omega)]
    rw [show 0 + (k - 0) = k by omega]
    exact (hR.2.1 k hk).2.2.2
  · rw [f_tbs_o 3 (fun i hi => by omega), hz _ (by omega) (by omega)]
    unfold f_b0
    rw [u1_n _ _ (by omega), u1_n _ _ (by omega), u1_s]
    exact if_pos (by omega)
  · rw [hfa 7 (by omega) (by omega), hz _ (by omega) (by omega)]
  · rw [hfa 8 (by omega) (by omega), hz _ (by omega) (by omega)]
  · rw [hfa 9 (by omega) (by omega), hz _ (by omega) (by omega)]
  · rw [hfa 10 (by omega) (by omega), hz _ (by omega) (by omega)]
  · rw [hfa 11 (by omega) (by omega), hz _ (by omega) (by omega)]
  · rw [hfa 12 (by omega) (by omega), hz _ (by omega) (by omega)]
  · rw [f_tbs_o 3 (fun i hi => by omega), hz _ (by omega) (by omega)]
    unfold f_b0
    rw [u1_n _ _ (by omega), u1_s]
    exact if_pos (by omega)
  · exact absurd (hz (76 + p) (by omega) (by omega)) h
  · obtain ⟨v2, v3, v4, v5, v6, v7⟩ := f_tbs_v (G := f_b0 F a c) (a := a) (c := c) 3 t (by omega)
    obtain ⟨h, m, hh, hm1, hm2, eh, em⟩ := hc.2.2.2.2.2 t ht
    have g5 : f_b0 F a c (c + 5) t = ct (42 + t) := by rw [f_b0_o (by omega) (by omega) (by omega) (by omega) (by omega) (by omega)]; exact (hR.2.2.1 t ht).1
    have g6 : f_b0 F a c (c + 6) t = ct (45 + t) := by rw [f_b0_o (by omega) (by omega) (by omega) (by omega) (by omega) (by omega)]; exact (hR.2.2.1 t ht).2
    have hst := fun q hq => s_b0_t (ct := ct) (t := t) (q := q) hns ht hq
    have p0 : s_tr (s_b0 ct ns nt) t 0 = nI h := by rw [hst 0 (by omega)]; exact eh
    refine ⟨0, ⟨Or.inl ⟨h, hh, p0, ?_, ?_⟩, by omega, ?_, fun i hi => absurd hi (Nat.not_lt_zero _)⟩, v2, v3.trans g6, ?_, ?_, fun p hp e => ?_, fun e => ?_, fun i hi => absurd hi (Nat.not_lt_zero _)⟩
    · rw [hst 1 (by omega)]; rfl
    · rw [hst 2 (by omega)]; rfl
    · rw [hst 5 (by omega)]; rfl
    · rw [v4, hst 4 (by omega)]; rfl
    · rw [v6, hst 2 (by omega)]; rfl
    · rw [v5, g5, eh]; exact p0.symm.trans e
    · rw [p0] at e
      exact absurd e (nI_nm1 (by omega))
  · rw [f_tbs_o 3 (fun i hi => by omega)]
    unfold f_b0
    rw [u1_n _ _ (by omega), u1_n _ _ (by omega), u1_n _ _ (by omega), u1_n _ _ (by omega), u2_s]
    rfl
  · exact hz 204 (by omega) (by omega)
  · exact hz 3 (by omega) (by omega)
  · cases hx
  · cases hx
  · cases hx
  · obtain ⟨_, _, e, b, _, _, h1, h2, h3, _, _, e1, e2⟩ := hc.2.2.2.1 k hk
    exact ⟨b, 0, e, by rw [s_b0_b hns hk, e2], hz (14 + k) (by omega) (by omega), e1, by omega, by omega⟩
  · obtain ⟨h, m, hh, hm1, hm2, eh, em⟩ := hc.2.2.2.2.2 t ht
    exact ⟨0, m, by rw [s_b0_t hns ht (by omega)]; rfl, em, by omega, hm2⟩
  · rw [s_b0_t hns ht (by omega)] at h5
    have : q = 0 := by
      have h6 : (0 : Int32) = nI q := h5
      exact ((nI_eq (a := 0) (by omega) (by omega)).mp h6).symm
    subst this
    exact ⟨⟨0, by omega, by rw [s_b0_t hns ht (by omega)]; rfl⟩, fun i hi => absurd hi (Nat.not_lt_zero _)⟩
  · cases hx
end PA6
