/-! ===== PHASE 2: the class's goOn, arrive ===== -/
section PC5
variable {β : Type} {M : zM} {F F' : Nat → Nat → Int32} {ct cd st st' : Nat → Int32} {a b c d i j k n p q s t v ns nt np nc : Nat} {x : Int32}
theorem EN_fr (E : EN M F a c ct cd st ns nt np nc) (ht : t < 3) (hb : b = a + 8 + 3 * t) (hF : ∀ y, y ≠ b → y ≠ b + 1 → y ≠ b + 2 → F' y = F y) (hs : ∀ j, j < 22 → st' j = st j) : EN M F' a c ct cd st' ns nt np nc := by
  have h8 := EN_ns E
  have E' := E
  obtain ⟨⟨hL, hcy, hC, hdis⟩, ⟨rc, hok⟩, rb, r0⟩ := E'
  refine ⟨⟨hL, hcy, hC, hdis⟩, ⟨?_, hok⟩, fun k hk => ?_, ?_⟩
  · unfold RC
    rw [hF c (by omega) (by omega) (by omega), hF (c + 1) (by omega) (by omega) (by omega), hF (c + 2) (by omega) (by omega) (by omega), hF (c + 3) (by omega) (by omega) (by omega), hF (c + 4) (by omega) (by omega) (by omega), hF (c + 5) (by omega) (by omega) (by omega), hF (c + 6) (by omega) (by omega) (by omega), hF (c + 7) (by omega) (by omega) (by omega), hF (c + 8) (by omega) (by omega) (by omega), hF (c + 9) (by omega) (by omega) (by omega), hF (c + 10) (by omega) (by omega) (by omega), hF (c + 10 + 1) (by omega) (by omega) (by omega)]
    exact rc
  · rw [hF _ (by omega) (by omega) (by omega), hF _ (by omega) (by omega) (by omega), hs _ (by omega), hs _ (by omega)]
    exact rb k hk
  · rw [hF _ (by omega) (by omega) (by omega), hs _ (by omega)]
    exact r0
theorem kt_dr {f : Int32 → zP β} (h : LT b M) : (z_bd (p_X7_drives b) f).1 (KI M F) = (f (if F b 6 = -1 then 0 else 1)).1 (KI M F) := by
  unfold p_X7_drives
  simp (disch := first | assumption | omega | (apply LZ_R; assumption) | (apply LZ_T <;> first | assumption | omega) | (apply LC_F; assumption)) only [e_pu, e_ite, oL_add, oL_addr, oL_mul, nI_add, nI_1, b_pu, b_bd, b_ite, j_L, j_R, j_ite, j_bd, z_ex, ↓reduceIte, if_true, if_false, kt_gI, kt_pI, kt_cv, kt_g0, kt_g1, kt_a1, kt_s1, kt_n1, kt_z1, kt_a2, kt_s2, kt_n2, kt_z2, kr_gI, kr_pI, kr_cv, kr_g0, kr_a1, kr_s1, kr_n1, kr_z1, kf_gI, kf_pI, kf_cv, kf_g0, kf_g1, kf_a1, kf_s1, kf_n1, kf_z1, kf_a2, kf_s2, kf_n2, kf_z2, kc_gI, kc_pI, kc_cv, kc_g0, kc_g1, kc_g2, kc_g3, kc_g4, kc_g5, kc_g6, kc_g7, kc_g8, kc_g9, kc_a1, kc_s1, kc_n1, kc_z1, kc_a2, kc_s2, kc_n2, kc_z2, kc_a3, kc_s3, kc_n3, kc_z3, kc_a4, kc_s4, kc_n4, kc_z4, kc_a5, kc_s5, kc_n5, kc_z5, kc_a6, kc_s6, kc_n6, kc_z6, kc_a7, kc_s7, kc_n7, kc_z7, kc_a8, kc_s8, kc_n8, kc_z8, kc_a9, kc_s9, kc_n9, kc_z9, ks_gI, ks_pI, ks_cv, ks_g0, ks_g1, ks_g2, ks_g3, ks_g4, ks_g5, ks_a1, ks_s1, ks_n1, ks_z1, ks_a2, ks_s2, ks_n2, ks_z2, ks_a3, ks_s3, ks_n3, ks_z3, ks_a4, ks_s4, ks_n4, ks_z4, ks_tr]
  split <;> rfl
theorem kt_c1 {f : Unit → zP β} (h : LT b M) : (z_bd (z_cp (b + 1) 1 (b + 1) 0 5) f).1 (KI M F) = (f ()).1 (KI M (z_up1 F (b + 1) (va_cpy (F (b + 1)) (F (b + 1)) 1 0 5))) := ki_cp (sp := 1) (dp := 0) (m := 5) h.2.1 h.2.1 (by decide) (by decide) (by decide) (by decide)
theorem kt_c2 {f : Unit → zP β} (h : LT b M) : (z_bd (z_cp (b + 2) 1 (b + 2) 0 5) f).1 (KI M F) = (f ()).1 (KI M (z_up1 F (b + 2) (va_cpy (F (b + 2)) (F (b + 2)) 1 0 5))) := ki_cp (sp := 1) (dp := 0) (m := 5) h.2.2.1 h.2.2.1 (by decide) (by decide) (by decide) (by decide)
def f_drop (F : Nat → Nat → Int32) (b q : Nat) : Nat → Nat → Int32 := z_up1 (z_up1 (z_up2 F b 2 (nI q)) (b + 1) (va_cpy (F (b + 1)) (F (b + 1)) 1 0 5)) (b + 2) (va_cpy (F (b + 2)) (F (b + 2)) 1 0 5)
theorem u2_row (F : Nat → Nat → Int32) {a k b : Nat} (x : Int32) (h : b ≠ a) : z_up2 F a k x b = F b := by
  funext j
  exact u2_n _ _ (Or.inl h)
theorem kt_drop {f : Unit → zP β} (h : LT b M) (e2 : F b 2 = nI (q + 1)) (hq : q < 6) : (z_bd (p_X7_dropFirstOrder b) f).1 (KI M F) = (f ()).1 (KI M (f_drop F b q)) := by
  have h0 : ¬ nI (q + 1) ≤ 0 := nI_nle (by omega) (by omega)
  unfold p_X7_dropFirstOrder f_drop
  simp (disch := first | assumption | omega | (apply LZ_R; assumption) | (apply LZ_T <;> first | assumption | omega) | (apply LC_F; assumption)) only [e_pu, e_ite, oL_add, oL_addr, oL_mul, nI_add, nI_1, b_pu, b_bd, b_ite, j_L, j_R, j_ite, j_bd, z_ex, ↓reduceIte, if_true, if_false, kt_gI, kt_pI, kt_cv, kt_g0, kt_g1, kt_a1, kt_s1, kt_n1, kt_z1, kt_a2, kt_s2, kt_n2, kt_z2, kr_gI, kr_pI, kr_cv, kr_g0, kr_a1, kr_s1, kr_n1, kr_z1, kf_gI, kf_pI, kf_cv, kf_g0, kf_g1, kf_a1, kf_s1, kf_n1, kf_z1, kf_a2, kf_s2, kf_n2, kf_z2, kc_gI, kc_pI, kc_cv, kc_g0, kc_g1, kc_g2, kc_g3, kc_g4, kc_g5, kc_g6, kc_g7, kc_g8, kc_g9, kc_a1, kc_s1, kc_n1, kc_z1, kc_a2, kc_s2, kc_n2, kc_z2, kc_a3, kc_s3, kc_n3, kc_z3, kc_a4, kc_s4, kc_n4, kc_z4, kc_a5, kc_s5, kc_n5, kc_z5, kc_a6, kc_s6, kc_n6, kc_z6, kc_a7, kc_s7, kc_n7, kc_z7, kc_a8, kc_s8, kc_n8, kc_z8, kc_a9, kc_s9, kc_n9, kc_z9, ks_gI, ks_pI, ks_cv, ks_g0, ks_g1, ks_g2, ks_g3, ks_g4, ks_g5, ks_a1, ks_s1, ks_n1, ks_z1, ks_a2, ks_s2, ks_n2, ks_z2, ks_a3, ks_s3, ks_n3, ks_z3, ks_a4, ks_s4, ks_n4, ks_z4, ks_tr, e2, h0, nI_pred, kt_c1, kt_c2, u2_row, u1_n]
theorem f_drop_o {y : Nat} (h1 : y ≠ b + 1) (h2 : y ≠ b + 2) (h3 : y ≠ b ∨ k ≠ 2) : f_drop F b q y k = F y k := by
  unfold f_drop
  rw [u1_n _ _ h2, u1_n _ _ h1, u2_n _ _ h3]
theorem RK_drop (hK : RK F b ct st ns t (q + 1)) : RK (f_drop F b q) b ct (s_drop st t q) ns t q := by
  obtain ⟨h0, h2, h3, h4, h6, h5, h7, ho⟩ := hK
  have hq := h0.2.1
  have tr : ∀ i, i < 5 → s_tr (s_drop st t q) t i = s_tr st t i := fun i hi => by rw [s_drop_tr _ _ _ _ (by omega), if_neg (by omega), if_neg (by omega)]
  refine ⟨t_ok_drop h0, ?_, ?_, ?_, ?_, ?_, ?_, ?_⟩
  · unfold f_drop
    rw [u1_n _ _ (by omega), u1_n _ _ (by omega), u2_s]
  · rw [f_drop_o (by omega) (by omega) (by omega)]; exact h3
  · rw [f_drop_o (by omega) (by omega) (by omega), tr _ (by omega)]; exact h4
  · rw [f_drop_o (by omega) (by omega) (by omega), tr _ (by omega)]; exact h6
  · intro r hr e
    rw [tr _ (by omega)] at e
    rw [f_drop_o (by omega) (by omega) (by omega)]; exact h5 r hr e
  · intro e
    rw [tr _ (by omega)] at e
    rw [f_drop_o (by omega) (by omega) (by omega), f_drop_o (by omega) (by omega) (by omega), tr _ (by omega), tr _ (by omega)]; exact h7 e
  · intro i hi
    have h := ho (i + 1) (by omega)
    rw [s_drop_tr _ _ _ _ (by omega), if_neg (by omega), if_pos (by omega), s_drop_tr _ _ _ _ (by omega), if_neg (by omega), if_pos (by omega)]
    unfold f_drop
    rw [u1_n _ _ (by omega), u1_s, u1_s, pk_cpy_in (by omega) (by omega), pk_cpy_in (by omega) (by omega), show 1 + (i - 0) = i + 1 by omega]
    exact h
def f_set (F : Nat → Nat → Int32) (b s : Nat) (y x : Int32) : Nat → Nat → Int32 := z_up2 (z_up2 (z_up2 F b 6 y) b 5 (nI s)) b 7 x
theorem RK_set {y : Int32} (hns : ns ≤ 8) (hK : RK F b ct st ns t q) (hs : s < ns) (hy : ∃ z, z < 20000 ∧ y = nI z) (ey : y = st 0 + s_dr ct p s) : RK (f_set F b s y x) b ct (s_set ct st t p s x) ns t q := by
  obtain ⟨h0, h2, h3, h4, h6, h5, h7, ho⟩ := hK
  have q0 : ∀ i, s_tr (s_set ct st t p s x) t i = if i = 0 then -1 else if i = 3 then x else if i = 2 then st 0 + s_dr ct p s else if i = 1 then nI s else s_tr st t i := by
    intro i
    unfold s_set
    rw [s_put_tr, s_put_tr, s_put_tr, s_put_tr]
  obtain ⟨z, hz, ez⟩ := hy
  refine ⟨⟨Or.inr ⟨(q0 0).trans (if_pos rfl), ⟨s, hs, (q0 1).trans rfl⟩, z, hz, ?_⟩, h0.2.1, ?_, fun i hi => ?_⟩, ?_, ?_, ?_, ?_, ?_, ?_, ?_⟩
  · rw [q0 2]; show st 0 + s_dr ct p s = _; rw [← ey]; exact ez
  · rw [q0 5]; exact h0.2.2.1
  · rw [q0, if_neg (by omega), if_neg (by omega), if_neg (by omega), if_neg (by omega)]; exact h0.2.2.2 i hi
  · unfold f_set; rw [u2_n _ _ (by omega), u2_n _ _ (by omega), u2_n _ _ (by omega)]; exact h2
  · unfold f_set; rw [u2_n _ _ (by omega), u2_n _ _ (by omega), u2_n _ _ (by omega)]; exact h3
  · unfold f_set; rw [u2_n _ _ (by omega), u2_n _ _ (by omega), u2_n _ _ (by omega), q0 4]; exact h4
  · unfold f_set; rw [u2_n _ _ (by omega), u2_n _ _ (by omega), u2_s, q0 2]; exact ey
  · intro r hr e
    rw [q0 0, if_pos rfl] at e
    exact absurd e.symm (nI_nm1 (by omega))
  · intro _
    unfold f_set
    rw [u2_n _ _ (by omega), u2_s, u2_s, q0 1, q0 3]
    exact ⟨rfl, rfl⟩
  · intro i hi
    unfold f_set
    rw [u2_n _ _ (by omega), u2_n _ _ (by omega), u2_n _ _ (by omega), u2_n _ _ (by omega), u2_n _ _ (by omega), u2_n _ _ (by omega), q0, if_neg (by omega), if_neg (by omega), if_neg (by omega), if_neg (by omega), q0, if_neg (by omega), if_neg (by omega), if_neg (by omega), if_neg (by omega)]
    exact ho i hi

/-- the riding times and driving times are small numbers -/
theorem kx_goL (ht : t < 3) (hb : b = a + 8 + 3 * t) (hT : LT b M) (hdr : ∀ p s, p < ns → s < ns → ∃ b, b < 8000 ∧ s_dr ct p s = nI b) : ∀ q F st, EN M F a c ct cd st ns nt np nc → (∃ z, z < 12000 ∧ st 0 = nI z) → RK F b ct st ns t q →
    ∃ F' q', (z_lp (fun (t2 : Int32) => (if t2 ≤ 0 then (z_pu (.inr ())) else (z_bd (z_cv 7 b (p_X7_drives b)) (fun r3 => (if r3 = 0 then (z_bd (z_gA 7 b 0) (fun v4 => (z_bd (z_aI 11 v4 0) (fun v5 => (z_bd (z_gA 7 b 1) (fun v6 => (z_bd (z_aI 11 v6 0) (fun v7 => (z_bd (z_cv 7 b (p_X7_dropFirstOrder b)) (fun _ => (z_bd (z_gI 7 b 5) (fun v9 => (if v5 = v9 then (z_bd (z_cv 5 a (p_X5_carryOut a b v7)) (fun _ => (z_pu (.inl ((t2 + (-1))))))) else (z_bd (z_gI 5 a 7) (fun v10 => (z_bd (z_gA 5 a 6) (fun v11 => (z_bd (z_gI 7 b 5) (fun v12 => (z_bd (z_cv 0 v11 (p_X0_truckMinutes v11 v12 v5)) (fun r13 => (z_bd (z_pI 7 b 6 (v10 + r13)) (fun _ => (z_bd (z_pI 7 b 5 v5) (fun _ => (z_bd (z_pI 7 b 7 v7) (fun _ => (z_pu (.inl ((t2 + (-1)))))))))))))))))))))))))))))))) else (z_pu (.inr ()))))))) (nI q)).1 (KI M F) = some (.inr (), KI M F') ∧ EN M F' a c ct cd (s_go ct t q st) ns nt np nc ∧ RK F' b ct (s_go ct t q st) ns t q' ∧ ∀ y, y ≠ a + 1 → y ≠ b → y ≠ b + 1 → y ≠ b + 2 → F' y = F y := by
  intro q
  induction q with
  | zero =>
    intro F st E _ hK
    refine ⟨F, 0, z_lp_end ?_, E, hK, fun _ _ _ _ _ => rfl⟩
    rw [if_pos (show nI 0 ≤ 0 from Int32.le_refl _)]
    rfl
  | succ q ih =>
    intro F st E hz hK
    have h8 := EN_ns E
    obtain ⟨⟨hL, hcy, hC, hdis⟩, ⟨rc, hok⟩, rb, r0⟩ := id E
    obtain ⟨h0, h2, h3, h4, h6, h5, h7, ho⟩ := id hK
    have hq6 := h0.2.1
    have hq0 : ¬ nI (q + 1) ≤ 0 := nI_nle (by omega) (by omega)
    rcases h0.1 with ⟨p, hp, e0, e1, e2⟩ | ⟨e0, ⟨p, hp, e1⟩, z, hz1, e2⟩
    · obtain ⟨s, hs, e6⟩ := h0.2.2.2 0 (by omega)
      have e6 : s_tr st t 6 = nI s := e6
      have o0 := ho 0 (by omega)
      have o1 : F (b + 1) 0 = nI s := o0.1.trans e6
      have o2 : F (b + 2) 0 = s_tr st t 7 := o0.2
      have f5 : f_drop F b q b 5 = nI p := (f_drop_o (by omega) (by omega) (by omega)).trans (h5 p hp e0)
      have f3 : f_drop F b q b 3 = ct (45 + t) := (f_drop_o (by omega) (by omega) (by omega)).trans h3
      have f4 : f_drop F b q b 4 = s_tr (s_drop st t q) t 4 := (RK_drop hK).2.2.2.1
      have f7 : f_drop F b q a 7 = s_drop st t q 0 := (f_drop_o (by omega) (by omega) (by omega)).trans (r0.trans (s_drop_o _ _ _ _ (by omega)).symm)
      have he : (nI s = nI p) = (s = p) := propext (nI_eq (by omega) (by omega))
      have hd6 : F b 6 = -1 := h6.trans e2
      have ED : EN M (f_drop F b q) a c ct cd (s_drop st t q) ns nt np nc := EN_fr E ht hb (fun y y1 y2 y3 => funext (fun z => f_drop_o y2 y3 (Or.inl y1))) (fun j hj => s_drop_o _ _ _ _ (by omega))
      have z0 : s_drop st t q 0 = st 0 := s_drop_o _ _ _ _ (by omega)
      have hgo : s_go ct t (q + 1) st = if s = p then s_go ct t q (s_car ct (s_drop st t q) t s (s_tr st t 7)) else s_set ct (s_drop st t q) t p s (s_tr st t 7) := by
        show (if s_tr st t 0 < 0 then st else _) = _
        rw [e0, e6, if_neg (nI_pos (by omega)), ix_nI (by omega), ix_nI (by omega)]
        simp only [he]
      rw [hgo]
      by_cases hsp : s = p
      · subst hsp
        rw [if_pos rfl]
        obtain ⟨F', q', g1, g2, g3, g4⟩ := ih _ _ (EN_car (x := s_tr st t 7) ED ht hb hp) (by rw [s_car_o (by omega), z0]; exact hz) (RK_car (RK_drop hK) hb (by omega))
        refine ⟨F', q', (z_lp_step (s' := nI q) ?_).trans g1, g2, g3, fun y y1 y2 y3 y4 => ?_⟩
        · simp (disch := first | assumption | omega | (apply LZ_R; assumption) | (apply LZ_T <;> first | assumption | omega) | (apply LC_F; assumption)) only [e_pu, e_ite, oL_add, oL_addr, oL_mul, nI_add, nI_1, b_pu, b_bd, b_ite, j_L, j_R, j_ite, j_bd, z_ex, ↓reduceIte, if_true, if_false, kt_gI, kt_pI, kt_cv, kt_g0, kt_g1, kt_a1, kt_s1, kt_n1, kt_z1, kt_a2, kt_s2, kt_n2, kt_z2, kr_gI, kr_pI, kr_cv, kr_g0, kr_a1, kr_s1, kr_n1, kr_z1, kf_gI, kf_pI, kf_cv, kf_g0, kf_g1, kf_a1, kf_s1, kf_n1, kf_z1, kf_a2, kf_s2, kf_n2, kf_z2, kc_gI, kc_pI, kc_cv, kc_g0, kc_g1, kc_g2, kc_g3, kc_g4, kc_g5, kc_g6, kc_g7, kc_g8, kc_g9, kc_a1, kc_s1, kc_n1, kc_z1, kc_a2, kc_s2, kc_n2, kc_z2, kc_a3, kc_s3, kc_n3, kc_z3, kc_a4, kc_s4, kc_n4, kc_z4, kc_a5, kc_s5, kc_n5, kc_z5, kc_a6, kc_s6, kc_n6, kc_z6, kc_a7, kc_s7, kc_n7, kc_z7, kc_a8, kc_s8, kc_n8, kc_z8, kc_a9, kc_s9, kc_n9, kc_z9, ks_gI, ks_pI, ks_cv, ks_g0, ks_g1, ks_g2, ks_g3, ks_g4, ks_g5, ks_a1, ks_s1, ks_n1, ks_z1, ks_a2, ks_s2, ks_n2, ks_z2, ks_a3, ks_s3, ks_n3, ks_z3, ks_a4, ks_s4, ks_n4, ks_z4, ks_tr, hq0, kt_dr, hd6, o1, o2, kt_drop hT h2 (by omega), f5, kx_car ED hT hb hp f5 f3 f4, nI_dec]
          rfl
        · rw [g4 y y1 y2 y3 y4, u2_row _ _ y2, u2_row _ _ y1]
          exact funext (fun z => f_drop_o y3 y4 (Or.inl y2))
      · rw [if_neg hsp]
        obtain ⟨z, hz1, hz2⟩ := hz
        obtain ⟨u, hu1, hu2⟩ := hdr p s hp hs
        refine ⟨f_set (f_drop F b q) b s (s_drop st t q 0 + s_dr ct p s) (s_tr st t 7), q, (z_lp_step (s' := nI q) (M1 := KI M (f_set (f_drop F b q) b s (s_drop st t q 0 + s_dr ct p s) (s_tr st t 7))) ?_).trans (z_lp_end ?_), EN_fr ED ht hb (fun y y1 y2 y3 => ?_) (fun j hj => s_set_o (by omega)), RK_set h8 (RK_drop hK) hs ⟨z + u, by omega, by rw [z0, hz2, hu2, nI_add]⟩ rfl, fun y y1 y2 y3 y4 => ?_⟩
        · unfold f_set
          simp (disch := first | assumption | omega | (apply LZ_R; assumption) | (apply LZ_T <;> first | assumption | omega) | (apply LC_F; assumption)) only [e_pu, e_ite, oL_add, oL_addr, oL_mul, nI_add, nI_1, b_pu, b_bd, b_ite, j_L, j_R, j_ite, j_bd, z_ex, ↓reduceIte, if_true, if_false, kt_gI, kt_pI, kt_cv, kt_g0, kt_g1, kt_a1, kt_s1, kt_n1, kt_z1, kt_a2, kt_s2, kt_n2, kt_z2, kr_gI, kr_pI, kr_cv, kr_g0, kr_a1, kr_s1, kr_n1, kr_z1, kf_gI, kf_pI, kf_cv, kf_g0, kf_g1, kf_a1, kf_s1, kf_n1, kf_z1, kf_a2, kf_s2, kf_n2, kf_z2, kc_gI, kc_pI, kc_cv, kc_g0, kc_g1, kc_g2, kc_g3, kc_g4, kc_g5, kc_g6, kc_g7, kc_g8, kc_g9, kc_a1, kc_s1, kc_n1, kc_z1, kc_a2, kc_s2, kc_n2, kc_z2, kc_a3, kc_s3, kc_n3, kc_z3, kc_a4, kc_s4, kc_n4, kc_z4, kc_a5, kc_s5, kc_n5, kc_z5, kc_a6, kc_s6, kc_n6, kc_z6, kc_a7, kc_s7, kc_n7, kc_z7, kc_a8, kc_s8, kc_n8, kc_z8, kc_a9, kc_s9, kc_n9, kc_z9, ks_gI, ks_pI, ks_cv, ks_g0, ks_g1, ks_g2, ks_g3, ks_g4, ks_g5, ks_a1, ks_s1, ks_n1, ks_z1, ks_a2, ks_s2, ks_n2, ks_z2, ks_a3, ks_s3, ks_n3, ks_z3, ks_a4, ks_s4, ks_n4, ks_z4, ks_tr, ks_city hcy, hq0, kt_dr, hd6, o1, o2, kt_drop hT h2 (by omega), f5, f7, he, hsp, kx_dr ED hp hs, nI_dec]
          rfl
        · have hn1 : ¬ (f_set (f_drop F b q) b s (s_drop st t q 0 + s_dr ct p s) (s_tr st t 7)) b 6 = -1 := by
            unfold f_set
            rw [u2_n _ _ (by omega), u2_n _ _ (by omega), u2_s, z0, hz2, hu2, nI_add]
            exact nI_nm1 (by omega)
          by_cases hq1 : nI q ≤ 0
          · rw [if_pos hq1]; rfl
          · rw [if_neg hq1]
            simp (disch := first | assumption | omega | (apply LZ_R; assumption) | (apply LZ_T <;> first | assumption | omega) | (apply LC_F; assumption)) only [e_pu, e_ite, oL_add, oL_addr, oL_mul, nI_add, nI_1, b_pu, b_bd, b_ite, j_L, j_R, j_ite, j_bd, z_ex, ↓reduceIte, if_true, if_false, kt_gI, kt_pI, kt_cv, kt_g0, kt_g1, kt_a1, kt_s1, kt_n1, kt_z1, kt_a2, kt_s2, kt_n2, kt_z2, kr_gI, kr_pI, kr_cv, kr_g0, kr_a1, kr_s1, kr_n1, kr_z1, kf_gI, kf_pI, kf_cv, kf_g0, kf_g1, kf_a1, kf_s1, kf_n1, kf_z1, kf_a2, kf_s2, kf_n2, kf_z2, kc_gI, kc_pI, kc_cv, kc_g0, kc_g1, kc_g2, kc_g3, kc_g4, kc_g5, kc_g6, kc_g7, kc_g8, kc_g9, kc_a1, kc_s1, kc_n1, kc_z1, kc_a2, kc_s2, kc_n2, kc_z2, kc_a3, kc_s3, kc_n3, kc_z3, kc_a4, kc_s4, kc_n4, kc_z4, kc_a5, kc_s5, kc_n5, kc_z5, kc_a6, kc_s6, kc_n6, kc_z6, kc_a7, kc_s7, kc_n7, kc_z7, kc_a8, kc_s8, kc_n8, kc_z8, kc_a9, kc_s9, kc_n9, kc_z9, ks_gI, ks_pI, ks_cv, ks_g0, ks_g1, ks_g2, ks_g3, ks_g4, ks_g5, ks_a1, ks_s1, ks_n1, ks_z1, ks_a2, ks_s2, ks_n2, ks_z2, ks_a3, ks_s3, ks_n3, ks_z3, ks_a4, ks_s4, ks_n4, ks_z4, ks_tr, kt_dr, hn1]
            rfl
        · unfold f_set
          rw [u2_row _ _ y1, u2_row _ _ y1, u2_row _ _ y1]
        · unfold f_set
          rw [u2_row _ _ y2, u2_row _ _ y2, u2_row _ _ y2]
          exact funext (fun z => f_drop_o y3 y4 (Or.inl y2))
    · have hgo : s_go ct t (q + 1) st = st := by
        show (if s_tr st t 0 < 0 then st else _) = _
        rw [e0, if_pos (by decide)]
      rw [hgo]
      have hn1 : ¬ F b 6 = -1 := by rw [h6, e2]; exact nI_nm1 (by omega)
      refine ⟨F, q + 1, z_lp_end ?_, E, hK, fun _ _ _ _ _ => rfl⟩
      rw [if_neg hq0]
      simp (disch := first | assumption | omega | (apply LZ_R; assumption) | (apply LZ_T <;> first | assumption | omega) | (apply LC_F; assumption)) only [e_pu, e_ite, oL_add, oL_addr, oL_mul, nI_add, nI_1, b_pu, b_bd, b_ite, j_L, j_R, j_ite, j_bd, z_ex, ↓reduceIte, if_true, if_false, kt_gI, kt_pI, kt_cv, kt_g0, kt_g1, kt_a1, kt_s1, kt_n1, kt_z1, kt_a2, kt_s2, kt_n2, kt_z2, kr_gI, kr_pI, kr_cv, kr_g0, kr_a1, kr_s1, kr_n1, kr_z1, kf_gI, kf_pI, kf_cv, kf_g0, kf_g1, kf_a1, kf_s1, kf_n1, kf_z1, kf_a2, kf_s2, kf_n2, kf_z2, kc_gI, kc_pI, kc_cv, kc_g0, kc_g1, kc_g2, kc_g3, kc_g4, kc_g5, kc_g6, kc_g7, kc_g8, kc_g9, kc_a1, kc_s1, kc_n1, kc_z1, kc_a2, kc_s2, kc_n2, kc_z2, kc_a3, kc_s3, kc_n3, kc_z3, kc_a4, kc_s4, kc_n4, kc_z4, kc_a5, kc_s5, kc_n5, kc_z5, kc_a6, kc_s6, kc_n6, kc_z6, kc_a7, kc_s7, kc_n7, kc_z7, kc_a8, kc_s8, kc_n8, kc_z8, kc_a9, kc_s9, kc_n9, kc_z9, ks_gI, ks_pI, ks_cv, ks_g0, ks_g1, ks_g2, ks_g3, ks_g4, ks_g5, ks_a1, ks_s1, ks_n1, ks_z1, ks_a2, ks_s2, ks_n2, ks_z2, ks_a3, ks_s3, ks_n3, ks_z3, ks_a4, ks_s4, ks_n4, ks_z4, ks_tr, kt_dr, hn1]
      rfl
theorem kx_go (ht : t < 3) (hb : b = a + 8 + 3 * t) (hT : LT b M) (hdr : ∀ p s, p < ns → s < ns → ∃ b, b < 8000 ∧ s_dr ct p s = nI b) (E : EN M F a c ct cd st ns nt np nc) (hz : ∃ z, z < 12000 ∧ st 0 = nI z) (hK : RK F b ct st ns t q) :
    ∃ F' q', (p_X5_goOn a b).1 (KI M F) = some (.inr (), KI M F') ∧ EN M F' a c ct cd (s_go ct t q st) ns nt np nc ∧ RK F' b ct (s_go ct t q st) ns t q' ∧ ∀ y, y ≠ a + 1 → y ≠ b → y ≠ b + 1 → y ≠ b + 2 → F' y = F y := by
  obtain ⟨F', q', g1, g2⟩ := kx_goL (c := c) (cd := cd) (nt := nt) (np := np) (nc := nc) ht hb hT hdr q F st E hz hK
  refine ⟨F', q', ?_, g2⟩
  unfold p_X5_goOn
  refine (kt_gI hT).trans ?_
  rw [hK.2.1]
  exact g1
/-- a truck arrives -/
theorem kx_arr (ht : t < 3) (hb : b = a + 8 + 3 * t) (hT : LT b M) (hdr : ∀ p s, p < ns → s < ns → ∃ b, b < 8000 ∧ s_dr ct p s = nI b) (E : EN M F a c ct cd st ns nt np nc) (hz : ∃ z, z < 12000 ∧ st 0 = nI z) (hK : RK F b ct st ns t q) (hp : p < ns) (e0 : s_tr st t 0 = -1) (e1 : s_tr st t 1 = nI p) :
    ∃ F' q', (p_X5_arrive a b).1 (KI M F) = some (.inr (), KI M F') ∧ EN M F' a c ct cd (s_arr ct st t q p) ns nt np nc ∧ RK F' b ct (s_arr ct st t q p) ns t q' ∧ ∀ y, y ≠ a + 1 → y ≠ b → y ≠ b + 1 → y ≠ b + 2 → F' y = F y := by
  have h8 := EN_ns E
  obtain ⟨⟨hL, hcy, hC, hdis⟩, ⟨rc, hok⟩, rb, r0⟩ := id E
  obtain ⟨h0, h2, h3, h4, h6, h5, h7, ho⟩ := id hK
  have hd := h7 e0
  have E1 : EN M (z_up2 F b 6 (-1)) a c ct cd (s_put (s_put (s_put st t 0 (nI p)) t 1 (-1)) t 2 (-1)) ns nt np nc := EN_fr E ht hb (fun y y1 _ _ => u2_row _ _ y1) (fun j hj => by rw [s_put_o _ _ (by omega), s_put_o _ _ (by omega), s_put_o _ _ (by omega)])
  have tr : ∀ i, s_tr (s_put (s_put (s_put st t 0 (nI p)) t 1 (-1)) t 2 (-1)) t i = if i = 2 then -1 else if i = 1 then -1 else if i = 0 then nI p else s_tr st t i := fun i => by rw [s_put_tr, s_put_tr, s_put_tr]
  have f5 : z_up2 F b 6 (-1) b 5 = nI p := (u2_n _ _ (by omega)).trans (hd.1.trans e1)
  have f3 : z_up2 F b 6 (-1) b 3 = ct (45 + t) := (u2_n _ _ (by omega)).trans h3
  have f4 : z_up2 F b 6 (-1) b 4 = s_tr (s_put (s_put (s_put st t 0 (nI p)) t 1 (-1)) t 2 (-1)) t 4 := (u2_n _ _ (by omega)).trans (h4.trans (tr 4).symm)
  have f7 : z_up2 F b 6 (-1) b 7 = s_tr st t 3 := (u2_n _ _ (by omega)).trans hd.2
  have K1 : RK (z_up2 F b 6 (-1)) b ct (s_put (s_put (s_put st t 0 (nI p)) t 1 (-1)) t 2 (-1)) ns t q := by
    refine ⟨t_ok_arr0 hp h0, ?_, f3, f4, ?_, ?_, ?_, ?_⟩
    · rw [u2_n _ _ (by omega)]; exact h2
    · rw [u2_s, tr 2]; rfl
    · intro r hr e
      rw [tr 0] at e
      have e : nI p = nI r := e
      rw [f5]; exact e
    · intro e
      rw [tr 0] at e
      have e : nI p = -1 := e
      exact absurd e (nI_nm1 (by omega))
    · intro i hi
      rw [u2_n _ _ (by omega), u2_n _ _ (by omega), tr, if_neg (by omega), if_neg (by omega), if_neg (by omega), tr, if_neg (by omega), if_neg (by omega), if_neg (by omega)]
      exact ho i hi
  have zz : ∃ z, z < 12000 ∧ s_car ct (s_put (s_put (s_put st t 0 (nI p)) t 1 (-1)) t 2 (-1)) t p (s_tr st t 3) 0 = nI z := by
    rw [s_car_o (by omega), s_put_o _ _ (by omega), s_put_o _ _ (by omega), s_put_o _ _ (by omega)]; exact hz
  obtain ⟨F', q', g1, g2, g3, g4⟩ := kx_go ht hb hT hdr (EN_car (x := s_tr st t 3) E1 ht hb hp) zz (RK_car K1 hb (by omega))
  refine ⟨F', q', ?_, g2, g3, fun y y1 y2 y3 y4 => ?_⟩
  · unfold p_X5_arrive
    simp (disch := first | assumption | omega | (apply LZ_R; assumption) | (apply LZ_T <;> first | assumption | omega) | (apply LC_F; assumption)) only [e_pu, e_ite, oL_add, oL_addr, oL_mul, nI_add, nI_1, b_pu, b_bd, b_ite, j_L, j_R, j_ite, j_bd, z_ex, ↓reduceIte, if_true, if_false, kt_gI, kt_pI, kt_cv, kt_g0, kt_g1, kt_a1, kt_s1, kt_n1, kt_z1, kt_a2, kt_s2, kt_n2, kt_z2, kr_gI, kr_pI, kr_cv, kr_g0, kr_a1, kr_s1, kr_n1, kr_z1, kf_gI, kf_pI, kf_cv, kf_g0, kf_g1, kf_a1, kf_s1, kf_n1, kf_z1, kf_a2, kf_s2, kf_n2, kf_z2, kc_gI, kc_pI, kc_cv, kc_g0, kc_g1, kc_g2, kc_g3, kc_g4, kc_g5, kc_g6, kc_g7, kc_g8, kc_g9, kc_a1, kc_s1, kc_n1, kc_z1, kc_a2, kc_s2, kc_n2, kc_z2, kc_a3, kc_s3, kc_n3, kc_z3, kc_a4, kc_s4, kc_n4, kc_z4, kc_a5, kc_s5, kc_n5, kc_z5, kc_a6, kc_s6, kc_n6, kc_z6, kc_a7, kc_s7, kc_n7, kc_z7, kc_a8, kc_s8, kc_n8, kc_z8, kc_a9, kc_s9, kc_n9, kc_z9, ks_gI, ks_pI, ks_cv, ks_g0, ks_g1, ks_g2, ks_g3, ks_g4, ks_g5, ks_a1, ks_s1, ks_n1, ks_z1, ks_a2, ks_s2, ks_n2, ks_z2, ks_a3, ks_s3, ks_n3, ks_z3, ks_a4, ks_s4, ks_n4, ks_z4, ks_tr, f7, kx_car E1 hT hb hp f5 f3 f4]
    exact (e_run g1).trans rfl
  · rw [g4 y y1 y2 y3 y4, u2_row _ _ y2, u2_row _ _ y1, u2_row _ _ y2]
end PC5
