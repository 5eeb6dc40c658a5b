/-! ===== PHASE 2: the class's trips of a minute ===== -/
section PRh
variable {β : Type} {M : zM} {F : Nat → Nat → Int32} {ct cd st : Nat → Int32} {a c d j k ns nt np nc T : Nat} {R : List zRd} {l : List Nat} {e : Int32}
/-- how many of the first p trips begin at the minute m -/
def s_cnt (ct : Nat → Int32) (m : Int32) : Nat → Nat
  | 0 => 0
  | p + 1 => s_cnt ct m p + (if ct (108 + p) = m then 1 else 0)
theorem s_cnt_le (ct : Nat → Int32) (m : Int32) {p q : Nat} (h : p ≤ q) : s_cnt ct m p ≤ s_cnt ct m q := by
  induction h with
  | refl => exact Nat.le_refl _
  | step _ ih => exact Nat.le_trans ih (Nat.le_add_right _ _)
theorem kx_can {f : Int32 → zP β} (E : EN M F a c ct cd st ns nt np nc) (hn : n_ok ct st ns nt) (hX : F a 10 = st 3) (h3 : st 3 = nI d) (hd : d < 768) (hj : j < ns) : (z_bd (p_X5_canRide a (nI j)) f).1 (KI M F) = (f (if st (6 + j) = 0 then 0 else 1)).1 (KI M F) := by
  have h8 := EN_ns E
  have E' := E
  obtain ⟨⟨hL, hcy, hC, hdis⟩, ⟨rc, hok⟩, rb, r0⟩ := E'
  have hj8 : j < 8 := by omega
  have b1 := (rb j hj).1
  obtain ⟨b, br, g, g1, _, _, g4, g5⟩ := hn.1 j hj
  have h7 : ¬ (768 : Int32) ≤ nI d := nI_ge (b := 768) hd (by decide)
  unfold p_X5_canRide
  rcases Nat.eq_zero_or_pos b with hb | hb
  · have e0 : st (6 + j) = 0 := by rw [g1, hb]; rfl
    simp (disch := first | assumption | omega | (apply LZ_R; assumption) | (apply LZ_T <;> first | assumption | omega) | (apply LC_F; assumption)) only [e_pu, e_ite, oL_add, oL_addr, oL_mul, nI_add, nI_1, b_pu, b_bd, b_ite, j_L, j_R, j_ite, j_bd, z_ex, ↓reduceIte, if_true, if_false, kt_gI, kt_pI, kt_cv, kt_g0, kt_g1, kt_a1, kt_s1, kt_n1, kt_z1, kt_a2, kt_s2, kt_n2, kt_z2, kr_gI, kr_pI, kr_cv, kr_g0, kr_a1, kr_s1, kr_n1, kr_z1, kf_gI, kf_pI, kf_cv, kf_g0, kf_g1, kf_a1, kf_s1, kf_n1, kf_z1, kf_a2, kf_s2, kf_n2, kf_z2, kc_gI, kc_pI, kc_cv, kc_g0, kc_g1, kc_g2, kc_g3, kc_g4, kc_g5, kc_g6, kc_g7, kc_g8, kc_g9, kc_a1, kc_s1, kc_n1, kc_z1, kc_a2, kc_s2, kc_n2, kc_z2, kc_a3, kc_s3, kc_n3, kc_z3, kc_a4, kc_s4, kc_n4, kc_z4, kc_a5, kc_s5, kc_n5, kc_z5, kc_a6, kc_s6, kc_n6, kc_z6, kc_a7, kc_s7, kc_n7, kc_z7, kc_a8, kc_s8, kc_n8, kc_z8, kc_a9, kc_s9, kc_n9, kc_z9, ks_gI, ks_pI, ks_cv, ks_g0, ks_g1, ks_g2, ks_g3, ks_g4, ks_g5, ks_a1, ks_s1, ks_n1, ks_z1, ks_a2, ks_s2, ks_n2, ks_z2, ks_a3, ks_s3, ks_n3, ks_z3, ks_a4, ks_s4, ks_n4, ks_z4, ks_tr, b1, e0, show (0 : Int32) ≤ 0 from Int32.le_refl _]
  · have e0 : ¬ st (6 + j) = 0 := by rw [g1]; exact nI_ne0 hb (by omega)
    have e1 : ¬ st (6 + j) ≤ 0 := by rw [g1]; exact nI_nle hb (by omega)
    simp (disch := first | assumption | omega | (apply LZ_R; assumption) | (apply LZ_T <;> first | assumption | omega) | (apply LC_F; assumption)) only [e_pu, e_ite, oL_add, oL_addr, oL_mul, nI_add, nI_1, b_pu, b_bd, b_ite, j_L, j_R, j_ite, j_bd, z_ex, ↓reduceIte, if_true, if_false, kt_gI, kt_pI, kt_cv, kt_g0, kt_g1, kt_a1, kt_s1, kt_n1, kt_z1, kt_a2, kt_s2, kt_n2, kt_z2, kr_gI, kr_pI, kr_cv, kr_g0, kr_a1, kr_s1, kr_n1, kr_z1, kf_gI, kf_pI, kf_cv, kf_g0, kf_g1, kf_a1, kf_s1, kf_n1, kf_z1, kf_a2, kf_s2, kf_n2, kf_z2, kc_gI, kc_pI, kc_cv, kc_g0, kc_g1, kc_g2, kc_g3, kc_g4, kc_g5, kc_g6, kc_g7, kc_g8, kc_g9, kc_a1, kc_s1, kc_n1, kc_z1, kc_a2, kc_s2, kc_n2, kc_z2, kc_a3, kc_s3, kc_n3, kc_z3, kc_a4, kc_s4, kc_n4, kc_z4, kc_a5, kc_s5, kc_n5, kc_z5, kc_a6, kc_s6, kc_n6, kc_z6, kc_a7, kc_s7, kc_n7, kc_z7, kc_a8, kc_s8, kc_n8, kc_z8, kc_a9, kc_s9, kc_n9, kc_z9, ks_gI, ks_pI, ks_cv, ks_g0, ks_g1, ks_g2, ks_g3, ks_g4, ks_g5, ks_a1, ks_s1, ks_n1, ks_z1, ks_a2, ks_s2, ks_n2, ks_z2, ks_a3, ks_s3, ks_n3, ks_z3, ks_a4, ks_s4, ks_n4, ks_z4, ks_tr, b1, e0, e1, hX, h3, h7]
theorem RS_lost (hS : RS M F a c ct cd st ns nt np nc d R l) : RS M (z_up2 F a 11 (st 4 + 1)) a c ct cd (s_up st 4 (st 4 + 1)) ns nt np nc d R l := by
  obtain ⟨E, hX, hP, hTr, ⟨hr1, hr2, hr3, hr4⟩, hrr, ⟨hl1, hl2, hl3⟩, hrn, hok⟩ := hS
  have h8 := EN_ns E
  obtain ⟨⟨hL, hcy, hC, hdis⟩, ⟨rc, hcok⟩, rb, r0⟩ := id E
  have hnt := hcok.1.2.2.2.1
  refine ⟨EN_gen E (fun k hk => ?_) ?_ (fun y y1 y2 => u2_row _ _ (by omega)), ⟨?_, ?_, ?_, ?_, ?_⟩, fun p hp => ?_, fun t ht => ?_, ⟨?_, ?_, ?_, hr4⟩, fun k x hx => ?_, ⟨?_, hl2, hl3⟩, hrn, hok⟩
  · rw [u2_row _ _ (by omega), u2_row _ _ (by omega), s_upn _ _ (by omega), s_upn _ _ (by omega)]; exact rb k hk
  · rw [u2_n _ _ (by omega), s_upn _ _ (by omega)]; exact r0
  · rw [u2_n _ _ (by omega), s_upn _ _ (by omega)]; exact hX.1
  · rw [u2_n _ _ (by omega), s_upn _ _ (by omega)]; exact hX.2.1
  · rw [u2_n _ _ (by omega), s_upn _ _ (by omega)]; exact hX.2.2.1
  · rw [u2_s, s_ups]
  · rw [u2_n _ _ (by omega), s_upn _ _ (by omega)]; exact hX.2.2.2.2
  · rw [u2_row _ _ (by omega), u2_row _ _ (by omega), s_upn _ _ (by omega), s_upn _ _ (by omega)]; exact hP p hp
  · obtain ⟨q, hq⟩ := hTr t ht
    exact ⟨q, RK_fr hq (u2_row _ _ (by omega)) (u2_row _ _ (by omega)) (u2_row _ _ (by omega)) (fun i hi => s_upn _ _ (by omega))⟩
  · rw [u2_row _ _ (by omega)]; exact hr1
  · rw [s_upn _ _ (by omega)]; exact hr2
  · rw [s_upn _ _ (by omega)]; exact hr3
  · rw [s_upn _ _ (by omega), s_upn _ _ (by omega), s_upn _ _ (by omega)]; exact hrr k x hx
  · rw [u2_row _ _ (by omega)]; exact hl1
theorem kx_tpL (hrd : ∀ p s, p < ns → s < ns → ∃ b, 1 ≤ b ∧ b < 10000 ∧ s_rd ct p s = nI b) (hS : RS M F a c ct cd st ns nt np nc d R l) (hn : n_ok ct st ns nt) (hT1 : T < 12000) (hT : st 0 = nI T) (hgt : ∀ x ∈ R, T < x.1) (hd : d + s_cnt ct (st 0 - st 0 / 1440 * 1440) np < 768) :
    ∃ G R' l' d', (z_lp (fun (t15 : Int32) => (z_bd (z_gA 5 a 6) (fun v16 => (z_bd (z_gI 0 v16 12) (fun v17 => (if v17 ≤ t15 then (z_pu (.inr e)) else (z_bd (z_gA 5 a 6) (fun v18 => (z_bd (z_gA 0 v18 8) (fun v19 => (z_bd (z_aI 11 v19 t15) (fun v20 => (if v20 = (st 0 - st 0 / 1440 * 1440) then (z_bd (z_gA 5 a 6) (fun v21 => (z_bd (z_gA 0 v21 6) (fun v22 => (z_bd (z_aI 11 v22 t15) (fun v23 => (z_bd (z_cv 5 a (p_X5_canRide a v23)) (fun r24 => (if r24 = 0 then (z_bd (z_gI 5 a 11) (fun v25 => (z_bd (z_pI 5 a 11 (v25 + 1)) (fun _ => (z_pu (.inl ((t15 + 1)))))))) else (z_bd (z_gA 5 a 6) (fun v26 => (z_bd (z_gA 0 v26 6) (fun v27 => (z_bd (z_aI 11 v27 t15) (fun v28 => (z_bd (z_gA 5 a 6) (fun v29 => (z_bd (z_gA 0 v29 7) (fun v30 => (z_bd (z_aI 11 v30 t15) (fun v31 => (z_bd (z_cv 5 a (p_X5_startRide a v28 v31)) (fun _ => (z_pu (.inl ((t15 + 1))))))))))))))))))))))))))) else (z_pu (.inl ((t15 + 1))))))))))))))))) 0).1 (KI M F) = some (.inr e, KI M G) ∧ RS M G a c ct cd (s_tp ct cd nc st np) ns nt np nc d' R' l' ∧ n_ok ct (s_tp ct cd nc st np) ns nt ∧ d' ≤ d + s_cnt ct (st 0 - st 0 / 1440 * 1440) np ∧ s_tp ct cd nc st np 0 = st 0 ∧ (∀ x ∈ R', T < x.1) ∧ fr5 a c F G := by
  have E := hS.1
  have h8 := EN_ns E
  have hnt := E.2.1.2.1.2.2.2.1
  have hnp := E.2.1.2.1.2.2.2.2
  have htp := E.2.1.2.2.2.1
  suffices hq : ∃ (u : Int32), ∃ M', (z_lp (fun (t15 : Int32) => (z_bd (z_gA 5 a 6) (fun v16 => (z_bd (z_gI 0 v16 12) (fun v17 => (if v17 ≤ t15 then (z_pu (.inr e)) else (z_bd (z_gA 5 a 6) (fun v18 => (z_bd (z_gA 0 v18 8) (fun v19 => (z_bd (z_aI 11 v19 t15) (fun v20 => (if v20 = (st 0 - st 0 / 1440 * 1440) then (z_bd (z_gA 5 a 6) (fun v21 => (z_bd (z_gA 0 v21 6) (fun v22 => (z_bd (z_aI 11 v22 t15) (fun v23 => (z_bd (z_cv 5 a (p_X5_canRide a v23)) (fun r24 => (if r24 = 0 then (z_bd (z_gI 5 a 11) (fun v25 => (z_bd (z_pI 5 a 11 (v25 + 1)) (fun _ => (z_pu (.inl ((t15 + 1)))))))) else (z_bd (z_gA 5 a 6) (fun v26 => (z_bd (z_gA 0 v26 6) (fun v27 => (z_bd (z_aI 11 v27 t15) (fun v28 => (z_bd (z_gA 5 a 6) (fun v29 => (z_bd (z_gA 0 v29 7) (fun v30 => (z_bd (z_aI 11 v30 t15) (fun v31 => (z_bd (z_cv 5 a (p_X5_startRide a v28 v31)) (fun _ => (z_pu (.inl ((t15 + 1))))))))))))))))))))))))))) else (z_pu (.inl ((t15 + 1))))))))))))))))) (nI 0)).1 (KI M F) = some (.inr u, M') ∧ u = e ∧ ∃ G R' l' d', M' = KI M G ∧ RS M G a c ct cd (s_tp ct cd nc st np) ns nt np nc d' R' l' ∧ n_ok ct (s_tp ct cd nc st np) ns nt ∧ d' ≤ d + s_cnt ct (st 0 - st 0 / 1440 * 1440) np ∧ s_tp ct cd nc st np 0 = st 0 ∧ (∀ x ∈ R', T < x.1) ∧ fr5 a c F G by
    obtain ⟨u, M', hq, rfl, G, R', l', d', rfl, hG⟩ := hq
    exact ⟨G, R', l', d', hq, hG⟩
  refine lp_ct np (fun p => nI p) (fun p M' => ∃ G R' l' d', M' = KI M G ∧ RS M G a c ct cd (s_tp ct cd nc st p) ns nt np nc d' R' l' ∧ n_ok ct (s_tp ct cd nc st p) ns nt ∧ d' ≤ d + s_cnt ct (st 0 - st 0 / 1440 * 1440) p ∧ s_tp ct cd nc st p 0 = st 0 ∧ (∀ x ∈ R', T < x.1) ∧ fr5 a c F G) (fun u M' => u = e ∧ ∃ G R' l' d', M' = KI M G ∧ RS M G a c ct cd (s_tp ct cd nc st np) ns nt np nc d' R' l' ∧ n_ok ct (s_tp ct cd nc st np) ns nt ∧ d' ≤ d + s_cnt ct (st 0 - st 0 / 1440 * 1440) np ∧ s_tp ct cd nc st np 0 = st 0 ∧ (∀ x ∈ R', T < x.1) ∧ fr5 a c F G) ?_ ?_ _ ⟨F, R, l, d, rfl, hS, hn, Nat.le_refl _, rfl, hgt, fun _ _ _ => rfl⟩
  · rintro p _ hp ⟨G, R', l', d', rfl, hS', hn', hd', h0', hgt', hfr⟩
    obtain ⟨x, y, m, hx, hy, hm, ex, ey, em⟩ := htp p hp
    have hcl := s_cnt_le ct (st 0 - st 0 / 1440 * 1440) (show p + 1 ≤ np by omega)
    have EG := hS'.1
    obtain ⟨⟨hL, hcy, hC, hdis⟩, ⟨rc, hcok⟩, rb, r0⟩ := id EG
    have hnn : ¬ nI np ≤ nI p := nI_ge hp (by omega)
    have hp30 : p < 30 := by omega
    have hc2 : G c 12 = nI np := rc.1.2.2.1.trans hnp.1
    have hrow := rc.2.2.2.1 p hp
    have r6 : G (c + 7) p = nI x := hrow.1.trans ex
    have r7 : G (c + 8) p = nI y := hrow.2.1.trans ey
    have r8 := hrow.2.2
    by_cases h1 : ct (108 + p) = st 0 - st 0 / 1440 * 1440
    · have hsc : s_cnt ct (st 0 - st 0 / 1440 * 1440) (p + 1) = s_cnt ct (st 0 - st 0 / 1440 * 1440) p + 1 := by rw [s_cnt, if_pos h1]
      have hd7 : d' < 768 := by omega
      have h3 := hS'.2.2.2.2.1.2.2.1
      have hcan := fun (f' : Int32 → zP (Int32 ⊕ Int32)) => kx_can (f := f') EG hn' hS'.2.1.2.2.1 h3 hd7 hx
      by_cases h2 : s_tp ct cd nc st p (6 + x) = 0
      · have hst : s_tp ct cd nc st (p + 1) = s_up (s_tp ct cd nc st p) 4 (s_tp ct cd nc st p 4 + 1) := by
          rw [s_tp, h0', if_pos h1, ex, ix_nI (by omega), if_pos h2]
        rw [hst]
        refine ⟨KI M (z_up2 G a 11 (s_tp ct cd nc st p 4 + 1)), ?_, _, R', l', d', rfl, RS_lost hS', n_ok_fr hn' (fun k hk => ⟨s_upn _ _ (by omega), s_upn _ _ (by omega)⟩) (fun t ht i hi _ => Or.inl (s_tr_o (s_upn _ _ (by omega)))), by omega, ?_, hgt', fun y y1 y2 => ?_⟩
        · simp (disch := first | assumption | omega | (apply LZ_R; assumption) | (apply LZ_T <;> first | assumption | omega) | (apply LC_F; assumption)) only [e_pu, e_ite, oL_add, oL_addr, oL_mul, nI_add, nI_1, b_pu, b_bd, b_ite, j_L, j_R, j_ite, j_bd, z_ex, ↓reduceIte, if_true, if_false, kt_gI, kt_pI, kt_cv, kt_g0, kt_g1, kt_a1, kt_s1, kt_n1, kt_z1, kt_a2, kt_s2, kt_n2, kt_z2, kr_gI, kr_pI, kr_cv, kr_g0, kr_a1, kr_s1, kr_n1, kr_z1, kf_gI, kf_pI, kf_cv, kf_g0, kf_g1, kf_a1, kf_s1, kf_n1, kf_z1, kf_a2, kf_s2, kf_n2, kf_z2, kc_gI, kc_pI, kc_cv, kc_g0, kc_g1, kc_g2, kc_g3, kc_g4, kc_g5, kc_g6, kc_g7, kc_g8, kc_g9, kc_a1, kc_s1, kc_n1, kc_z1, kc_a2, kc_s2, kc_n2, kc_z2, kc_a3, kc_s3, kc_n3, kc_z3, kc_a4, kc_s4, kc_n4, kc_z4, kc_a5, kc_s5, kc_n5, kc_z5, kc_a6, kc_s6, kc_n6, kc_z6, kc_a7, kc_s7, kc_n7, kc_z7, kc_a8, kc_s8, kc_n8, kc_z8, kc_a9, kc_s9, kc_n9, kc_z9, ks_gI, ks_pI, ks_cv, ks_g0, ks_g1, ks_g2, ks_g3, ks_g4, ks_g5, ks_a1, ks_s1, ks_n1, ks_z1, ks_a2, ks_s2, ks_n2, ks_z2, ks_a3, ks_s3, ks_n3, ks_z3, ks_a4, ks_s4, ks_n4, ks_z4, ks_tr, ks_city hcy, hc2, hnn, r8, h1, r6, hcan, h2, hS'.2.1.2.2.2.1]
        · rw [s_upn _ _ (by decide)]; exact h0'
        · rw [u2_row _ _ (by omega)]; exact hfr y y1 y2
      · have hst : s_tp ct cd nc st (p + 1) = s_beg ct cd (s_tp ct cd nc st p) nc R'.length x y := by
          rw [s_tp, h0', if_pos h1, ex, ey, ix_nI (by omega), ix_nI (by omega), if_neg h2, hS'.2.2.2.2.1.2.1, ix_nI (by have := len_rn (d := d') R' 0 hS'.2.2.2.2.2.2.2.1 (fun x hx => ⟨Nat.zero_le _, (hS'.2.2.2.2.2.2.2.2 x hx).2.1⟩); omega)]
        rw [hst]
        obtain ⟨b, hb0, hb1, hb2⟩ := hrd x y hx hy
        have hRl := len_rn (d := d') R' 0 hS'.2.2.2.2.2.2.2.1 (fun x hx => ⟨Nat.zero_le _, (hS'.2.2.2.2.2.2.2.2 x hx).2.1⟩)
        obtain ⟨G', l2, k1, k2, k3⟩ := kx_start (f := fun _ => z_pu (.inl (nI (p + 1)) : Int32 ⊕ Int32)) hS' hx hy hd7 (by omega) (A := T + b) (by rw [h0', hT, hb2, nI_add]) (by omega)
        refine ⟨KI M G', ?_, G', _, l2, d' + 1, rfl, k2, n_ok_beg hn' h8 hnt hx hy h2, by omega, ?_, fun z hz => ?_, fun y y1 y2 => ?_⟩
        · simp (disch := first | assumption | omega | (apply LZ_R; assumption) | (apply LZ_T <;> first | assumption | omega) | (apply LC_F; assumption)) only [e_pu, e_ite, oL_add, oL_addr, oL_mul, nI_add, nI_1, b_pu, b_bd, b_ite, j_L, j_R, j_ite, j_bd, z_ex, ↓reduceIte, if_true, if_false, kt_gI, kt_pI, kt_cv, kt_g0, kt_g1, kt_a1, kt_s1, kt_n1, kt_z1, kt_a2, kt_s2, kt_n2, kt_z2, kr_gI, kr_pI, kr_cv, kr_g0, kr_a1, kr_s1, kr_n1, kr_z1, kf_gI, kf_pI, kf_cv, kf_g0, kf_g1, kf_a1, kf_s1, kf_n1, kf_z1, kf_a2, kf_s2, kf_n2, kf_z2, kc_gI, kc_pI, kc_cv, kc_g0, kc_g1, kc_g2, kc_g3, kc_g4, kc_g5, kc_g6, kc_g7, kc_g8, kc_g9, kc_a1, kc_s1, kc_n1, kc_z1, kc_a2, kc_s2, kc_n2, kc_z2, kc_a3, kc_s3, kc_n3, kc_z3, kc_a4, kc_s4, kc_n4, kc_z4, kc_a5, kc_s5, kc_n5, kc_z5, kc_a6, kc_s6, kc_n6, kc_z6, kc_a7, kc_s7, kc_n7, kc_z7, kc_a8, kc_s8, kc_n8, kc_z8, kc_a9, kc_s9, kc_n9, kc_z9, ks_gI, ks_pI, ks_cv, ks_g0, ks_g1, ks_g2, ks_g3, ks_g4, ks_g5, ks_a1, ks_s1, ks_n1, ks_z1, ks_a2, ks_s2, ks_n2, ks_z2, ks_a3, ks_s3, ks_n3, ks_z3, ks_a4, ks_s4, ks_n4, ks_z4, ks_tr, ks_city hcy, hc2, hnn, r8, h1, r6, r7, hcan, h2, show ¬ (1 : Int32) = 0 by decide]
          exact k1
        · rw [s_beg_o (by omega)]; exact h0'
        · rcases List.mem_append.mp hz with hz | hz
          · exact hgt' z hz
          · rw [List.mem_singleton] at hz
            subst hz
            show T < T + b
            omega
        · rw [k3 y y1 y2]; exact hfr y y1 y2
    · have hst : s_tp ct cd nc st (p + 1) = s_tp ct cd nc st p := by rw [s_tp, h0', if_neg h1]
      have hsc : s_cnt ct (st 0 - st 0 / 1440 * 1440) (p + 1) = s_cnt ct (st 0 - st 0 / 1440 * 1440) p := by rw [s_cnt, if_neg h1]; rfl
      rw [hst, hsc]
      refine ⟨KI M G, ?_, G, R', l', d', rfl, hS', hn', hd', h0', hgt', hfr⟩
      simp (disch := first | assumption | omega | (apply LZ_R; assumption) | (apply LZ_T <;> first | assumption | omega) | (apply LC_F; assumption)) only [e_pu, e_ite, oL_add, oL_addr, oL_mul, nI_add, nI_1, b_pu, b_bd, b_ite, j_L, j_R, j_ite, j_bd, z_ex, ↓reduceIte, if_true, if_false, kt_gI, kt_pI, kt_cv, kt_g0, kt_g1, kt_a1, kt_s1, kt_n1, kt_z1, kt_a2, kt_s2, kt_n2, kt_z2, kr_gI, kr_pI, kr_cv, kr_g0, kr_a1, kr_s1, kr_n1, kr_z1, kf_gI, kf_pI, kf_cv, kf_g0, kf_g1, kf_a1, kf_s1, kf_n1, kf_z1, kf_a2, kf_s2, kf_n2, kf_z2, kc_gI, kc_pI, kc_cv, kc_g0, kc_g1, kc_g2, kc_g3, kc_g4, kc_g5, kc_g6, kc_g7, kc_g8, kc_g9, kc_a1, kc_s1, kc_n1, kc_z1, kc_a2, kc_s2, kc_n2, kc_z2, kc_a3, kc_s3, kc_n3, kc_z3, kc_a4, kc_s4, kc_n4, kc_z4, kc_a5, kc_s5, kc_n5, kc_z5, kc_a6, kc_s6, kc_n6, kc_z6, kc_a7, kc_s7, kc_n7, kc_z7, kc_a8, kc_s8, kc_n8, kc_z8, kc_a9, kc_s9, kc_n9, kc_z9, ks_gI, ks_pI, ks_cv, ks_g0, ks_g1, ks_g2, ks_g3, ks_g4, ks_g5, ks_a1, ks_s1, ks_n1, ks_z1, ks_a2, ks_s2, ks_n2, ks_z2, ks_a3, ks_s3, ks_n3, ks_z3, ks_a4, ks_s4, ks_n4, ks_z4, ks_tr, ks_city hcy, hc2, hnn, r8, h1]
  · rintro _ ⟨G, R', l', d', rfl, hS', hG⟩
    obtain ⟨⟨hL, hcy, hC, hdis⟩, ⟨rc, hcok⟩, rb, r0⟩ := id hS'.1
    have hc2 : G c 12 = nI np := rc.1.2.2.1.trans hnp.1
    refine ⟨e, KI M G, ?_, rfl, G, R', l', d', rfl, hS', hG⟩
    simp (disch := first | assumption | omega | (apply LZ_R; assumption) | (apply LZ_T <;> first | assumption | omega) | (apply LC_F; assumption)) only [e_pu, e_ite, oL_add, oL_addr, oL_mul, nI_add, nI_1, b_pu, b_bd, b_ite, j_L, j_R, j_ite, j_bd, z_ex, ↓reduceIte, if_true, if_false, kt_gI, kt_pI, kt_cv, kt_g0, kt_g1, kt_a1, kt_s1, kt_n1, kt_z1, kt_a2, kt_s2, kt_n2, kt_z2, kr_gI, kr_pI, kr_cv, kr_g0, kr_a1, kr_s1, kr_n1, kr_z1, kf_gI, kf_pI, kf_cv, kf_g0, kf_g1, kf_a1, kf_s1, kf_n1, kf_z1, kf_a2, kf_s2, kf_n2, kf_z2, kc_gI, kc_pI, kc_cv, kc_g0, kc_g1, kc_g2, kc_g3, kc_g4, kc_g5, kc_g6, kc_g7, kc_g8, kc_g9, kc_a1, kc_s1, kc_n1, kc_z1, kc_a2, kc_s2, kc_n2, kc_z2, kc_a3, kc_s3, kc_n3, kc_z3, kc_a4, kc_s4, kc_n4, kc_z4, kc_a5, kc_s5, kc_n5, kc_z5, kc_a6, kc_s6, kc_n6, kc_z6, kc_a7, kc_s7, kc_n7, kc_z7, kc_a8, kc_s8, kc_n8, kc_z8, kc_a9, kc_s9, kc_n9, kc_z9, ks_gI, ks_pI, ks_cv, ks_g0, ks_g1, ks_g2, ks_g3, ks_g4, ks_g5, ks_a1, ks_s1, ks_n1, ks_z1, ks_a2, ks_s2, ks_n2, ks_z2, ks_a3, ks_s3, ks_n3, ks_z3, ks_a4, ks_s4, ks_n4, ks_z4, ks_tr, ks_city hcy, hc2, show nI np ≤ nI np from Int32.le_refl _]
end PRh
