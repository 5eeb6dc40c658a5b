/-! ===== PHASE 2: the class's advance, minutesUntilOut ===== -/
section PA2
variable {β : Type} {M : zM} {F : Nat → Nat → Int32} {ct cd st : Nat → Int32} {a c d k ns nt np nc kk T N : Nat} {R : List zRd} {l : List Nat} {x : Int32}
theorem kx_advL (hk : kk ≤ 512) : ∀ m F st T N e, AV M F a c ct cd st ns nt np nc kk T → NX ct st nt np T N → N < 2 ^ 31 → T + m ≤ 11510 → ∃ G, (z_lp (fun (t2 : Int32 × Int32 × Int32) => (if t2.2.2 ≤ 0 then (z_pu (.inr t2.1)) else (z_bd (z_gI 5 a 7) (fun v3 => (z_bd (z_pI 5 a 7 (v3 + 1)) (fun _ => (z_bd (z_gI 5 a 7) (fun v4 => (if v4 < t2.2.1 then (z_bd (z_pu (t2.2.2 + (-1))) (fun x5 => (z_pu (.inl (t2.1, t2.2.1, x5))))) else (z_bd (z_cv 5 a (p_X5_happen a)) (fun r6 => (z_bd (z_pu ((t2.1 + r6))) (fun x7 => (z_bd (z_cv 5 a (p_X5_nextEvent a)) (fun r8 => (z_bd (z_pu (t2.2.2 + (-1))) (fun x9 => (z_pu (.inl (x7, r8, x9)))))))))))))))))))) (e, nI N, nI m)).1 (KI M F) = some (.inr (e + s_en ct cd ns nt np nc m st), KI M G) ∧ AV M G a c ct cd (s_its ct cd ns nt np nc m st) ns nt np nc kk (T + m) ∧ fr5 a c F G
  | 0, F, st, T, N, e, h, hN, hN1, hT => by
    refine ⟨F, ?_, h, fr5_rf⟩
    rw [s_en, Int32.add_zero]
    refine z_lp_end ?_
    rfl
  | m + 1, F, st, T, N, e, h, hN, hN1, hT => by
    have hc := (AV_c h).1
    have hL := (AV_c h).2
    have e7 : F a 7 = nI T := by
      obtain ⟨d, R, l, hS, hn, h0, hg, hd⟩ := h
      exact hS.1.2.2.2.trans h0
    have hm : ¬ nI (m + 1) ≤ 0 := nI_nle (by omega) (by omega)
    have hm1 : nI (m + 1) + (-1) = nI m := pk_m1 m
    have e71 : z_up2 F a 7 (nI (T + 1)) a 7 = nI (T + 1) := u2_s _ _ _ _
    by_cases hlt : T + 1 < N
    · have hP := AV_PV h
      have h1 := AV_q h hN (by omega) hlt
      have h2 := min_q (cd := cd) (nc := nc) hP hN (by omega) hlt hc.1.2.2.2.1 hc.1.2.1
      have hN2 : NX ct (s_min ct cd ns nt np nc st) nt np (T + 1) N := by rw [h2.1]; exact NX_tick hN _ hc.1.2.2.2.1
      obtain ⟨G, k1, k2, k3⟩ := kx_advL hk m _ _ (T + 1) N e h1 hN2 hN1 (by omega)
      refine ⟨G, ?_, by rw [show T + (m + 1) = T + 1 + m by omega]; exact k2, fr5_tr (fr5_up (by omega)) k3⟩
      rw [s_en, h2.2, Int32.zero_add]
      refine (z_lp_step ?_).trans k1
      have hl2 : nI (T + 1) < nI N := nI_lt hlt hN1
      simp (disch := first | assumption | omega | (apply LZ_R; assumption) | (apply LZ_T <;> first | assumption | omega) | (apply LC_F; assumption)) only [e_pu, e_ite, oL_add, oL_addr, oL_mul, nI_add, nI_1, b_pu, b_bd, b_ite, j_L, j_R, j_ite, j_bd, z_ex, ↓reduceIte, if_true, if_false, kt_gI, kt_pI, kt_cv, kt_g0, kt_g1, kt_a1, kt_s1, kt_n1, kt_z1, kt_a2, kt_s2, kt_n2, kt_z2, kr_gI, kr_pI, kr_cv, kr_g0, kr_a1, kr_s1, kr_n1, kr_z1, kf_gI, kf_pI, kf_cv, kf_g0, kf_g1, kf_a1, kf_s1, kf_n1, kf_z1, kf_a2, kf_s2, kf_n2, kf_z2, kc_gI, kc_pI, kc_cv, kc_g0, kc_g1, kc_g2, kc_g3, kc_g4, kc_g5, kc_g6, kc_g7, kc_g8, kc_g9, kc_a1, kc_s1, kc_n1, kc_z1, kc_a2, kc_s2, kc_n2, kc_z2, kc_a3, kc_s3, kc_n3, kc_z3, kc_a4, kc_s4, kc_n4, kc_z4, kc_a5, kc_s5, kc_n5, kc_z5, kc_a6, kc_s6, kc_n6, kc_z6, kc_a7, kc_s7, kc_n7, kc_z7, kc_a8, kc_s8, kc_n8, kc_z8, kc_a9, kc_s9, kc_n9, kc_z9, ks_gI, ks_pI, ks_cv, ks_g0, ks_g1, ks_g2, ks_g3, ks_g4, ks_g5, ks_a1, ks_s1, ks_n1, ks_z1, ks_a2, ks_s2, ks_n2, ks_z2, ks_a3, ks_s3, ks_n3, ks_z3, ks_a4, ks_s4, ks_n4, ks_z4, ks_tr, hm, e7, e71, hl2, hm1]
    · obtain ⟨G, k1, k2, k3⟩ := AV_hap h hk (by omega)
      obtain ⟨N2, n1, n2, n3⟩ := kx_nextN (β := (Int32 × Int32 × Int32) ⊕ Int32) k2 (by omega)
      obtain ⟨G2, j1, j2, j3⟩ := kx_advL hk m _ _ (T + 1) N2 (e + s_e1 ct ns nt st) k2 n2 n1 (by omega)
      refine ⟨G2, ?_, by rw [show T + (m + 1) = T + 1 + m by omega]; exact j2, fr5_tr k3 j3⟩
      rw [s_en, ← Int32.add_assoc]
      refine (z_lp_step ?_).trans j1
      have hl2 : ¬ nI (T + 1) < nI N := nI_nlt (by omega) (by omega)
      simp (disch := first | assumption | omega | (apply LZ_R; assumption) | (apply LZ_T <;> first | assumption | omega) | (apply LC_F; assumption)) only [e_pu, e_ite, oL_add, oL_addr, oL_mul, nI_add, nI_1, b_pu, b_bd, b_ite, j_L, j_R, j_ite, j_bd, z_ex, ↓reduceIte, if_true, if_false, kt_gI, kt_pI, kt_cv, kt_g0, kt_g1, kt_a1, kt_s1, kt_n1, kt_z1, kt_a2, kt_s2, kt_n2, kt_z2, kr_gI, kr_pI, kr_cv, kr_g0, kr_a1, kr_s1, kr_n1, kr_z1, kf_gI, kf_pI, kf_cv, kf_g0, kf_g1, kf_a1, kf_s1, kf_n1, kf_z1, kf_a2, kf_s2, kf_n2, kf_z2, kc_gI, kc_pI, kc_cv, kc_g0, kc_g1, kc_g2, kc_g3, kc_g4, kc_g5, kc_g6, kc_g7, kc_g8, kc_g9, kc_a1, kc_s1, kc_n1, kc_z1, kc_a2, kc_s2, kc_n2, kc_z2, kc_a3, kc_s3, kc_n3, kc_z3, kc_a4, kc_s4, kc_n4, kc_z4, kc_a5, kc_s5, kc_n5, kc_z5, kc_a6, kc_s6, kc_n6, kc_z6, kc_a7, kc_s7, kc_n7, kc_z7, kc_a8, kc_s8, kc_n8, kc_z8, kc_a9, kc_s9, kc_n9, kc_z9, ks_gI, ks_pI, ks_cv, ks_g0, ks_g1, ks_g2, ks_g3, ks_g4, ks_g5, ks_a1, ks_s1, ks_n1, ks_z1, ks_a2, ks_s2, ks_n2, ks_z2, ks_a3, ks_s3, ks_n3, ks_z3, ks_a4, ks_s4, ks_n4, ks_z4, ks_tr, hm, e7, e71, hl2]
      refine (e_run k1).trans ?_
      simp (disch := first | assumption | omega | (apply LZ_R; assumption) | (apply LZ_T <;> first | assumption | omega) | (apply LC_F; assumption)) only [e_pu, e_ite, oL_add, oL_addr, oL_mul, nI_add, nI_1, b_pu, b_bd, b_ite, j_L, j_R, j_ite, j_bd, z_ex, ↓reduceIte, if_true, if_false, kt_gI, kt_pI, kt_cv, kt_g0, kt_g1, kt_a1, kt_s1, kt_n1, kt_z1, kt_a2, kt_s2, kt_n2, kt_z2, kr_gI, kr_pI, kr_cv, kr_g0, kr_a1, kr_s1, kr_n1, kr_z1, kf_gI, kf_pI, kf_cv, kf_g0, kf_g1, kf_a1, kf_s1, kf_n1, kf_z1, kf_a2, kf_s2, kf_n2, kf_z2, kc_gI, kc_pI, kc_cv, kc_g0, kc_g1, kc_g2, kc_g3, kc_g4, kc_g5, kc_g6, kc_g7, kc_g8, kc_g9, kc_a1, kc_s1, kc_n1, kc_z1, kc_a2, kc_s2, kc_n2, kc_z2, kc_a3, kc_s3, kc_n3, kc_z3, kc_a4, kc_s4, kc_n4, kc_z4, kc_a5, kc_s5, kc_n5, kc_z5, kc_a6, kc_s6, kc_n6, kc_z6, kc_a7, kc_s7, kc_n7, kc_z7, kc_a8, kc_s8, kc_n8, kc_z8, kc_a9, kc_s9, kc_n9, kc_z9, ks_gI, ks_pI, ks_cv, ks_g0, ks_g1, ks_g2, ks_g3, ks_g4, ks_g5, ks_a1, ks_s1, ks_n1, ks_z1, ks_a2, ks_s2, ks_n2, ks_z2, ks_a3, ks_s3, ks_n3, ks_z3, ks_a4, ks_s4, ks_n4, ks_z4, ks_tr]
      refine (n3 _).trans ?_
      simp (disch := first | assumption | omega | (apply LZ_R; assumption) | (apply LZ_T <;> first | assumption | omega) | (apply LC_F; assumption)) only [e_pu, e_ite, oL_add, oL_addr, oL_mul, nI_add, nI_1, b_pu, b_bd, b_ite, j_L, j_R, j_ite, j_bd, z_ex, ↓reduceIte, if_true, if_false, kt_gI, kt_pI, kt_cv, kt_g0, kt_g1, kt_a1, kt_s1, kt_n1, kt_z1, kt_a2, kt_s2, kt_n2, kt_z2, kr_gI, kr_pI, kr_cv, kr_g0, kr_a1, kr_s1, kr_n1, kr_z1, kf_gI, kf_pI, kf_cv, kf_g0, kf_g1, kf_a1, kf_s1, kf_n1, kf_z1, kf_a2, kf_s2, kf_n2, kf_z2, kc_gI, kc_pI, kc_cv, kc_g0, kc_g1, kc_g2, kc_g3, kc_g4, kc_g5, kc_g6, kc_g7, kc_g8, kc_g9, kc_a1, kc_s1, kc_n1, kc_z1, kc_a2, kc_s2, kc_n2, kc_z2, kc_a3, kc_s3, kc_n3, kc_z3, kc_a4, kc_s4, kc_n4, kc_z4, kc_a5, kc_s5, kc_n5, kc_z5, kc_a6, kc_s6, kc_n6, kc_z6, kc_a7, kc_s7, kc_n7, kc_z7, kc_a8, kc_s8, kc_n8, kc_z8, kc_a9, kc_s9, kc_n9, kc_z9, ks_gI, ks_pI, ks_cv, ks_g0, ks_g1, ks_g2, ks_g3, ks_g4, ks_g5, ks_a1, ks_s1, ks_n1, ks_z1, ks_a2, ks_s2, ks_n2, ks_z2, ks_a3, ks_s3, ks_n3, ks_z3, ks_a4, ks_s4, ks_n4, ks_z4, ks_tr, hm1]
theorem kx_adv {f : Int32 → zP β} (h : AV M F a c ct cd st ns nt np nc kk T) (hk : kk ≤ 512) {m : Nat} (hT : T + m ≤ 11510) : ∃ G, (z_bd (p_X5_advance a (nI m)) f).1 (KI M F) = (f (s_en ct cd ns nt np nc m st)).1 (KI M G) ∧ AV M G a c ct cd (s_its ct cd ns nt np nc m st) ns nt np nc kk (T + m) ∧ fr5 a c F G := by
  have hL := (AV_c h).2
  obtain ⟨N2, n1, n2, n3⟩ := kx_nextN (β := Int32) h (by omega)
  obtain ⟨G2, j1, j2, j3⟩ := kx_advL hk m _ _ T N2 0 h n2 n1 hT
  refine ⟨G2, ?_, j2, j3⟩
  refine e_run ?_
  unfold p_X5_advance
  simp (disch := first | assumption | omega | (apply LZ_R; assumption) | (apply LZ_T <;> first | assumption | omega) | (apply LC_F; assumption)) only [ks_cv]
  refine (n3 _).trans ?_
  rw [Int32.zero_add] at j1
  exact j1
/-- bikes or free docks of a station, and whether they have run out -/
theorem kx_out {f : Int32 → zP β} (E : EN M F a c ct cd st ns nt np nc) (hk : k < ns) : (z_bd (p_X5_isOut a (nI k) x) f).1 (KI M F) = (f (if s_bk ct st x k = 0 then 1 else 0)).1 (KI M F) := by
  have h8 := EN_ns E
  obtain ⟨⟨hL, hcy, hC, hdis⟩, ⟨rc, hok⟩, rb, r0⟩ := id E
  have hk8 : k < 8 := by omega
  have b1 := (rb k hk).1
  unfold p_X5_isOut s_bk
  by_cases hx : x = 0
  · simp (disch := first | assumption | omega | (apply LZ_R; assumption) | (apply LZ_T <;> first | assumption | omega) | (apply LC_F; assumption)) only [e_pu, e_ite, oL_add, oL_addr, oL_mul, nI_add, nI_1, b_pu, b_bd, b_ite, j_L, j_R, j_ite, j_bd, z_ex, ↓reduceIte, if_true, if_false, kt_gI, kt_pI, kt_cv, kt_g0, kt_g1, kt_a1, kt_s1, kt_n1, kt_z1, kt_a2, kt_s2, kt_n2, kt_z2, kr_gI, kr_pI, kr_cv, kr_g0, kr_a1, kr_s1, kr_n1, kr_z1, kf_gI, kf_pI, kf_cv, kf_g0, kf_g1, kf_a1, kf_s1, kf_n1, kf_z1, kf_a2, kf_s2, kf_n2, kf_z2, kc_gI, kc_pI, kc_cv, kc_g0, kc_g1, kc_g2, kc_g3, kc_g4, kc_g5, kc_g6, kc_g7, kc_g8, kc_g9, kc_a1, kc_s1, kc_n1, kc_z1, kc_a2, kc_s2, kc_n2, kc_z2, kc_a3, kc_s3, kc_n3, kc_z3, kc_a4, kc_s4, kc_n4, kc_z4, kc_a5, kc_s5, kc_n5, kc_z5, kc_a6, kc_s6, kc_n6, kc_z6, kc_a7, kc_s7, kc_n7, kc_z7, kc_a8, kc_s8, kc_n8, kc_z8, kc_a9, kc_s9, kc_n9, kc_z9, ks_gI, ks_pI, ks_cv, ks_g0, ks_g1, ks_g2, ks_g3, ks_g4, ks_g5, ks_a1, ks_s1, ks_n1, ks_z1, ks_a2, ks_s2, ks_n2, ks_z2, ks_a3, ks_s3, ks_n3, ks_z3, ks_a4, ks_s4, ks_n4, ks_z4, ks_tr, hx, b1]
    split <;> rfl
  · simp (disch := first | assumption | omega | (apply LZ_R; assumption) | (apply LZ_T <;> first | assumption | omega) | (apply LC_F; assumption)) only [e_pu, e_ite, oL_add, oL_addr, oL_mul, nI_add, nI_1, b_pu, b_bd, b_ite, j_L, j_R, j_ite, j_bd, z_ex, ↓reduceIte, if_true, if_false, kt_gI, kt_pI, kt_cv, kt_g0, kt_g1, kt_a1, kt_s1, kt_n1, kt_z1, kt_a2, kt_s2, kt_n2, kt_z2, kr_gI, kr_pI, kr_cv, kr_g0, kr_a1, kr_s1, kr_n1, kr_z1, kf_gI, kf_pI, kf_cv, kf_g0, kf_g1, kf_a1, kf_s1, kf_n1, kf_z1, kf_a2, kf_s2, kf_n2, kf_z2, kc_gI, kc_pI, kc_cv, kc_g0, kc_g1, kc_g2, kc_g3, kc_g4, kc_g5, kc_g6, kc_g7, kc_g8, kc_g9, kc_a1, kc_s1, kc_n1, kc_z1, kc_a2, kc_s2, kc_n2, kc_z2, kc_a3, kc_s3, kc_n3, kc_z3, kc_a4, kc_s4, kc_n4, kc_z4, kc_a5, kc_s5, kc_n5, kc_z5, kc_a6, kc_s6, kc_n6, kc_z6, kc_a7, kc_s7, kc_n7, kc_z7, kc_a8, kc_s8, kc_n8, kc_z8, kc_a9, kc_s9, kc_n9, kc_z9, ks_gI, ks_pI, ks_cv, ks_g0, ks_g1, ks_g2, ks_g3, ks_g4, ks_g5, ks_a1, ks_s1, ks_n1, ks_z1, ks_a2, ks_s2, ks_n2, ks_z2, ks_a3, ks_s3, ks_n3, ks_z3, ks_a4, ks_s4, ks_n4, ks_z4, ks_tr, hx, kx_fr E hk]
    split <;> rfl
/-- after how many minutes, of n, it runs out -/
def s_ro (ct cd : Nat → Int32) (ns nt np nc k : Nat) (x : Int32) : Nat → Nat → (Nat → Int32) → Int32
  | 0, _, _ => -1
  | n + 1, p, st => if s_bk ct (s_min ct cd ns nt np nc st) x k = 0 then nI p else s_ro ct cd ns nt np nc k x n (p + 1) (s_min ct cd ns nt np nc st)
theorem AV_EN (h : AV M F a c ct cd st ns nt np nc kk T) : EN M F a c ct cd st ns nt np nc := by
  obtain ⟨d, R, l, hS, _⟩ := h
  exact hS.1
theorem kx_outL (hk : kk ≤ 512) (hs : k < ns) : ∀ m F st T N p, p + m = 1441 → s_bk ct st x k ≠ 0 → AV M F a c ct cd st ns nt np nc kk T → NX ct st nt np T N → N < 2 ^ 31 → T + m ≤ 11510 → ∃ G, (z_lp (fun (t3 : Int32 × Int32) => (if 1440 < t3.2 then (z_pu (.inr (-1))) else (z_bd (z_gI 5 a 7) (fun v4 => (z_bd (z_pI 5 a 7 (v4 + 1)) (fun _ => (z_bd (z_gI 5 a 7) (fun v5 => (if v5 < t3.1 then (z_pu (.inl (t3.1, (t3.2 + 1)))) else (z_bd (z_cv 5 a (p_X5_happen a)) (fun r6 => (z_bd (z_cv 5 a (p_X5_isOut a (nI k) x)) (fun r7 => (if r7 = 0 then (z_bd (z_cv 5 a (p_X5_nextEvent a)) (fun r8 => (z_pu (.inl (r8, (t3.2 + 1)))))) else (z_pu (.inr t3.2)))))))))))))))) (nI N, nI p)).1 (KI M F) = some (.inr (s_ro ct cd ns nt np nc k x m p st), KI M G) ∧ fr5 a c F G
  | 0, F, st, T, N, p, hp, h0, h, hN, hN1, hT => by
    refine ⟨F, ?_, fr5_rf⟩
    refine z_lp_end ?_
    have hm : (1440 : Int32) < nI p := nI_lt (a := 1440) (by omega) (by omega)
    simp (disch := first | assumption | omega | (apply LZ_R; assumption) | (apply LZ_T <;> first | assumption | omega) | (apply LC_F; assumption)) only [e_pu, e_ite, oL_add, oL_addr, oL_mul, nI_add, nI_1, b_pu, b_bd, b_ite, j_L, j_R, j_ite, j_bd, z_ex, ↓reduceIte, if_true, if_false, kt_gI, kt_pI, kt_cv, kt_g0, kt_g1, kt_a1, kt_s1, kt_n1, kt_z1, kt_a2, kt_s2, kt_n2, kt_z2, kr_gI, kr_pI, kr_cv, kr_g0, kr_a1, kr_s1, kr_n1, kr_z1, kf_gI, kf_pI, kf_cv, kf_g0, kf_g1, kf_a1, kf_s1, kf_n1, kf_z1, kf_a2, kf_s2, kf_n2, kf_z2, kc_gI, kc_pI, kc_cv, kc_g0, kc_g1, kc_g2, kc_g3, kc_g4, kc_g5, kc_g6, kc_g7, kc_g8, kc_g9, kc_a1, kc_s1, kc_n1, kc_z1, kc_a2, kc_s2, kc_n2, kc_z2, kc_a3, kc_s3, kc_n3, kc_z3, kc_a4, kc_s4, kc_n4, kc_z4, kc_a5, kc_s5, kc_n5, kc_z5, kc_a6, kc_s6, kc_n6, kc_z6, kc_a7, kc_s7, kc_n7, kc_z7, kc_a8, kc_s8, kc_n8, kc_z8, kc_a9, kc_s9, kc_n9, kc_z9, ks_gI, ks_pI, ks_cv, ks_g0, ks_g1, ks_g2, ks_g3, ks_g4, ks_g5, ks_a1, ks_s1, ks_n1, ks_z1, ks_a2, ks_s2, ks_n2, ks_z2, ks_a3, ks_s3, ks_n3, ks_z3, ks_a4, ks_s4, ks_n4, ks_z4, ks_tr, hm, s_ro]
  | m + 1, F, st, T, N, p, hp, h0, h, hN, hN1, hT => by
    have hc := (AV_c h).1
    have hL := (AV_c h).2
    have e7 : F a 7 = nI T := by
      obtain ⟨d, R, l, hS, hn, h0, hg, hd⟩ := h
      exact hS.1.2.2.2.trans h0
    have hm : ¬ (1440 : Int32) < nI p := nI_nlt (b := p) (a := 1440) (by omega) (by decide)
    have e71 : z_up2 F a 7 (nI (T + 1)) a 7 = nI (T + 1) := u2_s _ _ _ _
    by_cases hlt : T + 1 < N
    · have hP := AV_PV h
      have h1 := AV_q h hN (by omega) hlt
      have h2 := min_q (cd := cd) (nc := nc) hP hN (by omega) hlt hc.1.2.2.2.1 hc.1.2.1
      have hN2 : NX ct (s_min ct cd ns nt np nc st) nt np (T + 1) N := by rw [h2.1]; exact NX_tick hN _ hc.1.2.2.2.1
      have hb : s_bk ct (s_min ct cd ns nt np nc st) x k = s_bk ct st x k := by
        rw [h2.1]
        unfold s_bk s_fr s_wk
        rw [s_upn _ _ (by omega), s_upn _ _ (by omega)]
      obtain ⟨G, k1, k3⟩ := kx_outL hk hs m _ _ (T + 1) N (p + 1) (by omega) (by rw [hb]; exact h0) h1 hN2 hN1 (by omega)
      refine ⟨G, ?_, fr5_tr (fr5_up (by omega)) k3⟩
      rw [s_ro, if_neg (by rw [hb]; exact h0)]
      refine (z_lp_step ?_).trans k1
      have hl2 : nI (T + 1) < nI N := nI_lt hlt hN1
      simp (disch := first | assumption | omega | (apply LZ_R; assumption) | (apply LZ_T <;> first | assumption | omega) | (apply LC_F; assumption)) only [e_pu, e_ite, oL_add, oL_addr, oL_mul, nI_add, nI_1, b_pu, b_bd, b_ite, j_L, j_R, j_ite, j_bd, z_ex, ↓reduceIte, if_true, if_false, kt_gI, kt_pI, kt_cv, kt_g0, kt_g1, kt_a1, kt_s1, kt_n1, kt_z1, kt_a2, kt_s2, kt_n2, kt_z2, kr_gI, kr_pI, kr_cv, kr_g0, kr_a1, kr_s1, kr_n1, kr_z1, kf_gI, kf_pI, kf_cv, kf_g0, kf_g1, kf_a1, kf_s1, kf_n1, kf_z1, kf_a2, kf_s2, kf_n2, kf_z2, kc_gI, kc_pI, kc_cv, kc_g0, kc_g1, kc_g2, kc_g3, kc_g4, kc_g5, kc_g6, kc_g7, kc_g8, kc_g9, kc_a1, kc_s1, kc_n1, kc_z1, kc_a2, kc_s2, kc_n2, kc_z2, kc_a3, kc_s3, kc_n3, kc_z3, kc_a4, kc_s4, kc_n4, kc_z4, kc_a5, kc_s5, kc_n5, kc_z5, kc_a6, kc_s6, kc_n6, kc_z6, kc_a7, kc_s7, kc_n7, kc_z7, kc_a8, kc_s8, kc_n8, kc_z8, kc_a9, kc_s9, kc_n9, kc_z9, ks_gI, ks_pI, ks_cv, ks_g0, ks_g1, ks_g2, ks_g3, ks_g4, ks_g5, ks_a1, ks_s1, ks_n1, ks_z1, ks_a2, ks_s2, ks_n2, ks_z2, ks_a3, ks_s3, ks_n3, ks_z3, ks_a4, ks_s4, ks_n4, ks_z4, ks_tr, hm, e7, e71, hl2]
    · obtain ⟨G, k1, k2, k3⟩ := AV_hap h hk (by omega)
      have hl2 : ¬ nI (T + 1) < nI N := nI_nlt (by omega) (by omega)
      have E2 := AV_EN k2
      by_cases hb : s_bk ct (s_min ct cd ns nt np nc st) x k = 0
      · refine ⟨G, ?_, k3⟩
        rw [s_ro, if_pos hb]
        refine z_lp_end ?_
        simp (disch := first | assumption | omega | (apply LZ_R; assumption) | (apply LZ_T <;> first | assumption | omega) | (apply LC_F; assumption)) only [e_pu, e_ite, oL_add, oL_addr, oL_mul, nI_add, nI_1, b_pu, b_bd, b_ite, j_L, j_R, j_ite, j_bd, z_ex, ↓reduceIte, if_true, if_false, kt_gI, kt_pI, kt_cv, kt_g0, kt_g1, kt_a1, kt_s1, kt_n1, kt_z1, kt_a2, kt_s2, kt_n2, kt_z2, kr_gI, kr_pI, kr_cv, kr_g0, kr_a1, kr_s1, kr_n1, kr_z1, kf_gI, kf_pI, kf_cv, kf_g0, kf_g1, kf_a1, kf_s1, kf_n1, kf_z1, kf_a2, kf_s2, kf_n2, kf_z2, kc_gI, kc_pI, kc_cv, kc_g0, kc_g1, kc_g2, kc_g3, kc_g4, kc_g5, kc_g6, kc_g7, kc_g8, kc_g9, kc_a1, kc_s1, kc_n1, kc_z1, kc_a2, kc_s2, kc_n2, kc_z2, kc_a3, kc_s3, kc_n3, kc_z3, kc_a4, kc_s4, kc_n4, kc_z4, kc_a5, kc_s5, kc_n5, kc_z5, kc_a6, kc_s6, kc_n6, kc_z6, kc_a7, kc_s7, kc_n7, kc_z7, kc_a8, kc_s8, kc_n8, kc_z8, kc_a9, kc_s9, kc_n9, kc_z9, ks_gI, ks_pI, ks_cv, ks_g0, ks_g1, ks_g2, ks_g3, ks_g4, ks_g5, ks_a1, ks_s1, ks_n1, ks_z1, ks_a2, ks_s2, ks_n2, ks_z2, ks_a3, ks_s3, ks_n3, ks_z3, ks_a4, ks_s4, ks_n4, ks_z4, ks_tr, hm, e7, e71, hl2]
        refine (e_run k1).trans ?_
        simp (disch := first | assumption | omega | (apply LZ_R; assumption) | (apply LZ_T <;> first | assumption | omega) | (apply LC_F; assumption)) only [e_pu, e_ite, oL_add, oL_addr, oL_mul, nI_add, nI_1, b_pu, b_bd, b_ite, j_L, j_R, j_ite, j_bd, z_ex, ↓reduceIte, if_true, if_false, kt_gI, kt_pI, kt_cv, kt_g0, kt_g1, kt_a1, kt_s1, kt_n1, kt_z1, kt_a2, kt_s2, kt_n2, kt_z2, kr_gI, kr_pI, kr_cv, kr_g0, kr_a1, kr_s1, kr_n1, kr_z1, kf_gI, kf_pI, kf_cv, kf_g0, kf_g1, kf_a1, kf_s1, kf_n1, kf_z1, kf_a2, kf_s2, kf_n2, kf_z2, kc_gI, kc_pI, kc_cv, kc_g0, kc_g1, kc_g2, kc_g3, kc_g4, kc_g5, kc_g6, kc_g7, kc_g8, kc_g9, kc_a1, kc_s1, kc_n1, kc_z1, kc_a2, kc_s2, kc_n2, kc_z2, kc_a3, kc_s3, kc_n3, kc_z3, kc_a4, kc_s4, kc_n4, kc_z4, kc_a5, kc_s5, kc_n5, kc_z5, kc_a6, kc_s6, kc_n6, kc_z6, kc_a7, kc_s7, kc_n7, kc_z7, kc_a8, kc_s8, kc_n8, kc_z8, kc_a9, kc_s9, kc_n9, kc_z9, ks_gI, ks_pI, ks_cv, ks_g0, ks_g1, ks_g2, ks_g3, ks_g4, ks_g5, ks_a1, ks_s1, ks_n1, ks_z1, ks_a2, ks_s2, ks_n2, ks_z2, ks_a3, ks_s3, ks_n3, ks_z3, ks_a4, ks_s4, ks_n4, ks_z4, ks_tr]
        refine (kx_out E2 hs).trans ?_
        rw [if_pos hb, if_neg (by decide)]
        rfl
      · obtain ⟨N2, n1, n2, n3⟩ := kx_nextN (β := (Int32 × Int32) ⊕ Int32) k2 (by omega)
        obtain ⟨G2, j1, j3⟩ := kx_outL hk hs m _ _ (T + 1) N2 (p + 1) (by omega) hb k2 n2 n1 (by omega)
        refine ⟨G2, ?_, fr5_tr k3 j3⟩
        rw [s_ro, if_neg hb]
        refine (z_lp_step ?_).trans j1
        simp (disch := first | assumption | omega | (apply LZ_R; assumption) | (apply LZ_T <;> first | assumption | omega) | (apply LC_F; assumption)) only [e_pu, e_ite, oL_add, oL_addr, oL_mul, nI_add, nI_1, b_pu, b_bd, b_ite, j_L, j_R, j_ite, j_bd, z_ex, ↓reduceIte, if_true, if_false, kt_gI, kt_pI, kt_cv, kt_g0, kt_g1, kt_a1, kt_s1, kt_n1, kt_z1, kt_a2, kt_s2, kt_n2, kt_z2, kr_gI, kr_pI, kr_cv, kr_g0, kr_a1, kr_s1, kr_n1, kr_z1, kf_gI, kf_pI, kf_cv, kf_g0, kf_g1, kf_a1, kf_s1, kf_n1, kf_z1, kf_a2, kf_s2, kf_n2, kf_z2, kc_gI, kc_pI, kc_cv, kc_g0, kc_g1, kc_g2, kc_g3, kc_g4, kc_g5, kc_g6, kc_g7, kc_g8, kc_g9, kc_a1, kc_s1, kc_n1, kc_z1, kc_a2, kc_s2, kc_n2, kc_z2, kc_a3, kc_s3, kc_n3, kc_z3, kc_a4, kc_s4, kc_n4, kc_z4, kc_a5, kc_s5, kc_n5, kc_z5, kc_a6, kc_s6, kc_n6, kc_z6, kc_a7, kc_s7, kc_n7, kc_z7, kc_a8, kc_s8, kc_n8, kc_z8, kc_a9, kc_s9, kc_n9, kc_z9, ks_gI, ks_pI, ks_cv, ks_g0, ks_g1, ks_g2, ks_g3, ks_g4, ks_g5, ks_a1, ks_s1, ks_n1, ks_z1, ks_a2, ks_s2, ks_n2, ks_z2, ks_a3, ks_s3, ks_n3, ks_z3, ks_a4, ks_s4, ks_n4, ks_z4, ks_tr, hm, e7, e71, hl2]
        refine (e_run k1).trans ?_
        simp (disch := first | assumption | omega | (apply LZ_R; assumption) | (apply LZ_T <;> first | assumption | omega) | (apply LC_F; assumption)) only [e_pu, e_ite, oL_add, oL_addr, oL_mul, nI_add, nI_1, b_pu, b_bd, b_ite, j_L, j_R, j_ite, j_bd, z_ex, ↓reduceIte, if_true, if_false, kt_gI, kt_pI, kt_cv, kt_g0, kt_g1, kt_a1, kt_s1, kt_n1, kt_z1, kt_a2, kt_s2, kt_n2, kt_z2, kr_gI, kr_pI, kr_cv, kr_g0, kr_a1, kr_s1, kr_n1, kr_z1, kf_gI, kf_pI, kf_cv, kf_g0, kf_g1, kf_a1, kf_s1, kf_n1, kf_z1, kf_a2, kf_s2, kf_n2, kf_z2, kc_gI, kc_pI, kc_cv, kc_g0, kc_g1, kc_g2, kc_g3, kc_g4, kc_g5, kc_g6, kc_g7, kc_g8, kc_g9, kc_a1, kc_s1, kc_n1, kc_z1, kc_a2, kc_s2, kc_n2, kc_z2, kc_a3, kc_s3, kc_n3, kc_z3, kc_a4, kc_s4, kc_n4, kc_z4, kc_a5, kc_s5, kc_n5, kc_z5, kc_a6, kc_s6, kc_n6, kc_z6, kc_a7, kc_s7, kc_n7, kc_z7, kc_a8, kc_s8, kc_n8, kc_z8, kc_a9, kc_s9, kc_n9, kc_z9, ks_gI, ks_pI, ks_cv, ks_g0, ks_g1, ks_g2, ks_g3, ks_g4, ks_g5, ks_a1, ks_s1, ks_n1, ks_z1, ks_a2, ks_s2, ks_n2, ks_z2, ks_a3, ks_s3, ks_n3, ks_z3, ks_a4, ks_s4, ks_n4, ks_z4, ks_tr]
        refine (kx_out E2 hs).trans ?_
        rw [if_neg hb, if_pos rfl]
        simp (disch := first | assumption | omega | (apply LZ_R; assumption) | (apply LZ_T <;> first | assumption | omega) | (apply LC_F; assumption)) only [e_pu, e_ite, oL_add, oL_addr, oL_mul, nI_add, nI_1, b_pu, b_bd, b_ite, j_L, j_R, j_ite, j_bd, z_ex, ↓reduceIte, if_true, if_false, kt_gI, kt_pI, kt_cv, kt_g0, kt_g1, kt_a1, kt_s1, kt_n1, kt_z1, kt_a2, kt_s2, kt_n2, kt_z2, kr_gI, kr_pI, kr_cv, kr_g0, kr_a1, kr_s1, kr_n1, kr_z1, kf_gI, kf_pI, kf_cv, kf_g0, kf_g1, kf_a1, kf_s1, kf_n1, kf_z1, kf_a2, kf_s2, kf_n2, kf_z2, kc_gI, kc_pI, kc_cv, kc_g0, kc_g1, kc_g2, kc_g3, kc_g4, kc_g5, kc_g6, kc_g7, kc_g8, kc_g9, kc_a1, kc_s1, kc_n1, kc_z1, kc_a2, kc_s2, kc_n2, kc_z2, kc_a3, kc_s3, kc_n3, kc_z3, kc_a4, kc_s4, kc_n4, kc_z4, kc_a5, kc_s5, kc_n5, kc_z5, kc_a6, kc_s6, kc_n6, kc_z6, kc_a7, kc_s7, kc_n7, kc_z7, kc_a8, kc_s8, kc_n8, kc_z8, kc_a9, kc_s9, kc_n9, kc_z9, ks_gI, ks_pI, ks_cv, ks_g0, ks_g1, ks_g2, ks_g3, ks_g4, ks_g5, ks_a1, ks_s1, ks_n1, ks_z1, ks_a2, ks_s2, ks_n2, ks_z2, ks_a3, ks_s3, ks_n3, ks_z3, ks_a4, ks_s4, ks_n4, ks_z4, ks_tr]
        refine (n3 _).trans ?_
        simp (disch := first | assumption | omega | (apply LZ_R; assumption) | (apply LZ_T <;> first | assumption | omega) | (apply LC_F; assumption)) only [e_pu, e_ite, oL_add, oL_addr, oL_mul, nI_add, nI_1, b_pu, b_bd, b_ite, j_L, j_R, j_ite, j_bd, z_ex, ↓reduceIte, if_true, if_false, kt_gI, kt_pI, kt_cv, kt_g0, kt_g1, kt_a1, kt_s1, kt_n1, kt_z1, kt_a2, kt_s2, kt_n2, kt_z2, kr_gI, kr_pI, kr_cv, kr_g0, kr_a1, kr_s1, kr_n1, kr_z1, kf_gI, kf_pI, kf_cv, kf_g0, kf_g1, kf_a1, kf_s1, kf_n1, kf_z1, kf_a2, kf_s2, kf_n2, kf_z2, kc_gI, kc_pI, kc_cv, kc_g0, kc_g1, kc_g2, kc_g3, kc_g4, kc_g5, kc_g6, kc_g7, kc_g8, kc_g9, kc_a1, kc_s1, kc_n1, kc_z1, kc_a2, kc_s2, kc_n2, kc_z2, kc_a3, kc_s3, kc_n3, kc_z3, kc_a4, kc_s4, kc_n4, kc_z4, kc_a5, kc_s5, kc_n5, kc_z5, kc_a6, kc_s6, kc_n6, kc_z6, kc_a7, kc_s7, kc_n7, kc_z7, kc_a8, kc_s8, kc_n8, kc_z8, kc_a9, kc_s9, kc_n9, kc_z9, ks_gI, ks_pI, ks_cv, ks_g0, ks_g1, ks_g2, ks_g3, ks_g4, ks_g5, ks_a1, ks_s1, ks_n1, ks_z1, ks_a2, ks_s2, ks_n2, ks_z2, ks_a3, ks_s3, ks_n3, ks_z3, ks_a4, ks_s4, ks_n4, ks_z4, ks_tr]
theorem kx_mou {f : Int32 → zP β} (h : AV M F a c ct cd st ns nt np nc kk T) (hk : kk ≤ 512) (hs : k < ns) (hT : T ≤ 10000) : ∃ G, (z_bd (p_X5_minutesUntilOut a (nI k) x) f).1 (KI M F) = (f (if s_bk ct st x k = 0 then 0 else s_ro ct cd ns nt np nc k x 1440 1 st)).1 (KI M G) ∧ fr5 a c F G := by
  have hL := (AV_c h).2
  have E := AV_EN h
  by_cases hb : s_bk ct st x k = 0
  · refine ⟨F, ?_, fr5_rf⟩
    refine e_run ?_
    unfold p_X5_minutesUntilOut
    simp (disch := first | assumption | omega | (apply LZ_R; assumption) | (apply LZ_T <;> first | assumption | omega) | (apply LC_F; assumption)) only [ks_cv]
    refine (kx_out E hs).trans ?_
    rw [if_pos hb, if_neg (by decide), if_pos hb]
    rfl
  · obtain ⟨N2, n1, n2, n3⟩ := kx_nextN (β := Int32) h (by omega)
    obtain ⟨G2, j1, j3⟩ := kx_outL hk hs 1440 _ _ T N2 1 rfl hb h n2 n1 (by omega)
    refine ⟨G2, ?_, j3⟩
    refine e_run ?_
    unfold p_X5_minutesUntilOut
    simp (disch := first | assumption | omega | (apply LZ_R; assumption) | (apply LZ_T <;> first | assumption | omega) | (apply LC_F; assumption)) only [ks_cv]
    refine (kx_out E hs).trans ?_
    rw [if_neg hb, if_pos rfl, if_neg hb]
    simp (disch := first | assumption | omega | (apply LZ_R; assumption) | (apply LZ_T <;> first | assumption | omega) | (apply LC_F; assumption)) only [ks_cv]
    refine (n3 _).trans ?_
    exact j1
end PA2
