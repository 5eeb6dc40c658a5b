/-! ===== PHASE 2: the class's nextEvent ===== -/
/-- the soonest truck -/
def s_nt (st : Nat → Int32) (N : Nat) : Nat → Nat
  | 0 => N
  | t + 1 => if s_tr st t 2 = -1 then s_nt st N t else if ix (s_tr st t 2) < s_nt st N t then ix (s_tr st t 2) else s_nt st N t
/-- when trip p begins next, behind the time T -/
def s_pv (ct : Nat → Int32) (T p : Nat) : Nat := T + 1 + (if (T + 1) % 1440 ≤ ix (ct (108 + p)) then ix (ct (108 + p)) - (T + 1) % 1440 else ix (ct (108 + p)) + 1440 - (T + 1) % 1440)
def s_np (ct : Nat → Int32) (T N : Nat) : Nat → Nat
  | 0 => N
  | p + 1 => if s_pv ct T p < s_np ct T N p then s_pv ct T p else s_np ct T N p
theorem s_nt_le (st : Nat → Int32) (N : Nat) : ∀ t, s_nt st N t ≤ N ∧ ∀ i, i < t → ¬ s_tr st i 2 = -1 → s_nt st N t ≤ ix (s_tr st i 2)
  | 0 => ⟨Nat.le_refl _, fun i hi => absurd hi (Nat.not_lt_zero _)⟩
  | t + 1 => by
    obtain ⟨h1, h2⟩ := s_nt_le st N t
    unfold s_nt
    by_cases h0 : s_tr st t 2 = -1
    · rw [if_pos h0]
      refine ⟨h1, fun i hi hn => ?_⟩
      by_cases e : i = t
      · rw [e] at hn; exact absurd h0 hn
      · exact h2 i (by omega) hn
    · rw [if_neg h0]
      by_cases h3 : ix (s_tr st t 2) < s_nt st N t
      · rw [if_pos h3]
        refine ⟨by omega, fun i hi hn => ?_⟩
        by_cases e : i = t
        · rw [e]; exact Nat.le_refl _
        · have := h2 i (by omega) hn; omega
      · rw [if_neg h3]
        refine ⟨h1, fun i hi hn => ?_⟩
        by_cases e : i = t
        · rw [e]; omega
        · exact h2 i (by omega) hn
theorem s_np_le (ct : Nat → Int32) (T N : Nat) : ∀ p, s_np ct T N p ≤ N ∧ ∀ i, i < p → s_np ct T N p ≤ s_pv ct T i
  | 0 => ⟨Nat.le_refl _, fun i hi => absurd hi (Nat.not_lt_zero _)⟩
  | p + 1 => by
    obtain ⟨h1, h2⟩ := s_np_le ct T N p
    unfold s_np
    by_cases h3 : s_pv ct T p < s_np ct T N p
    · rw [if_pos h3]
      refine ⟨by omega, fun i hi => ?_⟩
      by_cases e : i = p
      · rw [e]; exact Nat.le_refl _
      · have := h2 i (by omega); omega
    · rw [if_neg h3]
      refine ⟨h1, fun i hi => ?_⟩
      by_cases e : i = p
      · rw [e]; omega
      · exact h2 i (by omega)
/-- no trip begins sooner -/
theorem s_pv_q {ct : Nat → Int32} {T p c T' : Nat} (ec : ct (108 + p) = nI c) (hc : c < 1440) (h1 : T < T') (h2 : T' < s_pv ct T p) : ¬ T' % 1440 = c := by
  unfold s_pv at h2
  rw [ec, ix_nI (by omega)] at h2
  split at h2 <;> omega
/-- where nextEvent begins: the first rider's arrival -/
def s_n0 (l : List Nat) : Nat := match l with
  | [] => 1048576
  | z :: _ => z / 65536
section PRm
variable {β : Type} {M : zM} {F : Nat → Nat → Int32} {ct cd st : Nat → Int32} {a c d ns nt np nc T : Nat} {R : List zRd} {l : List Nat}
theorem s_n0_lt (h : ∀ z ∈ l, z < 2 ^ 31) : s_n0 l < 2 ^ 21 := by
  cases l with
  | nil => decide
  | cons z l => have := h z (List.mem_cons_self ..); show z / 65536 < _; omega
theorem kx_next {f : Int32 → zP β} (hS : RS M F a c ct cd st ns nt np nc d R l) (hT : st 0 = nI T) (hT1 : T < 12000) : (z_bd (p_X5_nextEvent a) f).1 (KI M F) = (f (nI (s_np ct T (s_nt st (s_n0 l) nt) np))).1 (KI M F) := by
  obtain ⟨E, hX, hP, hTr, ⟨hr1, hr2, hr3, hr4⟩, hrr, ⟨hl1, hl2, hl3⟩, hrn, hok⟩ := hS
  have h8 := EN_ns E
  obtain ⟨⟨hL, hcy, hC, hdis⟩, ⟨rc, hcok⟩, rb, r0⟩ := id E
  have hnt := hcok.1.2.2.2.1
  have hc1 : F c 11 = nI nt := rc.1.2.1.trans hcok.1.2.2.1
  have hc2 : F c 12 = nI np := rc.1.2.2.1.trans hcok.1.2.2.2.2.1
  have hnp := hcok.1.2.2.2.2.2
  have hRd : R.length ≤ d := by
    have := len_rn (d := d) R 0 hrn (fun x hx => ⟨Nat.zero_le _, (hok x hx).2.1⟩)
    omega
  have hll : l.length = R.length := by rw [hl2.length_eq, List.length_map]
  have hl31 : ∀ z ∈ l, z < 2 ^ 31 := fun z hz => by
    obtain ⟨y, hy, ey⟩ := List.mem_map.mp (hl2.mem_iff.mp hz)
    have hy2 := hok y hy
    rw [← ey]
    exact cN_lt hy2.1 (by have := hy2.2.1; omega) (by have := hy2.2.2.1; omega) (by have := hy2.2.2.2; omega)
  have hn0 := s_n0_lt hl31
  have e7 : F a 7 = nI T := r0.trans hT
  have hnb : ∀ t, s_nt st (s_n0 l) t < 2 ^ 31 := fun t => by have := (s_nt_le st (s_n0 l) t).1; omega
  have hpb : ∀ p, s_np ct T (s_nt st (s_n0 l) nt) p < 2 ^ 31 := fun p => by
    have := (s_np_le ct T (s_nt st (s_n0 l) nt) p).1
    have := hnb nt
    omega
  have hm : nI (T + 1) - nI (T + 1) / 1440 * 1440 = nI ((T + 1) % 1440) := pk_rem (d := 1440) (by omega) (by decide) (by decide)
  have hfin : ∀ k : Int32 → zP β, (z_bd (p_X5_nextEvent a) k).1 (KI M F) = (k (nI (s_np ct T (s_nt st (s_n0 l) nt) np))).1 (KI M F) := by
    intro k
    refine e_run ?_
    unfold p_X5_nextEvent
    have hb : ∀ g : Int32 → zP Int32, (z_jn (τ := Int32) (if F (a + 6) 1 ≤ 0 then (z_pu (.inl 1048576)) else (z_bd (z_gA 5 a 5) (fun v4 => (z_bd (z_gA 4 v4 0) (fun v5 => (z_bd (z_aI 11 v5 0) (fun v6 => (z_bd (p_X4_arrival v6) (fun r7 => (z_pu (.inl r7))))))))))) g).1 (KI M F) = (g (nI (s_n0 l))).1 (KI M F) := by
      intro g
      cases l with
      | nil =>
        have h0 : F (a + 6) 1 ≤ 0 := by rw [hr1, ← hll]; exact Int32.le_refl _
        rw [if_pos h0]
        rfl
      | cons z l =>
        have h0 : ¬ F (a + 6) 1 ≤ 0 := by rw [hr1, ← hll]; exact nI_nle (Nat.succ_pos _) (by omega)
        have hz : F (a + 6 + 1) 0 = nI z := hl1 0 z rfl
        have hz31 := hl31 z (List.mem_cons_self ..)
        rw [if_neg h0]
        simp (disch := first | assumption | omega | (apply LZ_R; assumption) | (apply LZ_T <;> first | assumption | omega) | (apply LC_F; assumption)) only [e_pu, e_ite, oL_add, oL_addr, oL_mul, nI_add, nI_1, b_pu, b_bd, b_ite, j_L, j_R, j_ite, j_bd, z_ex, ↓reduceIte, if_true, if_false, kt_gI, kt_pI, kt_cv, kt_g0, kt_g1, kt_a1, kt_s1, kt_n1, kt_z1, kt_a2, kt_s2, kt_n2, kt_z2, kr_gI, kr_pI, kr_cv, kr_g0, kr_a1, kr_s1, kr_n1, kr_z1, kf_gI, kf_pI, kf_cv, kf_g0, kf_g1, kf_a1, kf_s1, kf_n1, kf_z1, kf_a2, kf_s2, kf_n2, kf_z2, kc_gI, kc_pI, kc_cv, kc_g0, kc_g1, kc_g2, kc_g3, kc_g4, kc_g5, kc_g6, kc_g7, kc_g8, kc_g9, kc_a1, kc_s1, kc_n1, kc_z1, kc_a2, kc_s2, kc_n2, kc_z2, kc_a3, kc_s3, kc_n3, kc_z3, kc_a4, kc_s4, kc_n4, kc_z4, kc_a5, kc_s5, kc_n5, kc_z5, kc_a6, kc_s6, kc_n6, kc_z6, kc_a7, kc_s7, kc_n7, kc_z7, kc_a8, kc_s8, kc_n8, kc_z8, kc_a9, kc_s9, kc_n9, kc_z9, ks_gI, ks_pI, ks_cv, ks_g0, ks_g1, ks_g2, ks_g3, ks_g4, ks_g5, ks_a1, ks_s1, ks_n1, ks_z1, ks_a2, ks_s2, ks_n2, ks_z2, ks_a3, ks_s3, ks_n3, ks_z3, ks_a4, ks_s4, ks_n4, ks_z4, ks_tr, hz, g4_arr hz31]
        rfl
    simp (disch := first | assumption | omega | (apply LZ_R; assumption) | (apply LZ_T <;> first | assumption | omega) | (apply LC_F; assumption)) only [ks_g5, kr_gI]
    rw [hb]
    refine (e_jL (t := nI (s_nt st (s_n0 l) nt)) (M1 := KI M F) ?_).trans ?_
    · refine lp_cnt nt (fun t => (nI (s_nt st (s_n0 l) t), nI t)) (fun _ => KI M F) _ _ ?_ ?_
      · intro t ht
        have hn : ¬ nI nt ≤ nI t := nI_ge ht (by omega)
        have ht3 : t < 3 := by omega
        have hLT := LZ_T hL ht3
        obtain ⟨q, hq⟩ := hTr t ht
        have h6 := hq.2.2.2.2.1
        by_cases h0 : s_tr st t 2 = -1
        · simp (disch := first | assumption | omega | (apply LZ_R; assumption) | (apply LZ_T <;> first | assumption | omega) | (apply LC_F; assumption)) only [e_pu, e_ite, oL_add, oL_addr, oL_mul, nI_add, nI_1, b_pu, b_bd, b_ite, j_L, j_R, j_ite, j_bd, z_ex, ↓reduceIte, if_true, if_false, kt_gI, kt_pI, kt_cv, kt_g0, kt_g1, kt_a1, kt_s1, kt_n1, kt_z1, kt_a2, kt_s2, kt_n2, kt_z2, kr_gI, kr_pI, kr_cv, kr_g0, kr_a1, kr_s1, kr_n1, kr_z1, kf_gI, kf_pI, kf_cv, kf_g0, kf_g1, kf_a1, kf_s1, kf_n1, kf_z1, kf_a2, kf_s2, kf_n2, kf_z2, kc_gI, kc_pI, kc_cv, kc_g0, kc_g1, kc_g2, kc_g3, kc_g4, kc_g5, kc_g6, kc_g7, kc_g8, kc_g9, kc_a1, kc_s1, kc_n1, kc_z1, kc_a2, kc_s2, kc_n2, kc_z2, kc_a3, kc_s3, kc_n3, kc_z3, kc_a4, kc_s4, kc_n4, kc_z4, kc_a5, kc_s5, kc_n5, kc_z5, kc_a6, kc_s6, kc_n6, kc_z6, kc_a7, kc_s7, kc_n7, kc_z7, kc_a8, kc_s8, kc_n8, kc_z8, kc_a9, kc_s9, kc_n9, kc_z9, ks_gI, ks_pI, ks_cv, ks_g0, ks_g1, ks_g2, ks_g3, ks_g4, ks_g5, ks_a1, ks_s1, ks_n1, ks_z1, ks_a2, ks_s2, ks_n2, ks_z2, ks_a3, ks_s3, ks_n3, ks_z3, ks_a4, ks_s4, ks_n4, ks_z4, ks_tr, ks_city hcy, hc1, hn, kt_dr, h6, h0, s_nt]
        · have hx : ∃ b, b < 20000 ∧ s_tr st t 2 = nI b := by
            rcases hq.1.1 with ⟨p, hp, _, _, e2⟩ | ⟨_, _, b, hb, e2⟩
            · exact absurd e2 h0
            · exact ⟨b, hb, e2⟩
          obtain ⟨b, hb1, hb2⟩ := hx
          simp (disch := first | assumption | omega | (apply LZ_R; assumption) | (apply LZ_T <;> first | assumption | omega) | (apply LC_F; assumption)) only [e_pu, e_ite, oL_add, oL_addr, oL_mul, nI_add, nI_1, b_pu, b_bd, b_ite, j_L, j_R, j_ite, j_bd, z_ex, ↓reduceIte, if_true, if_false, kt_gI, kt_pI, kt_cv, kt_g0, kt_g1, kt_a1, kt_s1, kt_n1, kt_z1, kt_a2, kt_s2, kt_n2, kt_z2, kr_gI, kr_pI, kr_cv, kr_g0, kr_a1, kr_s1, kr_n1, kr_z1, kf_gI, kf_pI, kf_cv, kf_g0, kf_g1, kf_a1, kf_s1, kf_n1, kf_z1, kf_a2, kf_s2, kf_n2, kf_z2, kc_gI, kc_pI, kc_cv, kc_g0, kc_g1, kc_g2, kc_g3, kc_g4, kc_g5, kc_g6, kc_g7, kc_g8, kc_g9, kc_a1, kc_s1, kc_n1, kc_z1, kc_a2, kc_s2, kc_n2, kc_z2, kc_a3, kc_s3, kc_n3, kc_z3, kc_a4, kc_s4, kc_n4, kc_z4, kc_a5, kc_s5, kc_n5, kc_z5, kc_a6, kc_s6, kc_n6, kc_z6, kc_a7, kc_s7, kc_n7, kc_z7, kc_a8, kc_s8, kc_n8, kc_z8, kc_a9, kc_s9, kc_n9, kc_z9, ks_gI, ks_pI, ks_cv, ks_g0, ks_g1, ks_g2, ks_g3, ks_g4, ks_g5, ks_a1, ks_s1, ks_n1, ks_z1, ks_a2, ks_s2, ks_n2, ks_z2, ks_a3, ks_s3, ks_n3, ks_z3, ks_a4, ks_s4, ks_n4, ks_z4, ks_tr, ks_city hcy, hc1, hn, kt_dr, h6, h0, s_nt, show ¬ (1 : Int32) = 0 by decide]
          rw [hb2, ix_nI (by omega)]
          by_cases h3 : b < s_nt st (s_n0 l) t
          · rw [if_pos (nI_lt h3 (hnb t)), if_pos h3]
          · rw [if_neg (nI_nlt (by omega) (by omega)), if_neg h3]
      · simp (disch := first | assumption | omega | (apply LZ_R; assumption) | (apply LZ_T <;> first | assumption | omega) | (apply LC_F; assumption)) only [e_pu, e_ite, oL_add, oL_addr, oL_mul, nI_add, nI_1, b_pu, b_bd, b_ite, j_L, j_R, j_ite, j_bd, z_ex, ↓reduceIte, if_true, if_false, kt_gI, kt_pI, kt_cv, kt_g0, kt_g1, kt_a1, kt_s1, kt_n1, kt_z1, kt_a2, kt_s2, kt_n2, kt_z2, kr_gI, kr_pI, kr_cv, kr_g0, kr_a1, kr_s1, kr_n1, kr_z1, kf_gI, kf_pI, kf_cv, kf_g0, kf_g1, kf_a1, kf_s1, kf_n1, kf_z1, kf_a2, kf_s2, kf_n2, kf_z2, kc_gI, kc_pI, kc_cv, kc_g0, kc_g1, kc_g2, kc_g3, kc_g4, kc_g5, kc_g6, kc_g7, kc_g8, kc_g9, kc_a1, kc_s1, kc_n1, kc_z1, kc_a2, kc_s2, kc_n2, kc_z2, kc_a3, kc_s3, kc_n3, kc_z3, kc_a4, kc_s4, kc_n4, kc_z4, kc_a5, kc_s5, kc_n5, kc_z5, kc_a6, kc_s6, kc_n6, kc_z6, kc_a7, kc_s7, kc_n7, kc_z7, kc_a8, kc_s8, kc_n8, kc_z8, kc_a9, kc_s9, kc_n9, kc_z9, ks_gI, ks_pI, ks_cv, ks_g0, ks_g1, ks_g2, ks_g3, ks_g4, ks_g5, ks_a1, ks_s1, ks_n1, ks_z1, ks_a2, ks_s2, ks_n2, ks_z2, ks_a3, ks_s3, ks_n3, ks_z3, ks_a4, ks_s4, ks_n4, ks_z4, ks_tr, ks_city hcy, hc1, show nI nt ≤ nI nt from Int32.le_refl _]
    · simp (disch := first | assumption | omega | (apply LZ_R; assumption) | (apply LZ_T <;> first | assumption | omega) | (apply LC_F; assumption)) only [ks_gI, e7, b_pu, nI_1, hm]
      refine lp_cnt np (fun p => (nI (s_np ct T (s_nt st (s_n0 l) nt) p), nI p)) (fun _ => KI M F) _ _ ?_ ?_
      · intro p hp
        have hn : ¬ nI np ≤ nI p := nI_ge hp (by omega)
        have hp30 : p < 30 := by omega
        obtain ⟨x, y, m, _, _, hm2, _, _, em⟩ := hcok.2.2.1 p hp
        have r8 : F (c + 9) p = nI m := (rc.2.2.2.1 p hp).2.2.trans em
        have hpv : s_pv ct T p = T + 1 + (if (T + 1) % 1440 ≤ m then m - (T + 1) % 1440 else m + 1440 - (T + 1) % 1440) := by unfold s_pv; rw [em, ix_nI (by omega)]
        have hmm : (T + 1) % 1440 < 1440 := Nat.mod_lt _ (by decide)
        by_cases hle : (T + 1) % 1440 ≤ m
        · rw [if_pos hle] at hpv
          have e1 : nI m - nI ((T + 1) % 1440) = nI (m - (T + 1) % 1440) := nI_sub hle
          have e2 : (0 : Int32) ≤ nI (m - (T + 1) % 1440) := nI_pos' (by omega)
          simp (disch := first | assumption | omega | (apply LZ_R; assumption) | (apply LZ_T <;> first | assumption | omega) | (apply LC_F; assumption)) only [e_pu, e_ite, oL_add, oL_addr, oL_mul, nI_add, nI_1, b_pu, b_bd, b_ite, j_L, j_R, j_ite, j_bd, z_ex, ↓reduceIte, if_true, if_false, kt_gI, kt_pI, kt_cv, kt_g0, kt_g1, kt_a1, kt_s1, kt_n1, kt_z1, kt_a2, kt_s2, kt_n2, kt_z2, kr_gI, kr_pI, kr_cv, kr_g0, kr_a1, kr_s1, kr_n1, kr_z1, kf_gI, kf_pI, kf_cv, kf_g0, kf_g1, kf_a1, kf_s1, kf_n1, kf_z1, kf_a2, kf_s2, kf_n2, kf_z2, kc_gI, kc_pI, kc_cv, kc_g0, kc_g1, kc_g2, kc_g3, kc_g4, kc_g5, kc_g6, kc_g7, kc_g8, kc_g9, kc_a1, kc_s1, kc_n1, kc_z1, kc_a2, kc_s2, kc_n2, kc_z2, kc_a3, kc_s3, kc_n3, kc_z3, kc_a4, kc_s4, kc_n4, kc_z4, kc_a5, kc_s5, kc_n5, kc_z5, kc_a6, kc_s6, kc_n6, kc_z6, kc_a7, kc_s7, kc_n7, kc_z7, kc_a8, kc_s8, kc_n8, kc_z8, kc_a9, kc_s9, kc_n9, kc_z9, ks_gI, ks_pI, ks_cv, ks_g0, ks_g1, ks_g2, ks_g3, ks_g4, ks_g5, ks_a1, ks_s1, ks_n1, ks_z1, ks_a2, ks_s2, ks_n2, ks_z2, ks_a3, ks_s3, ks_n3, ks_z3, ks_a4, ks_s4, ks_n4, ks_z4, ks_tr, ks_city hcy, hc2, hn, r8, e1, e2, s_np, ← hpv]
          by_cases h3 : s_pv ct T p < s_np ct T (s_nt st (s_n0 l) nt) p
          · rw [if_pos (nI_lt h3 (hpb p)), if_pos h3]
          · rw [if_neg (nI_nlt (by omega) (by omega)), if_neg h3]
        · rw [if_neg hle] at hpv
          have e0 : nI m - nI ((T + 1) % 1440) = - nI ((T + 1) % 1440 - m) := by rw [← nI_neg_sub (x := m) (y := (T + 1) % 1440) (by omega), Int32.neg_neg]
          have e2 : ¬ (0 : Int32) ≤ nI m - nI ((T + 1) % 1440) := by
            rw [e0, i_le, Int32.toInt_neg, nI_toInt (by omega)]
            rw [show ((-(((T + 1) % 1440 - m : Nat) : Int)).bmod (2 ^ 32)) = -(((T + 1) % 1440 - m : Nat) : Int) from Int.bmod_eq_of_le (by omega) (by omega)]
            have : (0 : Int32).toInt = 0 := rfl
            omega
          have e1 : nI m - nI ((T + 1) % 1440) + 1440 = nI (m + 1440 - (T + 1) % 1440) := by
            rw [show (1440 : Int32) = nI 1440 from rfl, Int32.sub_eq_add_neg, Int32.add_assoc, Int32.add_comm (-_), ← Int32.add_assoc, nI_add, ← Int32.sub_eq_add_neg, nI_sub (by omega)]
          simp (disch := first | assumption | omega | (apply LZ_R; assumption) | (apply LZ_T <;> first | assumption | omega) | (apply LC_F; assumption)) only [e_pu, e_ite, oL_add, oL_addr, oL_mul, nI_add, nI_1, b_pu, b_bd, b_ite, j_L, j_R, j_ite, j_bd, z_ex, ↓reduceIte, if_true, if_false, kt_gI, kt_pI, kt_cv, kt_g0, kt_g1, kt_a1, kt_s1, kt_n1, kt_z1, kt_a2, kt_s2, kt_n2, kt_z2, kr_gI, kr_pI, kr_cv, kr_g0, kr_a1, kr_s1, kr_n1, kr_z1, kf_gI, kf_pI, kf_cv, kf_g0, kf_g1, kf_a1, kf_s1, kf_n1, kf_z1, kf_a2, kf_s2, kf_n2, kf_z2, kc_gI, kc_pI, kc_cv, kc_g0, kc_g1, kc_g2, kc_g3, kc_g4, kc_g5, kc_g6, kc_g7, kc_g8, kc_g9, kc_a1, kc_s1, kc_n1, kc_z1, kc_a2, kc_s2, kc_n2, kc_z2, kc_a3, kc_s3, kc_n3, kc_z3, kc_a4, kc_s4, kc_n4, kc_z4, kc_a5, kc_s5, kc_n5, kc_z5, kc_a6, kc_s6, kc_n6, kc_z6, kc_a7, kc_s7, kc_n7, kc_z7, kc_a8, kc_s8, kc_n8, kc_z8, kc_a9, kc_s9, kc_n9, kc_z9, ks_gI, ks_pI, ks_cv, ks_g0, ks_g1, ks_g2, ks_g3, ks_g4, ks_g5, ks_a1, ks_s1, ks_n1, ks_z1, ks_a2, ks_s2, ks_n2, ks_z2, ks_a3, ks_s3, ks_n3, ks_z3, ks_a4, ks_s4, ks_n4, ks_z4, ks_tr, ks_city hcy, hc2, hn, r8, e2, e1, s_np, ← hpv]
          by_cases h3 : s_pv ct T p < s_np ct T (s_nt st (s_n0 l) nt) p
          · rw [if_pos (nI_lt h3 (hpb p)), if_pos h3]
          · rw [if_neg (nI_nlt (by omega) (by omega)), if_neg h3]
      · simp (disch := first | assumption | omega | (apply LZ_R; assumption) | (apply LZ_T <;> first | assumption | omega) | (apply LC_F; assumption)) only [e_pu, e_ite, oL_add, oL_addr, oL_mul, nI_add, nI_1, b_pu, b_bd, b_ite, j_L, j_R, j_ite, j_bd, z_ex, ↓reduceIte, if_true, if_false, kt_gI, kt_pI, kt_cv, kt_g0, kt_g1, kt_a1, kt_s1, kt_n1, kt_z1, kt_a2, kt_s2, kt_n2, kt_z2, kr_gI, kr_pI, kr_cv, kr_g0, kr_a1, kr_s1, kr_n1, kr_z1, kf_gI, kf_pI, kf_cv, kf_g0, kf_g1, kf_a1, kf_s1, kf_n1, kf_z1, kf_a2, kf_s2, kf_n2, kf_z2, kc_gI, kc_pI, kc_cv, kc_g0, kc_g1, kc_g2, kc_g3, kc_g4, kc_g5, kc_g6, kc_g7, kc_g8, kc_g9, kc_a1, kc_s1, kc_n1, kc_z1, kc_a2, kc_s2, kc_n2, kc_z2, kc_a3, kc_s3, kc_n3, kc_z3, kc_a4, kc_s4, kc_n4, kc_z4, kc_a5, kc_s5, kc_n5, kc_z5, kc_a6, kc_s6, kc_n6, kc_z6, kc_a7, kc_s7, kc_n7, kc_z7, kc_a8, kc_s8, kc_n8, kc_z8, kc_a9, kc_s9, kc_n9, kc_z9, ks_gI, ks_pI, ks_cv, ks_g0, ks_g1, ks_g2, ks_g3, ks_g4, ks_g5, ks_a1, ks_s1, ks_n1, ks_z1, ks_a2, ks_s2, ks_n2, ks_z2, ks_a3, ks_s3, ks_n3, ks_z3, ks_a4, ks_s4, ks_n4, ks_z4, ks_tr, ks_city hcy, hc2, show nI np ≤ nI np from Int32.le_refl _]
  exact hfin f
end PRm
