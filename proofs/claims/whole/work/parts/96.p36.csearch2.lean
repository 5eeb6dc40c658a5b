/-! ===== PHASE 2: the class's search, whole ===== -/
section PA36
variable {β : Type} {M : zM} {F : Nat → Nat → Int32} {ct cd st bf : Nat → Int32} {i j k q c sp n ns nt np nc L : Nat} {H : List (Nat → Int32)} {S : Nat → Option (Nat → Int32)} {v w x y code : Int32} {xs : Nat → Int32} {f : Unit → zP β}
variable {F' : Nat → Nat → Int32} {U cap home t p ld : Nat}
theorem tq_un_bit {q : TQ} {U k : Nat} (hU : ∀ i, U.testBit i = true ↔ i < k ∧ tq_un q i) : ∀ i, (if tq_un q k then U ||| 2 ^ k else U).testBit i = true ↔ i < k + 1 ∧ tq_un q i := by
  intro i
  by_cases h : tq_un q k
  · rw [if_pos h, tq_bit]
    by_cases e : k = i
    · subst e
      simp [h]
    · simp only [e, decide_false, Bool.or_false, hU i]
      constructor
      · intro g; exact ⟨by omega, g.2⟩
      · intro g; exact ⟨by omega, g.2⟩
  · rw [if_neg h, hU i]
    constructor
    · intro g; exact ⟨by omega, g.2⟩
    · intro g
      refine ⟨?_, g.2⟩
      by_cases e : i = k
      · subst e; exact absurd g.2 h
      · omega
theorem k_ploop (h0 : L0 M) (hcy : z_r M 6 6 = some c) (hc15 : 15 ≤ c) (hn : n_ok ct st ns nt) : ∀ k j U F, j + k = ns → EN M F 41 c ct cd st ns nt np nc → U < 256 → F 6 9 = nI U → (∀ i, U.testBit i = true ↔ i < j ∧ tq_un (tqq ct st ns cap home) i) → (∀ i, i < j → tq_row F (tqq ct st ns cap home) i) →
    ∃ F' U', (z_lp ((fun (t7 : Int32 × Int32) => (z_bd (z_gA 6 6 6) (fun v8 => (z_bd (z_gI 0 v8 10) (fun v9 => (if v9 ≤ t7.2 then (z_pu (.inr (.inl t7.1))) else (z_bd (z_cv 6 6 (p_X6_prepare 6 41 t7.2)) (fun _ => (z_bd (z_gA 6 6 4) (fun v11 => (z_bd (z_aI 11 v11 t7.2) (fun v12 => (z_bd (z_pu ((t7.1 + v12))) (fun x13 => (z_pu (.inl (x13, (t7.2 + 1)))))))))))))))))) : Int32 × Int32 → zP ((Int32 × Int32) ⊕ (Int32 ⊕ Unit))) (nI (tq_sm (tqq ct st ns cap home).lw j), nI j)).1 (KI M F) = some (.inr (.inl (nI (tq_sm (tqq ct st ns cap home).lw ns))), KI M F') ∧ tcp F F' ∧ U' < 256 ∧ F' 6 9 = nI U' ∧ (∀ i, U'.testBit i = true ↔ i < ns ∧ tq_un (tqq ct st ns cap home) i) ∧ ∀ i, i < ns → tq_row F' (tqq ct st ns cap home) i := by
  intro k
  induction k with
  | zero =>
    intro j U F hj E hU h9 hb hr
    have e : j = ns := by omega
    subst e
    have h8 := EN_ns E
    have hC := E.1.2.2.1
    have e10 := EN_s0 E
    refine ⟨F, U, z_lp_end ?_, tcp_rf, hU, h9, hb, hr⟩
    have nle : nI j ≤ nI j := nI_le (Nat.le_refl _) (by omega)
    simp (disch := first | assumption | omega | (apply LZ_R; assumption) | (apply LZ_T <;> first | assumption | omega) | (apply LC_F; assumption)) only [e_pu, e_ite, oL_add, oL_addr, oL_mul, nI_add, nI_1, b_pu, b_bd, b_ite, j_L, j_R, j_ite, j_bd, z_ex, ↓reduceIte, if_true, if_false, k0_g0_0, k0_g0_1, k0_g0_2, k0_g0_3, k0_g0_4, k0_g0_5, k0_g0_6, k0_g0_7, k0_g2_0, k0_g4_0, k0_g6_0, k0_g6_1, k0_g6_2, k0_g6_3, k0_g6_4, k0_g6_5, k0_gI0, k0_pI0, k0_cv0, k0_gI2, k0_pI2, k0_cv2, k0_gI4, k0_pI4, k0_cv4, k0_gI6, k0_pI6, k0_cv6, k6_city h0 hcy, kc_gI, e10, nle]
  | succ k ik =>
    intro j U F hj E hU h9 hb hr
    have h8 := EN_ns E
    have hC := E.1.2.2.1
    have e10 := EN_s0 E
    have nge : ¬ nI ns ≤ nI j := nI_ge (by omega) (by omega)
    obtain ⟨F1, s1, s2, s3, s4⟩ := k_prep (cap := cap) (home := home) h0 hcy hc15 E hn hU h9 (show j < ns by omega) hr
    have E1 := EN_tcp E hc15 s2
    have hU1 : (if tq_un (tqq ct st ns cap home) j then U ||| 2 ^ j else U) < 256 := by
      split
      · exact or_lt (k := j) hU (by omega)
      · exact hU
    obtain ⟨F2, U2, t1, t2, t3⟩ := ik (j + 1) _ F1 (by omega) E1 hU1 s3 (tq_un_bit hb) s4
    refine ⟨F2, U2, (z_lp_step ?_).trans t1, tcp_tr s2 t2, t3⟩
    have el : F1 11 j = nI ((tqq ct st ns cap home).lw j) := (s4 j (by omega)).2.2
    have e10' := EN_s0 E1
    simp (disch := first | assumption | omega | (apply LZ_R; assumption) | (apply LZ_T <;> first | assumption | omega) | (apply LC_F; assumption)) only [e_pu, e_ite, oL_add, oL_addr, oL_mul, nI_add, nI_1, b_pu, b_bd, b_ite, j_L, j_R, j_ite, j_bd, z_ex, ↓reduceIte, if_true, if_false, k0_g0_0, k0_g0_1, k0_g0_2, k0_g0_3, k0_g0_4, k0_g0_5, k0_g0_6, k0_g0_7, k0_g2_0, k0_g4_0, k0_g6_0, k0_g6_1, k0_g6_2, k0_g6_3, k0_g6_4, k0_g6_5, k0_gI0, k0_pI0, k0_cv0, k0_gI2, k0_pI2, k0_cv2, k0_gI4, k0_pI4, k0_cv4, k0_gI6, k0_pI6, k0_cv6, k6_city h0 hcy, kc_gI, e10, nge]
    refine (e_run s1).trans ?_
    simp (disch := first | assumption | omega | (apply LZ_R; assumption) | (apply LZ_T <;> first | assumption | omega) | (apply LC_F; assumption)) only [e_pu, e_ite, oL_add, oL_addr, oL_mul, nI_add, nI_1, b_pu, b_bd, b_ite, j_L, j_R, j_ite, j_bd, z_ex, ↓reduceIte, if_true, if_false, k0_g0_0, k0_g0_1, k0_g0_2, k0_g0_3, k0_g0_4, k0_g0_5, k0_g0_6, k0_g0_7, k0_g2_0, k0_g4_0, k0_g6_0, k0_g6_1, k0_g6_2, k0_g6_3, k0_g6_4, k0_g6_5, k0_gI0, k0_pI0, k0_cv0, k0_gI2, k0_pI2, k0_cv2, k0_gI4, k0_pI4, k0_cv4, k0_gI6, k0_pI6, k0_cv6, k6_a11 h0 (show j < 8 by omega), el]
    rfl
theorem tq_root {q : TQ} (h : ld ≤ q.cap) (hp : p < q.ns) : NV q [] p 0 0 ld ld := ⟨⟨Nat.le_refl _, h⟩, ⟨by omega, tq_sm_0 (fun i _ => by simp)⟩, ⟨hp, fun h => by simp at h⟩, by simp⟩
theorem tq_bd0 {q : TQ} : tq_bd q 0 0 = tq_sm q.lw q.ns := by
  unfold tq_bd
  rw [Nat.zero_add]
  exact tq_sm_eq (fun i _ => by unfold tq_re; simp)
theorem HP_0 {q : TQ} (h : ∀ V, V < 256 → F 12 V = 0) : HP F q := fun V l hV hl hb => by
  rw [h V hV, bt_0] at hb
  cases hb
/-- a search from where the truck stands -/
theorem k_search (hI : CI k M c sp ct cd ns nt np nc st H S n bf) (ht : t < nt) (hp : p < ns) (h5 : s_tr st t 0 = nI p) (hld : s_tr st t 4 = nI ld) (hcap : ct (45 + t) = nI cap) (hlc : ld ≤ cap) (hc20 : cap ≤ 20) :
    ∃ F', (p_X6_search 6 41 (41 + 8 + 3 * t)).1 M = some (.inr (), KI (z_wr M 6 6 (some c)) F') ∧ (∀ y, ¬ (6 ≤ y ∧ y ≤ 12) → F' y = z_i M y) ∧ TB (F' 6 10) (F' 6 11) (F' 7) (tq_d (tqq ct st ns cap p) 10 [] p 0 0 ld ld none) := by
  obtain ⟨h0, hc9, hC, T, d, R, l, hT, hS, hn, hst0, hg, hd⟩ := CI_un hI
  have hc := CI_c hI
  have hns := hc.1.2.1
  have hnt := hc.1.2.2.2.1
  have E := CI_E hI
  have hL41 := E.1.1
  have hcc : 15 ≤ c := by
    rcases hI.1.2.2.1 with h | h <;> omega
  have hcc2 : c + 13 ≤ 41 := by
    rcases hI.1.2.2.1 with h | h <;> omega
  obtain ⟨qq, hK⟩ := hS.2.2.2.1 t ht
  have hLT := LZ_T hL41 (show t < 3 by omega)
  have hb5 : z_i M (41 + 8 + 3 * t) 5 = nI p := hK.2.2.2.2.2.1 p hp h5
  have hb3 : z_i M (41 + 8 + 3 * t) 3 = nI cap := hK.2.2.1.trans hcap
  have hb4 : z_i M (41 + 8 + 3 * t) 4 = nI ld := hK.2.2.2.1.trans hld
  have hlo : loc c sp M (z_wr M 6 6 (some c)) := loc_wr (by omega)
  have h0' : L0 (z_wr M 6 6 (some c)) := L0_loc h0 hlo
  have hcy' : z_r (z_wr M 6 6 (some c)) 6 6 = some c := r_wrs
  have hLT' : LT (41 + 8 + 3 * t) (z_wr M 6 6 (some c)) := LZ_T (LZ_loc hL41 hlo (by omega)) (show t < 3 by omega)
  obtain ⟨M', eM'⟩ : ∃ M', M' = z_wr M 6 6 (some c) := ⟨_, rfl⟩
  rw [← eM'] at h0' hcy' hLT'
  obtain ⟨F0, eF0⟩ : ∃ F0, F0 = z_up1 (z_up2 (z_up2 (z_up2 (z_up2 (z_up2 (z_i M) 6 7 (nI p)) 6 8 (nI cap)) 6 9 0) 6 10 (-1)) 6 11 0) 12 (f_fl (z_i M 12) 256) := ⟨_, rfl⟩
  have o0 : ∀ y, ¬ (6 ≤ y ∧ y ≤ 12) → F0 y = z_i M y := fun y hy => by
    rw [eF0, u1_n _ _ (by omega), u2_row _ _ (by omega), u2_row _ _ (by omega), u2_row _ _ (by omega), u2_row _ _ (by omega), u2_row _ _ (by omega)]
  have f6 : ∀ j, F0 6 j = z_up2 (z_up2 (z_up2 (z_up2 (z_up2 (z_i M) 6 7 (nI p)) 6 8 (nI cap)) 6 9 0) 6 10 (-1)) 6 11 0 6 j := fun j => by rw [eF0, u1_n _ _ (by omega)]
  have f7 : F0 6 7 = nI p := by rw [f6, u2_n _ _ (by omega), u2_n _ _ (by omega), u2_n _ _ (by omega), u2_n _ _ (by omega), u2_s]
  have f8 : F0 6 8 = nI cap := by rw [f6, u2_n _ _ (by omega), u2_n _ _ (by omega), u2_n _ _ (by omega), u2_s]
  have f9 : F0 6 9 = nI 0 := by rw [f6, u2_n _ _ (by omega), u2_n _ _ (by omega), u2_s]; rfl
  have f10 : F0 6 10 = -1 := by rw [f6, u2_n _ _ (by omega), u2_s]
  have f11 : F0 6 11 = 0 := by rw [f6, u2_s]
  have f12 : ∀ V, V < 256 → F0 12 V = 0 := fun V hV => by rw [eF0, u1_s]; exact if_pos hV
  have E0 : EN M' F0 41 c ct cd st ns nt np nc := by
    have E1 : EN M' (z_i M) 41 c ct cd st ns nt np nc := by
      rw [eM']
      exact ⟨⟨LZ_loc hL41 hlo (by omega), (hlo.2.2.1 41 6 (by have := LZ_lt hL41; omega) (by omega)).trans E.1.2.1, LC_loc hC hlo hcc (by omega), E.1.2.2.2⟩, E.2⟩
    exact EN_gen E1 (fun k hk => by rw [o0 (41 + 1) (by omega), o0 (41 + 2) (by omega)]; exact E.2.2.1 k hk) (by rw [o0 41 (by omega)]; exact E.2.2.2) (fun y h1 h2 => o0 y (by omega))
  obtain ⟨F1, U, t1, t2, t3, t4, t5, t6⟩ := k_ploop (cap := cap) (home := p) h0' hcy' hcc hn.1 ns 0 0 F0 (by omega) E0 (by omega) f9 (fun i => by simp) (fun i hi => by omega)
  have o1 : ∀ y, ¬ (6 ≤ y ∧ y ≤ 12) → F1 y = z_i M y := fun y hy => by
    rw [← o0 y hy]
    exact funext (fun j => t2 y j (by omega) (by omega) (by omega) (by omega))
  have E1 := EN_tcp E0 hcc t2
  have hq := tqq_ok (home := p) hc hn.1 hc20
  have hTC : TC M' F1 c ct cd st ns nt np nc (tqq ct st ns cap p) U := ⟨⟨h0', hcy', E1⟩, ⟨rfl, hq, fun i j hi hj => (dr_num hc hi hj).1⟩, ⟨(t2 6 7 (by omega) (by omega) (by omega) (by omega)).trans f7, (t2 6 8 (by omega) (by omega) (by omega) (by omega)).trans f8, t4⟩, ⟨t3, t5⟩, t6⟩
  obtain ⟨F2, v1, v2, v3, v4, v5⟩ := k_visit hcc (show (tqq ct st ns cap p).home < 100 by show p < 100; omega) 10 [] p 0 0 ld ld none F1 hTC (tq_root hlc hp) rfl ⟨(t2 6 10 (by omega) (by omega) (by omega) (by omega)).trans f10, (t2 6 11 (by omega) (by omega) (by omega) (by omega)).trans f11⟩ (fun j z hz => by simp at hz) (HP_0 (fun V hV => (t2 12 V (by omega) (by omega) (by omega) (by omega)).trans (f12 V hV))) trivial
  refine ⟨F2, ?_, fun y hy => ?_, v3⟩
  · unfold p_X6_search
    show (z_bd (z_gA 5 41 6) _).1 (KI M (z_i M)) = _
    rw [ki_gA hL41.1 E.1.2.1, e_pR (M := KI M (z_i M)) (k0_is6 h0)]
    show (z_bd (z_gI 7 (41 + 8 + 3 * t) 5) _).1 (KI (z_wr M 6 6 (some c)) (z_i M)) = _
    rw [← eM']
    have g3 : ∀ v, z_up2 (z_i M) 6 7 v (41 + 8 + 3 * t) 3 = nI cap := fun v => (u2_n _ _ (Or.inl (by omega))).trans hb3
    have hfill : ∀ (G : Nat → Nat → Int32) (f : Unit → zP Unit), (z_bd (p_J7_fill_53178 12 0) f).1 (KI M' G) = (f ()).1 (KI M' (z_up1 G 12 (f_fl (G 12) 256))) := fun G f => kx_fill (k0_ar12 h0') (by decide)
    simp (disch := first | assumption | omega | (apply LZ_R; assumption) | (apply LZ_T <;> first | assumption | omega) | (apply LC_F; assumption)) only [e_pu, e_ite, oL_add, oL_addr, oL_mul, nI_add, nI_1, b_pu, b_bd, b_ite, j_L, j_R, j_ite, j_bd, z_ex, ↓reduceIte, if_true, if_false, k0_g0_0, k0_g0_1, k0_g0_2, k0_g0_3, k0_g0_4, k0_g0_5, k0_g0_6, k0_g0_7, k0_g2_0, k0_g4_0, k0_g6_0, k0_g6_1, k0_g6_2, k0_g6_3, k0_g6_4, k0_g6_5, k0_gI0, k0_pI0, k0_cv0, k0_gI2, k0_pI2, k0_cv2, k0_gI4, k0_pI4, k0_cv4, k0_gI6, k0_pI6, k0_cv6, kt_gI, hb5, g3, hfill, u2_row]
    rw [← eF0]
    refine (e_jL t1).trans ?_
    have g4 : F1 (41 + 8 + 3 * t) 4 = nI ld := by rw [o1 _ (by omega)]; exact hb4
    have g7 : F1 6 7 = nI p := (t2 6 7 (by omega) (by omega) (by omega) (by omega)).trans f7
    simp (disch := first | assumption | omega | (apply LZ_R; assumption) | (apply LZ_T <;> first | assumption | omega) | (apply LC_F; assumption)) only [e_pu, e_ite, oL_add, oL_addr, oL_mul, nI_add, nI_1, b_pu, b_bd, b_ite, j_L, j_R, j_ite, j_bd, z_ex, ↓reduceIte, if_true, if_false, k0_g0_0, k0_g0_1, k0_g0_2, k0_g0_3, k0_g0_4, k0_g0_5, k0_g0_6, k0_g0_7, k0_g2_0, k0_g4_0, k0_g6_0, k0_g6_1, k0_g6_2, k0_g6_3, k0_g6_4, k0_g6_5, k0_gI0, k0_pI0, k0_cv0, k0_gI2, k0_pI2, k0_cv2, k0_gI4, k0_pI4, k0_cv4, k0_gI6, k0_pI6, k0_cv6, kt_gI, g4, g7]
    rw [tq_bd0] at v1
    exact e_run v1
  · rw [← o1 y hy]
    exact funext (fun j => v2 y j (by omega) (by omega) (by omega) (by omega))
end PA36
