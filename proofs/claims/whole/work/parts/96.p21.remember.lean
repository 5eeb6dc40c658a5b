/-! ===== PHASE 2: History.remember, the model's keep ===== -/
def s_push (H : List (Nat → Int32)) (st : Nat → Int32) : List (Nat → Int32) := if H.length < 10 then H ++ [st] else H.tail ++ [st]
section PA21
variable {β : Type} {M : zM} {F : Nat → Nat → Int32} {ct cd st bf : Nat → Int32} {i j k q c sp n ns nt np nc L : Nat} {H : List (Nat → Int32)} {S : Nat → Option (Nat → Int32)} {v w x y code : Int32} {xs : Nat → Int32} {f : Unit → zP β}
variable {N : zM} {fs h p si z : Nat}
/-- a new state, put into a row of states -/
theorem new_state (h0 : L0 N) (hC : LC c N) : ∃ G, (p_X5_init (z_nx N) c).1 (z_mk N 5 0 13) = some (.inr (), KI (z_wr (mkS3 N 3) (z_nx N) 6 (some c)) G) ∧ ∀ y, y < z_nx N → G y = z_i N y := by
  obtain ⟨m1, m2, m3, m4⟩ := mkS3_f (M := N) 3
  have hL : LZ (z_nx N) (mkS3 N 3) := LZ_S3
  have hlt := LC_lt hC
  have hr : (p_X5_begin (z_nx N) c).1 (mkS3 N 3) = some (.inr (), KI (z_wr (mkS3 N 3) (z_nx N) 6 (some c)) (f_tbs (f_b0 (z_i (mkS3 N 3)) (z_nx N) c) (z_nx N) c 3)) := kx_beginF (M := mkS3 N 3) (F := z_i (mkS3 N 3)) hL (LC_ext hC m4) (by omega)
  refine ⟨_, kx_init.trans (e_run hr), fun y hy => ?_⟩
  rw [f_tbs_o 3 (fun i hi => by omega), f_b0_o (by omega) (by omega) (by omega) (by omega) (by omega) (by omega)]
  exact (m4.2 y hy).2.2.2.1
theorem new_keep {G : Nat → Nat → Int32} (h0 : L0 N) (hs : HS N) (hC : LC c N) (hG : ∀ y, y < z_nx N → G y = z_i N y) (hx : (z = 5 ∧ p < 10 ∧ si = p) ∨ (z = 13 ∧ p < 2 ∧ si = 10 + p)) (hnone : z_r N z p = none) :
    keep N (z_wr (KI (z_wr (mkS3 N 3) (z_nx N) 6 (some c)) G) z p (some (z_nx N))) ∧ HS (z_wr (KI (z_wr (mkS3 N 3) (z_nx N) 6 (some c)) G) z p (some (z_nx N))) ∧ (∀ y j, y < z_nx N → (y ≠ z ∨ j ≠ p) → z_r (z_wr (KI (z_wr (mkS3 N 3) (z_nx N) 6 (some c)) G) z p (some (z_nx N))) y j = z_r N y j) ∧ L0 (z_wr (KI (z_wr (mkS3 N 3) (z_nx N) 6 (some c)) G) z p (some (z_nx N))) := by
  obtain ⟨m1, m2, m3, m4⟩ := mkS3_f (M := N) 3
  have h96 := h0.1
  have hL : LZ (z_nx N) (mkS3 N 3) := LZ_S3
  have hr : ∀ y j, y < z_nx N → (y ≠ z ∨ j ≠ p) → z_r (z_wr (KI (z_wr (mkS3 N 3) (z_nx N) 6 (some c)) G) z p (some (z_nx N))) y j = z_r N y j := fun y j hy hyz => by
    rw [r_wr hyz]
    show z_r (z_wr (mkS3 N 3) (z_nx N) 6 (some c)) y j = _
    rw [r_wr (Or.inl (by omega))]
    exact (m4.2 y hy).2.2.1 j
  have hk : keep N (z_wr (KI (z_wr (mkS3 N 3) (z_nx N) 6 (some c)) G) z p (some (z_nx N))) := ⟨by show z_nx N ≤ z_nx (mkS3 N 3); omega, fun y hy => ⟨(m4.2 y hy).1, (m4.2 y hy).2.1⟩, fun y j hy h5 h13 => hr y j hy (Or.inl (by omega)), fun y hy _ _ => hG y hy⟩
  have hso : ∀ i, i ≠ si → sref (z_wr (KI (z_wr (mkS3 N 3) (z_nx N) 6 (some c)) G) z p (some (z_nx N))) i = sref N i := fun i hi => by
    unfold sref
    split
    · exact hr 5 i (by omega) (by omega)
    · exact hr 13 (i - 10) (by omega) (by omega)
  have hss : sref (z_wr (KI (z_wr (mkS3 N 3) (z_nx N) 6 (some c)) G) z p (some (z_nx N))) si = some (z_nx N) := by
    rcases hx with ⟨e1, e2, e3⟩ | ⟨e1, e2, e3⟩
    · subst e1 e3
      rw [sref_h e2, r_wrs]
    · subst e1 e3
      rw [sref_s, r_wrs]
  refine ⟨hk, ⟨fun i x hi hx2 => ?_, fun i j x x' hi hj hij hx2 hx3 => ?_⟩, hr, L0_keep h0 hk⟩
  · by_cases e : i = si
    · subst e
      rw [hss] at hx2
      cases hx2
      refine ⟨h96, ?_⟩
      have h1 : LZ (z_nx N) (z_wr (mkS3 N 3) (z_nx N) 6 (some c)) := LZ_wr hL
      exact LZ_gen h1 (Nat.le_refl _) (fun y _ _ => ⟨rfl, rfl⟩) (fun y j h2 h3 h4 => r_wr (Or.inl (by omega)))
    · rw [hso i e] at hx2
      have h1 := hs.1 i x hi hx2
      exact ⟨h1.1, LZ_keep h1.2 hk (by omega)⟩
  · by_cases e : i = si
    · subst e
      rw [hss] at hx2
      cases hx2
      rw [hso j (fun q => hij q.symm)] at hx3
      have h1 := LZ_lt (hs.1 j x' hj hx3).2
      omega
    · rw [hso i e] at hx2
      have h1 := LZ_lt (hs.1 i x hi hx2).2
      by_cases e2 : j = si
      · subst e2
        rw [hss] at hx3
        cases hx3
        omega
      · rw [hso j e2] at hx3
        exact hs.2 i j x x' hi hj hij hx2 hx3
theorem c_rem2 (g : CJ k M c sp ct cd ns nt np nc st fs H S n bf) (hl : H.length < 10) (hp : p = (fs + H.length) % 10) : ∃ M1, ((z_bd (z_gA 3 4 0) (fun v10 => (z_jn (τ := Unit) (z_bd (z_aR 13 v10 (nI p)) (fun v16 => if v16 = none then (z_bd (z_gA 3 4 0) (fun v12 => (z_bd (z_nw 5 13) (fun q13 => (z_bd (z_gA 5 41 6) (fun v14 => (z_bd (p_X5_init q13 v14) (fun _ => (z_bd (z_sR 13 5 v12 (nI p) q13) (fun _ => (z_pu (.inl ())))))))))))) else (z_pu (.inl ())))) (fun t11 => (z_bd (z_gA 3 4 0) (fun v17 => (z_bd (z_aA 13 v17 (nI p)) (fun v18 => (z_bd (z_cv 5 v18 (p_X5_copy v18 41)) (fun _ => (z_pu ()))))))))))) : zP Unit).1 M = some (.inr (), M1) ∧ CJ k M1 c sp ct cd ns nt np nc st fs (H ++ [st]) S n bf ∧ z_i M1 4 = z_i M 4 ∧ (L9 M → L9 M1) ∧ (∀ y, 75 ≤ y → y < 95 → z_i M1 y = z_i M y) ∧ z_nx M1 ≤ z_nx M + 17 ∧ z_sl M1 ≤ z_sl M + 990 := by
  have hm : p < 10 := by rw [hp]; exact Nat.mod_lt _ (by decide)
  have h0 := g.1.1
  have hcc := g.1.2.2.1
  have h96 := h0.1
  have hs0 := g.1.2.2.2.2
  have hC : LC c M := by
    obtain ⟨T, hT, hA⟩ := g.2.1
    exact (AV_EN hA).1.2.2.1
  have hcy : z_r M 41 6 = some c := by
    obtain ⟨T, hT, hA⟩ := g.2.1
    exact (AV_EN hA).1.2.1
  have hfin : ∀ (N : zM) (x : Nat), L0 N → CJ k N c sp ct cd ns nt np nc st fs H S n bf → z_r N 5 p = some x → z_nx N ≤ z_nx M + 17 → z_sl N ≤ z_sl M + 990 → z_i N 4 = z_i M 4 → (L9 M → L9 N) → (∀ y, 75 ≤ y → y < 95 → z_i N y = z_i M y) → ∃ M1, (z_bd (z_gA 3 4 0) (fun v17 => (z_bd (z_aA 13 v17 (nI p)) (fun v18 => (z_bd (z_cv 5 v18 (p_X5_copy v18 41)) (fun _ => (z_pu ()))))))).1 N = some (.inr (), M1) ∧ CJ k M1 c sp ct cd ns nt np nc st fs (H ++ [st]) S n bf ∧ z_i M1 4 = z_i M 4 ∧ (L9 M → L9 M1) ∧ (∀ y, 75 ≤ y → y < 95 → z_i M1 y = z_i M y) ∧ z_nx M1 ≤ z_nx M + 17 ∧ z_sl M1 ≤ z_sl M + 990 := by
    intro N x h0N gN hx n1 n2 n3 n4 n5
    obtain ⟨F', k1, k2, k3⟩ := CJ_push gN hl (by rw [← hp]; exact hx)
    have hLx := gN.1.2.2.2.2.1 p x (by omega) (by rw [sref_h hm]; exact hx)
    refine ⟨_, ?_, k2, ?_, fun h => L9_wr (n4 h) (by omega), fun y y1 y2 => ?_, n1, n2⟩
    · show (z_bd (z_gA 3 4 0) _).1 (KI N (z_i N)) = _
      rw [k0_g4_0 h0N, ki_aA (k0_ar5 h0N) hm (by decide) hx, ki_cv hLx.2.1]
      exact e_run k1
    · show F' 4 = _
      rw [k3 _ (by omega)]
      exact n3
    · show F' y = _
      rw [k3 _ (by omega)]
      exact n5 y y1 y2
  cases hn : z_r M 5 p with
  | some x =>
    obtain ⟨M1, r1, r2⟩ := hfin M x h0 g hn (by omega) (by omega) rfl id (fun _ _ _ => rfl)
    refine ⟨M1, ?_, r2⟩
    show (z_bd (z_gA 3 4 0) _).1 (KI M (z_i M)) = _
    rw [k0_g4_0 h0]
    refine (e_jL (t := ()) (M1 := M) ?_).trans r1
    refine (e_aR (n_in (M := KI M (z_i M)) (k0_ar5 h0).1 (k0_ar5 h0).2 hm (by decide))).trans ?_
    rw [nI_clamp (by omega)]
    show (if z_r M 5 p = none then _ else _ : zP _).1 M = _
    rw [hn]
    rfl
  | none =>
    obtain ⟨G, q1, q2⟩ := new_state h0 hC
    obtain ⟨w1, w2, w3, w4⟩ := new_keep h0 hs0 hC q2 (Or.inl ⟨rfl, hm, rfl⟩) hn
    obtain ⟨m1, m2, m3, m4⟩ := mkS3_f (M := M) 3
    have hJ := CJ_keep g w1 w2 (fun i hi => w3 5 _ (by omega) (Or.inr (by rw [hp]; omega))) (fun i s hi e => w3 13 i (by omega) (Or.inl (by decide))) (q2 14 (by omega))
    obtain ⟨M1, r1, r2⟩ := hfin _ (z_nx M) w4 hJ r_wrs (by show z_nx (mkS3 M 3) ≤ _; omega) (by show z_sl (mkS3 M 3) ≤ _; omega) (q2 4 (by omega)) (fun h => L9_wr (L9_wr (L9_ext h m4) (by omega)) (by decide)) (fun y y1 y2 => q2 y (by omega))
    refine ⟨M1, ?_, r2⟩
    have hx1 : ext M (z_mk M 5 0 13) := ext_mk 5 0 13
    have hL41 := g.1.2.1.1
    show (z_bd (z_gA 3 4 0) _).1 (KI M (z_i M)) = _
    rw [k0_g4_0 h0]
    refine (e_jL (t := ()) (M1 := z_wr (KI (z_wr (mkS3 M 3) (z_nx M) 6 (some c)) G) 5 p (some (z_nx M))) ?_).trans r1
    refine (e_aR (n_in (M := KI M (z_i M)) (k0_ar5 h0).1 (k0_ar5 h0).2 hm (by decide))).trans ?_
    rw [nI_clamp (by omega)]
    show (if z_r M 5 p = none then _ else _ : zP _).1 (KI M (z_i M)) = _
    rw [if_pos hn, k0_g4_0 h0, n_nw]
    show (z_bd (z_gA 5 41 6) _).1 (z_mk M 5 0 13) = _
    rw [e_gA (is_ext hL41.1 hx1) ((r_ext hL41.1 hx1).trans hcy)]
    refine (e_run q1).trans ?_
    have i5 : z_is 13 5 (mkS3 M 3) := is_ext (k0_ar5 h0).1 m4
    have l5 : z_ln (mkS3 M 3) 5 = 10 := ((m4.2 5 (by omega)).2.1).trans (k0_ar5 h0).2
    have hin : z_in 13 5 (nI p) (KI (z_wr (mkS3 M 3) (z_nx M) 6 (some c)) G) := n_in (M := KI (z_wr (mkS3 M 3) (z_nx M) 6 (some c)) G) i5 l5 hm (by decide)
    have hia : z_is 5 (z_nx M) (KI (z_wr (mkS3 M 3) (z_nx M) 6 (some c)) G) := (LZ_S3 (M := M)).1
    show (z_bd (z_sR 13 5 5 (nI p) (z_nx M)) _).1 (KI (z_wr (mkS3 M 3) (z_nx M) 6 (some c)) G) = _
    rw [e_sR hin hia, nI_clamp (by omega)]
    rfl
theorem c_rem (hI : CI k M c sp ct cd ns nt np nc st H S n bf) : ∃ M1, (p_X3_remember 4 41).1 M = some (.inr (), M1) ∧ CI k M1 c sp ct cd ns nt np nc st (s_push H st) S n bf ∧ (L9 M → L9 M1) ∧ (∀ y, 75 ≤ y → y < 95 → z_i M1 y = z_i M y) ∧ z_nx M1 ≤ z_nx M + 17 ∧ z_sl M1 ≤ z_sl M + 990 := by
  obtain ⟨fs, g, f3, f4⟩ := CI_CJ hI
  have h0 := g.1.1
  have hf := g.2.2.1.1
  have hl := g.2.2.1.2.1
  have hpl : nI fs + nI H.length = nI (fs + H.length) := nI_add _ _
  have hrm : nI (fs + H.length) - nI (fs + H.length) / 10 * 10 = nI ((fs + H.length) % 10) := pk_rem (d := 10) (by omega) (by decide) (by decide)
  by_cases hlt : H.length < 10
  · obtain ⟨F0, eF0⟩ : ∃ F0, F0 = z_up2 (z_i M) 4 2 (nI (H.length + 1)) := ⟨_, rfl⟩
    have hk : keep M (KI M F0) := ⟨Nat.le_refl _, fun _ _ => ⟨rfl, rfl⟩, fun _ _ _ _ _ => rfl, fun y _ h4 _ => by show F0 y = _; rw [eF0, u2_row _ _ h4]⟩
    have g2 := CJ_keep g hk g.1.2.2.2.2 (fun _ _ => rfl) (fun _ _ _ _ => rfl) (by show F0 14 = _; rw [eF0, u2_row _ _ (by decide)])
    obtain ⟨M1, r1, r2, r3, r4, r5, r6, r7⟩ := c_rem2 g2 hlt rfl
    refine ⟨M1, ?_, ?_, r4, fun y y1 y2 => ?_, r6, r7⟩
    · unfold p_X3_remember
      show (z_bd (z_gI 3 4 1) _).1 (KI M (z_i M)) = _
      have hn10 : ¬ (10 : Int32) ≤ nI H.length := nI_ge (b := 10) hlt (by decide)
      rw [k0_gI4 h0, k0_gI4 h0, b_pu, b_pu, k0_gI4 h0, f3, f4, hpl, hrm, if_neg hn10]
      refine (e_jL (t := ()) (M1 := KI M F0) ?_).trans r1
      rw [k0_gI4 h0, f4, nI_1, k0_pI4 h0, ← eF0]
      rfl
    · unfold s_push
      rw [if_pos hlt]
      refine CJ_CI r2 ?_ ?_
      · rw [r3]
        show F0 4 1 = _
        rw [eF0, u2_n _ _ (by omega)]
        exact f3
      · rw [r3, List.length_append]
        show F0 4 2 = _
        rw [eF0, u2_s]
        rfl
    · rw [r5 y y1 y2]
      show F0 y = _
      rw [eF0, u2_row _ _ (by omega)]
  · have hl10 : H.length = 10 := by omega
    cases H with
    | nil => cases hl10
    | cons s Ht =>
      rw [List.length_cons] at hl10
      have hrm1 : nI (fs + 1) - nI (fs + 1) / 10 * 10 = nI ((fs + 1) % 10) := pk_rem (d := 10) (by omega) (by decide) (by decide)
      obtain ⟨F0, eF0⟩ : ∃ F0, F0 = z_up2 (z_i M) 4 1 (nI ((fs + 1) % 10)) := ⟨_, rfl⟩
      have hk : keep M (KI M F0) := ⟨Nat.le_refl _, fun _ _ => ⟨rfl, rfl⟩, fun _ _ _ _ _ => rfl, fun y _ h4 _ => by show F0 y = _; rw [eF0, u2_row _ _ h4]⟩
      have g2 := CJ_tail (CJ_keep g hk g.1.2.2.2.2 (fun _ _ => rfl) (fun _ _ _ _ => rfl) (by show F0 14 = _; rw [eF0, u2_row _ _ (by decide)]))
      obtain ⟨M1, r1, r2, r3, r4, r5, r6, r7⟩ := c_rem2 (p := (fs + (Ht.length + 1)) % 10) g2 (by omega) (by omega)
      refine ⟨M1, ?_, ?_, r4, fun y y1 y2 => ?_, r6, r7⟩
      · unfold p_X3_remember
        show (z_bd (z_gI 3 4 1) _).1 (KI M (z_i M)) = _
        rw [List.length_cons] at hrm f4
        have hn10 : (10 : Int32) ≤ nI (Ht.length + 1) := nI_le (a := 10) (by omega) (by omega)
        rw [List.length_cons] at hpl
        rw [k0_gI4 h0, k0_gI4 h0, b_pu, b_pu, k0_gI4 h0, f3, f4, hpl, hrm, if_pos hn10]
        refine (e_jL (t := ()) (M1 := KI M F0) ?_).trans r1
        rw [k0_gI4 h0, f3, b_pu, nI_1, hrm1, k0_pI4 h0, ← eF0]
        rfl
      · unfold s_push
        rw [if_neg (by rw [List.length_cons]; omega)]
        refine CJ_CI r2 ?_ ?_
        · rw [r3]
          show F0 4 1 = _
          rw [eF0, u2_s]
        · rw [r3, List.length_append]
          show F0 4 2 = nI (Ht.length + 1)
          rw [eF0, u2_n _ _ (by omega)]
          exact f4
      · rw [r5 y y1 y2]
        show F0 y = _
        rw [eF0, u2_row _ _ (by omega)]
theorem m_keep (hm : MI (KI M F) ct cd st H S n bf) (hl : H.length ≤ 10) : ∃ F', (p_X9_keep 75).1 (KI M F) = some (.inr (), KI M F') ∧ MI (KI M F') ct cd st (s_push H st) S n bf ∧ F' 75 0 = F 75 0 ∧ ∀ y, y ≠ 75 → y ≠ 84 → F' y = F y := by
  have h9 : L9 M := hm.1
  obtain ⟨_, ⟨e78, e80, e83⟩, ⟨e21, e84⟩, hS, e2, hb⟩ := hm
  have e21 : F 75 21 = nI H.length := e21
  have e83 : F 83 = st := e83
  have hcopy : ∀ (G : Nat → Nat → Int32) (d : Nat), d ≤ 9 → G 75 21 = nI d → (z_jn (τ := Unit) (z_lp (fun (t12 : Int32) => (if 3277 ≤ t12 then (z_pu (.inr (.inl ()))) else (z_bd (z_gA 9 75 20) (fun v13 => (z_bd (z_gI 9 75 21) (fun v14 => (z_bd (z_gA 9 75 19) (fun v15 => (z_bd (z_aI 11 v15 t12) (fun v16 => (z_bd (z_sI 11 v13 ((3277 * v14) + t12) v16) (fun _ => (z_pu (.inl ((t12 + 1)))))))))))))))) 0) (fun t11 => (z_bd (z_gI 9 75 21) (fun v17 => (z_bd (z_pI 9 75 21 (v17 + 1)) (fun _ => (z_pu ()))))))).1 (KI M G) = some (.inr (), KI M (z_up2 (z_up1 G 84 (va_cpy (G 83) (G 84) 0 (3277 * d) 3277)) 75 21 (nI (d + 1)))) := by
    intro G d hd hG
    refine (e_jL (t := ()) (M1 := KI M (z_up1 G 84 (va_cpy (G 83) (G 84) 0 (3277 * d) 3277))) ?_).trans ?_
    · refine cp_loop 3277 0 (3277 * d) 83 84 (by omega) (fun t g ht => ?_) (fun g => rfl)
      have h3 : ¬ (3277 : Int32) ≤ nI t := nI_ge (b := 3277) ht (by omega)
      have e1 : z_up1 G 84 g 75 21 = nI d := by rw [u1_n _ _ (by omega)]; exact hG
      have hi : 3277 * d + t < 32770 := by omega
      simp (disch := first | assumption | omega) only [e_pu, e_ite, oL_add, oL_addr, oL_mul, nI_add, nI_1, b_pu, b_bd, b_ite, j_L, j_R, j_ite, j_bd, z_ex, ↓reduceIte, if_true, if_false, kn_gI, kn_pI, kn_cv, kn_g76, kn_a76, kn_s76, kn_g77, kn_a77, kn_s77, kn_g78, kn_a78, kn_s78, kn_g79, kn_a79, kn_s79, kn_g80, kn_a80, kn_s80, kn_g81, kn_a81, kn_s81, kn_g82, kn_a82, kn_s82, kn_g83, kn_a83, kn_s83, kn_g84, kn_a84, kn_s84, kn_g85, kn_a85, kn_s85, kn_g86, kn_g87, kn_a87, kn_s87, kn_g88, kn_a88, kn_s88, kn_g89, kn_a89, kn_s89, kn_g90, kn_a90, kn_s90, kn_g91, kn_a91, kn_s91, kn_g92, kn_a92, kn_s92, kn_g93, kn_a93, kn_s93, kn_g94, kn_a94, kn_s94, kn_l77_0, kn_t77_0, kn_l77_1, kn_t77_1, kn_l77_2, kn_t77_2, kn_l77_3, kn_t77_3, kn_l77_4, kn_t77_4, kn_l77_5, kn_t77_5, kn_l77_6, kn_t77_6, kn_l77_7, kn_t77_7, kn_l77_8, kn_t77_8, kn_l78_0, kn_t78_0, kn_l78_1, kn_t78_1, kn_l78_2, kn_t78_2, kn_l78_3, kn_t78_3, kn_l78_4, kn_t78_4, kn_l78_5, kn_t78_5, kn_l78_6, kn_t78_6, kn_l78_7, kn_t78_7, kn_l78_8, kn_t78_8, kn_l79_0, kn_t79_0, kn_l82_0, kn_t82_0, kn_l83_0, kn_t83_0, kn_l83_1, kn_t83_1, kn_l83_2, kn_t83_2, kn_l83_3, kn_t83_3, kn_l83_4, kn_t83_4, kn_l83_5, kn_t83_5, kn_l83_204, kn_t83_204, kn_wk, kn_fr, kn_mk, kn_ev, kn_bn, kn_ds, kn_rd, kn_dr, kn_of, kn_of0, kn_of1, kn_of2, kn_of3, kn_of4, kn_of5, kn_of6, kn_near, kn_loads, kn_all, kn_fare, kn_fail, kn_told, g9_wi, g9_at, h3, e1, u1_n]
      rw [Nat.zero_add]
    · have e1 : z_up1 G 84 (va_cpy (G 83) (G 84) 0 (3277 * d) 3277) 75 21 = nI d := by rw [u1_n _ _ (by omega)]; exact hG
      simp (disch := first | assumption | omega) only [e_pu, e_ite, oL_add, oL_addr, oL_mul, nI_add, nI_1, b_pu, b_bd, b_ite, j_L, j_R, j_ite, j_bd, z_ex, ↓reduceIte, if_true, if_false, kn_gI, kn_pI, kn_cv, kn_g76, kn_a76, kn_s76, kn_g77, kn_a77, kn_s77, kn_g78, kn_a78, kn_s78, kn_g79, kn_a79, kn_s79, kn_g80, kn_a80, kn_s80, kn_g81, kn_a81, kn_s81, kn_g82, kn_a82, kn_s82, kn_g83, kn_a83, kn_s83, kn_g84, kn_a84, kn_s84, kn_g85, kn_a85, kn_s85, kn_g86, kn_g87, kn_a87, kn_s87, kn_g88, kn_a88, kn_s88, kn_g89, kn_a89, kn_s89, kn_g90, kn_a90, kn_s90, kn_g91, kn_a91, kn_s91, kn_g92, kn_a92, kn_s92, kn_g93, kn_a93, kn_s93, kn_g94, kn_a94, kn_s94, kn_l77_0, kn_t77_0, kn_l77_1, kn_t77_1, kn_l77_2, kn_t77_2, kn_l77_3, kn_t77_3, kn_l77_4, kn_t77_4, kn_l77_5, kn_t77_5, kn_l77_6, kn_t77_6, kn_l77_7, kn_t77_7, kn_l77_8, kn_t77_8, kn_l78_0, kn_t78_0, kn_l78_1, kn_t78_1, kn_l78_2, kn_t78_2, kn_l78_3, kn_t78_3, kn_l78_4, kn_t78_4, kn_l78_5, kn_t78_5, kn_l78_6, kn_t78_6, kn_l78_7, kn_t78_7, kn_l78_8, kn_t78_8, kn_l79_0, kn_t79_0, kn_l82_0, kn_t82_0, kn_l83_0, kn_t83_0, kn_l83_1, kn_t83_1, kn_l83_2, kn_t83_2, kn_l83_3, kn_t83_3, kn_l83_4, kn_t83_4, kn_l83_5, kn_t83_5, kn_l83_204, kn_t83_204, kn_wk, kn_fr, kn_mk, kn_ev, kn_bn, kn_ds, kn_rd, kn_dr, kn_of, kn_of0, kn_of1, kn_of2, kn_of3, kn_of4, kn_of5, kn_of6, kn_near, kn_loads, kn_all, kn_fare, kn_fail, kn_told, g9_wi, g9_at, e1]
  unfold p_X9_keep
  by_cases hlt : H.length < 10
  · refine ⟨z_up2 (z_up1 F 84 (va_cpy (F 83) (F 84) 0 (3277 * H.length) 3277)) 75 21 (nI (H.length + 1)), ?_, ?_, ?_, fun y y1 y2 => ?_⟩
    · have hne : ¬ nI H.length = 10 := fun q => by
        have := (nI_eq (b := 10) (by omega) (by omega)).mp q
        omega
      rw [kn_gI h9, e21, if_neg hne, j_L]
      exact hcopy F H.length (by omega) e21
    · unfold s_push
      rw [if_pos hlt]
      have fo : ∀ y, y ≠ 75 → y ≠ 84 → z_up2 (z_up1 F 84 (va_cpy (F 83) (F 84) 0 (3277 * H.length) 3277)) 75 21 (nI (H.length + 1)) y = F y := fun y y1 y2 => by rw [u2_row _ _ y1, u1_n _ _ y2]
      refine ⟨h9, ⟨(fo _ (by omega) (by omega)).trans e78, (fo _ (by omega) (by omega)).trans e80, (fo _ (by omega) (by omega)).trans e83⟩, ⟨?_, fun i s hi j hj => ?_⟩, fun i hi => ?_, ?_, fun i hi => ?_⟩
      · rw [List.length_append]
        show z_up2 (z_up1 F 84 (va_cpy (F 83) (F 84) 0 (3277 * H.length) 3277)) 75 21 (nI (H.length + 1)) 75 21 = nI (H.length + 1)
        rw [u2_s]
      · show z_up2 (z_up1 F 84 (va_cpy (F 83) (F 84) 0 (3277 * H.length) 3277)) 75 21 (nI (H.length + 1)) 84 _ = _
        rw [u2_n _ _ (by omega), u1_s]
        by_cases hil : i < H.length
        · rw [List.getElem?_append_left hil] at hi
          rw [pk_cpy_out (by omega)]
          exact e84 i s hi j hj
        · have hi3 := hi
          rw [List.getElem?_append_right (by omega)] at hi
          have hi2 : i = H.length := by
            have := (List.getElem?_eq_some_iff.mp hi).1
            rw [List.length_singleton] at this
            omega
          subst hi2
          rw [Nat.sub_self] at hi
          cases hi
          rw [pk_cpy_in (by omega) (by omega), e83, show 0 + (3277 * H.length + j - 3277 * H.length) = j by omega]
      · show (S i = none → z_up2 (z_up1 F 84 (va_cpy (F 83) (F 84) 0 (3277 * H.length) 3277)) 75 21 (nI (H.length + 1)) 86 i = 0) ∧ ∀ s, S i = some s → z_up2 (z_up1 F 84 (va_cpy (F 83) (F 84) 0 (3277 * H.length) 3277)) 75 21 (nI (H.length + 1)) 86 i = 1 ∧ ∀ j, j < 3277 → z_up2 (z_up1 F 84 (va_cpy (F 83) (F 84) 0 (3277 * H.length) 3277)) 75 21 (nI (H.length + 1)) 85 (3277 * i + j) = s j
        rw [fo 86 (by omega) (by omega), fo 85 (by omega) (by omega)]
        exact hS i hi
      · show z_up2 (z_up1 F 84 (va_cpy (F 83) (F 84) 0 (3277 * H.length) 3277)) 75 21 (nI (H.length + 1)) 75 2 = _
        rw [u2_n _ _ (by omega), u1_n _ _ (by omega)]
        exact e2
      · show z_up2 (z_up1 F 84 (va_cpy (F 83) (F 84) 0 (3277 * H.length) 3277)) 75 21 (nI (H.length + 1)) 76 i = _ ∧ _
        rw [fo 76 (by omega) (by omega)]
        exact hb i hi
    · rw [u2_n _ _ (by omega), u1_n _ _ (by omega)]
    · rw [u2_row _ _ y1, u1_n _ _ y2]
  · have hl10 : H.length = 10 := by omega
    cases H with
    | nil => cases hl10
    | cons s0 Ht =>
      rw [List.length_cons] at hl10
      obtain ⟨G, eG⟩ : ∃ G, G = z_up2 (z_up1 F 84 (fun j => if j < 29493 then F 84 (j + 3277) else F 84 j)) 75 21 (nI 9) := ⟨_, rfl⟩
      have g21 : G 75 21 = nI 9 := by rw [eG, u2_s]
      have go : ∀ y, y ≠ 75 → y ≠ 84 → G y = F y := fun y y1 y2 => by rw [eG, u2_row _ _ y1, u1_n _ _ y2]
      have g84 : ∀ j, j < 29493 → G 84 j = F 84 (j + 3277) := fun j hj => by rw [eG, u2_n _ _ (by omega), u1_s, if_pos hj]
      refine ⟨z_up2 (z_up1 G 84 (va_cpy (G 83) (G 84) 0 (3277 * 9) 3277)) 75 21 (nI (9 + 1)), ?_, ?_, ?_, fun y y1 y2 => ?_⟩
      · have he : F 75 21 = 10 := by rw [e21, List.length_cons, hl10]; rfl
        rw [kn_gI h9, he, if_pos rfl]
        refine (e_jL (t := ()) (M1 := KI M G) ?_).trans (hcopy G 9 (by omega) g21)
        refine (e_jL (t := ()) (M1 := KI M (z_up1 F 84 (fun j => if j < 29493 then F 84 (j + 3277) else F 84 j))) ?_).trans ?_
        · refine sh_loop 29493 3277 84 (by omega) (fun t g ht => ?_) (fun g => ?_)
          · have h3 : ¬ (29493 : Int32) ≤ nI t := nI_ge (b := 29493) ht (by omega)
            have hi : t + 3277 < 32770 := by omega
            have hi2 : t < 32770 := by omega
            have hal : ∀ f : Int32 → zP (Int32 ⊕ (Unit ⊕ (Unit ⊕ Unit))), (z_bd (z_al 11 84) f).1 (KI M (z_up1 F 84 g)) = (f (nI 32770)).1 (KI M (z_up1 F 84 g)) := fun f => ki_al ⟨q9_is84 h9, (q9_m84 h9).2.1⟩
            have hsb : nI 32770 - 3277 = (29493 : Int32) := by decide
            simp (disch := first | assumption | omega) only [e_pu, e_ite, oL_add, oL_addr, oL_mul, nI_add, nI_1, b_pu, b_bd, b_ite, j_L, j_R, j_ite, j_bd, z_ex, ↓reduceIte, if_true, if_false, kn_gI, kn_pI, kn_cv, kn_g76, kn_a76, kn_s76, kn_g77, kn_a77, kn_s77, kn_g78, kn_a78, kn_s78, kn_g79, kn_a79, kn_s79, kn_g80, kn_a80, kn_s80, kn_g81, kn_a81, kn_s81, kn_g82, kn_a82, kn_s82, kn_g83, kn_a83, kn_s83, kn_g84, kn_a84, kn_s84, kn_g85, kn_a85, kn_s85, kn_g86, kn_g87, kn_a87, kn_s87, kn_g88, kn_a88, kn_s88, kn_g89, kn_a89, kn_s89, kn_g90, kn_a90, kn_s90, kn_g91, kn_a91, kn_s91, kn_g92, kn_a92, kn_s92, kn_g93, kn_a93, kn_s93, kn_g94, kn_a94, kn_s94, kn_l77_0, kn_t77_0, kn_l77_1, kn_t77_1, kn_l77_2, kn_t77_2, kn_l77_3, kn_t77_3, kn_l77_4, kn_t77_4, kn_l77_5, kn_t77_5, kn_l77_6, kn_t77_6, kn_l77_7, kn_t77_7, kn_l77_8, kn_t77_8, kn_l78_0, kn_t78_0, kn_l78_1, kn_t78_1, kn_l78_2, kn_t78_2, kn_l78_3, kn_t78_3, kn_l78_4, kn_t78_4, kn_l78_5, kn_t78_5, kn_l78_6, kn_t78_6, kn_l78_7, kn_t78_7, kn_l78_8, kn_t78_8, kn_l79_0, kn_t79_0, kn_l82_0, kn_t82_0, kn_l83_0, kn_t83_0, kn_l83_1, kn_t83_1, kn_l83_2, kn_t83_2, kn_l83_3, kn_t83_3, kn_l83_4, kn_t83_4, kn_l83_5, kn_t83_5, kn_l83_204, kn_t83_204, kn_wk, kn_fr, kn_mk, kn_ev, kn_bn, kn_ds, kn_rd, kn_dr, kn_of, kn_of0, kn_of1, kn_of2, kn_of3, kn_of4, kn_of5, kn_of6, kn_near, kn_loads, kn_all, kn_fare, kn_fail, kn_told, g9_wi, g9_at, hal, hsb, h3, u1_s]
          · have hal : ∀ f : Int32 → zP (Int32 ⊕ (Unit ⊕ (Unit ⊕ Unit))), (z_bd (z_al 11 84) f).1 (KI M (z_up1 F 84 g)) = (f (nI 32770)).1 (KI M (z_up1 F 84 g)) := fun f => ki_al ⟨q9_is84 h9, (q9_m84 h9).2.1⟩
            have hsb : nI 32770 - 3277 = (29493 : Int32) := by decide
            simp (disch := first | assumption | omega) only [e_pu, e_ite, oL_add, oL_addr, oL_mul, nI_add, nI_1, b_pu, b_bd, b_ite, j_L, j_R, j_ite, j_bd, z_ex, ↓reduceIte, if_true, if_false, kn_gI, kn_pI, kn_cv, kn_g76, kn_a76, kn_s76, kn_g77, kn_a77, kn_s77, kn_g78, kn_a78, kn_s78, kn_g79, kn_a79, kn_s79, kn_g80, kn_a80, kn_s80, kn_g81, kn_a81, kn_s81, kn_g82, kn_a82, kn_s82, kn_g83, kn_a83, kn_s83, kn_g84, kn_a84, kn_s84, kn_g85, kn_a85, kn_s85, kn_g86, kn_g87, kn_a87, kn_s87, kn_g88, kn_a88, kn_s88, kn_g89, kn_a89, kn_s89, kn_g90, kn_a90, kn_s90, kn_g91, kn_a91, kn_s91, kn_g92, kn_a92, kn_s92, kn_g93, kn_a93, kn_s93, kn_g94, kn_a94, kn_s94, kn_l77_0, kn_t77_0, kn_l77_1, kn_t77_1, kn_l77_2, kn_t77_2, kn_l77_3, kn_t77_3, kn_l77_4, kn_t77_4, kn_l77_5, kn_t77_5, kn_l77_6, kn_t77_6, kn_l77_7, kn_t77_7, kn_l77_8, kn_t77_8, kn_l78_0, kn_t78_0, kn_l78_1, kn_t78_1, kn_l78_2, kn_t78_2, kn_l78_3, kn_t78_3, kn_l78_4, kn_t78_4, kn_l78_5, kn_t78_5, kn_l78_6, kn_t78_6, kn_l78_7, kn_t78_7, kn_l78_8, kn_t78_8, kn_l79_0, kn_t79_0, kn_l82_0, kn_t82_0, kn_l83_0, kn_t83_0, kn_l83_1, kn_t83_1, kn_l83_2, kn_t83_2, kn_l83_3, kn_t83_3, kn_l83_4, kn_t83_4, kn_l83_5, kn_t83_5, kn_l83_204, kn_t83_204, kn_wk, kn_fr, kn_mk, kn_ev, kn_bn, kn_ds, kn_rd, kn_dr, kn_of, kn_of0, kn_of1, kn_of2, kn_of3, kn_of4, kn_of5, kn_of6, kn_near, kn_loads, kn_all, kn_fare, kn_fail, kn_told, g9_wi, g9_at, hal, hsb, show (29493 : Int32) ≤ nI 29493 from Int32.le_refl _]
        · have e1 : z_up1 F 84 (fun j => if j < 29493 then F 84 (j + 3277) else F 84 j) 75 21 = 10 := by rw [u1_n _ _ (by omega)]; exact he
          simp (disch := first | assumption | omega) only [e_pu, e_ite, oL_add, oL_addr, oL_mul, nI_add, nI_1, b_pu, b_bd, b_ite, j_L, j_R, j_ite, j_bd, z_ex, ↓reduceIte, if_true, if_false, kn_gI, kn_pI, kn_cv, kn_g76, kn_a76, kn_s76, kn_g77, kn_a77, kn_s77, kn_g78, kn_a78, kn_s78, kn_g79, kn_a79, kn_s79, kn_g80, kn_a80, kn_s80, kn_g81, kn_a81, kn_s81, kn_g82, kn_a82, kn_s82, kn_g83, kn_a83, kn_s83, kn_g84, kn_a84, kn_s84, kn_g85, kn_a85, kn_s85, kn_g86, kn_g87, kn_a87, kn_s87, kn_g88, kn_a88, kn_s88, kn_g89, kn_a89, kn_s89, kn_g90, kn_a90, kn_s90, kn_g91, kn_a91, kn_s91, kn_g92, kn_a92, kn_s92, kn_g93, kn_a93, kn_s93, kn_g94, kn_a94, kn_s94, kn_l77_0, kn_t77_0, kn_l77_1, kn_t77_1, kn_l77_2, kn_t77_2, kn_l77_3, kn_t77_3, kn_l77_4, kn_t77_4, kn_l77_5, kn_t77_5, kn_l77_6, kn_t77_6, kn_l77_7, kn_t77_7, kn_l77_8, kn_t77_8, kn_l78_0, kn_t78_0, kn_l78_1, kn_t78_1, kn_l78_2, kn_t78_2, kn_l78_3, kn_t78_3, kn_l78_4, kn_t78_4, kn_l78_5, kn_t78_5, kn_l78_6, kn_t78_6, kn_l78_7, kn_t78_7, kn_l78_8, kn_t78_8, kn_l79_0, kn_t79_0, kn_l82_0, kn_t82_0, kn_l83_0, kn_t83_0, kn_l83_1, kn_t83_1, kn_l83_2, kn_t83_2, kn_l83_3, kn_t83_3, kn_l83_4, kn_t83_4, kn_l83_5, kn_t83_5, kn_l83_204, kn_t83_204, kn_wk, kn_fr, kn_mk, kn_ev, kn_bn, kn_ds, kn_rd, kn_dr, kn_of, kn_of0, kn_of1, kn_of2, kn_of3, kn_of4, kn_of5, kn_of6, kn_near, kn_loads, kn_all, kn_fare, kn_fail, kn_told, g9_wi, g9_at, e1]
          rw [eG]
          rfl
      · unfold s_push
        rw [if_neg (by rw [List.length_cons]; omega)]
        have fo : ∀ y, y ≠ 75 → y ≠ 84 → z_up2 (z_up1 G 84 (va_cpy (G 83) (G 84) 0 (3277 * 9) 3277)) 75 21 (nI (9 + 1)) y = F y := fun y y1 y2 => by rw [u2_row _ _ y1, u1_n _ _ y2, go y y1 y2]
        refine ⟨h9, ⟨(fo _ (by omega) (by omega)).trans e78, (fo _ (by omega) (by omega)).trans e80, (fo _ (by omega) (by omega)).trans e83⟩, ⟨?_, fun i s hi j hj => ?_⟩, fun i hi => ?_, ?_, fun i hi => ?_⟩
        · rw [List.length_append]
          show z_up2 (z_up1 G 84 (va_cpy (G 83) (G 84) 0 (3277 * 9) 3277)) 75 21 (nI (9 + 1)) 75 21 = nI (Ht.length + 1)
          rw [u2_s, hl10]
        · show z_up2 (z_up1 G 84 (va_cpy (G 83) (G 84) 0 (3277 * 9) 3277)) 75 21 (nI (9 + 1)) 84 _ = _
          rw [u2_n _ _ (by omega), u1_s]
          have hi : (Ht ++ [st])[i]? = some s := hi
          by_cases hil : i < Ht.length
          · rw [List.getElem?_append_left hil] at hi
            rw [pk_cpy_out (by omega), g84 _ (by omega), show 3277 * i + j + 3277 = 3277 * (i + 1) + j by omega]
            exact e84 (i + 1) s hi j hj
          · rw [List.getElem?_append_right (by omega)] at hi
            have hi2 : i = Ht.length := by
              have := (List.getElem?_eq_some_iff.mp hi).1
              rw [List.length_singleton] at this
              omega
            subst hi2
            rw [Nat.sub_self] at hi
            cases hi
            rw [pk_cpy_in (by omega) (by omega), go _ (by omega) (by omega), e83, show 0 + (3277 * Ht.length + j - 3277 * 9) = j by omega]
        · show (S i = none → z_up2 (z_up1 G 84 (va_cpy (G 83) (G 84) 0 (3277 * 9) 3277)) 75 21 (nI (9 + 1)) 86 i = 0) ∧ ∀ s, S i = some s → z_up2 (z_up1 G 84 (va_cpy (G 83) (G 84) 0 (3277 * 9) 3277)) 75 21 (nI (9 + 1)) 86 i = 1 ∧ ∀ j, j < 3277 → z_up2 (z_up1 G 84 (va_cpy (G 83) (G 84) 0 (3277 * 9) 3277)) 75 21 (nI (9 + 1)) 85 (3277 * i + j) = s j
          rw [fo 86 (by omega) (by omega), fo 85 (by omega) (by omega)]
          exact hS i hi
        · show z_up2 (z_up1 G 84 (va_cpy (G 83) (G 84) 0 (3277 * 9) 3277)) 75 21 (nI (9 + 1)) 75 2 = _
          rw [u2_n _ _ (by omega), u1_n _ _ (by omega), eG, u2_n _ _ (by omega), u1_n _ _ (by omega)]
          exact e2
        · show z_up2 (z_up1 G 84 (va_cpy (G 83) (G 84) 0 (3277 * 9) 3277)) 75 21 (nI (9 + 1)) 76 i = _ ∧ _
          rw [fo 76 (by omega) (by omega)]
          exact hb i hi
      · rw [u2_n _ _ (by omega), u1_n _ _ (by omega), eG, u2_n _ _ (by omega), u1_n _ _ (by omega)]
      · rw [u2_row _ _ y1, u1_n _ _ y2, go y y1 y2]
end PA21
