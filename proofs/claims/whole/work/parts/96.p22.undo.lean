/-! ===== PHASE 2: undo, snapshots ===== -/
section PA22
variable {β : Type} {M : zM} {F : Nat → Nat → Int32} {ct cd st bf : Nat → Int32} {i j k q c sp n ns nt np nc L : Nat} {H : List (Nat → Int32)} {S : Nat → Option (Nat → Int32)} {v w x y code : Int32} {xs : Nat → Int32} {f : Unit → zP β}
theorem CJ_init {s : Nat → Int32} {fs : Nat} (h : CJ k M c sp ct cd ns nt np nc st fs (H ++ [s]) S n bf) : CJ k M c sp ct cd ns nt np nc st fs H S n bf ∧ ∃ x T, z_r M 5 ((fs + H.length) % 10) = some x ∧ T ≤ 9999 ∧ AV M (z_i M) x c ct cd s ns nt np nc k T := by
  obtain ⟨h1, h2, ⟨f1, f2, f5⟩, h4⟩ := h
  rw [List.length_append] at f2
  refine ⟨⟨h1, h2, ⟨f1, by omega, fun i s hi => f5 i s (by rw [List.getElem?_append_left (List.getElem?_eq_some_iff.mp hi).1]; exact hi)⟩, h4⟩, f5 H.length s (by rw [List.getElem?_append_right (Nat.le_refl _), Nat.sub_self]; rfl)⟩
theorem L_c33 (hI : CI k M c sp ct cd ns nt np nc st H S n bf) (hm : MI M ct cd st H S n bf) (hi : i + 6 ≤ L) (hL : L ≤ 3072) : STEP (p_L_c33 xs L 0 75 95 (nI i)) k M i := by
  unfold p_L_c33
  obtain ⟨fs, g, f3, f4⟩ := CI_CJ hI
  have h0 := g.1.1
  have hl := g.2.2.1.2.1
  rcases List.eq_nil_or_concat H with e | ⟨H0, s, e⟩
  · subst e
    refine glue_p hI hm (v := -1) (cres_of hI ?_) (fun M1 h1 => mres_th h1 ?_)
    · unfold p_X8_undo p_X3_takeBack
      show (z_bd (z_gA 8 0 2) _).1 (KI M (z_i M)) = _
      have f4' : z_i M 4 2 = 0 := f4
      rw [k0_g0_2 h0, k0_g0_6 h0, k0_cv4 h0, b_bd, k0_gI4 h0, f4']
      rfl
    · have h9 := h1.1
      have e21 : z_i M1 75 21 = 0 := h1.2.2.1.1
      unfold p_X9_undo
      show (z_bd (z_pI 9 75 0 0) _).1 (KI M1 (z_i M1)) = _
      rw [kn_pI h9, kn_gI h9, u2_n _ _ (by omega), e21]
      rfl
  · rw [List.concat_eq_append] at e
    subst e
    have hlen : (H0 ++ [s]).length = H0.length + 1 := by rw [List.length_append]; rfl
    rw [hlen] at f4 hl
    obtain ⟨F0, eF0⟩ : ∃ F0, F0 = z_up2 (z_i M) 4 2 (nI H0.length) := ⟨_, rfl⟩
    have hk : keep M (KI M F0) := ⟨Nat.le_refl _, fun _ _ => ⟨rfl, rfl⟩, fun _ _ _ _ _ => rfl, fun y _ h4 _ => by show F0 y = _; rw [eF0, u2_row _ _ h4]⟩
    have g2 := CJ_keep g hk g.1.2.2.2.2 (fun _ _ => rfl) (fun _ _ _ _ => rfl) (by show F0 14 = _; rw [eF0, u2_row _ _ (by decide)])
    obtain ⟨g3, x, T2, x1, x2, x3⟩ := CJ_init g2
    have hm10 : (fs + H0.length) % 10 < 10 := Nat.mod_lt _ (by decide)
    obtain ⟨F', k1, k2, k3⟩ := CJ_load g3 ⟨(fs + H0.length) % 10, by omega, by rw [sref_h hm10]; exact x1⟩ ⟨T2, x2, x3⟩
    have hf := g.2.2.1.1
    have hpl : nI fs + nI H0.length = nI (fs + H0.length) := nI_add _ _
    have hrm : nI (fs + H0.length) - nI (fs + H0.length) / 10 * 10 = nI ((fs + H0.length) % 10) := pk_rem (d := 10) (by omega) (by decide) (by decide)
    have hcI : CI k (KI (z_wr (KI M F0) 41 6 (some c)) F') c sp ct cd ns nt np nc s H0 S n bf := CJ_CI k2 (by show F' 4 1 = _; rw [k3 _ (by omega)]; show F0 4 1 = _; rw [eF0, u2_n _ _ (by omega)]; exact f3) (by show F' 4 2 = _; rw [k3 _ (by omega)]; show F0 4 2 = _; rw [eF0, u2_s])
    have hL41 := g.1.2.1.1
    refine glue_p hI hm (v := nI H0.length) (cres_st (st' := s_ab3 s st) ⟨_, ?_, CI_kk hcI (by omega), fun h => L9_wr (M := KI M F0) h (by decide), fun y y1 y2 => ?_, ?_, ?_⟩ (fun q hq => if_pos hq)) (fun M1 h1 => ?_)
    · unfold p_X8_undo p_X3_takeBack
      show (z_bd (z_gA 8 0 2) _).1 (KI M (z_i M)) = _
      rw [k0_g0_2 h0, k0_g0_6 h0, k0_cv4 h0]
      refine (e_run (M1 := KI (z_wr (KI M F0) 41 6 (some c)) F') (a := 1) ?_).trans ?_
      · have hne : ¬ nI (H0.length + 1) = 0 := nI_ne0 (by omega) (by omega)
        have e1 : F0 4 1 = nI fs := by rw [eF0, u2_n _ _ (by omega)]; exact f3
        have e2 : F0 4 2 = nI H0.length := by rw [eF0, u2_s]
        rw [k0_gI4 h0, f4, if_neg hne, k0_gI4 h0, f4, nI_pred, k0_pI4 h0, ← eF0, k0_g4_0 h0, k0_gI4 h0, k0_gI4 h0, e1, e2, b_pu, hpl, hrm, ki_aA (k0_ar5 h0) hm10 (by decide) x1, ki_cv hL41.1]
        exact e_run k1
      · rw [if_neg (by decide)]
        have h0' := k2.1.1
        have e2 : F' 4 2 = nI H0.length := by rw [k3 _ (by omega)]; show F0 4 2 = _; rw [eF0, u2_s]
        rw [k0_g0_2 (M := z_wr (KI M F0) 41 6 (some c)) h0', k0_gI4 (M := z_wr (KI M F0) 41 6 (some c)) h0', e2]
        rfl
    · show F' y = _
      rw [k3 _ (by omega)]
      show F0 y = _
      rw [eF0, u2_row _ _ (by omega)]
    · show z_nx M ≤ z_nx M + 18
      omega
    · show z_sl M ≤ z_sl M + 992
      omega
    · have h9 := h1.1
      obtain ⟨_, ⟨e78, e80, e83⟩, ⟨e21, e84⟩, hS, e2, hb⟩ := h1
      rw [hlen] at e21
      obtain ⟨G, eG⟩ : ∃ G, G = z_up2 (z_up2 (z_i M1) 75 0 0) 75 21 (nI H0.length) := ⟨_, rfl⟩
      have g21 : G 75 21 = nI H0.length := by rw [eG, u2_s]
      have go : ∀ y, y ≠ 75 → G y = z_i M1 y := fun y y1 => by rw [eG, u2_row _ _ y1, u2_row _ _ y1]
      have hev : va_cpy (G 84) (G 83) (3277 * H0.length) 0 3277 = s_ab3 s st := by
        funext q
        unfold s_ab3
        by_cases hq : q < 3277
        · rw [pk_cpy_in (by omega) (by omega), if_pos hq, go _ (by omega), show 3277 * H0.length + (q - 0) = 3277 * H0.length + q by omega]
          exact e84 H0.length s (by rw [List.getElem?_append_right (by omega), Nat.sub_self]; rfl) q hq
        · rw [pk_cpy_out (by omega), if_neg hq, go _ (by omega), e83]
      refine ⟨z_up1 G 83 (s_ab3 s st), ?_, ?_, ?_, ?_⟩
      · unfold p_X9_undo
        show (z_bd (z_pI 9 75 0 0) _).1 (KI M1 (z_i M1)) = _
        have hne : ¬ nI (H0.length + 1) = 0 := nI_ne0 (by omega) (by omega)
        rw [kn_pI h9, kn_gI h9, u2_n _ _ (by omega), e21, if_neg hne, kn_gI h9, u2_n _ _ (by omega), e21, nI_pred, kn_pI h9, ← eG]
        refine (e_jL (t := ()) (M1 := KI M1 (z_up1 G 83 (s_ab3 s st))) ?_).trans ?_
        · rw [← hev]
          refine cp_loop 3277 (3277 * H0.length) 0 84 83 (by omega) (fun t gg ht => ?_) (fun gg => rfl)
          have h3 : ¬ (3277 : Int32) ≤ nI t := nI_ge (b := 3277) ht (by omega)
          have e1 : z_up1 G 83 gg 75 21 = nI H0.length := by rw [u1_n _ _ (by omega)]; exact g21
          have hi : 3277 * H0.length + t < 32770 := by omega
          simp (disch := first | assumption | omega) only [e_pu, e_ite, oL_add, oL_addr, oL_mul, nI_add, nI_1, b_pu, b_bd, b_ite, j_L, j_R, j_ite, j_bd, z_ex, ↓reduceIte, if_true, if_false, kn_gI, kn_pI, kn_cv, kn_g76, kn_a76, kn_s76, kn_g77, kn_a77, kn_s77, kn_g78, kn_a78, kn_s78, kn_g79, kn_a79, kn_s79, kn_g80, kn_a80, kn_s80, kn_g81, kn_a81, kn_s81, kn_g82, kn_a82, kn_s82, kn_g83, kn_a83, kn_s83, kn_g84, kn_a84, kn_s84, kn_g85, kn_a85, kn_s85, kn_g86, kn_g87, kn_a87, kn_s87, kn_g88, kn_a88, kn_s88, kn_g89, kn_a89, kn_s89, kn_g90, kn_a90, kn_s90, kn_g91, kn_a91, kn_s91, kn_g92, kn_a92, kn_s92, kn_g93, kn_a93, kn_s93, kn_g94, kn_a94, kn_s94, kn_l77_0, kn_t77_0, kn_l77_1, kn_t77_1, kn_l77_2, kn_t77_2, kn_l77_3, kn_t77_3, kn_l77_4, kn_t77_4, kn_l77_5, kn_t77_5, kn_l77_6, kn_t77_6, kn_l77_7, kn_t77_7, kn_l77_8, kn_t77_8, kn_l78_0, kn_t78_0, kn_l78_1, kn_t78_1, kn_l78_2, kn_t78_2, kn_l78_3, kn_t78_3, kn_l78_4, kn_t78_4, kn_l78_5, kn_t78_5, kn_l78_6, kn_t78_6, kn_l78_7, kn_t78_7, kn_l78_8, kn_t78_8, kn_l79_0, kn_t79_0, kn_l82_0, kn_t82_0, kn_l83_0, kn_t83_0, kn_l83_1, kn_t83_1, kn_l83_2, kn_t83_2, kn_l83_3, kn_t83_3, kn_l83_4, kn_t83_4, kn_l83_5, kn_t83_5, kn_l83_204, kn_t83_204, kn_wk, kn_fr, kn_mk, kn_ev, kn_bn, kn_ds, kn_rd, kn_dr, kn_of, kn_of0, kn_of1, kn_of2, kn_of3, kn_of4, kn_of5, kn_of6, kn_near, kn_loads, kn_all, kn_fare, kn_fail, kn_told, g9_wi, g9_at, h3, e1, u1_n]
          rw [Nat.zero_add]
        · rw [kn_gI h9, u1_n _ _ (by omega), g21]
          rfl
      · rw [u1_n _ _ (by omega), eG, u2_n _ _ (by omega), u2_s]
      · intro y hy
        rw [u1_n _ _ (by omega), go _ (by omega)]
      · have fo : ∀ y, y ≠ 75 → y ≠ 83 → z_up1 G 83 (s_ab3 s st) y = z_i M1 y := fun y y1 y2 => by rw [u1_n _ _ y2, go y y1]
        refine ⟨h9, ⟨(fo _ (by omega) (by omega)).trans e78, (fo _ (by omega) (by omega)).trans e80, show z_up1 G 83 (s_ab3 s st) 83 = _ from u1_s _ _ _⟩, ⟨?_, fun q s2 hq j hj => ?_⟩, fun q hq => ?_, ?_, fun q hq => ?_⟩
        · show z_up1 G 83 (s_ab3 s st) 75 21 = _
          rw [u1_n _ _ (by omega), g21]
        · show z_up1 G 83 (s_ab3 s st) 84 _ = _
          rw [fo _ (by omega) (by omega)]
          exact e84 q s2 (by rw [List.getElem?_append_left (List.getElem?_eq_some_iff.mp hq).1]; exact hq) j hj
        · show (S q = none → z_up1 G 83 (s_ab3 s st) 86 q = 0) ∧ ∀ s2, S q = some s2 → z_up1 G 83 (s_ab3 s st) 86 q = 1 ∧ ∀ j, j < 3277 → z_up1 G 83 (s_ab3 s st) 85 (3277 * q + j) = s2 j
          rw [fo 86 (by omega) (by omega), fo 85 (by omega) (by omega)]
          exact hS q hq
        · show z_up1 G 83 (s_ab3 s st) 75 2 = _
          rw [u1_n _ _ (by omega), eG, u2_n _ _ (by omega), u2_n _ _ (by omega)]
          exact e2
        · show z_up1 G 83 (s_ab3 s st) 76 q = _ ∧ _
          rw [fo 76 (by omega) (by omega)]
          exact hb q hq
theorem L_c34 (hI : CI k M c sp ct cd ns nt np nc st H S n bf) (hm : MI M ct cd st H S n bf) (hi : i + 6 ≤ L) (hL : L ≤ 3072) : STEP (p_L_c34 xs L 0 75 95 (nI i)) k M i := by
  have hc := CI_c hI
  have hns := hc.1.2.1
  have hnt := hc.1.2.2.2.1
  obtain ⟨h0, hcy, hC, T, d, R, l, hT, hS, hn, hst0, hg, hd⟩ := CI_un hI
  have E := CI_E hI
  have hL41 := E.1.1
  unfold p_L_c34
  rw [show nI i + 1 = nI (i + 1) from oL_addr 1 i]
  simp only [z_xs_ok (xs := xs) (show i + 1 < L by omega) hL, b_pu]
  obtain ⟨fs, g, f3, f4⟩ := CI_CJ hI
  have hl := g.2.2.1.2.1
  have hbad : (xs (i + 1) < 0 ∨ nI 2 ≤ xs (i + 1)) → STEP (z_bd (z_cv 8 0 (p_X8_saveSnapshot 0 (xs (i + 1)))) (fun r101 => (z_bd (z_cv 9 75 (p_X9_saveSnapshot 75 (xs (i + 1)))) (fun r102 => (if r101 = r102 then (z_pu (.inl ((nI i + 6)))) else (z_pu (.inr 0))))))) k M i := fun hb => by
    refine glue_p hI hm (v := 0) (cres_of hI ?_) (fun M1 h1 => mres_th h1 ?_)
    · unfold p_X8_saveSnapshot
      by_cases h1 : xs (i + 1) < 0
      · rw [if_pos h1]
        rfl
      · have h2 : ¬ xs (i + 1) < 2 := fun q => by
          have := hb.resolve_left h1
          rw [i_le] at this
          rw [i_lt] at q
          have e : (2 : Int32).toInt = (nI 2).toInt := rfl
          omega
        rw [if_neg h1, if_neg h2]
        rfl
    · have h9 := h1.1
      unfold p_X9_saveSnapshot
      show (z_bd (z_pI 9 75 0 0) _).1 (KI M1 (z_i M1)) = _
      rw [kn_pI h9, g9_wi, wr_bad (show xs (i + 1) < 0 ∨ (1 : Int32) < xs (i + 1) from bad_wi (n := 1) hb (by omega)), if_pos rfl]
      rfl
  rcases pk_ix (xs (i + 1)) (n := 2) (by omega) with h | h | ⟨q, hq, e⟩
  · exact hbad (Or.inl h)
  · exact hbad (Or.inr h)
  clear hbad
  rw [e]
  have hfin : ∀ (N : zM) (x : Nat), CJ k N c sp ct cd ns nt np nc st fs H S n bf → z_r N 13 q = some x → z_nx N ≤ z_nx M + 17 → z_sl N ≤ z_sl M + 990 → z_i N 4 = z_i M 4 → (L9 M → L9 N) → (∀ y, 75 ≤ y → y < 95 → z_i N y = z_i M y) → ∃ M1, (z_bd (z_gA 8 0 4) (fun v8 => (z_bd (z_aA 13 v8 (nI q)) (fun v9 => (z_bd (z_gA 8 0 6) (fun v10 => (z_bd (z_cv 5 v9 (p_X5_copy v9 v10)) (fun _ => (z_bd (z_gA 8 0 5) (fun v12 => (z_bd (z_sZ v12 (nI q) 1) (fun _ => (z_pu (1 : Int32)))))))))))))).1 N = some (.inr 1, M1) ∧ CI k M1 c sp ct cd ns nt np nc st H (fun i => if i = q then some st else S i) n bf ∧ (L9 M → L9 M1) ∧ (∀ y, 75 ≤ y → y < 95 → z_i M1 y = z_i M y) ∧ z_nx M1 ≤ z_nx M + 17 ∧ z_sl M1 ≤ z_sl M + 990 := by
    intro N x gN hx n1 n2 n3 n4 n5
    obtain ⟨F', k1, k2, k3⟩ := CJ_save gN hq hx
    have h0N := gN.1.1
    have hLx := gN.1.2.2.2.2.1 (10 + q) x (by omega) (by rw [sref_s]; exact hx)
    have h02 := k2.1.1
    refine ⟨KI (z_wr N x 6 (some c)) (z_up2 F' 14 q 1), ?_, CJ_CI k2 ?_ ?_, fun h => L9_wr (n4 h) (by omega), fun y y1 y2 => ?_, n1, n2⟩
    · show (z_bd (z_gA 8 0 4) _).1 (KI N (z_i N)) = _
      rw [k0_g0_4 h0N, ki_aA (k0_ar13 h0N) hq (by decide) hx, k0_g0_6 h0N, ki_cv hLx.2.1]
      refine (e_run k1).trans ?_
      rw [k0_g0_5 (M := z_wr N x 6 (some c)) h02]
      have hin : z_in 12 14 (nI q) (KI (z_wr N x 6 (some c)) F') := n_in (M := KI (z_wr N x 6 (some c)) F') (k0_ar14 (M := z_wr N x 6 (some c)) h02).1 (k0_ar14 (M := z_wr N x 6 (some c)) h02).2 hq (by decide)
      rw [e_sZ hin (Or.inr rfl), nI_clamp (by omega)]
      rfl
    · show z_up2 F' 14 q 1 4 1 = _
      rw [u2_n _ _ (by omega), k3 _ (by omega), n3]
      exact f3
    · show z_up2 F' 14 q 1 4 2 = _
      rw [u2_n _ _ (by omega), k3 _ (by omega), n3]
      exact f4
    · show z_up2 F' 14 q 1 y = _
      rw [u2_row _ _ (by omega), k3 _ (by omega)]
      exact n5 y y1 y2
  have hprog : ∃ M1, (p_X8_saveSnapshot 0 (nI q)).1 M = some (.inr 1, M1) ∧ CI k M1 c sp ct cd ns nt np nc st H (fun i => if i = q then some st else S i) n bf ∧ (L9 M → L9 M1) ∧ (∀ y, 75 ≤ y → y < 95 → z_i M1 y = z_i M y) ∧ z_nx M1 ≤ z_nx M + 17 ∧ z_sl M1 ≤ z_sl M + 990 := by
    have h96 := h0.1
    have hn0 : ¬ nI q < 0 := nI_pos (by omega)
    have hn2 : nI q < 2 := nI_lt (b := 2) hq (by decide)
    cases hn : z_r M 13 q with
    | some x =>
      obtain ⟨M1, r1, r2⟩ := hfin M x g hn (by omega) (by omega) rfl id (fun _ _ _ => rfl)
      refine ⟨M1, ?_, r2⟩
      unfold p_X8_saveSnapshot
      rw [if_neg hn0, if_pos hn2]
      show (z_bd (z_gA 8 0 4) _).1 (KI M (z_i M)) = _
      rw [k0_g0_4 h0]
      refine (e_jL (t := ()) (M1 := M) ?_).trans r1
      refine (e_aR (n_in (M := KI M (z_i M)) (k0_ar13 h0).1 (k0_ar13 h0).2 hq (by decide))).trans ?_
      rw [nI_clamp (by omega)]
      show (if z_r M 13 q = none then _ else _ : zP _).1 M = _
      rw [hn]
      rfl
    | none =>
      obtain ⟨G, q1, q2⟩ := new_state h0 hC
      obtain ⟨w1, w2, w3, w4⟩ := new_keep h0 g.1.2.2.2.2 hC q2 (Or.inr ⟨rfl, hq, rfl⟩) hn
      obtain ⟨m1, m2, m3, m4⟩ := mkS3_f (M := M) 3
      have hSn : S q = none := by
        cases hS2 : S q with
        | none => rfl
        | some s =>
          obtain ⟨_, x, _, x1, _⟩ := (g.2.2.2.1 q hq).2 s hS2
          rw [hn] at x1
          cases x1
      have hJ := CJ_keep g w1 w2 (fun i hi => w3 5 _ (by omega) (Or.inl (by decide))) (fun i s hi e => w3 13 i (by omega) (Or.inr (fun q => by rw [q, hSn] at e; cases e))) (q2 14 (by omega))
      obtain ⟨M1, r1, r2⟩ := hfin _ (z_nx M) hJ r_wrs (by show z_nx (mkS3 M 3) ≤ _; omega) (by show z_sl (mkS3 M 3) ≤ _; omega) (q2 4 (by omega)) (fun h => L9_wr (L9_wr (L9_ext h m4) (by omega)) (by decide)) (fun y y1 y2 => q2 y (by omega))
      refine ⟨M1, ?_, r2⟩
      have hx1 : ext M (z_mk M 5 0 13) := ext_mk 5 0 13
      unfold p_X8_saveSnapshot
      rw [if_neg hn0, if_pos hn2]
      show (z_bd (z_gA 8 0 4) _).1 (KI M (z_i M)) = _
      rw [k0_g0_4 h0]
      refine (e_jL (t := ()) (M1 := z_wr (KI (z_wr (mkS3 M 3) (z_nx M) 6 (some c)) G) 13 q (some (z_nx M))) ?_).trans r1
      refine (e_aR (n_in (M := KI M (z_i M)) (k0_ar13 h0).1 (k0_ar13 h0).2 hq (by decide))).trans ?_
      rw [nI_clamp (by omega)]
      show (if z_r M 13 q = none then _ else _ : zP _).1 (KI M (z_i M)) = _
      rw [if_pos hn, k0_g0_4 h0, n_nw]
      show (z_bd (z_gA 8 0 9) _).1 (z_mk M 5 0 13) = _
      rw [e_gA (is_ext (k0_is0 h0) hx1) ((r_ext (k0_is0 h0) hx1).trans hcy)]
      refine (e_run q1).trans ?_
      have i5 : z_is 13 13 (mkS3 M 3) := is_ext (k0_ar13 h0).1 m4
      have l5 : z_ln (mkS3 M 3) 13 = 2 := ((m4.2 13 (by omega)).2.1).trans (k0_ar13 h0).2
      have hin : z_in 13 13 (nI q) (KI (z_wr (mkS3 M 3) (z_nx M) 6 (some c)) G) := n_in (M := KI (z_wr (mkS3 M 3) (z_nx M) 6 (some c)) G) i5 l5 hq (by decide)
      have hia : z_is 5 (z_nx M) (KI (z_wr (mkS3 M 3) (z_nx M) 6 (some c)) G) := (LZ_S3 (M := M)).1
      show (z_bd (z_sR 13 5 13 (nI q) (z_nx M)) _).1 (KI (z_wr (mkS3 M 3) (z_nx M) 6 (some c)) G) = _
      rw [e_sR hin hia, nI_clamp (by omega)]
      rfl
  obtain ⟨M1, r1, r2, r3, r4, r5, r6⟩ := hprog
  refine glue_p hI hm (v := 1) ⟨M1, r1, CI_kk r2 (by omega), r3, r4, by omega, by omega⟩ (fun M2 h1 => ?_)
  have h9 := h1.1
  obtain ⟨_, ⟨e78, e80, e83⟩, ⟨e21, e84⟩, hS, e2, hb⟩ := h1
  obtain ⟨G, eG⟩ : ∃ G, G = z_up2 (z_i M2) 75 0 0 := ⟨_, rfl⟩
  have go : ∀ y, y ≠ 75 → G y = z_i M2 y := fun y y1 => by rw [eG, u2_row _ _ y1]
  have fo : ∀ y, y ≠ 75 → y ≠ 85 → y ≠ 86 → z_up2 (z_up1 G 85 (va_cpy (G 83) (G 85) 0 (3277 * q) 3277)) 86 q 1 y = z_i M2 y := fun y y1 y2 y3 => by rw [u2_row _ _ y3, u1_n _ _ y2, go y y1]
  refine ⟨z_up2 (z_up1 G 85 (va_cpy (G 83) (G 85) 0 (3277 * q) 3277)) 86 q 1, ?_, ?_, ?_, ?_⟩
  · unfold p_X9_saveSnapshot
    show (z_bd (z_pI 9 75 0 0) _).1 (KI M2 (z_i M2)) = _
    rw [kn_pI h9, g9_wi, wr_ok (nI_pos (by omega)) (show ¬ (1 : Int32) < nI q from nI_nlt (a := 1) (by omega) (by omega)), if_neg (by decide), ← eG]
    refine (e_jL (t := ()) (M1 := KI M2 (z_up1 G 85 (va_cpy (G 83) (G 85) 0 (3277 * q) 3277))) ?_).trans ?_
    · refine cp_loop 3277 0 (3277 * q) 83 85 (by omega) (fun t gg ht => ?_) (fun gg => rfl)
      have h3 : ¬ (3277 : Int32) ≤ nI t := nI_ge (b := 3277) ht (by omega)
      have hi : 3277 * q + t < 6554 := by omega
      simp (disch := first | assumption | omega) only [e_pu, e_ite, oL_add, oL_addr, oL_mul, nI_add, nI_1, b_pu, b_bd, b_ite, j_L, j_R, j_ite, j_bd, z_ex, ↓reduceIte, if_true, if_false, kn_gI, kn_pI, kn_cv, kn_g76, kn_a76, kn_s76, kn_g77, kn_a77, kn_s77, kn_g78, kn_a78, kn_s78, kn_g79, kn_a79, kn_s79, kn_g80, kn_a80, kn_s80, kn_g81, kn_a81, kn_s81, kn_g82, kn_a82, kn_s82, kn_g83, kn_a83, kn_s83, kn_g84, kn_a84, kn_s84, kn_g85, kn_a85, kn_s85, kn_g86, kn_g87, kn_a87, kn_s87, kn_g88, kn_a88, kn_s88, kn_g89, kn_a89, kn_s89, kn_g90, kn_a90, kn_s90, kn_g91, kn_a91, kn_s91, kn_g92, kn_a92, kn_s92, kn_g93, kn_a93, kn_s93, kn_g94, kn_a94, kn_s94, kn_l77_0, kn_t77_0, kn_l77_1, kn_t77_1, kn_l77_2, kn_t77_2, kn_l77_3, kn_t77_3, kn_l77_4, kn_t77_4, kn_l77_5, kn_t77_5, kn_l77_6, kn_t77_6, kn_l77_7, kn_t77_7, kn_l77_8, kn_t77_8, kn_l78_0, kn_t78_0, kn_l78_1, kn_t78_1, kn_l78_2, kn_t78_2, kn_l78_3, kn_t78_3, kn_l78_4, kn_t78_4, kn_l78_5, kn_t78_5, kn_l78_6, kn_t78_6, kn_l78_7, kn_t78_7, kn_l78_8, kn_t78_8, kn_l79_0, kn_t79_0, kn_l82_0, kn_t82_0, kn_l83_0, kn_t83_0, kn_l83_1, kn_t83_1, kn_l83_2, kn_t83_2, kn_l83_3, kn_t83_3, kn_l83_4, kn_t83_4, kn_l83_5, kn_t83_5, kn_l83_204, kn_t83_204, kn_wk, kn_fr, kn_mk, kn_ev, kn_bn, kn_ds, kn_rd, kn_dr, kn_of, kn_of0, kn_of1, kn_of2, kn_of3, kn_of4, kn_of5, kn_of6, kn_near, kn_loads, kn_all, kn_fare, kn_fail, kn_told, g9_wi, g9_at, h3, u1_n]
      rw [Nat.zero_add]
    · rw [kn_g86 h9]
      have hin : z_in 12 86 (nI q) (KI M2 (z_up1 G 85 (va_cpy (G 83) (G 85) 0 (3277 * q) 3277))) := n_in (M := KI M2 (z_up1 G 85 (va_cpy (G 83) (G 85) 0 (3277 * q) 3277))) (q9_is86 (M := M2) h9) (q9_m86 (M := M2) h9).2.1 hq (by decide)
      rw [e_sZ hin (Or.inr rfl), nI_clamp (by omega)]
      rfl
  · rw [u2_n _ _ (by omega), u1_n _ _ (by omega), eG, u2_s]
  · intro y hy
    rw [fo y (by omega) (by omega) (by omega)]
  · refine ⟨h9, ⟨(fo _ (by omega) (by omega) (by omega)).trans e78, (fo _ (by omega) (by omega) (by omega)).trans e80, (fo _ (by omega) (by omega) (by omega)).trans e83⟩, ⟨?_, fun q2 s2 hq2 j hj => ?_⟩, fun q2 hq2 => ⟨fun e3 => ?_, fun s2 e3 => ⟨?_, fun j hj => ?_⟩⟩, ?_, fun q2 hq2 => ?_⟩
    · show z_up2 (z_up1 G 85 (va_cpy (G 83) (G 85) 0 (3277 * q) 3277)) 86 q 1 75 21 = _
      rw [u2_n _ _ (by omega), u1_n _ _ (by omega), eG, u2_n _ _ (by omega)]
      exact e21
    · show z_up2 (z_up1 G 85 (va_cpy (G 83) (G 85) 0 (3277 * q) 3277)) 86 q 1 84 _ = _
      rw [fo _ (by omega) (by omega) (by omega)]
      exact e84 q2 s2 hq2 j hj
    · show z_up2 (z_up1 G 85 (va_cpy (G 83) (G 85) 0 (3277 * q) 3277)) 86 q 1 86 q2 = 0
      have e3 : (if q2 = q then some st else S q2) = none := e3
      by_cases hh : q2 = q
      · rw [if_pos hh] at e3; cases e3
      · rw [if_neg hh] at e3
        rw [u2_n _ _ (Or.inr hh), u1_n _ _ (by omega), go _ (by omega)]
        exact (hS q2 hq2).1 e3
    · show z_up2 (z_up1 G 85 (va_cpy (G 83) (G 85) 0 (3277 * q) 3277)) 86 q 1 86 q2 = 1
      have e3 : (if q2 = q then some st else S q2) = some s2 := e3
      by_cases hh : q2 = q
      · subst hh
        rw [u2_s]
      · rw [if_neg hh] at e3
        rw [u2_n _ _ (Or.inr hh), u1_n _ _ (by omega), go _ (by omega)]
        exact ((hS q2 hq2).2 s2 e3).1
    · show z_up2 (z_up1 G 85 (va_cpy (G 83) (G 85) 0 (3277 * q) 3277)) 86 q 1 85 (3277 * q2 + j) = s2 j
      have e3 : (if q2 = q then some st else S q2) = some s2 := e3
      rw [u2_n _ _ (by omega), u1_s]
      by_cases hh : q2 = q
      · subst hh
        rw [if_pos rfl] at e3
        cases e3
        rw [pk_cpy_in (by omega) (by omega), go _ (by omega), e83, show 0 + (3277 * q2 + j - 3277 * q2) = j by omega]
      · rw [if_neg hh] at e3
        rw [pk_cpy_out (by omega), go _ (by omega)]
        exact ((hS q2 hq2).2 s2 e3).2 j hj
    · show z_up2 (z_up1 G 85 (va_cpy (G 83) (G 85) 0 (3277 * q) 3277)) 86 q 1 75 2 = _
      rw [u2_n _ _ (by omega), u1_n _ _ (by omega), eG, u2_n _ _ (by omega)]
      exact e2
    · show z_up2 (z_up1 G 85 (va_cpy (G 83) (G 85) 0 (3277 * q) 3277)) 86 q 1 76 q2 = _ ∧ _
      rw [fo 76 (by omega) (by omega) (by omega)]
      exact hb q2 hq2
theorem L_c35 (hI : CI k M c sp ct cd ns nt np nc st H S n bf) (hm : MI M ct cd st H S n bf) (hi : i + 6 ≤ L) (hL : L ≤ 3072) : STEP (p_L_c35 xs L 0 75 95 (nI i)) k M i := by
  have hc := CI_c hI
  have hns := hc.1.2.1
  have hnt := hc.1.2.2.2.1
  obtain ⟨h0, hcy, hC, T, d, R, l, hT, hS, hn, hst0, hg, hd⟩ := CI_un hI
  have E := CI_E hI
  have hL41 := E.1.1
  unfold p_L_c35
  rw [show nI i + 1 = nI (i + 1) from oL_addr 1 i]
  simp only [z_xs_ok (xs := xs) (show i + 1 < L by omega) hL, b_pu]
  obtain ⟨fs, g, f3, f4⟩ := CI_CJ hI
  have hl := g.2.2.1.2.1
  have hbad : (xs (i + 1) < 0 ∨ nI 2 ≤ xs (i + 1)) → STEP (z_bd (z_cv 8 0 (p_X8_restoreSnapshot 0 (xs (i + 1)))) (fun r101 => (z_bd (z_cv 9 75 (p_X9_restoreSnapshot 75 (xs (i + 1)))) (fun r102 => (if r101 = r102 then (z_pu (.inl ((nI i + 6)))) else (z_pu (.inr 0))))))) k M i := fun hb => by
    refine glue_p hI hm (v := 0) (cres_of hI ?_) (fun M1 h1 => mres_th h1 ?_)
    · unfold p_X8_restoreSnapshot
      by_cases h1 : xs (i + 1) < 0
      · rw [if_pos h1]
        rfl
      · rw [if_neg h1, if_pos (show (2 : Int32) ≤ xs (i + 1) from hb.resolve_left h1)]
        rfl
    · have h9 := h1.1
      unfold p_X9_restoreSnapshot
      show (z_bd (z_pI 9 75 0 0) _).1 (KI M1 (z_i M1)) = _
      rw [kn_pI h9, g9_wi, wr_bad (show xs (i + 1) < 0 ∨ (1 : Int32) < xs (i + 1) from bad_wi (n := 1) hb (by omega)), if_pos rfl]
      rfl
  rcases pk_ix (xs (i + 1)) (n := 2) (by omega) with h | h | ⟨q, hq, e⟩
  · exact hbad (Or.inl h)
  · exact hbad (Or.inr h)
  clear hbad
  rw [e]
  have hn0 : ¬ nI q < 0 := nI_pos (by omega)
  have hn2 : ¬ (2 : Int32) ≤ nI q := nI_ge (b := 2) hq (by decide)
  have ha14 : ∀ f : Int32 → zP Int32, (z_bd (z_aI 12 14 (nI q)) f).1 (KI M (z_i M)) = (f (z_i M 14 q)).1 (KI M (z_i M)) := fun f => by
    refine (e_aI (n_in (M := KI M (z_i M)) (k0_ar14 h0).1 (k0_ar14 h0).2 hq (by decide))).trans ?_
    rw [nI_clamp (by omega)]
    rfl
  have ha86 : ∀ (M2 : zM) (h9 : L9 M2) (G : Nat → Nat → Int32) (f : Int32 → zP Int32), (z_bd (z_aI 12 86 (nI q)) f).1 (KI M2 G) = (f (G 86 q)).1 (KI M2 G) := fun M2 h9 G f => by
    refine (e_aI (n_in (M := KI M2 G) (q9_is86 (M := M2) h9) (q9_m86 (M := M2) h9).2.1 hq (by decide))).trans ?_
    rw [nI_clamp (by omega)]
    rfl
  cases hSq : S q with
  | none =>
    refine glue_p hI hm (v := 0) (cres_of hI ?_) (fun M1 h1 => mres_th h1 ?_)
    · unfold p_X8_restoreSnapshot
      rw [if_neg hn0, if_neg hn2]
      show (z_bd (z_gA 8 0 5) _).1 (KI M (z_i M)) = _
      rw [k0_g0_5 h0, ha14, (g.2.2.2.1 q hq).1 hSq]
      rfl
    · have h9 := h1.1
      have e86 := (h1.2.2.2.1 q hq).1 hSq
      unfold p_X9_restoreSnapshot
      show (z_bd (z_pI 9 75 0 0) _).1 (KI M1 (z_i M1)) = _
      rw [kn_pI h9, g9_wi, wr_ok (nI_pos (by omega)) (show ¬ (1 : Int32) < nI q from nI_nlt (a := 1) (by omega) (by omega)), if_neg (by decide), kn_g86 h9, ha86 M1 h9, u2_n _ _ (by omega), e86]
      rfl
  | some s =>
    obtain ⟨e14, x, T2, x1, x2, x3⟩ := (g.2.2.2.1 q hq).2 s hSq
    obtain ⟨F', k1, k2, k3⟩ := CJ_load g ⟨10 + q, by omega, by rw [sref_s]; exact x1⟩ ⟨T2, x2, x3⟩
    have hk : keep (KI (z_wr M 41 6 (some c)) F') (KI (z_wr M 41 6 (some c)) (z_up2 F' 4 2 0)) := ⟨Nat.le_refl _, fun _ _ => ⟨rfl, rfl⟩, fun _ _ _ _ _ => rfl, fun y _ h4 _ => by show z_up2 F' 4 2 0 y = _; rw [u2_row _ _ h4]; rfl⟩
    have g3 := CJ_nil (CJ_keep k2 hk k2.1.2.2.2.2 (fun _ _ => rfl) (fun _ _ _ _ => rfl) (by show z_up2 F' 4 2 0 14 = _; rw [u2_row _ _ (by decide)]; rfl))
    have hcI : CI k (KI (z_wr M 41 6 (some c)) (z_up2 F' 4 2 0)) c sp ct cd ns nt np nc s [] S n bf := CJ_CI g3 (by show z_up2 F' 4 2 0 4 1 = _; rw [u2_n _ _ (by omega), k3 _ (by omega)]; exact f3) (show z_up2 F' 4 2 0 4 2 = 0 from u2_s _ _ _ _)
    refine glue_p hI hm (v := 1) (cres_st (st' := s_ab3 s st) ⟨_, ?_, CI_kk hcI (by omega), fun h => L9_wr h (by decide), fun y y1 y2 => ?_, ?_, ?_⟩ (fun q hq => if_pos hq)) (fun M1 h1 => ?_)
    · unfold p_X8_restoreSnapshot p_X3_clear
      have hb1 : ¬ (1 : Int32) = 0 := by decide
      rw [if_neg hn0, if_neg hn2]
      show (z_bd (z_gA 8 0 5) _).1 (KI M (z_i M)) = _
      rw [k0_g0_5 h0, ha14, e14, if_neg hb1, k0_g0_4 h0]
      refine (e_aR (n_in (M := KI M (z_i M)) (k0_ar13 h0).1 (k0_ar13 h0).2 hq (by decide))).trans ?_
      rw [nI_clamp (by omega)]
      show (if z_r M 13 q = none then _ else _ : zP _).1 (KI M (z_i M)) = _
      rw [if_neg (by rw [x1]; exact Option.some_ne_none _), k0_g0_6 h0, k0_g0_4 h0, ki_aA (k0_ar13 h0) hq (by decide) x1, ki_cv hL41.1]
      refine (e_run k1).trans ?_
      have h02 := k2.1.1
      rw [k0_g0_2 (M := z_wr M 41 6 (some c)) h02, k0_cv4 (M := z_wr M 41 6 (some c)) h02, b_bd, k0_pI4 (M := z_wr M 41 6 (some c)) h02]
      rfl
    · show z_up2 F' 4 2 0 y = _
      rw [u2_row _ _ (by omega), k3 _ (by omega)]
    · show z_nx M ≤ z_nx M + 18
      omega
    · show z_sl M ≤ z_sl M + 992
      omega
    · have h9 := h1.1
      obtain ⟨_, ⟨e78, e80, e83⟩, ⟨e21, e84⟩, hS, e2, hb⟩ := h1
      obtain ⟨e86, e85⟩ := (hS q hq).2 s hSq
      obtain ⟨G, eG⟩ : ∃ G, G = z_up2 (z_i M1) 75 0 0 := ⟨_, rfl⟩
      have go : ∀ y, y ≠ 75 → G y = z_i M1 y := fun y y1 => by rw [eG, u2_row _ _ y1]
      have hev : va_cpy (G 85) (G 83) (3277 * q) 0 3277 = s_ab3 s st := by
        funext u
        unfold s_ab3
        by_cases hu : u < 3277
        · rw [pk_cpy_in (by omega) (by omega), if_pos hu, go _ (by omega), show 3277 * q + (u - 0) = 3277 * q + u by omega]
          exact e85 u hu
        · rw [pk_cpy_out (by omega), if_neg hu, go _ (by omega), e83]
      refine ⟨z_up2 (z_up1 G 83 (s_ab3 s st)) 75 21 0, ?_, ?_, ?_, ?_⟩
      · unfold p_X9_restoreSnapshot
        show (z_bd (z_pI 9 75 0 0) _).1 (KI M1 (z_i M1)) = _
        have hb1 : ¬ (1 : Int32) = 0 := by decide
        rw [kn_pI h9, g9_wi, wr_ok (nI_pos (by omega)) (show ¬ (1 : Int32) < nI q from nI_nlt (a := 1) (by omega) (by omega)), if_neg hb1, kn_g86 h9, ha86 M1 h9, u2_n _ _ (by omega), e86, if_neg hb1, ← eG]
        refine (e_jL (t := ()) (M1 := KI M1 (z_up1 G 83 (s_ab3 s st))) ?_).trans ?_
        · rw [← hev]
          refine cp_loop 3277 (3277 * q) 0 85 83 (by omega) (fun t gg ht => ?_) (fun gg => rfl)
          have h3 : ¬ (3277 : Int32) ≤ nI t := nI_ge (b := 3277) ht (by omega)
          have hi : 3277 * q + t < 6554 := by omega
          simp (disch := first | assumption | omega) only [e_pu, e_ite, oL_add, oL_addr, oL_mul, nI_add, nI_1, b_pu, b_bd, b_ite, j_L, j_R, j_ite, j_bd, z_ex, ↓reduceIte, if_true, if_false, kn_gI, kn_pI, kn_cv, kn_g76, kn_a76, kn_s76, kn_g77, kn_a77, kn_s77, kn_g78, kn_a78, kn_s78, kn_g79, kn_a79, kn_s79, kn_g80, kn_a80, kn_s80, kn_g81, kn_a81, kn_s81, kn_g82, kn_a82, kn_s82, kn_g83, kn_a83, kn_s83, kn_g84, kn_a84, kn_s84, kn_g85, kn_a85, kn_s85, kn_g86, kn_g87, kn_a87, kn_s87, kn_g88, kn_a88, kn_s88, kn_g89, kn_a89, kn_s89, kn_g90, kn_a90, kn_s90, kn_g91, kn_a91, kn_s91, kn_g92, kn_a92, kn_s92, kn_g93, kn_a93, kn_s93, kn_g94, kn_a94, kn_s94, kn_l77_0, kn_t77_0, kn_l77_1, kn_t77_1, kn_l77_2, kn_t77_2, kn_l77_3, kn_t77_3, kn_l77_4, kn_t77_4, kn_l77_5, kn_t77_5, kn_l77_6, kn_t77_6, kn_l77_7, kn_t77_7, kn_l77_8, kn_t77_8, kn_l78_0, kn_t78_0, kn_l78_1, kn_t78_1, kn_l78_2, kn_t78_2, kn_l78_3, kn_t78_3, kn_l78_4, kn_t78_4, kn_l78_5, kn_t78_5, kn_l78_6, kn_t78_6, kn_l78_7, kn_t78_7, kn_l78_8, kn_t78_8, kn_l79_0, kn_t79_0, kn_l82_0, kn_t82_0, kn_l83_0, kn_t83_0, kn_l83_1, kn_t83_1, kn_l83_2, kn_t83_2, kn_l83_3, kn_t83_3, kn_l83_4, kn_t83_4, kn_l83_5, kn_t83_5, kn_l83_204, kn_t83_204, kn_wk, kn_fr, kn_mk, kn_ev, kn_bn, kn_ds, kn_rd, kn_dr, kn_of, kn_of0, kn_of1, kn_of2, kn_of3, kn_of4, kn_of5, kn_of6, kn_near, kn_loads, kn_all, kn_fare, kn_fail, kn_told, g9_wi, g9_at, h3, u1_n]
          rw [Nat.zero_add]
        · rw [kn_pI h9]
          rfl
      · rw [u2_n _ _ (by omega), u1_n _ _ (by omega), eG, u2_s]
      · intro y hy
        rw [u2_row _ _ (by omega), u1_n _ _ (by omega), go _ (by omega)]
      · have fo : ∀ y, y ≠ 75 → y ≠ 83 → z_up2 (z_up1 G 83 (s_ab3 s st)) 75 21 0 y = z_i M1 y := fun y y1 y2 => by rw [u2_row _ _ y1, u1_n _ _ y2, go y y1]
        refine ⟨h9, ⟨(fo _ (by omega) (by omega)).trans e78, (fo _ (by omega) (by omega)).trans e80, ?_⟩, ⟨?_, fun q2 s2 hq2 j hj => ?_⟩, fun q2 hq2 => ?_, ?_, fun q2 hq2 => ?_⟩
        · show z_up2 (z_up1 G 83 (s_ab3 s st)) 75 21 0 83 = _
          rw [u2_row _ _ (by omega), u1_s]
        · show z_up2 (z_up1 G 83 (s_ab3 s st)) 75 21 0 75 21 = _
          rw [u2_s]
          rfl
        · cases hq2
        · show (S q2 = none → z_up2 (z_up1 G 83 (s_ab3 s st)) 75 21 0 86 q2 = 0) ∧ ∀ s2, S q2 = some s2 → z_up2 (z_up1 G 83 (s_ab3 s st)) 75 21 0 86 q2 = 1 ∧ ∀ j, j < 3277 → z_up2 (z_up1 G 83 (s_ab3 s st)) 75 21 0 85 (3277 * q2 + j) = s2 j
          rw [fo 86 (by omega) (by omega), fo 85 (by omega) (by omega)]
          exact hS q2 hq2
        · show z_up2 (z_up1 G 83 (s_ab3 s st)) 75 21 0 75 2 = _
          rw [u2_n _ _ (by omega), u1_n _ _ (by omega), eG, u2_n _ _ (by omega)]
          exact e2
        · show z_up2 (z_up1 G 83 (s_ab3 s st)) 75 21 0 76 q2 = _ ∧ _
          rw [fo 76 (by omega) (by omega)]
          exact hb q2 hq2
end PA22
