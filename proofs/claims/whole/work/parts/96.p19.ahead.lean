/-! ===== PHASE 2: forecast, runsOut ===== -/
section PA19
variable {β : Type} {M : zM} {F : Nat → Nat → Int32} {ct cd st bf : Nat → Int32} {i j k q c sp n ns nt np nc L : Nat} {H : List (Nat → Int32)} {S : Nat → Option (Nat → Int32)} {v w x y code : Int32} {xs : Nat → Int32} {f : Unit → zP β}
variable {ct' cd' st' bf' : Nat → Int32} {c' sp' n' ns' nt' np' nc' : Nat} {H' : List (Nat → Int32)} {S' : Nat → Option (Nat → Int32)}
theorem MI_F2 (h : MI M ct cd st H S n bf) (hF : ∀ y, (y = 76 ∨ y = 78 ∨ y = 80 ∨ (84 ≤ y ∧ y ≤ 86)) → F y = z_i M y) (h2 : F 75 2 = z_i M 75 2) (h21 : F 75 21 = z_i M 75 21) (h83 : F 83 = st') : MI (KI M F) ct cd st' H S n bf := by
  show L9 M ∧ (F 78 = ct ∧ F 80 = cd ∧ F 83 = st') ∧ (F 75 21 = nI H.length ∧ ∀ i s, H[i]? = some s → ∀ j, j < 3277 → F 84 (3277 * i + j) = s j) ∧ (∀ i, i < 2 → (S i = none → F 86 i = 0) ∧ ∀ s, S i = some s → F 86 i = 1 ∧ ∀ j, j < 3277 → F 85 (3277 * i + j) = s j) ∧ (F 75 2 = nI n ∧ ∀ i, i < n → F 76 i = bf i ∧ ∃ b : Int8, bf i = b.toInt32)
  rw [hF 78 (by omega), hF 80 (by omega), hF 84 (by omega), hF 86 (by omega), hF 85 (by omega), hF 76 (by omega), h2, h21]
  exact ⟨h.1, ⟨h.2.1.1, h.2.1.2.1, h83⟩, h.2.2⟩
theorem glue_r2 {pc pm : zP Int32} {hE : String → zP Int32} (hI : CI k M c sp ct cd ns nt np nc st H S n bf) (hm : MI M ct cd st H S n bf) (hc : cres pc k M v c' sp' ct' cd' ns' nt' np' nc' st' H' S' n' bf') (hp : ∀ M1, MI M1 ct cd st H S n bf → ∃ st2, (∀ j, j < 3277 → st2 j = st' j) ∧ mres pm M1 v 0 ct' cd' st2 H' S' n' bf') :
    STEP (z_bd (z_ct (z_cv 8 0 pc) hE (fun r1 => (z_bd (z_sJ 15 95 0 ((r1 : Int32).toInt64)) (fun _ => (z_pu 0))))) (fun r102 => (z_bd (z_cv 9 75 pm) (fun r104 => (z_bd (z_cv 9 75 (p_X9_thrown 75)) (fun r105 => (if r105 = r102 then (if r102 = 0 then (z_bd (z_aJ 15 95 0) (fun v106 => (if (lg_cmp v106 ((r104 : Int32).toInt64)) = 0 then (z_pu (.inl ((nI i + 6)))) else (z_pu (.inr 0))))) else (z_pu (.inl ((nI i + 6))))) else (z_pu (.inr 0))))))))) k M i := by
  obtain ⟨M1, e1, c1, l9, f1, x1, x2⟩ := hc
  have h0 := hI.1.1
  have h01 := c1.1.1
  have h91 := l9 hm.1
  have hout := L0_out h01
  obtain ⟨st2, hst2, F, m1, m2, m3, m4⟩ := hp (z_wj M1 95 0 v.toInt64) (MI_tr hm h91 f1)
  refine ⟨KI (z_wj M1 95 0 v.toInt64) F, ?_, ⟨c', sp', ct', cd', ns', nt', np', nc', st2, H', S', n', bf', CI_st (CI_M c1 _ m3) hst2, m4⟩, by show z_nx M1 ≤ _; omega, by show z_sl M1 ≤ _; omega⟩
  have ew : (z_ct (z_cv 8 0 pc) hE (fun r1 => (z_bd (z_sJ 15 95 0 ((r1 : Int32).toInt64)) (fun _ => (z_pu 0))))).1 M = some (.inr 0, z_wj M1 95 0 v.toInt64) := by
    refine (e_ct ((z_cv_pos (k0_is0 h0)).trans e1)).trans ?_
    exact e_sJ hout
  refine (e_run ew).trans ?_
  refine (e_run ((z_cv_pos (q9_is (M := z_wj M1 95 0 v.toInt64) h91)).trans m1)).trans ?_
  have h9K : L9 (KI (z_wj M1 95 0 v.toInt64) F) := h91
  rw [e_cv (q9_is h9K)]
  unfold p_X9_thrown
  rw [b_bd, q9_gI h9K]
  have e0 : z_i (KI (z_wj M1 95 0 v.toInt64) F) 75 0 = 0 := m2
  rw [b_pu, e0, if_pos rfl, if_pos rfl, e_aJ (L0_out (M := KI (z_wj M1 95 0 v.toInt64) F) h01)]
  have ej : z_j (KI (z_wj M1 95 0 v.toInt64) F) 95 (0 : Int32).toNatClampNeg = v.toInt64 := by
    show z_up2 (z_j M1) 95 0 v.toInt64 95 0 = _
    exact if_pos ⟨rfl, rfl⟩
  rw [ej, lg_rf, if_pos rfl]
  rfl
theorem L_c23 (hI : CI k M c sp ct cd ns nt np nc st H S n bf) (hm : MI M ct cd st H S n bf) (hi : i + 6 ≤ L) (hL : L ≤ 3072) (hk : k ≤ 511) : STEP (p_L_c23 xs L 0 75 95 (nI i)) k M i := by
  have hc := CI_c hI
  have hns := hc.1.2.1
  have hnt := hc.1.2.2.2.1
  obtain ⟨h0, hcy, hC, T, d, R, l, hT, hS, hn, hst0, hg, hd⟩ := CI_un hI
  have E := CI_E hI
  have hL41 := E.1.1
  unfold p_L_c23 p_L_forecast
  rw [show nI i + 1 = nI (i + 1) from oL_addr 1 i, show nI i + 2 = nI (i + 2) from oL_addr 2 i]
  simp only [z_xs_ok (xs := xs) (show i + 1 < L by omega) hL, z_xs_ok (xs := xs) (show i + 2 < L by omega) hL, b_pu]
  obtain ⟨T2, hT2, hAV⟩ := hI.2.1
  have hcc := hI.1.2.2.1
  have hbad : ((xs (i + 1) < 0 ∨ nI 1441 ≤ xs (i + 1)) ∨ (xs (i + 2) < 0 ∨ nI 6 ≤ xs (i + 2))) → STEP (z_bd (z_ct (z_cv 8 0 (p_X8_forecast 0 (xs (i + 1)) (xs (i + 2)))) (fun E => if E = "java/lang/IllegalArgumentException" then z_pu 1 else z_fl) (fun r1 => (z_bd (z_sJ 15 95 0 ((r1 : Int32).toInt64)) (fun _ => (z_pu 0))))) (fun r102 => (z_bd (z_cv 9 75 (p_X9_forecast 75 (xs (i + 1)) (xs (i + 2)))) (fun r104 => (z_bd (z_cv 9 75 (p_X9_thrown 75)) (fun r105 => (if r105 = r102 then (if r102 = 0 then (z_bd (z_aJ 15 95 0) (fun v106 => (if (lg_cmp v106 ((r104 : Int32).toInt64)) = 0 then (z_pu (.inl ((nI i + 6)))) else (z_pu (.inr 0))))) else (z_pu (.inl ((nI i + 6))))) else (z_pu (.inr 0))))))))) k M i := fun hb => by
    refine glue_t hI hm (E := "java/lang/IllegalArgumentException") ?_ (if_pos rfl) (show ¬ (1 : Int32) = 0 by decide) (fun M1 h1 => mres_th2 (w := 0) h1 (v := 0) ?_)
    · unfold p_X8_forecast p_X8_checkTotal
      rw [b_bd]
      by_cases h2 : xs (i + 2) < 0 ∨ nI 6 ≤ xs (i + 2)
      · exact c_rgb (bad_wi (n := 5) h2 (by omega))
      · obtain ⟨q, hq, eq⟩ := (pk_ix (xs (i + 2)) (n := 6) (by omega)).resolve_left (fun q => h2 (Or.inl q)) |>.resolve_left (fun q => h2 (Or.inr q))
        rw [eq, c_rg (show ¬ nI q < 0 from nI_pos (by omega)) (show nI q ≤ (5 : Int32) from nI_le (b := 5) (by omega) (by omega)), b_pu]
        exact c_rgb (bad_wi (n := 1440) (hb.resolve_right h2) (by omega))
    · obtain ⟨h9, e78, e80, e83⟩ := MI_0 h1
      unfold p_X9_forecast
      show (z_bd (z_pI 9 75 0 0) _).1 (KI M1 (z_i M1)) = _
      rw [kn_pI h9, g9_wi]
      by_cases h2 : xs (i + 1) < 0 ∨ nI 1441 ≤ xs (i + 1)
      · rw [wr_bad (show xs (i + 1) < 0 ∨ (1440 : Int32) < xs (i + 1) from bad_wi (n := 1440) h2 (by omega)), if_pos rfl, j_L, kn_cv h9, kn_fail h9]
        rfl
      · obtain ⟨q, hq, eq⟩ := (pk_ix (xs (i + 1)) (n := 1441) (by omega)).resolve_left (fun q => h2 (Or.inl q)) |>.resolve_left (fun q => h2 (Or.inr q))
        rw [eq, wr_ok (nI_pos (by omega)) (show ¬ (1440 : Int32) < nI q from nI_nlt (a := 1440) (by omega) (by omega)), if_neg (by decide), j_bd, g9_wi, wr_bad (show xs (i + 2) < 0 ∨ (5 : Int32) < xs (i + 2) from bad_wi (n := 5) (hb.resolve_left h2) (by omega)), if_pos rfl, j_L, kn_cv h9, kn_fail h9]
        rfl
  rcases pk_ix (xs (i + 1)) (n := 1441) (by omega) with h | h | ⟨m, hm1, e⟩
  · exact hbad (Or.inl (Or.inl h))
  · exact hbad (Or.inl (Or.inr h))
  rcases pk_ix (xs (i + 2)) (n := 6) (by omega) with h | h | ⟨j, hj, e2⟩
  · exact hbad (Or.inr (Or.inl h))
  · exact hbad (Or.inr (Or.inr h))
  clear hbad
  rw [e, e2]
  obtain ⟨F1, k1, A1, f1⟩ := kx_copy (a := 58) hAV hI.1.2.1.2.1 (by omega) (by omega)
  obtain ⟨G, k2, A2, f2⟩ := kx_adv (β := Int32) (f := fun _ => z_bd (z_gA 8 0 7) (fun v8 => (z_bd (z_cv 5 v8 (p_X5_sum v8 (nI j))) (fun r9 => (z_pu r9))))) A1 (by omega) (m := m) (by omega)
  have h0' : L0 (z_wr M 58 6 (some c)) := L0_loc (c := c) (sp := sp) h0 (loc_wr (Or.inl ⟨Or.inl rfl, rfl⟩))
  have hL58 : LZ 58 (z_wr M 58 6 (some c)) := (AV_c A1).2
  have hfr : ∀ y, ¬ (58 ≤ y ∧ y < 58 + 17) → y ≠ c + 10 + 2 → G y = z_i M y := fun y y1 y2 => (f2 y y1 y2).trans (f1 y y1)
  have hsum : (z_bd (p_X5_sum 58 (nI j)) (fun r9 => z_pu r9)).1 (KI (z_wr M 58 6 (some c)) G) = some (.inr (if j = 5 then s_sum 0 (fun t => s_tr (s_its ct cd ns nt np nc m st) t 4) nt else s_its ct cd ns nt np nc m st (1 + j)), KI (z_wr M 58 6 (some c)) G) := by
    obtain ⟨d2, R2, l2, hS2, _⟩ := A2
    exact kx_sum hS2 (by omega)
  refine glue_r (st' := s_ab3 st (s_its ct cd ns nt np nc m st)) hI hm (v := if j = 5 then s_sum 0 (fun t => s_tr (s_its ct cd ns nt np nc m st) t 4) nt else s_its ct cd ns nt np nc m st (1 + j)) (cres_st (cres_loc hI (M1 := KI (z_wr M 58 6 (some c)) G) ?_ ?_ ?_ ?_ ?_ ?_) (fun q hq => if_pos hq)) (fun M1 h1 => ?_)
  · unfold p_X8_forecast p_X8_checkTotal
    rw [b_bd, c_rg (show ¬ nI j < 0 from nI_pos (by omega)) (show nI j ≤ (5 : Int32) from nI_le (b := 5) (by omega) (by omega)), b_pu, c_rg (show ¬ nI m < 0 from nI_pos (by omega)) (show nI m ≤ (1440 : Int32) from nI_le (b := 1440) (by omega) (by omega))]
    show (z_bd (z_gA 8 0 7) _).1 (KI M (z_i M)) = _
    rw [k0_g0_7 h0, k0_g0_6 h0, ks_cv hI.1.2.1.2.1, e_run k1, k0_g0_7 h0', ks_cv hL58, k2, k0_g0_7 h0', ks_cv hL58, hsum]
  · refine loc_tr (loc_wr (a := 58) (b := 6) (v := some c) (Or.inl ⟨Or.inl rfl, rfl⟩)) ?_
    exact loc_KI (M := z_wr M 58 6 (some c)) (F := z_i M) (fun y hy => hfr y (fun q => hy (by unfold scr; omega)) (fun q => hy (by unfold scr; omega)))
  · exact fun h => L9_wr h (by decide)
  · exact fun y y1 y2 => hfr y (by omega) (by omega)
  · show z_nx M ≤ z_nx M + 18; omega
  · show z_sl M ≤ z_sl M + 992; omega
  · obtain ⟨h9, e78, e80, e83⟩ := MI_0 h1
    unfold p_X9_forecast
    have hPV : ∀ i, i < m → PV (s_its ct cd ns nt np nc i st) ns nt (T2 + i) := fun i hi => by
      obtain ⟨G, hG⟩ := AV_its (by omega) i _ _ T2 hAV (by omega)
      exact AV_PV hG
    obtain ⟨FA, eFA⟩ : ∃ FA, FA = z_up1 (z_up2 (z_i M1) 75 0 0) 87 (va_cpy (z_up2 (z_i M1) 75 0 0 83) (z_up2 (z_i M1) 75 0 0 87) 0 0 3277) := ⟨_, rfl⟩
    have a78 : FA 78 = ct := by rw [eFA, u1_n _ _ (by omega), F0_78, e78]
    have a80 : FA 80 = cd := by rw [eFA, u1_n _ _ (by omega), F0_80, e80]
    have a83 : FA 83 = st := by rw [eFA, u1_n _ _ (by omega), F0_83, e83]
    have a87 : ∀ q, q < 3277 → FA 87 q = st q := fun q hq => by rw [eFA, u1_s, pk_cpy_in (by omega) (by omega), F0_83, e83]; congr 1; omega
    obtain ⟨g', hfl⟩ := kk_foreL (M := KI M1 FA) (n := m) (np := np) (nc := nc) (ns := ns) (nt := nt) h9 (by show c_ok (FA 78) (FA 80) _ _ _ _; rw [a78, a80]; exact hc) (by omega) m (FA 82) st T2 0 (by omega) (by show ∀ i, i < m → PV (s_its (FA 78) (FA 80) ns nt np nc i st) ns nt (T2 + i); rw [a78, a80]; exact hPV) (by omega)
    have hfl2 : (z_lp (fun (t6 : Int32) => (if (nI m) ≤ t6 then (z_pu (.inr (.inl ()))) else (z_bd (z_cv 9 75 (p_X9_passMinute 75)) (fun r7 => (z_pu (.inl ((t6 + 1)))))))) 0 : zP (Unit ⊕ (Unit ⊕ Int32))).1 (KI M1 FA) = some (.inr (.inl ()), KI M1 (z_up1 (z_up1 FA 82 g') 83 (s_its ct cd ns nt np nc m st))) := by
      have e1 : KI M1 FA = K9 (KI M1 FA) (FA 82) st := by rw [← a83]; exact KI_K9
      rw [e1]
      refine hfl.trans ?_
      rw [K9_KI]
      show some (Sum.inr (Sum.inl ()), KI M1 (z_up1 (z_up1 FA 82 g') 83 (s_its (FA 78) (FA 80) ns nt np nc m st))) = _
      rw [a78, a80]
    obtain ⟨FB, eFB⟩ : ∃ FB, FB = z_up1 (z_up1 FA 82 g') 83 (s_its ct cd ns nt np nc m st) := ⟨_, rfl⟩
    rw [← eFB] at hfl2
    have b83 : FB 83 = s_its ct cd ns nt np nc m st := by rw [eFB, u1_s]
    have bo : ∀ y, y ≠ 82 → y ≠ 83 → FB y = FA y := fun y y1 y2 => by rw [eFB, u1_n _ _ y2, u1_n _ _ y1]
    have hs1 : FB 78 1 = nI nt := by rw [bo _ (by omega) (by omega), a78]; exact hc.1.2.2.1
    have hev : va_cpy (FB 87) (FB 83) 0 0 3277 = s_ab3 st (s_its ct cd ns nt np nc m st) := by
      funext q
      unfold s_ab3
      by_cases hq : q < 3277
      · rw [pk_cpy_in (by omega) (by omega), if_pos hq, bo _ (by omega) (by omega), show 0 + (q - 0) = q by omega, a87 q hq]
      · rw [pk_cpy_out (by omega), if_neg hq, b83]
    refine ⟨z_up1 FB 83 (s_ab3 st (s_its ct cd ns nt np nc m st)), ?_, ?_, ?_, ?_⟩
    · show (z_bd (z_pI 9 75 0 0) _).1 (KI M1 (z_i M1)) = _
      rw [kn_pI h9, g9_wi, wr_ok (nI_pos (by omega)) (show ¬ (1440 : Int32) < nI m from nI_nlt (a := 1440) (by omega) (by omega))]
      refine e_jR ?_
      rw [if_neg (by decide), g9_wi, wr_ok (nI_pos (by omega)) (show ¬ (5 : Int32) < nI j from nI_nlt (a := 5) (by omega) (by omega)), if_neg (by decide), kn_cv h9, m_aside h9, ← eFA]
      refine (e_jL hfl2).trans ?_
      rw [kn_cv h9]
      refine (m_tot h9 hs1 hnt (by omega)).trans ?_
      rw [b83, kn_cv h9, m_back h9, hev]
      rfl
    · rw [u1_n _ _ (by omega), bo _ (by omega) (by omega), eFA, u1_n _ _ (by omega), u2_s]
    · intro y hy
      rw [u1_n _ _ (by omega), bo _ (by omega) (by omega), eFA, u1_n _ _ (by omega), u2_row _ _ (by omega)]
    · refine MI_F2 h1 (fun y hy => ?_) ?_ ?_ (u1_s _ _ _)
      · rw [u1_n _ _ (by omega), bo _ (by omega) (by omega), eFA, u1_n _ _ (by omega), u2_row _ _ (by omega)]
      · rw [u1_n _ _ (by omega), bo _ (by omega) (by omega), eFA, u1_n _ _ (by omega), u2_n _ _ (by omega)]
      · rw [u1_n _ _ (by omega), bo _ (by omega) (by omega), eFA, u1_n _ _ (by omega), u2_n _ _ (by omega)]
theorem L_c24 (hI : CI k M c sp ct cd ns nt np nc st H S n bf) (hm : MI M ct cd st H S n bf) (hi : i + 6 ≤ L) (hL : L ≤ 3072) (hk : k ≤ 511) : STEP (p_L_c24 xs L 0 75 95 (nI i)) k M i := by
  have hc := CI_c hI
  have hns := hc.1.2.1
  have hnt := hc.1.2.2.2.1
  obtain ⟨h0, hcy, hC, T, d, R, l, hT, hS, hn, hst0, hg, hd⟩ := CI_un hI
  have E := CI_E hI
  have hL41 := E.1.1
  unfold p_L_c24 p_L_runsOut
  rw [show nI i + 1 = nI (i + 1) from oL_addr 1 i, show nI i + 2 = nI (i + 2) from oL_addr 2 i]
  simp only [z_xs_ok (xs := xs) (show i + 1 < L by omega) hL, z_xs_ok (xs := xs) (show i + 2 < L by omega) hL, b_pu]
  obtain ⟨T2, hT2, hAV⟩ := hI.2.1
  have hcc := hI.1.2.2.1
  obtain ⟨b, hb⟩ : ∃ b : Int32, b = (if xs (i + 2) = 0 then 0 else 1) := ⟨_, rfl⟩
  have hj1 : ∀ g : Int32 → zP (Int32 ⊕ Int32), (z_jn (τ := Int32) (if xs (i + 2) = 0 then (z_pu (.inl 0)) else (z_pu (.inl 1))) g) = g b := fun g => by
    rw [hb]
    split <;> rfl
  simp only [hj1]
  rcases pk_ix (xs (i + 1)) (n := ns) (by omega) with h | h | ⟨j, hj, e⟩
  · exact glue_t hI hm (c_stb hI (Or.inl h)) (if_pos rfl) (by decide) (fun M1 h1 => m_stb h1 hc (Or.inl h))
  · exact glue_t hI hm (c_stb hI (Or.inr h)) (if_pos rfl) (by decide) (fun M1 h1 => m_stb h1 hc (Or.inr h))
  rw [e]
  have hj8 : j < 8 := by omega
  obtain ⟨F1, k1, A1, f1⟩ := kx_copy (a := 58) hAV hI.1.2.1.2.1 (by omega) (by omega)
  obtain ⟨G, k2, f2⟩ := kx_mou (β := Int32) (f := fun r => z_pu r) (x := b) A1 (by omega) hj (by omega)
  have h0' : L0 (z_wr M 58 6 (some c)) := L0_loc (c := c) (sp := sp) h0 (loc_wr (Or.inl ⟨Or.inl rfl, rfl⟩))
  have hL58 : LZ 58 (z_wr M 58 6 (some c)) := (AV_c A1).2
  have hfr : ∀ y, ¬ (58 ≤ y ∧ y < 58 + 17) → y ≠ c + 10 + 2 → G y = z_i M y := fun y y1 y2 => (f2 y y1 y2).trans (f1 y y1)
  refine glue_r2 hI hm (v := if s_bk ct st b j = 0 then 0 else s_ro ct cd ns nt np nc j b 1440 1 st) (cres_loc hI (M1 := KI (z_wr M 58 6 (some c)) G) ?_ ?_ ?_ ?_ ?_ ?_) (fun M1 h1 => ?_)
  · unfold p_X8_runsOut
    rw [c_st hI hj]
    show (z_bd (z_gA 8 0 7) _).1 (KI M (z_i M)) = _
    rw [k0_g0_7 h0, k0_g0_6 h0, ks_cv hI.1.2.1.2.1, e_run k1, k0_g0_7 h0', ks_cv hL58, k2]
    rfl
  · refine loc_tr (loc_wr (a := 58) (b := 6) (v := some c) (Or.inl ⟨Or.inl rfl, rfl⟩)) ?_
    exact loc_KI (M := z_wr M 58 6 (some c)) (F := z_i M) (fun y hy => hfr y (fun q => hy (by unfold scr; omega)) (fun q => hy (by unfold scr; omega)))
  · exact fun h => L9_wr h (by decide)
  · exact fun y y1 y2 => hfr y (by omega) (by omega)
  · show z_nx M ≤ z_nx M + 18; omega
  · show z_sl M ≤ z_sl M + 992; omega
  · obtain ⟨h9, e78, e80, e83⟩ := MI_0 h1
    have hall : ∀ i, i ≤ 1440 → PV (s_its ct cd ns nt np nc i st) ns nt (T2 + i) ∧ ∃ u, u < 2 ^ 31 ∧ s_bk ct (s_its ct cd ns nt np nc i st) b j = nI u := fun i hi => by
      obtain ⟨G, hG⟩ := AV_its (by omega) i _ _ T2 hAV (by omega)
      refine ⟨AV_PV hG, ?_⟩
      obtain ⟨d3, R3, l3, hS3, hn3, _⟩ := hG
      obtain ⟨u, w, g, mm, q1, q2, q3, q4, q5, q6, q7⟩ := st_num hc hn3.1 hj
      unfold s_bk
      split
      · exact ⟨u, by omega, q1⟩
      · exact ⟨g, by omega, q3⟩
    obtain ⟨FA, eFA⟩ : ∃ FA, FA = z_up1 (z_up2 (z_i M1) 75 0 0) 87 (va_cpy (z_up2 (z_i M1) 75 0 0 83) (z_up2 (z_i M1) 75 0 0 87) 0 0 3277) := ⟨_, rfl⟩
    have a78 : FA 78 = ct := by rw [eFA, u1_n _ _ (by omega), F0_78, e78]
    have a80 : FA 80 = cd := by rw [eFA, u1_n _ _ (by omega), F0_80, e80]
    have a83 : FA 83 = st := by rw [eFA, u1_n _ _ (by omega), F0_83, e83]
    have a87 : ∀ q, q < 3277 → FA 87 q = st q := fun q hq => by rw [eFA, u1_s, pk_cpy_in (by omega) (by omega), F0_83, e83]; congr 1; omega
    obtain ⟨t, g', st2, hfl, hans⟩ := kk_outL (M := KI M1 FA) (x := b) (np := np) (nc := nc) (ns := ns) (nt := nt) h9 (by show c_ok (FA 78) (FA 80) _ _ _ _; rw [a78, a80]; exact hc) hj8 1440 (FA 82) st T2 0 (by omega) (by show ∀ i, i ≤ 1440 → PV (s_its (FA 78) (FA 80) ns nt np nc i st) ns nt (T2 + i); rw [a78, a80]; exact fun i hi => (hall i hi).1) (by show ∀ i, i ≤ 1440 → ∃ u, u < 2 ^ 31 ∧ s_bk (FA 78) (s_its (FA 78) (FA 80) ns nt np nc i st) b j = nI u; rw [a78, a80]; exact fun i hi => (hall i hi).2) (by omega)
    have hans2 : (if t ≤ 1440 then t else -1) = (if s_bk ct st b j = 0 then 0 else s_ro ct cd ns nt np nc j b 1440 1 st) := by
      refine hans.trans ?_
      show (if s_bk (FA 78) st b j = 0 then nI 0 else s_ro (FA 78) (FA 80) ns nt np nc j b 1440 (0 + 1) st) = _
      rw [a78, a80]
      rfl
    have hfl2 : (z_lp (fun (t4 : Int32) => (if 1440 < t4 then (z_pu (.inr (.inl t4))) else (z_jn (τ := Int32) (if b = 0 then (z_bd (z_gA 9 75 19) (fun v6 => (z_bd (z_aI 11 v6 (6 + (nI j))) (fun v7 => (z_pu (.inl v7)))))) else (z_bd (z_cv 9 75 (p_X9_free 75 (nI j))) (fun r8 => (z_pu (.inl r8))))) (fun t5 => (if t5 ≤ 0 then (z_pu (.inr (.inl t4))) else (z_bd (z_cv 9 75 (p_X9_passMinute 75)) (fun r9 => (z_pu (.inl ((t4 + 1))))))))))) 0 : zP (Int32 ⊕ Int32)).1 (KI M1 FA) = some (.inr (.inl t), KI M1 (z_up1 (z_up1 FA 82 g') 83 st2)) := by
      have e1 : KI M1 FA = K9 (KI M1 FA) (FA 82) st := by rw [← a83]; exact KI_K9
      rw [e1]
      exact hfl
    obtain ⟨FB, eFB⟩ : ∃ FB, FB = z_up1 (z_up1 FA 82 g') 83 st2 := ⟨_, rfl⟩
    rw [← eFB] at hfl2
    have b83 : FB 83 = st2 := by rw [eFB, u1_s]
    have bo : ∀ y, y ≠ 82 → y ≠ 83 → FB y = FA y := fun y y1 y2 => by rw [eFB, u1_n _ _ y2, u1_n _ _ y1]
    have hev : va_cpy (FB 87) (FB 83) 0 0 3277 = s_ab3 st st2 := by
      funext q
      unfold s_ab3
      by_cases hq : q < 3277
      · rw [pk_cpy_in (by omega) (by omega), if_pos hq, bo _ (by omega) (by omega), show 0 + (q - 0) = q by omega, a87 q hq]
      · rw [pk_cpy_out (by omega), if_neg hq, b83]
    refine ⟨s_ab3 st st2, fun q hq => if_pos hq, z_up1 FB 83 (s_ab3 st st2), ?_, ?_, ?_, ?_⟩
    · unfold p_X9_runsOut
      rw [m_st h1 hc hj, kn_cv h9, m_aside h9, ← eFA]
      refine (e_jL hfl2).trans ?_
      rw [kn_cv h9, m_back h9, hev, ← hans2]
      split <;> rfl
    · rw [u1_n _ _ (by omega), bo _ (by omega) (by omega), eFA, u1_n _ _ (by omega), u2_s]
    · intro y hy
      rw [u1_n _ _ (by omega), bo _ (by omega) (by omega), eFA, u1_n _ _ (by omega), u2_row _ _ (by omega)]
    · refine MI_F2 h1 (fun y hy => ?_) ?_ ?_ (u1_s _ _ _)
      · rw [u1_n _ _ (by omega), bo _ (by omega) (by omega), eFA, u1_n _ _ (by omega), u2_row _ _ (by omega)]
      · rw [u1_n _ _ (by omega), bo _ (by omega) (by omega), eFA, u1_n _ _ (by omega), u2_n _ _ (by omega)]
      · rw [u1_n _ _ (by omega), bo _ (by omega) (by omega), eFA, u1_n _ _ (by omega), u2_n _ _ (by omega)]
end PA19
