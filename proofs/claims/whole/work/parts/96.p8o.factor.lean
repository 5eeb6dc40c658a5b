/-! ===== PHASE 2: a factor of a fare ===== -/
noncomputable def fc_body : Int32 × Int32 × Int32 → zP ((Int32 × Int32 × Int32) ⊕ ((Int32 × Int32) ⊕ Unit)) := (fun (t8 : Int32 × Int32 × Int32) => (if t8.2.2 ≤ 0 then (z_pu (.inr (.inl (t8.1, t8.2.1)))) else (z_bd (z_gI 1 2 9) (fun v9 => (if v9 = 0 then (z_jn (τ := Int32 × Int32) (z_jn (τ := Unit) (if t8.2.1 = 0 then (z_pu (.inl ())) else (z_bd (z_cv 1 2 (p_X1_isSign 2 40)) (fun r12 => (if r12 = 0 then (z_pu (.inl ())) else (z_jn (τ := Unit) (if t8.1 < 5 then (z_pu (.inl ())) else (z_bd (z_cv 1 2 (p_X1_fail 2 4)) (fun _ => (z_pu (.inl ()))))) (fun t13 => (z_bd (z_cv 1 2 (p_X1_holdOperator 2 0)) (fun _ => (z_pu (.inr (.inl ((t8.1 + 1), t8.2.1)))))))))))) (fun t11 => (if t8.2.1 = 0 then (z_bd (z_cv 1 2 (p_X1_operatorOfToken 2)) (fun r16 => (if r16 = 0 then (if t8.1 ≤ 0 then (z_pu (.inr (.inr (.inl (t8.1, t8.2.1))))) else (z_bd (z_cv 1 2 (p_X1_isSign 2 41)) (fun r17 => (if r17 = 0 then (z_pu (.inr (.inr (.inl (t8.1, t8.2.1))))) else (z_bd (z_cv 1 2 (p_X1_closeParenthesis 2)) (fun _ => (z_bd (z_pu (t8.1 + (-1))) (fun x19 => (z_pu (.inl (x19, t8.2.1))))))))))) else (z_bd (z_cv 1 2 (p_X1_operatorOfToken 2)) (fun r20 => (z_bd (z_cv 1 2 (p_X1_takeOperator 2 r20)) (fun _ => (z_pu (.inl (t8.1, 1)))))))))) else (z_bd (z_cv 1 2 (p_X1_takeFactor 2)) (fun _ => (z_pu (.inl (t8.1, 0)))))))) (fun t10 => (z_bd (z_cv 1 2 (p_X1_nextToken 2)) (fun _ => (z_bd (z_pu (t8.2.2 + (-1))) (fun x24 => (z_pu (.inl (t10.1, t10.2, x24))))))))) else (z_pu (.inr (.inl (t8.1, t8.2.1)))))))))
noncomputable def fm_body : Int32 × Int32 → zP ((Int32 × Int32) ⊕ (Unit ⊕ Unit)) := (fun (t3 : Int32 × Int32) => (if t3.2 = 0 then (z_pu (.inr (.inl ()))) else (z_bd (z_gI 9 75 8) (fun v4 => (if v4 = 0 then (if t3.1 = 0 then (z_bd (z_cv 9 75 (p_X9_factor 75)) (fun r25 => (z_pu (.inl (r25, t3.2))))) else (z_bd (z_gI 9 75 6) (fun v5 => (z_bd (p_X9_rank v5) (fun r6 => (if r6 ≤ 0 then (z_bd (z_gI 9 75 6) (fun v7 => (z_jn (τ := Unit) (if v7 = 41 then (z_bd (z_gI 9 75 17) (fun v9 => (if v9 ≤ 0 then (z_pu (.inl ())) else (z_bd (z_cv 9 75 (p_X9_settle 75 1)) (fun _ => (z_bd (z_gI 9 75 16) (fun v11 => (z_bd (z_pI 9 75 16 (v11 - 1)) (fun _ => (z_bd (z_gI 9 75 17) (fun v12 => (z_bd (z_pI 9 75 17 (v12 - 1)) (fun _ => (z_bd (z_cv 9 75 (p_X9_nextToken 75)) (fun _ => (z_pu (.inr (.inl (t3.1, t3.2))))))))))))))))))) else (z_pu (.inl ()))) (fun t8 => (z_bd (z_gI 9 75 17) (fun v14 => (z_jn (τ := Int32) (if v14 = 0 then (z_pu (.inl 1)) else (z_pu (.inl 0))) (fun t15 => (z_bd (z_cv 9 75 (p_X9_must 75 t15 1)) (fun r16 => (z_pu (.inl (t3.1, 0))))))))))))) else (z_bd (z_gI 9 75 6) (fun v17 => (z_bd (p_X9_rank v17) (fun r18 => (z_bd (z_cv 9 75 (p_X9_settle 75 r18)) (fun _ => (z_bd (z_gA 9 75 15) (fun v20 => (z_bd (z_gI 9 75 16) (fun v21 => (z_bd (z_gI 9 75 6) (fun v22 => (z_bd (z_sI 11 v20 v21 v22) (fun _ => (z_bd (z_gI 9 75 16) (fun v23 => (z_bd (z_pI 9 75 16 (v23 + 1)) (fun _ => (z_bd (z_cv 9 75 (p_X9_nextToken 75)) (fun _ => (z_pu (.inl (0, t3.2))))))))))))))))))))))))))))) else (z_pu (.inr (.inl ()))))))))
/-- a word's code in a fare -/
def fv (W : Int64) : Int32 := if W = 14276022451 then -1 else if W = 2403507 then -2 else if W = 4689267 then -3 else if W = 278194 then -4 else 0
section PA69
variable {α β : Type} {M N : zM} {F F' F1 G G' G1 : Nat → Nat → Int32} {b g cd cd' : Nat → Int32} {i j k m n s s' lo sp nc x r o d beh left : Nat} {p q q' c v w t : Int32} {l : List Nat}
theorem c_hold (h0 : L0 M) (h : F 2 1 = nI m) (hm : m < 24) : (p_X1_holdOperator 2 v).1 (KI M F) = some (.inr (), KI M (z_up2 (z_up2 F 3 m v) 2 1 (nI (m + 1)))) := by
  unfold p_X1_holdOperator
  have g1 : z_up2 F 3 m v 2 1 = nI m := (u2_n _ _ (Or.inl (by omega))).trans h
  rw [k0_gI2 h0, h, k0_g2_0 h0, ki_al (k0_ar3 h0), if_neg (nI_ge hm (by decide)), k0_g2_0 h0, k0_gI2 h0, h, ki_sI (k0_ar3 h0) hm (by decide), k0_gI2 h0, g1, nI_1, k0_pI2 h0]
  rfl
theorem nI_nn {k : Nat} (h : k < 2 ^ 31) : s_it (nI k) = nI k ∧ s_iv (nI k) ∧ ¬ nI k < -4 := by
  have e := nI_toInt h
  have ne : ∀ z : Int32, z.toInt < 0 → ¬ nI k = z := fun z hz q => by
    rw [q] at e
    omega
  have z4 : (-4 : Int32).toInt = -4 := rfl
  refine ⟨?_, Or.inl ?_, fun q => ?_⟩
  · unfold s_it
    rw [if_neg (ne _ (by decide)), if_neg (ne _ (by decide)), if_neg (ne _ (by decide)), if_neg (ne _ (by decide))]
  · rw [i_le]
    omega
  · rw [i_lt] at q
    omega
theorem m_fact (hP : PC M N b n sp) (hs : s ≤ n) (hT : TKm b n G s) : (p_X9_fact 75).1 (KI N G) = some (.inr (fv (tz_W b n s)), KI N G) := by
  have h9 := hP.2.1
  unfold p_X9_fact fv
  rw [kn_cv h9, e_run (m_wd h9 hP.2.2.1 hs hT)]
  by_cases c1 : tz_W b n s = 14276022451
  · rw [if_pos (lg_0.mpr c1), if_pos c1]; rfl
  · rw [if_neg (fun e => c1 (lg_0.mp e)), if_neg c1]
    by_cases c2 : tz_W b n s = 2403507
    · rw [if_pos (lg_0.mpr c2), if_pos c2]; rfl
    · rw [if_neg (fun e => c2 (lg_0.mp e)), if_neg c2]
      by_cases c3 : tz_W b n s = 4689267
      · rw [if_pos (lg_0.mpr c3), if_pos c3]; rfl
      · rw [if_neg (fun e => c3 (lg_0.mp e)), if_neg c3]
        by_cases c4 : tz_W b n s = 278194
        · rw [if_pos (lg_0.mpr c4), if_pos c4]; rfl
        · rw [if_neg (fun e => c4 (lg_0.mp e)), if_neg c4]; rfl
theorem fv_all (W : Int64) : fv W = 0 ∨ ((fv W = -1 ∨ fv W = -2 ∨ fv W = -3 ∨ fv W = -4) ∧ ¬ W = -1) := by
  unfold fv
  by_cases c1 : W = 14276022451
  · rw [if_pos c1, c1]; exact Or.inr ⟨Or.inl rfl, by decide⟩
  · rw [if_neg c1]
    by_cases c2 : W = 2403507
    · rw [if_pos c2, c2]; exact Or.inr ⟨Or.inr (Or.inl rfl), by decide⟩
    · rw [if_neg c2]
      by_cases c3 : W = 4689267
      · rw [if_pos c3, c3]; exact Or.inr ⟨Or.inr (Or.inr (Or.inl rfl)), by decide⟩
      · rw [if_neg c3]
        by_cases c4 : W = 278194
        · rw [if_pos c4, c4]; exact Or.inr ⟨Or.inr (Or.inr (Or.inr rfl)), by decide⟩
        · rw [if_neg c4]; exact Or.inl rfl
/-- the class's factor, if it is no number -/
theorem c_fword (hP : PC M N b n sp) (hT : TKc b n F s) (hk : ¬ tz_k b n s = 2) (hl : F (sp + 10) 2 = nI nc) (hnc : nc < 700) : (p_X1_takeFactor 2).1 (KI M F) = some (.inr (), KI M (if fv (tz_W b n s) = 0 then ff F 1 else z_up2 (z_up2 F (sp + 10 + 1) nc (fv (tz_W b n s))) (sp + 10) 2 (nI (nc + 1)))) := by
  have h0 := hP.1.1
  have hr := hP.1.2.1
  have hn := hP.2.2.1
  have hC := hP.1.2.2.2
  have hF := LC_F hC
  have hk' : ¬ nI (tz_k b n s) = 2 := fun e => hk (nq_inj (b := 2) (by have := tk_lt5 (b := b) (n := n) (s := s); omega) (by decide) e)
  unfold p_X1_takeFactor fv
  rw [k0_gI2 h0, hT.1.2.2.2, if_neg hk', k0_cv2 h0, e_run (cw_8 h0 hr hn hT)]
  by_cases c1 : tz_W b n s = 14276022451
  · rw [if_pos c1, if_neg one_n0, kb_ct hP, kc_g9 hC, kf_cv hF, e_run (c_add hF hl hnc), if_pos c1, if_neg (by decide)]; rfl
  · rw [if_neg c1, if_pos rfl, k0_cv2 h0, e_run (cw_9 h0 hr hn hT), if_neg c1]
    by_cases c2 : tz_W b n s = 2403507
    · rw [if_pos c2, if_neg one_n0, kb_ct hP, kc_g9 hC, kf_cv hF, e_run (c_add hF hl hnc), if_pos c2, if_neg (by decide)]; rfl
    · rw [if_neg c2, if_pos rfl, k0_cv2 h0, e_run (cw_10 h0 hr hn hT), if_neg c2]
      by_cases c3 : tz_W b n s = 4689267
      · rw [if_pos c3, if_neg one_n0, kb_ct hP, kc_g9 hC, kf_cv hF, e_run (c_add hF hl hnc), if_pos c3, if_neg (by decide)]; rfl
      · rw [if_neg c3, if_pos rfl, k0_cv2 h0, e_run (cw_11 h0 hr hn hT), if_neg c3]
        by_cases c4 : tz_W b n s = 278194
        · rw [if_pos c4, if_neg one_n0, kb_ct hP, kc_g9 hC, kf_cv hF, e_run (c_add hF hl hnc), if_pos c4, if_neg (by decide)]; rfl
        · rw [if_neg c4, if_pos rfl, k0_cv2 h0, e_run (c_fl h0 1), if_neg c4, if_pos rfl]; rfl
/-- both read a factor that opens none -/
theorem j_factor (hP : PC M N b n sp) (hJ : JO b n F G s) (hS : SK F G sp l nc) (hb : nc + l.length ≤ s) (ht : ¬ tz_t b n s = 40) : ∃ F1 F' G' r, (p_X1_takeFactor 2).1 (KI M F) = some (.inr (), KI M F1) ∧ (p_X1_nextToken 2).1 (KI M F1) = some (.inr (), KI M F') ∧ (p_X9_factor 75).1 (KI N G) = some (.inr r, KI N G') ∧ fC sp F F' ∧ fM G G' ∧ ((r = 1 ∧ s < n ∧ JO b n F' G' (tz_n2 b n s) ∧ SK F' G' sp l (nc + 1) ∧ G' 75 17 = G 75 17 ∧ (∀ d, d < 16 → s_cw (G 79) nc → s_dp (G 79) nc = d → s_cw (G' 79) (nc + 1) ∧ s_dp (G' 79) (nc + 1) = d + 1)) ∨ (r = 0 ∧ JE b n F' G' ∧ SK F' G' sp l nc)) := by
  have h0 := hP.1.1
  have h9 := hP.2.1
  have hC := hP.1.2.2.2
  have hF := LC_F hC
  have hsp := hP.2.2.2.2
  have hn := hP.2.2.1
  obtain ⟨hT, hM, e9, e8⟩ := id hJ
  have hs : s ≤ n := hT.2.2.1
  have h6 := hM.1.2.2.2
  have hl : F (sp + 10) 2 = nI nc := hS.2.2.2.1
  have hl7 : G 77 8 = nI nc := hS.2.2.2.2.1
  -- a code w in the class, v in the model
  have good : ∀ v, s_it v = v → s_iv v → ¬ v < -4 → s < n → (p_X1_takeFactor 2).1 (KI M F) = some (.inr (), KI M (z_up2 (z_up2 F (sp + 10 + 1) nc v) (sp + 10) 2 (nI (nc + 1)))) → (∀ G', (p_X9_nextToken 75).1 (KI N (z_up2 (z_up2 G 79 nc v) 77 8 (nI (nc + 1)))) = some (.inr (), KI N G') → (p_X9_factor 75).1 (KI N G) = some (.inr 1, KI N G')) → ∃ F1 F' G' r, (p_X1_takeFactor 2).1 (KI M F) = some (.inr (), KI M F1) ∧ (p_X1_nextToken 2).1 (KI M F1) = some (.inr (), KI M F') ∧ (p_X9_factor 75).1 (KI N G) = some (.inr r, KI N G') ∧ fC sp F F' ∧ fM G G' ∧ ((r = 1 ∧ s < n ∧ JO b n F' G' (tz_n2 b n s) ∧ SK F' G' sp l (nc + 1) ∧ G' 75 17 = G 75 17 ∧ (∀ d, d < 16 → s_cw (G 79) nc → s_dp (G 79) nc = d → s_cw (G' 79) (nc + 1) ∧ s_dp (G' 79) (nc + 1) = d + 1)) ∨ (r = 0 ∧ JE b n F' G' ∧ SK F' G' sp l nc)) := by
    intro v i1 i2 i3 hsn hc hm
    have hJ1 : JO b n (z_up2 (z_up2 F (sp + 10 + 1) nc v) (sp + 10) 2 (nI (nc + 1))) (z_up2 (z_up2 G 79 nc v) 77 8 (nI (nc + 1))) s := JO_o hJ (fun y j hy => by rw [u2_n _ _ (by omega), u2_n _ _ (by omega)]) (fun y j hy => by rw [u2_n _ _ (by omega), u2_n _ _ (by omega)])
    have hS1 := SK_code hsp hS (w := v) (v := v) ⟨i1.symm, i2⟩
    obtain ⟨F', G', a1, b1, j1, o1, o2⟩ := j_nx hP hJ1
    have e79 : ∀ i, i < nc → G' 79 i = G 79 i := fun i hi => by rw [o2 79 i (by omega), u2_n _ _ (by omega), u2_n _ _ (by omega)]
    have e79n : G' 79 nc = v := by rw [o2 79 nc (by omega), u2_n _ _ (by omega), u2_s]
    refine ⟨_, F', G', 1, hc, a1, hm G' b1, ?_, ?_, Or.inl ⟨rfl, hsn, j1, SK_o hS1 (fun y j hy => o1 y j (by omega)) (fun y j hy => o2 y j (by omega)), ?_, fun d hd h1 h2 => ⟨s_cw_p h1 e79 (fun q => by rw [e79n] at q; exact absurd q i3) (by omega), ?_⟩⟩⟩
    · intro y j hy
      rw [o1 y j (by omega), u2_n _ _ (by omega), u2_n _ _ (by omega)]
    · intro y j hy
      rw [o2 y j (by omega), u2_n _ _ (by omega), u2_n _ _ (by omega)]
    · rw [o2 75 17 (by omega), u2_n _ _ (by omega), u2_n _ _ (by omega)]
    · rw [s_dp_p e79, e79n, if_neg i3, h2]
  by_cases k2 : tz_k b n s = 2
  · obtain ⟨t2, tl, tw, m, m1, m2⟩ := tk_num hs k2
    have f8 : F 2 8 = nI m := by rw [hT.2.1 (by omega) tl, tw, m2]
    have g7 : G 75 7 = nI m := (hM.2.1 t2).trans m2
    obtain ⟨i1, i2, i3⟩ := nI_nn (k := m) (by omega)
    have hsn : s < n := by
      have := (tk_0 (b := b) (n := n) (s := s))
      omega
    refine good (nI m) i1 i2 i3 hsn ?_ (fun G' hG => ?_)
    · unfold p_X1_takeFactor
      rw [k0_gI2 h0, hT.1.2.2.2, if_pos (show nI (tz_k b n s) = 2 by rw [k2]; rfl), kb_ct hP, kc_g9 hC, k0_gI2 h0, f8, kf_cv hF, e_run (c_add hF hl (by omega))]
      rfl
    · unfold p_X9_factor
      rw [kn_gI h9, h6, if_neg ht, kn_gI h9, h6, if_pos t2, kn_gI h9, g7, kn_cv h9, e_run (m_emit h9 hl7 (by omega)), kn_cv h9, e_run hG]
      rfl
  · have t2 : ¬ tz_t b n s = 2 := fun e => k2 (tk_t2.mp e)
    by_cases hnc : nc < 700
    · have hc := c_fword hP hT k2 hl hnc
      rcases fv_all (tz_W b n s) with hz | ⟨hv, hW⟩
      · rw [if_pos hz] at hc
        obtain ⟨F', a1, a2, a3⟩ := c_nx hP (TKc_o hT (F' := ff F 1) (fun y j hy => ff_o (by omega)))
        have a4 : F' 2 9 = 8 * nI s + nI 1 := by
          rw [a3 2 9 (by omega), ff_0 e9, hT.1.2.1]
          rfl
        refine ⟨_, F', z_up2 (z_up2 G 75 8 1) 75 9 (G 75 4), 0, hc, a1, ?_, fun y j hy => (a3 y j (by omega)).trans (ff_o (by omega)), fun y j hy => by rw [u2_n _ _ (by omega), u2_n _ _ (by omega)], Or.inr ⟨rfl, JE_mk (k := 1) (s := s) (by omega) (by decide) (by decide) a2 a4 ?_ ?_, SK_o hS (fun y j hy => (a3 y j (by omega)).trans (ff_o (by omega))) (fun y j hy => by rw [u2_n _ _ (by omega), u2_n _ _ (by omega)])⟩⟩
        · unfold p_X9_factor
          rw [kn_gI h9, h6, if_neg ht, kn_gI h9, h6, if_neg t2, kn_cv h9, e_run (m_fact hP hs hM), hz, if_pos (show (0 : Int32) ≤ 0 by decide), j_L, kn_cv h9, e_run (m_must1 h9 e8 (by decide)), if_pos rfl]
          rfl
        · rw [u2_n _ _ (by omega), u2_s]
          rfl
        · rw [u2_s]
          exact hM.1.2.1
      · have hz : ¬ fv (tz_W b n s) = 0 := by
          rcases hv with e | e | e | e <;> (rw [e]; decide)
        have hng : ¬ (0 : Int32) ≤ fv (tz_W b n s) := by
          rcases hv with e | e | e | e <;> (rw [e]; decide)
        have i1 : s_it (fv (tz_W b n s)) = fv (tz_W b n s) := by
          rcases hv with e | e | e | e <;> (rw [e]; decide)
        have i2 : s_iv (fv (tz_W b n s)) := by
          rcases hv with e | e | e | e <;> (rw [e]; exact Or.inl (by decide))
        have i3 : ¬ fv (tz_W b n s) < -4 := by
          rcases hv with e | e | e | e <;> (rw [e]; decide)
        rw [if_neg hz] at hc
        have hsn : s < n := by
          have hk1 : tz_k b n s = 1 := by
            by_cases q : tz_k b n s = 1
            · exact q
            · exact absurd (if_neg q) hW
          have := (tk_0 (b := b) (n := n) (s := s))
          omega
        refine good _ i1 i2 i3 hsn hc (fun G' hG => ?_)
        unfold p_X9_factor
        rw [kn_gI h9, h6, if_neg ht, kn_gI h9, h6, if_neg t2, kn_cv h9, e_run (m_fact hP hs hM), if_neg hng, j_L, kn_cv h9, e_run (m_must0 h9 e8 one_n0), if_neg one_n0, kn_cv h9, e_run (m_fact hP hs hM), kn_cv h9, e_run (m_emit h9 hl7 hnc), kn_cv h9, e_run hG]
        rfl
    · -- the text's end: no code goes out any more
      have hsn : n ≤ s := by omega
      have hW : tz_W b n s = -1 := if_neg (fun e => by
        have := (tk_0 (b := b) (n := n) (s := s)).mpr hsn
        omega)
      have hz : fv (tz_W b n s) = 0 := by rw [hW]; decide
      have hc : (p_X1_takeFactor 2).1 (KI M F) = some (.inr (), KI M (ff F 1)) := by
        have hr := hP.1.2.1
        have hk' : ¬ nI (tz_k b n s) = 2 := fun e => k2 (nq_inj (b := 2) (by have := tk_lt5 (b := b) (n := n) (s := s); omega) (by decide) e)
        unfold p_X1_takeFactor
        rw [k0_gI2 h0, hT.1.2.2.2, if_neg hk', k0_cv2 h0, e_run (cw_8 h0 hr hn hT), hW, if_neg (show ¬ (-1 : Int64) = 14276022451 by decide), if_pos rfl, k0_cv2 h0, e_run (cw_9 h0 hr hn hT), hW, if_neg (show ¬ (-1 : Int64) = 2403507 by decide), if_pos rfl, k0_cv2 h0, e_run (cw_10 h0 hr hn hT), hW, if_neg (show ¬ (-1 : Int64) = 4689267 by decide), if_pos rfl, k0_cv2 h0, e_run (cw_11 h0 hr hn hT), hW, if_neg (show ¬ (-1 : Int64) = 278194 by decide), if_pos rfl, k0_cv2 h0, e_run (c_fl h0 1)]
        rfl
      obtain ⟨F', a1, a2, a3⟩ := c_nx hP (TKc_o hT (F' := ff F 1) (fun y j hy => ff_o (by omega)))
      have a4 : F' 2 9 = 8 * nI s + nI 1 := by
        rw [a3 2 9 (by omega), ff_0 e9, hT.1.2.1]
        rfl
      refine ⟨_, F', z_up2 (z_up2 G 75 8 1) 75 9 (G 75 4), 0, hc, a1, ?_, fun y j hy => (a3 y j (by omega)).trans (ff_o (by omega)), fun y j hy => by rw [u2_n _ _ (by omega), u2_n _ _ (by omega)], Or.inr ⟨rfl, JE_mk (k := 1) (s := s) (by omega) (by decide) (by decide) a2 a4 ?_ ?_, SK_o hS (fun y j hy => (a3 y j (by omega)).trans (ff_o (by omega))) (fun y j hy => by rw [u2_n _ _ (by omega), u2_n _ _ (by omega)])⟩⟩
      · unfold p_X9_factor
        rw [kn_gI h9, h6, if_neg ht, kn_gI h9, h6, if_neg t2, kn_cv h9, e_run (m_fact hP hs hM), hz, if_pos (show (0 : Int32) ≤ 0 by decide), j_L, kn_cv h9, e_run (m_must1 h9 e8 (by decide)), if_pos rfl]
        rfl
      · rw [u2_n _ _ (by omega), u2_s]
        rfl
      · rw [u2_s]
        exact hM.1.2.1
end PA69
