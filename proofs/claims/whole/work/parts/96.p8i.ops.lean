/-! ===== PHASE 2: both readers take a number, a word, a sign ===== -/
section PA63
variable {α β : Type} {M N : zM} {F F' F1 G G' G1 : Nat → Nat → Int32} {b : Nat → Int32} {i j k m n s s' lo sp : Nat} {p q q' c v w x : Int32}
/-- a number, or an error -/
theorem j_read {Q : Prop} (hP : PC M N b n sp) (hq : Q → q = q') (hJ : JE b n F G ∨ ((∃ s, lo ≤ s ∧ JO b n F G s) ∧ Q)) : ∃ F' G' w v, (p_X1_takeNumber 2 p q).1 (KI M F) = some (.inr w, KI M F') ∧ (p_X9_read 75 p q').1 (KI N G) = some (.inr v, KI N G') ∧ oc F F' ∧ om G G' ∧ (JE b n F' G' ∨ ((∃ s, lo ≤ s ∧ JO b n F' G' s) ∧ (Q ∧ w = v ∧ p ≤ v ∧ v ≤ q ∧ ∃ m, m < 10000 ∧ v = nI m))) := by
  have h9 := hP.2.1
  have hn := hP.2.2.1
  rcases hJ with hE | ⟨⟨s, hlo, hT, hM, e9, e8⟩, hQ⟩
  · obtain ⟨n1, n2⟩ := JE_n hE
    obtain ⟨⟨s, hT⟩, s0, k, h1, h2, h3, h4, h5, h6⟩ := hE
    obtain ⟨F', a1, a2, a3, a4⟩ := c_num (p := p) (q := q) hP hT
    rw [if_neg n1] at a4
    exact ⟨F', G, _, _, a1, m_rdE h9 n2, a3, om_rf, Or.inl ⟨⟨_, a2⟩, s0, k, h1, h2, h3, a4.trans h4, h5, h6⟩⟩
  · have eq := hq hQ
    subst eq
    have hs : s ≤ n := hT.2.2.1
    obtain ⟨F', a1, a2, a3, a4⟩ := c_num (p := p) (q := q) hP hT
    rw [if_pos e9] at a4
    have h6 := hM.1.2.2.2
    have h4 := hM.1.2.1
    by_cases k2 : tz_k b n s = 2
    · rw [if_pos k2] at a4
      obtain ⟨t2, tl, tw, m, m1, m2⟩ := tk_num hs k2
      have f8 : F 2 8 = nI m := by rw [hT.2.1 (by omega) tl, tw, m2]
      have g7 : G 75 7 = nI m := (hM.2.1 t2).trans m2
      rw [f8] at a4 a1
      by_cases hr : p ≤ nI m ∧ nI m ≤ q
      · rw [if_pos hr] at a4
        obtain ⟨G', b1, b2, b3⟩ := m_nx hP hs hM
        refine ⟨F', G', nI m, nI m, a1, ?_, a3, fun y j hy => b3 y j (by omega), Or.inr ⟨⟨tz_n2 b n s, ?_, a2, b2, a4, (b3 75 8 (by omega)).trans e8⟩, hQ, rfl, hr.1, hr.2, m, m1, rfl⟩⟩
        · unfold p_X9_read
          rw [kn_gI h9, h6, if_pos t2, j_L, kn_cv h9, e_run (m_must0 h9 e8 (by decide)), if_neg (by decide), kn_gI h9, g7, g9_wi, wi_iff, if_pos hr, kn_cv h9, e_run (m_must0 h9 e8 (by decide)), if_neg (by decide), kn_gI h9, g7, kn_cv h9, e_run b1]
          rfl
        · have := n2_b (b := b) hs
          omega
      · rw [if_neg hr] at a4
        refine ⟨F', z_up2 (z_up2 G 75 8 3) 75 9 (G 75 4), nI m, p, a1, ?_, a3, fun y j hy => by rw [u2_n _ _ (by omega), u2_n _ _ (by omega)], Or.inl (JE_mk (k := 3) (s := s) (by omega) (by decide) (by decide) a2 a4 ?_ ?_)⟩
        · unfold p_X9_read
          rw [kn_gI h9, h6, if_pos t2, j_L, kn_cv h9, e_run (m_must0 h9 e8 (by decide)), if_neg (by decide), kn_gI h9, g7, g9_wi, wi_iff, if_neg hr, kn_cv h9, e_run (m_must1 h9 e8 (by decide)), if_pos rfl]
          rfl
        · rw [u2_n _ _ (by omega), u2_s]
          rfl
        · rw [u2_s]
          exact h4
    · rw [if_neg k2] at a4
      have t2 : ¬ tz_t b n s = 2 := fun e => k2 (tk_t2.mp e)
      refine ⟨F', z_up2 (z_up2 G 75 8 1) 75 9 (G 75 4), F 2 8, p, a1, ?_, a3, fun y j hy => by rw [u2_n _ _ (by omega), u2_n _ _ (by omega)], Or.inl (JE_mk (k := 1) (s := s) (by omega) (by decide) (by decide) a2 a4 ?_ ?_)⟩
      · unfold p_X9_read
        rw [kn_gI h9, h6, if_neg t2, j_L, kn_cv h9, e_run (m_must1 h9 e8 (by decide)), if_pos rfl]
        rfl
      · rw [u2_n _ _ (by omega), u2_s]
        rfl
      · rw [u2_s]
        exact h4
/-- a word that may not come too often -/
theorem j_beg (hP : PC M N b n sp) (hJ : JO b n F G s) (hi : i < 138) (hc : G 77 i = c) : ∃ F' G' r, (p_X1_takeCountedWord 2 c q).1 (KI M F) = some (.inr (), KI M F') ∧ (p_X9_begins 75 (nI i) q).1 (KI N G) = some (.inr r, KI N G') ∧ oc F F' ∧ om G G' ∧ ((r = 1 ∧ c < q ∧ JO b n F' G' (tz_n2 b n s)) ∨ (r = 0 ∧ JE b n F' G')) := by
  have h9 := hP.2.1
  have hn := hP.2.2.1
  have h0 := hP.1.1
  by_cases hq : c < q
  · obtain ⟨F', G', a1, b1, j1, o1, o2⟩ := j_nx hP hJ
    have hnq : ¬ q ≤ c := fun w => by
      rw [i_le] at w
      rw [i_lt] at hq
      omega
    refine ⟨F', G', 1, ?_, ?_, o1, o2, Or.inl ⟨rfl, hq, j1⟩⟩
    · unfold p_X1_takeCountedWord
      rw [if_pos hq, j_L, k0_cv2 h0, e_run a1]
      rfl
    · unfold p_X9_begins
      rw [kn_g77 h9, kn_a77 h9 hi, hc, if_neg hnq, j_L, kn_cv h9, e_run (m_must0 h9 hJ.2.2.2 (by decide)), if_neg (by decide), kn_cv h9, e_run b1]
      rfl
  · have hle : q ≤ c := by
      rw [i_le]
      rw [i_lt] at hq
      omega
    obtain ⟨hT, hM, e9, e8⟩ := hJ
    obtain ⟨F', a1, a2, a3⟩ := c_nx hP (TKc_o hT (F' := ff F 4) (fun y j hy => ff_o (by omega)))
    have a4 : F' 2 9 = 8 * nI s + nI 4 := by
      rw [a3 2 9 (by omega), ff_0 e9, hT.1.2.1]
      rfl
    refine ⟨F', z_up2 (z_up2 G 75 8 4) 75 9 (G 75 4), 0, ?_, ?_, fun y j hy => (a3 y j (by omega)).trans (ff_o (by omega)), fun y j hy => by rw [u2_n _ _ (by omega), u2_n _ _ (by omega)], Or.inr ⟨rfl, JE_mk (k := 4) (s := s) (by have := hT.2.2.1; omega) (by decide) (by decide) a2 a4 ?_ ?_⟩⟩
    · unfold p_X1_takeCountedWord
      rw [if_neg hq, j_bd, k0_cv2 h0, e_run (c_fl h0 4), j_L, k0_cv2 h0, e_run a1]
      rfl
    · unfold p_X9_begins
      rw [kn_g77 h9, kn_a77 h9 hi, hc, if_pos hle, j_L, kn_cv h9, e_run (m_must1 h9 e8 (by decide)), if_pos rfl]
      rfl
    · rw [u2_n _ _ (by omega), u2_s]
      rfl
    · rw [u2_s]
      exact hM.1.2.1
/-- a word that comes but once -/
theorem j_once (hP : PC M N b n sp) (hJ : JO b n F G s) (h0c : c = 0 ↔ ((G 75 14 >>> (p &&& 31)) &&& 1) = 0) : ∃ F' G' r, (p_X1_takeSingleWord 2 c).1 (KI M F) = some (.inr (), KI M F') ∧ (p_X9_once 75 p).1 (KI N G) = some (.inr r, KI N G') ∧ oc F F' ∧ ((r = 1 ∧ c = 0 ∧ JO b n F' G' (tz_n2 b n s) ∧ om (z_up2 G 75 14 (G 75 14 ||| (1 <<< (p &&& 31)))) G') ∨ (r = 0 ∧ JE b n F' G' ∧ om G G')) := by
  have h9 := hP.2.1
  have hn := hP.2.2.1
  have h0 := hP.1.1
  by_cases hq : c = 0
  · have hb := h0c.mp hq
    obtain ⟨F', G', a1, b1, j1, o1, o2⟩ := j_nx hP (JO_o (F' := F) (G' := z_up2 G 75 14 (G 75 14 ||| (1 <<< (p &&& 31)))) hJ (fun _ _ _ => rfl) (fun y j hy => u2_n _ _ (by omega)))
    refine ⟨F', G', 1, ?_, ?_, o1, Or.inl ⟨rfl, hq, j1, o2⟩⟩
    · unfold p_X1_takeSingleWord
      rw [if_pos hq, j_L, k0_cv2 h0, e_run a1]
      rfl
    · unfold p_X9_once
      rw [kn_gI h9, if_pos hb, j_L, kn_cv h9, e_run (m_must0 h9 hJ.2.2.2 (by decide)), if_neg (by decide), kn_gI h9, kn_pI h9, kn_cv h9, e_run b1]
      rfl
  · have hb : ¬ ((G 75 14 >>> (p &&& 31)) &&& 1) = 0 := fun e => hq (h0c.mpr e)
    obtain ⟨hT, hM, e9, e8⟩ := hJ
    obtain ⟨F', a1, a2, a3⟩ := c_nx hP (TKc_o hT (F' := ff F 2) (fun y j hy => ff_o (by omega)))
    have a4 : F' 2 9 = 8 * nI s + nI 2 := by
      rw [a3 2 9 (by omega), ff_0 e9, hT.1.2.1]
      rfl
    refine ⟨F', z_up2 (z_up2 G 75 8 2) 75 9 (G 75 4), 0, ?_, ?_, fun y j hy => (a3 y j (by omega)).trans (ff_o (by omega)), Or.inr ⟨rfl, JE_mk (k := 2) (s := s) (by have := hT.2.2.1; omega) (by decide) (by decide) a2 a4 ?_ ?_, fun y j hy => by rw [u2_n _ _ (by omega), u2_n _ _ (by omega)]⟩⟩
    · unfold p_X1_takeSingleWord
      rw [if_neg hq, j_bd, k0_cv2 h0, e_run (c_fl h0 2), j_L, k0_cv2 h0, e_run a1]
      rfl
    · unfold p_X9_once
      rw [kn_gI h9, if_neg hb, j_L, kn_cv h9, e_run (m_must1 h9 e8 (by decide)), if_pos rfl]
      rfl
    · rw [u2_n _ _ (by omega), u2_s]
      rfl
    · rw [u2_s]
      exact hM.1.2.1
theorem c_exp (hP : PC M N b n sp) (hT : TKc b n F s) : ∃ F', (p_X1_expectSign 2 59).1 (KI M F) = some (.inr (), KI M F') ∧ TKc b n F' (tz_n2 b n s) ∧ oc F F' ∧ F' 2 9 = (if F 2 9 = 0 then (if tz_t b n s = 59 then 0 else 8 * nI s + 1) else F 2 9) := by
  have h0 := hP.1.1
  have h5 := hT.1.2.1
  have mid : ∀ F1, (∀ y j, ¬ (y = 2 ∧ j = 9) → F1 y j = F y j) → ∃ F', (p_X1_nextToken 2).1 (KI M F1) = some (.inr (), KI M F') ∧ TKc b n F' (tz_n2 b n s) ∧ oc F F' ∧ F' 2 9 = F1 2 9 := fun F1 g => by
    obtain ⟨F', a1, a2, a3⟩ := c_nx hP (TKc_o hT (fun y j hy => g y j (by omega)))
    exact ⟨F', a1, a2, fun y j hy => (a3 y j (by omega)).trans (g y j (by omega)), a3 2 9 (by omega)⟩
  unfold p_X1_expectSign
  rw [k0_cv2 h0, e_run (c_sgn hP hT (c := 59) (by decide))]
  by_cases g : tz_t b n s = 59
  · obtain ⟨F', a1, a2, a3, a4⟩ := mid F (fun _ _ _ => rfl)
    refine ⟨F', ?_, a2, a3, ?_⟩
    · rw [if_pos g, if_neg one_n0, j_L, k0_cv2 h0, e_run a1]
      rfl
    · rw [a4, if_pos g]
      split
      · assumption
      · rfl
  · obtain ⟨F', a1, a2, a3, a4⟩ := mid (ff F 1) (fun y j hy => ff_o hy)
    refine ⟨F', ?_, a2, a3, ?_⟩
    · rw [if_neg g, if_pos rfl, j_bd, k0_cv2 h0, e_run (c_fl h0 1), j_L, k0_cv2 h0, e_run a1]
      rfl
    · rw [a4, if_neg g]
      by_cases g9 : F 2 9 = 0
      · rw [if_pos g9, ff_0 g9, h5]
      · rw [if_neg g9, ff_1 g9]
/-- a statement's end -/
theorem j_exp {Q : Prop} (hP : PC M N b n sp) (hJ : JE b n F G ∨ ((∃ s, lo ≤ s ∧ JO b n F G s) ∧ Q)) : ∃ F' G', (p_X1_expectSign 2 59).1 (KI M F) = some (.inr (), KI M F') ∧ ((z_bd (z_gI 9 75 6) (fun v10 => (z_jn (τ := Int32) (if v10 = 59 then (z_pu (.inl 1)) else (z_pu (.inl 0))) (fun t11 => (z_bd (z_cv 9 75 (p_X9_must 75 t11 1)) (fun r12 => (if r12 = 0 then (z_pu (.inl ())) else (z_bd (z_cv 9 75 (p_X9_nextToken 75)) (fun _ => (z_pu (.inl ()))))))))))) : zP (Unit ⊕ (Unit ⊕ Int32))).1 (KI N G) = some (.inr (.inl ()), KI N G') ∧ oc F F' ∧ om G G' ∧ (JE b n F' G' ∨ ((∃ s, lo + 1 ≤ s ∧ JO b n F' G' s) ∧ Q)) := by
  have h9 := hP.2.1
  have hn := hP.2.2.1
  rcases hJ with hE | ⟨⟨s, hlo, hT, hM, e9, e8⟩, hQ⟩
  · obtain ⟨n1, n2⟩ := JE_n hE
    obtain ⟨⟨s, hT⟩, s0, k, h1, h2, h3, h4, h5, h6⟩ := hE
    obtain ⟨F', a1, a2, a3, a4⟩ := c_exp hP hT
    rw [if_neg n1] at a4
    refine ⟨F', G, a1, ?_, a3, om_rf, Or.inl ⟨⟨_, a2⟩, s0, k, h1, h2, h3, a4.trans h4, h5, h6⟩⟩
    rw [kn_gI h9]
    by_cases g : G 75 6 = 59
    · rw [if_pos g, j_L, kn_cv h9, e_run (m_mustE h9 n2), if_pos rfl]
      rfl
    · rw [if_neg g, j_L, kn_cv h9, e_run (m_mustE h9 n2), if_pos rfl]
      rfl
  · have hs : s ≤ n := hT.2.2.1
    obtain ⟨F', a1, a2, a3, a4⟩ := c_exp hP hT
    rw [if_pos e9] at a4
    have h6 := hM.1.2.2.2
    by_cases g : tz_t b n s = 59
    · rw [if_pos g] at a4
      obtain ⟨G', b1, b2, b3⟩ := m_nx hP hs hM
      refine ⟨F', G', a1, ?_, a3, fun y j hy => b3 y j (by omega), Or.inr ⟨⟨tz_n2 b n s, ?_, a2, b2, a4, (b3 75 8 (by omega)).trans e8⟩, hQ⟩⟩
      · rw [kn_gI h9, h6, if_pos g, j_L, kn_cv h9, e_run (m_must0 h9 e8 (by decide)), if_neg one_n0, kn_cv h9, e_run b1]
        rfl
      · have h1 := n2_b (b := b) hs
        have h2 : ¬ n ≤ s := fun w => by
          have := tk_t0.mpr ((tk_0 (b := b)).mpr w)
          rw [g] at this
          exact absurd this (by decide)
        omega
    · rw [if_neg g] at a4
      refine ⟨F', z_up2 (z_up2 G 75 8 1) 75 9 (G 75 4), a1, ?_, a3, fun y j hy => by rw [u2_n _ _ (by omega), u2_n _ _ (by omega)], Or.inl (JE_mk (k := 1) (s := s) (by omega) (by decide) (by decide) a2 a4 ?_ ?_)⟩
      · rw [kn_gI h9, h6, if_neg g, j_L, kn_cv h9, e_run (m_must1 h9 e8 (by decide)), if_pos rfl]
        rfl
      · rw [u2_n _ _ (by omega), u2_s]
        rfl
      · rw [u2_s]
        exact hM.1.2.1
theorem c_numE (hP : PC M N b n sp) (hE : JE b n F G) : ∃ F' w, (p_X1_takeNumber 2 p q).1 (KI M F) = some (.inr w, KI M F') ∧ oc F F' ∧ JE b n F' G := by
  obtain ⟨n1, n2⟩ := JE_n hE
  obtain ⟨⟨s, hT⟩, s0, k, h1, h2, h3, h4, h5, h6⟩ := hE
  obtain ⟨F', a1, a2, a3, a4⟩ := c_num (p := p) (q := q) hP hT
  rw [if_neg n1] at a4
  exact ⟨F', _, a1, a3, ⟨_, a2⟩, s0, k, h1, h2, h3, a4.trans h4, h5, h6⟩
theorem J_o {Q : Prop} (h : JE b n F G ∨ ((∃ s, lo ≤ s ∧ JO b n F G s) ∧ Q)) (g : ∀ y j, (y = 1 ∨ (y = 2 ∧ 4 ≤ j ∧ j ≤ 9)) → F' y j = F y j) (g2 : ∀ y j, (y = 76 ∨ (y = 75 ∧ 3 ≤ j ∧ j ≤ 9)) → G' y j = G y j) : JE b n F' G' ∨ ((∃ s, lo ≤ s ∧ JO b n F' G' s) ∧ Q) := by
  rcases h with h | ⟨⟨s, h1, h2⟩, hQ⟩
  · exact Or.inl (JE_o h g (fun j hj => g2 75 j (by omega)))
  · exact Or.inr ⟨⟨s, h1, JO_o h2 g (fun y j hy => g2 y j (by omega))⟩, hQ⟩
theorem oc_r {y : Nat} (h : oc F F') (hy : y ≠ 2) : F' y = F y := funext fun j => h y j (fun q => hy q.1)
theorem om_r {y : Nat} (h : om G G') (hy : y ≠ 75) : G' y = G y := funext fun j => h y j (fun q => hy q.1)
theorem u2_rs {a k : Nat} : z_up2 F a k x a = s_up (F a) k x := by
  funext j
  by_cases e : j = k
  · rw [e, u2_s, s_ups]
  · rw [u2_n _ _ (Or.inr e), s_upn _ _ e]
theorem le_nI {k m : Nat} (h : nI m ≤ nI k) (hm : m < 2 ^ 31) : m ≤ k := by
  by_cases g : m ≤ k
  · exact g
  · exact absurd h (nI_ge (by omega) hm)
theorem le_dec {k m : Nat} (h : nI m ≤ nI k - 1) (hm : m < 2 ^ 31) : m < k := by
  by_cases g : k = 0
  · subst g
    rw [i_le, nI_toInt hm] at h
    have z : (nI 0 - 1).toInt = -1 := by decide
    omega
  · rw [nI_dec' (by omega)] at h
    have := le_nI h hm
    omega
theorem kb_ct {f : Nat → zP β} (hP : PC M N b n sp) : (z_bd (z_gA 1 2 3) f).1 (KI M F) = (f sp).1 (KI M F) := ki_gA (k0_is2 hP.1.1) hP.1.2.2.1
end PA63
