/-! ===== PHASE 2: both readers at one token ===== -/
/-- where the token behind the one at s begins -/
def tz_n2 (b : Nat → Int32) (n s : Nat) : Nat := tz_b0 b n (tz_e b n s)
/-- what stays while a text is read: M the class's memory, N the model's -/
def PC (M N : zM) (b : Nat → Int32) (n sp : Nat) : Prop := (L0 M ∧ z_r M 2 2 = some 1 ∧ z_r M 2 3 = some sp ∧ LC sp M) ∧ L9 N ∧ n ≤ 700 ∧ (∀ j, j < n → ∃ y : Int8, b j = y.toInt32) ∧ (sp = 15 ∨ sp = 28)
/-- no error yet -/
def JO (b : Nat → Int32) (n : Nat) (F G : Nat → Nat → Int32) (s : Nat) : Prop := TKc b n F s ∧ TKm b n G s ∧ F 2 9 = 0 ∧ G 75 8 = 0
/-- the same error -/
def JE (b : Nat → Int32) (n : Nat) (F G : Nat → Nat → Int32) : Prop := (∃ s, TKc b n F s) ∧ ∃ s0 k, s0 ≤ 700 ∧ 1 ≤ k ∧ k ≤ 4 ∧ F 2 9 = nI (8 * s0 + k) ∧ G 75 8 = nI k ∧ G 75 9 = nI s0
def oc (F F' : Nat → Nat → Int32) : Prop := ∀ y j, ¬ (y = 2 ∧ 5 ≤ j ∧ j ≤ 9) → F' y j = F y j
def om (G G' : Nat → Nat → Int32) : Prop := ∀ y j, ¬ (y = 75 ∧ 4 ≤ j ∧ j ≤ 9) → G' y j = G y j
def ff (F : Nat → Nat → Int32) (p : Int32) : Nat → Nat → Int32 := if F 2 9 = 0 then z_up2 F 2 9 (8 * F 2 5 + p) else F
/-- an operator's sign as the class keeps it -/
def oo (t : Int32) : Int32 := if t = 42 then -7 else if t = 43 then -5 else if t = 45 then -6 else if t = 47 then -8 else 0
section PA62
variable {α β : Type} {M N : zM} {F F' F1 G G' G1 : Nat → Nat → Int32} {b : Nat → Int32} {i j k m n s s' lo sp : Nat} {p q q' c v w x : Int32}
theorem e_id {P : zP α} : (z_bd P z_pu).1 M = P.1 M := by
  show z_bdf P.1 (fun a => (z_pu a).1) M = _
  unfold z_bdf
  cases h : P.1 M with
  | none => rfl
  | some r =>
    obtain ⟨x, M1⟩ := r
    cases x with
    | inl E => rfl
    | inr a => rfl
theorem oc_rf : oc F F := fun _ _ _ => rfl
theorem om_rf : om G G := fun _ _ _ => rfl
theorem oc_tr (h : oc F F1) (g : oc F1 F') : oc F F' := fun y j hn => (g y j hn).trans (h y j hn)
theorem om_tr (h : om G G1) (g : om G1 G') : om G G' := fun y j hn => (g y j hn).trans (h y j hn)
theorem TKc_o (h : TKc b n F s) (g : ∀ y j, (y = 1 ∨ (y = 2 ∧ 4 ≤ j ∧ j ≤ 8)) → F' y j = F y j) : TKc b n F' s := by
  obtain ⟨⟨h4, h5, h6, h7⟩, h8, hs, hb⟩ := h
  exact ⟨⟨(g 2 4 (by omega)).trans h4, (g 2 5 (by omega)).trans h5, (g 2 6 (by omega)).trans h6, (g 2 7 (by omega)).trans h7⟩, fun q1 q2 => (g 2 8 (by omega)).trans (h8 q1 q2), hs, fun j hj => (g 1 j (by omega)).trans (hb j hj)⟩
theorem TKm_o (h : TKm b n G s) (g : ∀ y j, (y = 76 ∨ (y = 75 ∧ 3 ≤ j ∧ j ≤ 7)) → G' y j = G y j) : TKm b n G' s := by
  obtain ⟨⟨h4, h5, h6, h7⟩, h8, hb⟩ := h
  exact ⟨⟨(g 75 3 (by omega)).trans h4, (g 75 4 (by omega)).trans h5, (g 75 5 (by omega)).trans h6, (g 75 6 (by omega)).trans h7⟩, fun q1 => (g 75 7 (by omega)).trans (h8 q1), fun j hj => (g 76 j (by omega)).trans (hb j hj)⟩
theorem JO_o (h : JO b n F G s) (g : ∀ y j, (y = 1 ∨ (y = 2 ∧ 4 ≤ j ∧ j ≤ 9)) → F' y j = F y j) (g2 : ∀ y j, (y = 76 ∨ (y = 75 ∧ 3 ≤ j ∧ j ≤ 8)) → G' y j = G y j) : JO b n F' G' s := ⟨TKc_o h.1 (fun y j q => g y j (by omega)), TKm_o h.2.1 (fun y j q => g2 y j (by omega)), (g 2 9 (by omega)).trans h.2.2.1, (g2 75 8 (by omega)).trans h.2.2.2⟩
theorem JE_o (h : JE b n F G) (g : ∀ y j, (y = 1 ∨ (y = 2 ∧ 4 ≤ j ∧ j ≤ 9)) → F' y j = F y j) (g2 : ∀ j, (j = 8 ∨ j = 9) → G' 75 j = G 75 j) : JE b n F' G' := by
  obtain ⟨⟨s, hs⟩, s0, k, h1, h2, h3, h4, h5, h6⟩ := h
  exact ⟨⟨s, TKc_o hs (fun y j q => g y j (by omega))⟩, s0, k, h1, h2, h3, (g 2 9 (by omega)).trans h4, (g2 8 (by omega)).trans h5, (g2 9 (by omega)).trans h6⟩
theorem n83 (s k : Nat) : (8 : Int32) * nI s + nI k = nI (8 * s + k) := by
  show nI 8 * nI s + nI k = _
  rw [nI_mul, nI_add]
theorem nI_n0 {k : Nat} (h : 1 ≤ k) (hk : k < 2 ^ 31) : ¬ nI k = 0 := fun e => by
  have := nq_inj (b := 0) hk (by decide) e
  omega
theorem JE_n (h : JE b n F G) : ¬ F 2 9 = 0 ∧ ¬ G 75 8 = 0 := by
  obtain ⟨_, s0, k, h1, h2, h3, h4, h5, h6⟩ := h
  rw [h4, h5]
  exact ⟨nI_n0 (by omega) (by omega), nI_n0 (by omega) (by omega)⟩
theorem JE_mk (hs : s ≤ 700) (h1 : 1 ≤ k) (h4 : k ≤ 4) (hT : TKc b n F s') (hF : F 2 9 = 8 * nI s + nI k) (hG : G 75 8 = nI k) (hG9 : G 75 9 = nI s) : JE b n F G := ⟨⟨s', hT⟩, s, k, hs, h1, h4, hF.trans (n83 s k), hG, hG9⟩
theorem n2_b (hs : s ≤ n) : s ≤ tz_n2 b n s ∧ tz_n2 b n s ≤ n ∧ (s < n → s < tz_n2 b n s) := by
  have h1 := tz_eb (b := b) hs
  have h2 := tz_b (p := tz_ws b) h1.2.1
  unfold tz_n2 tz_b0
  omega
theorem c_nx (hP : PC M N b n sp) (hT : TKc b n F s) : ∃ F', (p_X1_nextToken 2).1 (KI M F) = some (.inr (), KI M F') ∧ TKc b n F' (tz_n2 b n s) ∧ ∀ y j, ¬ (y = 2 ∧ 5 ≤ j ∧ j ≤ 8) → F' y j = F y j := by
  obtain ⟨⟨h0, hr, _, _⟩, _, hn, _, _⟩ := hP
  obtain ⟨⟨h4, h5, h6, h7⟩, h8, hs, hb⟩ := hT
  have he := tz_eb (b := b) hs
  obtain ⟨F', g1, g2, g3, g4, g5, g6⟩ := c_next (f := z_pu) h0 hr hn he.2.1 hb h4 h6
  exact ⟨F', e_id.symm.trans g1, ⟨⟨(g6 2 4 (by omega)).trans h4, g2, g3, g4⟩, g5, (n2_b hs).2.1, fun j hj => (g6 1 j (by omega)).trans (hb j hj)⟩, g6⟩
theorem m_nx (hP : PC M N b n sp) (hs : s ≤ n) (hT : TKm b n G s) : ∃ G', (p_X9_nextToken 75).1 (KI N G) = some (.inr (), KI N G') ∧ TKm b n G' (tz_n2 b n s) ∧ ∀ y j, ¬ (y = 75 ∧ 4 ≤ j ∧ j ≤ 7) → G' y j = G y j := by
  obtain ⟨_, h9, hn, hB, _⟩ := hP
  obtain ⟨⟨h3, h4, h5, h6⟩, h7, hb⟩ := hT
  have he := tz_eb (b := b) hs
  obtain ⟨G', g1, g2, g3, g4, g5, g6⟩ := m_next (f := z_pu) h9 hn hB he.2.1 hb h3 h5
  exact ⟨G', e_id.symm.trans g1, ⟨⟨(g6 75 3 (by omega)).trans h3, g2, g3, g4⟩, g5, fun j hj => (g6 76 j (by omega)).trans (hb j hj)⟩, g6⟩
/-- both go on -/
theorem j_nx (hP : PC M N b n sp) (hJ : JO b n F G s) : ∃ F' G', (p_X1_nextToken 2).1 (KI M F) = some (.inr (), KI M F') ∧ (p_X9_nextToken 75).1 (KI N G) = some (.inr (), KI N G') ∧ JO b n F' G' (tz_n2 b n s) ∧ oc F F' ∧ om G G' := by
  obtain ⟨hT, hM, e1, e2⟩ := hJ
  obtain ⟨F', a1, a2, a3⟩ := c_nx hP hT
  obtain ⟨G', b1, b2, b3⟩ := m_nx hP hT.2.2.1 hM
  exact ⟨F', G', a1, b1, ⟨a2, b2, (a3 2 9 (by omega)).trans e1, (b3 75 8 (by omega)).trans e2⟩, fun y j hy => a3 y j (by omega), fun y j hy => b3 y j (by omega)⟩
theorem ff_o {y j : Nat} (h : ¬ (y = 2 ∧ j = 9)) : ff F p y j = F y j := by
  unfold ff
  split
  · exact u2_n _ _ (by omega)
  · rfl
theorem ff_0 (h : F 2 9 = 0) : ff F p 2 9 = 8 * F 2 5 + p := by
  unfold ff
  rw [if_pos h, u2_s]
theorem ff_1 (h : ¬ F 2 9 = 0) : ff F p = F := if_neg h
theorem c_fl (h : L0 M) (p : Int32) : (p_X1_fail 2 p).1 (KI M F) = some (.inr (), KI M (ff F p)) := by
  unfold p_X1_fail ff
  rw [k0_gI2 h]
  by_cases g : F 2 9 = 0
  · rw [if_pos g, if_pos g, k0_gI2 h, k0_pI2 h]
    rfl
  · rw [if_neg g, if_neg g]
    rfl
theorem c_num (hP : PC M N b n sp) (hT : TKc b n F s) : ∃ F', (p_X1_takeNumber 2 p q).1 (KI M F) = some (.inr (F 2 8), KI M F') ∧ TKc b n F' (tz_n2 b n s) ∧ oc F F' ∧ F' 2 9 = (if F 2 9 = 0 then (if tz_k b n s = 2 then (if p ≤ F 2 8 ∧ F 2 8 ≤ q then 0 else 8 * nI s + 3) else 8 * nI s + 1) else F 2 9) := by
  have h0 := hP.1.1
  have h7 := hT.1.2.2.2
  have h5 := hT.1.2.1
  have mid : ∀ F1, (∀ y j, ¬ (y = 2 ∧ j = 9) → F1 y j = F y j) → ∃ F', (p_X1_nextToken 2).1 (KI M F1) = some (.inr (), KI M F') ∧ TKc b n F' (tz_n2 b n s) ∧ oc F F' ∧ F' 2 9 = F1 2 9 := fun F1 g => by
    obtain ⟨F', a1, a2, a3⟩ := c_nx hP (TKc_o hT (fun y j hy => g y j (by omega)))
    exact ⟨F', a1, a2, fun y j hy => (a3 y j (by omega)).trans (g y j (by omega)), a3 2 9 (by omega)⟩
  unfold p_X1_takeNumber
  rw [k0_gI2 h0, k0_gI2 h0, h7]
  by_cases k2 : tz_k b n s = 2
  · rw [if_pos (show nI (tz_k b n s) = 2 by rw [k2]; rfl), if_pos k2]
    by_cases hr : p ≤ F 2 8 ∧ F 2 8 ≤ q
    · obtain ⟨F', a1, a2, a3, a4⟩ := mid F (fun _ _ _ => rfl)
      refine ⟨F', ?_, a2, a3, ?_⟩
      · have hnl : ¬ F 2 8 < p := fun w => by
          have := hr.1
          rw [i_le] at this
          rw [i_lt] at w
          omega
        rw [if_neg hnl, if_pos hr.2, j_R, j_L, k0_cv2 h0, e_run a1]
        rfl
      · rw [a4, if_pos hr]
        split
        · assumption
        · rfl
    · obtain ⟨F', a1, a2, a3, a4⟩ := mid (ff F 3) (fun y j hy => ff_o hy)
      refine ⟨F', ?_, a2, a3, ?_⟩
      · by_cases hl : F 2 8 < p
        · rw [if_pos hl, j_L, j_bd, k0_cv2 h0, e_run (c_fl h0 3), j_L, k0_cv2 h0, e_run a1]
          rfl
        · have hg : ¬ F 2 8 ≤ q := fun w => hr ⟨by rw [i_le]; rw [i_lt] at hl; omega, w⟩
          rw [if_neg hl, if_neg hg, j_L, j_bd, k0_cv2 h0, e_run (c_fl h0 3), j_L, k0_cv2 h0, e_run a1]
          rfl
      · rw [a4, if_neg hr]
        by_cases g : F 2 9 = 0
        · rw [if_pos g, ff_0 g, h5]
        · rw [if_neg g, ff_1 g]
  · have hk : ¬ nI (tz_k b n s) = 2 := fun e => k2 (nq_inj (b := 2) (by have := tk_lt5 (b := b) (n := n) (s := s); omega) (by decide) e)
    rw [if_neg hk, if_neg k2]
    obtain ⟨F', a1, a2, a3, a4⟩ := mid (ff F 1) (fun y j hy => ff_o hy)
    refine ⟨F', ?_, a2, a3, ?_⟩
    · rw [j_bd, k0_cv2 h0, e_run (c_fl h0 1), j_L, k0_cv2 h0, e_run a1]
      rfl
    · rw [a4]
      by_cases g : F 2 9 = 0
      · rw [if_pos g, ff_0 g, h5]
      · rw [if_neg g, ff_1 g]
theorem m_must0 (h : L9 N) (h8 : G 75 8 = 0) (hc : ¬ c = 0) : (p_X9_must 75 c p).1 (KI N G) = some (.inr 1, KI N G) := by
  unfold p_X9_must
  rw [kn_gI h, if_pos h8, if_neg hc, j_L, kn_gI h, if_pos h8]
  rfl
theorem m_must1 (h : L9 N) (h8 : G 75 8 = 0) (hp : ¬ p = 0) : (p_X9_must 75 0 p).1 (KI N G) = some (.inr 0, KI N (z_up2 (z_up2 G 75 8 p) 75 9 (G 75 4))) := by
  unfold p_X9_must
  have e4 : z_up2 G 75 8 p 75 4 = G 75 4 := u2_n _ _ (by omega)
  have e8 : ¬ z_up2 (z_up2 G 75 8 p) 75 9 (G 75 4) 75 8 = 0 := by
    rw [u2_n _ _ (by omega), u2_s]
    exact hp
  rw [kn_gI h, if_pos h8, if_pos rfl, j_bd, kn_pI h, j_bd, kn_gI h, e4, j_bd, kn_pI h, j_L, kn_gI h, if_neg e8]
  rfl
theorem m_mustE (h : L9 N) (h8 : ¬ G 75 8 = 0) : (p_X9_must 75 c p).1 (KI N G) = some (.inr 0, KI N G) := by
  unfold p_X9_must
  rw [kn_gI h, if_neg h8, j_L, kn_gI h, if_neg h8]
  rfl
theorem m_rdE (h : L9 N) (h8 : ¬ G 75 8 = 0) : (p_X9_read 75 p q).1 (KI N G) = some (.inr p, KI N G) := by
  unfold p_X9_read
  rw [kn_gI h]
  by_cases g : G 75 6 = 2
  · rw [if_pos g, j_L, kn_cv h, e_run (m_mustE h h8), if_pos rfl]
    rfl
  · rw [if_neg g, j_L, kn_cv h, e_run (m_mustE h h8), if_pos rfl]
    rfl
theorem dig_ok {x : Int32} (h : 48 ≤ x ∧ x ≤ 57) : ∃ d, d < 10 ∧ x = nI (d + 48) := by
  have h1 := h.1
  have h2 := h.2
  rw [i_le] at h1 h2
  have z1 : (48 : Int32).toInt = 48 := rfl
  have z2 : (57 : Int32).toInt = 57 := rfl
  have h0 : (0 : Int32) ≤ x := by
    rw [i_le]
    have z0 : (0 : Int32).toInt = 0 := rfl
    omega
  have e : x = nI x.toNatClampNeg := (Int32.ofNat_toNatClampNeg x h0).symm
  have l1 : 48 ≤ x.toNatClampNeg ∧ x.toNatClampNeg ≤ 57 := by
    show 48 ≤ x.toInt.toNat ∧ x.toInt.toNat ≤ 57
    omega
  refine ⟨x.toNatClampNeg - 48, by omega, ?_⟩
  rw [show x.toNatClampNeg - 48 + 48 = x.toNatClampNeg by omega]
  exact e
theorem tv_ok : ∀ k, (∀ t, t < k → tz_di b (s + t) = true) → ∃ m, m < 10 ^ k ∧ tz_v b s k = nI m
  | 0, _ => ⟨0, by decide, rfl⟩
  | k + 1, h => by
    obtain ⟨m, m1, m2⟩ := tv_ok k (fun t ht => h t (by omega))
    obtain ⟨d, d1, d2⟩ := dig_ok (of_decide_eq_true (h k (by omega)))
    refine ⟨10 * m + d, ?_, ?_⟩
    · rw [Nat.pow_succ]
      generalize 10 ^ k = u at m1 ⊢
      omega
    · show 10 * tz_v b s k + b (s + k) - 48 = _
      rw [m2, d2]
      show nI 10 * nI m + nI (d + 48) - nI 48 = _
      rw [nI_mul, nI_add, nI_sub (by omega), show 10 * m + (d + 48) - 48 = 10 * m + d by omega]
/-- a number token -/
theorem tk_num (hs : s ≤ n) (h : tz_k b n s = 2) : tz_t b n s = 2 ∧ tz_le b s = false ∧ tz_w b n s = tz_v b s (tz_e b n s - s) ∧ ∃ m, m < 10000 ∧ tz_v b s (tz_e b n s - s) = nI m := by
  rcases tk_all b n s with q | q | q | q | q
  · omega
  · omega
  · obtain ⟨q1, q2, q3, q4, q5, q6⟩ := q
    refine ⟨q3, q4, ?_, ?_⟩
    · unfold tz_w
      rw [if_pos q5]
    · have he : tz_e b n s = tz_to (tz_di b) n s := by
        unfold tz_e
        rw [if_neg (by omega), if_neg (by rw [q4]; decide), if_pos q5]
      obtain ⟨m, m1, m2⟩ := tv_ok (b := b) (s := s) (tz_e b n s - s) (fun t ht => tz_all (p := tz_di b) (n := n) (i := s) (s + t) (by omega) (by rw [← he]; omega))
      have h2 : 10 ^ (tz_e b n s - s) ≤ 10 ^ 4 := Nat.pow_le_pow_right (by decide) q6
      have h3 : 10 ^ 4 = 10000 := by decide
      exact ⟨m, by omega, m2⟩
  · omega
  · omega
theorem tk_t2 : tz_t b n s = 2 ↔ tz_k b n s = 2 := by
  rcases tk_all b n s with q | q | q | q | q
  · rw [q.2.1, q.2.2]; decide
  · rw [q.2.1, q.2.2.1]; decide
  · rw [q.2.1, q.2.2.1]; decide
  · rw [q.2.1, q.2.2.1]
    exact ⟨fun e => absurd e (sg_n _ q.2.2.2.2.2).2.2.1, fun e => absurd e (by decide)⟩
  · rw [q.2.1, q.2.2]; decide
theorem tk_t0 : tz_t b n s = 0 ↔ tz_k b n s = 0 := by
  rcases tk_all b n s with q | q | q | q | q
  · rw [q.2.1, q.2.2]; decide
  · rw [q.2.1, q.2.2.1]; decide
  · rw [q.2.1, q.2.2.1]; decide
  · rw [q.2.1, q.2.2.1]
    exact ⟨fun e => absurd e (sg_n _ q.2.2.2.2.2).1, fun e => absurd e (by decide)⟩
  · rw [q.2.1, q.2.2]; decide
theorem tk_0 : tz_k b n s = 0 ↔ n ≤ s := by
  rcases tk_all b n s with q | q | q | q | q <;> omega
theorem c_sgn (hP : PC M N b n sp) (hT : TKc b n F s) (hc : tz_sg c = true) : (p_X1_isSign 2 c).1 (KI M F) = some (.inr (if tz_t b n s = c then 1 else 0), KI M F) := by
  have h0 := hP.1.1
  have h7 := hT.1.2.2.2
  obtain ⟨c0, c1, c2, c3⟩ := sg_n c hc
  have no : ¬ tz_k b n s = 3 → ¬ tz_t b n s = c → (p_X1_isSign 2 c).1 (KI M F) = some (.inr (if tz_t b n s = c then 1 else 0), KI M F) := fun g1 g2 => by
    unfold p_X1_isSign
    rw [k0_gI2 h0, h7, if_neg (show ¬ nI (tz_k b n s) = 3 from fun e => g1 (nq_inj (b := 3) (by have := tk_lt5 (b := b) (n := n) (s := s); omega) (by decide) e)), if_neg g2]
    rfl
  rcases tk_all b n s with q | q | q | q | q
  · exact no (by omega) (by rw [q.2.2]; exact fun e => c0 e.symm)
  · exact no (by omega) (by rw [q.2.2.1]; exact fun e => c1 e.symm)
  · exact no (by omega) (by rw [q.2.2.1]; exact fun e => c2 e.symm)
  · obtain ⟨q1, q2, q3, q4, q5, q6⟩ := q
    have e8 : F 2 8 = b s := by
      rw [hT.2.1 (by omega) q4]
      unfold tz_w
      rw [if_neg (by rw [q5]; decide)]
    unfold p_X1_isSign
    rw [k0_gI2 h0, h7, q2, if_pos (show nI 3 = 3 from rfl), k0_gI2 h0, e8, q3]
    split <;> rfl
  · exact no (by omega) (by rw [q.2.2]; exact fun e => c3 e.symm)
theorem c_opt (hP : PC M N b n sp) (hT : TKc b n F s) : (p_X1_operatorOfToken 2).1 (KI M F) = some (.inr (oo (tz_t b n s)), KI M F) := by
  have h0 := hP.1.1
  have h7 := hT.1.2.2.2
  have no : ¬ tz_k b n s = 3 → oo (tz_t b n s) = 0 → (p_X1_operatorOfToken 2).1 (KI M F) = some (.inr (oo (tz_t b n s)), KI M F) := fun g1 g2 => by
    unfold p_X1_operatorOfToken
    rw [k0_gI2 h0, h7, if_neg (show ¬ nI (tz_k b n s) = 3 from fun e => g1 (nq_inj (b := 3) (by have := tk_lt5 (b := b) (n := n) (s := s); omega) (by decide) e)), g2]
    rfl
  rcases tk_all b n s with q | q | q | q | q
  · exact no (by omega) (by rw [q.2.2]; decide)
  · exact no (by omega) (by rw [q.2.2.1]; decide)
  · exact no (by omega) (by rw [q.2.2.1]; decide)
  · obtain ⟨q1, q2, q3, q4, q5, q6⟩ := q
    have e8 : F 2 8 = b s := by
      rw [hT.2.1 (by omega) q4]
      unfold tz_w
      rw [if_neg (by rw [q5]; decide)]
    unfold p_X1_operatorOfToken
    rw [k0_gI2 h0, h7, q2, if_pos (show nI 3 = 3 from rfl), k0_gI2 h0, e8, q3]
    generalize b s = z
    unfold oo
    by_cases z1 : z = 42
    · rw [if_pos z1, if_pos z1]; rfl
    · rw [if_neg z1, if_neg z1]
      by_cases z2 : z = 43
      · rw [if_pos z2, if_pos z2]; rfl
      · rw [if_neg z2, if_neg z2]
        by_cases z3 : z = 44
        · rw [if_pos z3, z3]; rfl
        · rw [if_neg z3]
          by_cases z4 : z = 45
          · rw [if_pos z4, if_pos z4]; rfl
          · rw [if_neg z4, if_neg z4]
            by_cases z5 : z = 46
            · rw [if_pos z5, z5]; rfl
            · rw [if_neg z5]
              by_cases z6 : z = 47
              · rw [if_pos z6, if_pos z6]; rfl
              · rw [if_neg z6, if_neg z6]; rfl
  · exact no (by omega) (by rw [q.2.2]; decide)
end PA62
