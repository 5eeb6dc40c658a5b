/-! ===== PHASE 2: a word, as both readers know it ===== -/
/-- the letters of the token at s: a 1, z 26 -/
def tz_a (b : Nat → Int32) (s t : Nat) : Nat := (b (s + t)).toNatClampNeg - 96
/-- the token's word as a number -/
def tz_W (b : Nat → Int32) (n s : Nat) : Int64 := if tz_k b n s = 1 then Int64.ofNat (tz_c (tz_a b s) (tz_e b n s - s)) else -1
/-- the class's reader stands at the token that begins at s -/
def TKc (b : Nat → Int32) (n : Nat) (F : Nat → Nat → Int32) (s : Nat) : Prop := (F 2 4 = nI n ∧ F 2 5 = nI s ∧ F 2 6 = nI (tz_e b n s) ∧ F 2 7 = nI (tz_k b n s)) ∧ (2 ≤ tz_k b n s → tz_le b s = false → F 2 8 = tz_w b n s) ∧ s ≤ n ∧ ∀ j, j < n → F 1 j = b j
/-- the model's -/
def TKm (b : Nat → Int32) (n : Nat) (G : Nat → Nat → Int32) (s : Nat) : Prop := (G 75 3 = nI n ∧ G 75 4 = nI s ∧ G 75 5 = nI (tz_e b n s) ∧ G 75 6 = tz_t b n s) ∧ (tz_t b n s = 2 → G 75 7 = tz_v b s (tz_e b n s - s)) ∧ ∀ j, j < n → G 76 j = b j
section PA61
variable {β : Type} {M N : zM} {F G : Nat → Nat → Int32} {b : Nat → Int32} {ch : Nat → Nat} {w len i j k n s e : Nat}
theorem tz_eb (h : s ≤ n) : s ≤ tz_e b n s ∧ tz_e b n s ≤ n ∧ (s < n → s < tz_e b n s) := by
  unfold tz_e
  by_cases h1 : n ≤ s
  · rw [if_pos h1]
    omega
  · rw [if_neg h1]
    by_cases h2 : tz_le b s = true
    · rw [if_pos h2, tz_s (by omega) h2]
      have := tz_b (p := tz_le b) (show s + 1 ≤ n by omega)
      omega
    · rw [if_neg h2]
      by_cases h3 : tz_di b s = true
      · rw [if_pos h3, tz_s (by omega) h3]
        have := tz_b (p := tz_di b) (show s + 1 ≤ n by omega)
        omega
      · rw [if_neg h3]
        omega
/-- the five kinds of token -/
theorem tk_all (b : Nat → Int32) (n s : Nat) : (n ≤ s ∧ tz_k b n s = 0 ∧ tz_t b n s = 0) ∨ (s < n ∧ tz_k b n s = 1 ∧ tz_t b n s = 1 ∧ tz_le b s = true ∧ tz_e b n s - s ≤ 8) ∨ (s < n ∧ tz_k b n s = 2 ∧ tz_t b n s = 2 ∧ tz_le b s = false ∧ tz_di b s = true ∧ tz_e b n s - s ≤ 4) ∨ (s < n ∧ tz_k b n s = 3 ∧ tz_t b n s = b s ∧ tz_le b s = false ∧ tz_di b s = false ∧ tz_sg (b s) = true) ∨ (s < n ∧ tz_k b n s = 4 ∧ tz_t b n s = 3) := by
  unfold tz_k tz_t
  by_cases h1 : n ≤ s
  · rw [if_pos h1, if_pos h1]
    exact Or.inl ⟨h1, rfl, rfl⟩
  · rw [if_neg h1, if_neg h1]
    have h1' : s < n := by omega
    by_cases h2 : tz_le b s = true
    · rw [if_pos h2, if_pos h2]
      by_cases h3 : tz_e b n s - s ≤ 8
      · rw [if_pos h3, if_pos h3]
        exact Or.inr (Or.inl ⟨h1', rfl, rfl, h2, h3⟩)
      · rw [if_neg h3, if_neg h3]
        exact Or.inr (Or.inr (Or.inr (Or.inr ⟨h1', rfl, rfl⟩)))
    · have h2' : tz_le b s = false := Bool.eq_false_iff.mpr h2
      rw [if_neg h2, if_neg h2]
      by_cases h4 : tz_di b s = true
      · rw [if_pos h4, if_pos h4]
        by_cases h3 : tz_e b n s - s ≤ 4
        · rw [if_pos h3, if_pos h3]
          exact Or.inr (Or.inr (Or.inl ⟨h1', rfl, rfl, h2', h4, h3⟩))
        · rw [if_neg h3, if_neg h3]
          exact Or.inr (Or.inr (Or.inr (Or.inr ⟨h1', rfl, rfl⟩)))
      · have h4' : tz_di b s = false := Bool.eq_false_iff.mpr h4
        rw [if_neg h4, if_neg h4]
        by_cases h5 : tz_sg (b s) = true
        · rw [if_pos h5, if_pos h5]
          exact Or.inr (Or.inr (Or.inr (Or.inl ⟨h1', rfl, rfl, h2', h4', h5⟩)))
        · rw [if_neg h5, if_neg h5]
          exact Or.inr (Or.inr (Or.inr (Or.inr ⟨h1', rfl, rfl⟩)))
theorem sg_n (x : Int32) (h : tz_sg x = true) : ¬ x = 0 ∧ ¬ x = 1 ∧ ¬ x = 2 ∧ ¬ x = 3 := by
  refine ⟨fun e => ?_, fun e => ?_, fun e => ?_, fun e => ?_⟩ <;> (rw [e] at h; exact absurd h (by decide))
theorem tk_lt5 : tz_k b n s < 100 := by
  rcases tk_all b n s with q | q | q | q | q <;> omega
theorem let_ok {x : Int32} (h : 97 ≤ x ∧ x ≤ 122) : x = nI x.toNatClampNeg ∧ 97 ≤ x.toNatClampNeg ∧ x.toNatClampNeg ≤ 122 := by
  have h1 := h.1
  have h2 := h.2
  rw [i_le] at h1 h2
  have z1 : (97 : Int32).toInt = 97 := rfl
  have z2 : (122 : Int32).toInt = 122 := rfl
  have h0 : (0 : Int32) ≤ x := by
    rw [i_le]
    have z0 : (0 : Int32).toInt = 0 := rfl
    omega
  refine ⟨(Int32.ofNat_toNatClampNeg x h0).symm, ?_, ?_⟩
  · show 97 ≤ x.toInt.toNat
    omega
  · show x.toInt.toNat ≤ 122
    omega
theorem tk_let (hs : s ≤ n) (h : tz_k b n s = 1) : tz_e b n s - s ≤ 8 ∧ 1 ≤ tz_e b n s - s ∧ ∀ t, t < tz_e b n s - s → b (s + t) = nI (tz_a b s t + 96) ∧ 1 ≤ tz_a b s t ∧ tz_a b s t ≤ 26 := by
  rcases tk_all b n s with q | q | q | q | q
  · omega
  · obtain ⟨q1, _, _, q4, q5⟩ := q
    have hb := tz_eb (b := b) hs
    refine ⟨q5, by omega, fun t ht => ?_⟩
    have he : tz_e b n s = tz_to (tz_le b) n s := by
      unfold tz_e
      rw [if_neg (by omega), if_pos q4]
    have hl : tz_le b (s + t) = true := tz_all (p := tz_le b) (n := n) (i := s) (s + t) (by omega) (by rw [← he]; omega)
    obtain ⟨l1, l2, l3⟩ := let_ok (of_decide_eq_true hl)
    have ha : tz_a b s t + 96 = (b (s + t)).toNatClampNeg := by
      unfold tz_a
      omega
    refine ⟨by rw [ha]; exact l1, ?_, ?_⟩ <;> omega
  · omega
  · omega
  · omega
theorem lg_0 {x y : Int64} : lg_cmp x y = 0 ↔ x = y := by
  constructor
  · intro h
    unfold lg_cmp at h
    by_cases h1 : x > y
    · rw [if_pos h1] at h
      exact absurd h (by decide)
    · rw [if_neg h1] at h
      by_cases h2 : x = y
      · exact h2
      · rw [if_neg h2] at h
        exact absurd h (by decide)
  · intro h
    rw [h]
    exact lg_rf y
theorem m1_of {x : Nat} (h : x < 2 ^ 63) : ¬ (-1 : Int64) = Int64.ofNat x := by
  intro e
  have e2 := congrArg Int64.toInt e
  rw [Int64.toInt_ofNat_of_lt h] at e2
  have z : (-1 : Int64).toInt = -1 := rfl
  omega
theorem of_inj {x y : Nat} (h : x < 2 ^ 63) (h2 : y < 2 ^ 63) (e : Int64.ofNat x = Int64.ofNat y) : x = y := by
  have e2 := congrArg Int64.toInt e
  rw [Int64.toInt_ofNat_of_lt h, Int64.toInt_ofNat_of_lt h2] at e2
  omega
theorem c8_lt {x : Nat → Nat} (hx : ∀ t, t < k → 1 ≤ x t ∧ x t ≤ 31) (hk : k ≤ 8) : tz_c x k < 2 ^ 63 := by
  have h1 := tz_c_lt hx
  have h2 : 32 ^ k ≤ 32 ^ 8 := Nat.pow_le_pow_right (by decide) hk
  have h3 : 32 ^ 8 < 2 ^ 63 := by decide
  omega
theorem w_iff {C : Int64} (hs : s ≤ n) (hl : len ≤ 8) (hch : ∀ t, t < len → 97 ≤ ch t ∧ ch t ≤ 122) (hC : C = Int64.ofNat (tz_c (fun t => ch t - 96) len)) : tz_W b n s = C ↔ tz_k b n s = 1 ∧ tz_e b n s - s = len ∧ ∀ u, u < len → b (s + u) = nI (ch u) := by
  have hd : ∀ t, t < len → 1 ≤ ch t - 96 ∧ ch t - 96 ≤ 31 := fun t ht => by
    have := hch t ht
    omega
  have hdl := c8_lt (x := fun t => ch t - 96) hd hl
  unfold tz_W
  by_cases hk : tz_k b n s = 1
  · rw [if_pos hk, hC]
    obtain ⟨q1, q2, q3⟩ := tk_let hs hk
    have hx : ∀ t, t < tz_e b n s - s → 1 ≤ tz_a b s t ∧ tz_a b s t ≤ 31 := fun t ht => by
      have := (q3 t ht).2
      omega
    have hi := tz_c_inj (x := tz_a b s) (d := fun t => ch t - 96) hx hd
    constructor
    · intro e
      obtain ⟨r1, r2⟩ := hi.mp (of_inj (c8_lt hx q1) hdl e)
      refine ⟨hk, r1, fun u hu => ?_⟩
      have r3 : tz_a b s u = ch u - 96 := r2 u (by omega)
      have := hch u hu
      rw [(q3 u (by omega)).1, r3, show ch u - 96 + 96 = ch u by omega]
    · rintro ⟨_, r1, r2⟩
      refine congrArg Int64.ofNat (hi.mpr ⟨r1, fun u hu => ?_⟩)
      have r3 := r2 u (by omega)
      rw [(q3 u hu).1] at r3
      have r4 := (q3 u hu).2
      have := hch u (by omega)
      have r5 := nq_inj (by omega) (by omega) r3
      show tz_a b s u = ch u - 96
      omega
  · rw [if_neg hk, hC]
    exact ⟨fun e => absurd e (m1_of hdl), fun e => absurd e.1 hk⟩
theorem c_wd {C : Int64} (h : L0 M) (hr : z_r M 2 2 = some 1) (hn : n ≤ 700) (hT : TKc b n F s) (hl : len ≤ 8) (hlen : z_strlen w = z_pu (nI len)) (hch : ∀ t, t < len → z_charAt w (nI t) = z_pu (nI (ch t))) (hlc : ∀ t, t < len → 97 ≤ ch t ∧ ch t ≤ 122) (hC : C = Int64.ofNat (tz_c (fun t => ch t - 96) len)) : (p_X1_isWord 2 w).1 (KI M F) = some (.inr (if tz_W b n s = C then 1 else 0), KI M F) := by
  obtain ⟨⟨h4, h5, h6, h7⟩, _, hs, hb⟩ := hT
  have he := tz_eb (b := b) hs
  obtain ⟨r, r1, r2, r3⟩ := c_isw h hr hn hl hlen hch hb h5 h6 he.1 he.2.1 tk_lt5 h7
  have hi := w_iff (b := b) hs hl hlc hC
  rw [r1]
  by_cases g : tz_W b n s = C
  · rw [if_pos g, r3.mpr (hi.mp g)]
  · rw [if_neg g, r2.resolve_right (fun q => g (hi.mpr (r3.mp q)))]
theorem m_wd (h : L9 N) (hn : n ≤ 700) (hs : s ≤ n) (hT : TKm b n G s) : (p_X9_wordHere 75).1 (KI N G) = some (.inr (tz_W b n s), KI N G) := by
  obtain ⟨⟨h3, h4, h5, h6⟩, _, hb⟩ := hT
  have he := tz_eb (b := b) hs
  unfold tz_W
  by_cases hk : tz_k b n s = 1
  · rw [if_pos hk]
    obtain ⟨q1, q2, q3⟩ := tk_let hs hk
    have ht : tz_t b n s = 1 := by
      rcases tk_all b n s with q | q | q | q | q
      · omega
      · exact q.2.2.1
      · omega
      · omega
      · omega
    exact m_wordh h hn hb h4 h5 he.1 he.2.1 (h6.trans ht) (fun t ht => ⟨(q3 t ht).1, (q3 t ht).2.2⟩)
  · rw [if_neg hk]
    have ht : ¬ tz_t b n s = 1 := by
      rcases tk_all b n s with q | q | q | q | q
      · rw [q.2.2]; decide
      · exact absurd q.2.1 hk
      · rw [q.2.2.1]; decide
      · rw [q.2.2.1]; exact (sg_n _ q.2.2.2.2.2).2.1
      · rw [q.2.2]; decide
    unfold p_X9_wordHere
    rw [kn_gI h, h4]
    refine (e_jL (t := (0 : Int64)) (M1 := KI N G) ?_).trans ?_
    · refine z_lp_end ?_
      show (z_bd (z_gI 9 75 6) _).1 _ = _
      rw [kn_gI h, h6, if_neg ht]
      rfl
    · rw [kn_gI h, h6, if_neg ht]
      rfl
theorem cw_1 (h : L0 M) (hr : z_r M 2 2 = some 1) (hn : n ≤ 700) (hT : TKc b n F s) : (p_X1_isWord 2 1).1 (KI M F) = some (.inr (if tz_W b n s = 21073896942 then 1 else 0), KI M F) := by
  have v : ∀ t : Fin 7, 97 ≤ ([115, 116, 97, 116, 105, 111, 110] : List Nat).getD t.1 0 ∧ ([115, 116, 97, 116, 105, 111, 110] : List Nat).getD t.1 0 ≤ 122 := by decide
  exact c_wd (ch := fun t => ([115, 116, 97, 116, 105, 111, 110] : List Nat).getD t 0) h hr hn hT (by decide) wl_1 (fun t ht => wc_1 ht) (fun t ht => v ⟨t, ht⟩) (by decide)
theorem cw_2 (h : L0 M) (hr : z_r M 2 2 = some 1) (hn : n ≤ 700) (hT : TKc b n F s) : (p_X1_isWord 2 2).1 (KI M F) = some (.inr (if tz_W b n s = 21582955 then 1 else 0), KI M F) := by
  have v : ∀ t : Fin 5, 97 ≤ ([116, 114, 117, 99, 107] : List Nat).getD t.1 0 ∧ ([116, 114, 117, 99, 107] : List Nat).getD t.1 0 ≤ 122 := by decide
  exact c_wd (ch := fun t => ([116, 114, 117, 99, 107] : List Nat).getD t 0) h hr hn hT (by decide) wl_2 (fun t ht => wc_2 ht) (fun t ht => v ⟨t, ht⟩) (by decide)
theorem cw_3 (h : L0 M) (hr : z_r M 2 2 = some 1) (hn : n ≤ 700) (hT : TKc b n F s) : (p_X1_isWord 2 3).1 (KI M F) = some (.inr (if tz_W b n s = 674096 then 1 else 0), KI M F) := by
  have v : ∀ t : Fin 4, 97 ≤ ([116, 114, 105, 112] : List Nat).getD t.1 0 ∧ ([116, 114, 105, 112] : List Nat).getD t.1 0 ≤ 122 := by decide
  exact c_wd (ch := fun t => ([116, 114, 105, 112] : List Nat).getD t 0) h hr hn hT (by decide) wl_3 (fun t ht => wc_3 ht) (fun t ht => v ⟨t, ht⟩) (by decide)
theorem cw_4 (h : L0 M) (hr : z_r M 2 2 = some 1) (hn : n ≤ 700) (hT : TKc b n F s) : (p_X1_isWord 2 4).1 (KI M F) = some (.inr (if tz_W b n s = 525413 then 1 else 0), KI M F) := by
  have v : ∀ t : Fin 4, 97 ≤ ([112, 97, 99, 101] : List Nat).getD t.1 0 ∧ ([112, 97, 99, 101] : List Nat).getD t.1 0 ≤ 122 := by decide
  exact c_wd (ch := fun t => ([112, 97, 99, 101] : List Nat).getD t 0) h hr hn hT (by decide) wl_4 (fun t ht => wc_4 ht) (fun t ht => v ⟨t, ht⟩) (by decide)
theorem cw_5 (h : L0 M) (hr : z_r M 2 2 = some 1) (hn : n ≤ 700) (hT : TKc b n F s) : (p_X1_isWord 2 5).1 (KI M F) = some (.inr (if tz_W b n s = 2193668197 then 1 else 0), KI M F) := by
  have v : ∀ t : Fin 7, 97 ≤ ([98, 97, 108, 97, 110, 99, 101] : List Nat).getD t.1 0 ∧ ([98, 97, 108, 97, 110, 99, 101] : List Nat).getD t.1 0 ≤ 122 := by decide
  exact c_wd (ch := fun t => ([98, 97, 108, 97, 110, 99, 101] : List Nat).getD t 0) h hr hn hT (by decide) wl_5 (fun t ht => wc_5 ht) (fun t ht => v ⟨t, ht⟩) (by decide)
theorem cw_6 (h : L0 M) (hr : z_r M 2 2 = some 1) (hn : n ≤ 700) (hT : TKc b n F s) : (p_X1_isWord 2 6).1 (KI M F) = some (.inr (if tz_W b n s = 2603699 then 1 else 0), KI M F) := by
  have v : ∀ t : Fin 5, 97 ≤ ([98, 111, 110, 117, 115] : List Nat).getD t.1 0 ∧ ([98, 111, 110, 117, 115] : List Nat).getD t.1 0 ≤ 122 := by decide
  exact c_wd (ch := fun t => ([98, 111, 110, 117, 115] : List Nat).getD t 0) h hr hn hT (by decide) wl_6 (fun t ht => wc_6 ht) (fun t ht => v ⟨t, ht⟩) (by decide)
theorem cw_7 (h : L0 M) (hr : z_r M 2 2 = some 1) (hn : n ≤ 700) (hT : TKc b n F s) : (p_X1_isWord 2 7).1 (KI M F) = some (.inr (if tz_W b n s = 198213 then 1 else 0), KI M F) := by
  have v : ∀ t : Fin 4, 97 ≤ ([102, 97, 114, 101] : List Nat).getD t.1 0 ∧ ([102, 97, 114, 101] : List Nat).getD t.1 0 ≤ 122 := by decide
  exact c_wd (ch := fun t => ([102, 97, 114, 101] : List Nat).getD t 0) h hr hn hT (by decide) wl_7 (fun t ht => wc_7 ht) (fun t ht => v ⟨t, ht⟩) (by decide)
theorem cw_8 (h : L0 M) (hr : z_r M 2 2 = some 1) (hn : n ≤ 700) (hT : TKc b n F s) : (p_X1_isWord 2 8).1 (KI M F) = some (.inr (if tz_W b n s = 14276022451 then 1 else 0), KI M F) := by
  have v : ∀ t : Fin 7, 97 ≤ ([109, 105, 110, 117, 116, 101, 115] : List Nat).getD t.1 0 ∧ ([109, 105, 110, 117, 116, 101, 115] : List Nat).getD t.1 0 ≤ 122 := by decide
  exact c_wd (ch := fun t => ([109, 105, 110, 117, 116, 101, 115] : List Nat).getD t 0) h hr hn hT (by decide) wl_8 (fun t ht => wc_8 ht) (fun t ht => v ⟨t, ht⟩) (by decide)
theorem cw_9 (h : L0 M) (hr : z_r M 2 2 = some 1) (hn : n ≤ 700) (hT : TKc b n F s) : (p_X1_isWord 2 9).1 (KI M F) = some (.inr (if tz_W b n s = 2403507 then 1 else 0), KI M F) := by
  have v : ∀ t : Fin 5, 97 ≤ ([98, 105, 107, 101, 115] : List Nat).getD t.1 0 ∧ ([98, 105, 107, 101, 115] : List Nat).getD t.1 0 ≤ 122 := by decide
  exact c_wd (ch := fun t => ([98, 105, 107, 101, 115] : List Nat).getD t 0) h hr hn hT (by decide) wl_9 (fun t ht => wc_9 ht) (fun t ht => v ⟨t, ht⟩) (by decide)
theorem cw_10 (h : L0 M) (hr : z_r M 2 2 = some 1) (hn : n ≤ 700) (hT : TKc b n F s) : (p_X1_isWord 2 10).1 (KI M F) = some (.inr (if tz_W b n s = 4689267 then 1 else 0), KI M F) := by
  have v : ∀ t : Fin 5, 97 ≤ ([100, 111, 99, 107, 115] : List Nat).getD t.1 0 ∧ ([100, 111, 99, 107, 115] : List Nat).getD t.1 0 ≤ 122 := by decide
  exact c_wd (ch := fun t => ([100, 111, 99, 107, 115] : List Nat).getD t 0) h hr hn hT (by decide) wl_10 (fun t ht => wc_10 ht) (fun t ht => v ⟨t, ht⟩) (by decide)
theorem cw_11 (h : L0 M) (hr : z_r M 2 2 = some 1) (hn : n ≤ 700) (hT : TKc b n F s) : (p_X1_isWord 2 11).1 (KI M F) = some (.inr (if tz_W b n s = 278194 then 1 else 0), KI M F) := by
  have v : ∀ t : Fin 4, 97 ≤ ([104, 111, 117, 114] : List Nat).getD t.1 0 ∧ ([104, 111, 117, 114] : List Nat).getD t.1 0 ≤ 122 := by decide
  exact c_wd (ch := fun t => ([104, 111, 117, 114] : List Nat).getD t 0) h hr hn hT (by decide) wl_11 (fun t ht => wc_11 ht) (fun t ht => v ⟨t, ht⟩) (by decide)
end PA61
