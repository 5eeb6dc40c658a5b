/-! ===== PHASE 2: the model's loops that only read, and the fare ===== -/
def iO : Option Nat → Int32
  | none => -1
  | some m => nI m
theorem iO_some (m : Nat) : iO (some m) = nI m := rfl
theorem iO_neg {m : Nat} (h : m < 2 ^ 31) : ¬ iO (some m) < 0 := nI_pos h
theorem iO_none : iO none < 0 := by decide
theorem nI_dec {d : Nat} (h : 1 ≤ d) : nI d + (-1) = nI (d - 1) := by
  obtain ⟨e, rfl⟩ : ∃ e, d = e + 1 := ⟨d - 1, by omega⟩
  rw [← Int32.sub_eq_add_neg, nI_pred]
  rfl
theorem nI_dec' {d : Nat} (h : 1 ≤ d) : nI d - 1 = nI (d - 1) := by
  obtain ⟨e, rfl⟩ : ∃ e, d = e + 1 := ⟨d - 1, by omega⟩
  rw [nI_pred]
  rfl
def s_up (f : Nat → Int32) (k : Nat) (v : Int32) : Nat → Int32 := fun j => if j = k then v else f j
theorem m_wi_wI (M : zM) (a k : Nat) (g : Nat → Int32) (v : Int32) : z_wi (z_wI M a g) a k v = z_wI M a (s_up g k v) := by
  unfold z_wi z_wI
  refine congrArg (fun x => (M.1, M.2.1, x, z_r M, z_j M)) ?_
  funext b j
  show (if b = a ∧ j = k then v else (if b = a then g else z_i M b) j) = (if b = a then s_up g k v else z_i M b) j
  by_cases hb : b = a
  · rw [if_pos hb, if_pos hb]
    unfold s_up
    by_cases hj : j = k
    · rw [if_pos ⟨hb, hj⟩, if_pos hj]
    · rw [if_neg (fun q => hj q.2), if_neg hj]
  · rw [if_neg hb, if_neg hb, if_neg (fun q => hb q.1)]
theorem m_wI_wI (M : zM) (a : Nat) (g g' : Nat → Int32) : z_wI (z_wI M a g) a g' = z_wI M a g' := by
  unfold z_wI
  refine congrArg (fun x => (M.1, M.2.1, x, z_r M, z_j M)) ?_
  funext b
  show (if b = a then g' else (if b = a then g else z_i M b)) = if b = a then g' else z_i M b
  by_cases hb : b = a
  · rw [if_pos hb, if_pos hb]
  · rw [if_neg hb, if_neg hb, if_neg hb]
theorem m_wI_id (M : zM) (a : Nat) : z_wI M a (z_i M a) = M := by
  have : z_up1 (z_i M) a (z_i M a) = z_i M := by
    funext b
    unfold z_up1
    split
    · rename_i hb; rw [hb]
    · rfl
  unfold z_wI
  rw [this]
  rfl
theorem m_wi_I (M : zM) (a k : Nat) (v : Int32) : z_wi M a k v = z_wI M a (s_up (z_i M a) k v) := by
  rw [← m_wi_wI, m_wI_id]
theorem m_wI_com (M : zM) {a b : Nat} (g g' : Nat → Int32) (h : a ≠ b) : z_wI (z_wI M a g) b g' = z_wI (z_wI M b g') a g := by
  unfold z_wI
  refine congrArg (fun x => (M.1, M.2.1, x, z_r M, z_j M)) ?_
  funext c
  show (if c = b then g' else (if c = a then g else z_i M c)) = (if c = a then g else (if c = b then g' else z_i M c))
  by_cases h1 : c = a
  · rw [if_pos h1, if_pos h1, if_neg (fun q => h (h1.symm.trans q))]
  · rw [if_neg h1, if_neg h1]
theorem m_iW (M : zM) (a : Nat) (g : Nat → Int32) : z_i (z_wI M a g) a = g := if_pos rfl
theorem m_iWn (M : zM) {a b : Nat} (g : Nat → Int32) (h : b ≠ a) : z_i (z_wI M a g) b = z_i M b := if_neg h
def s_bk (ct st : Nat → Int32) (d : Int32) (j : Nat) : Int32 := if d = 0 then st (6 + j) else s_fr ct st j
def s_near (ct st : Nat → Int32) (k : Nat) (d : Int32) : Nat → Option Nat
  | 0 => none
  | j + 1 => if j = k then s_near ct st k d j else if s_bk ct st d j = 0 then s_near ct st k d j else match s_near ct st k d j with
    | none => some j
    | some m => if s_ds ct k m ≤ s_ds ct k j then some m else some j
theorem s_near_lt (ct st : Nat → Int32) (k : Nat) (d : Int32) : ∀ n m, s_near ct st k d n = some m → m < n ∧ m ≠ k ∧ s_bk ct st d m ≠ 0
  | 0, m, h => by cases h
  | n + 1, m, h => by
    have ih := s_near_lt ct st k d n
    unfold s_near at h
    by_cases h1 : n = k
    · rw [if_pos h1] at h; have := ih m h; exact ⟨by omega, this.2⟩
    · rw [if_neg h1] at h
      by_cases h2 : s_bk ct st d n = 0
      · rw [if_pos h2] at h; have := ih m h; exact ⟨by omega, this.2⟩
      · rw [if_neg h2] at h
        cases hc : s_near ct st k d n with
        | none => rw [hc] at h; cases h; exact ⟨by omega, h1, h2⟩
        | some q =>
          rw [hc] at h
          have h : (if s_ds ct k q ≤ s_ds ct k n then some q else some n) = some m := h
          have := ih q hc
          split at h
          · cases h; exact ⟨by omega, this.2⟩
          · cases h; exact ⟨by omega, h1, h2⟩
def s_sum (c : Int32) (g : Nat → Int32) : Nat → Int32
  | 0 => c
  | j + 1 => s_sum c g j + g j
def s_tr (st : Nat → Int32) (t q : Nat) : Int32 := st (22 + 18 * t + q)
def s_ms (ct st : Nat → Int32) (k : Nat) : Int32 := (if 0 ≤ s_mk ct st k - st (6 + k) then s_mk ct st k - st (6 + k) else 0) + (if 0 ≤ s_mk ct st k - s_fr ct st k then s_mk ct st k - s_fr ct st k else 0)
/-! the fare -/
def s_val (ct st : Nat → Int32) (a b : Nat) (c : Int32) : Int32 := if c < 0 then if c = -1 then s_rd ct a b else if c = -2 then st (6 + a) else if c = -3 then s_fr ct st b else (st 0 / 60) - (st 0 / 60) / 24 * 24 else c
def s_op (c a b : Int32) : Int32 := if c = 42 then a * b else if c = 43 then a + b else if c = 44 then (if b = 0 then 0 else a / b) else if c = 45 then a - b else if b = 0 then 0 else a / b
def s_dp (cd : Nat → Int32) : Nat → Nat
  | 0 => 0
  | k + 1 => if cd k < -4 then s_dp cd k - 1 else s_dp cd k + 1
def s_fa (cd : Nat → Int32) (val : Int32 → Int32) (g : Nat → Int32) : Nat → Nat → Int32
  | 0 => g
  | k + 1 => if cd k < -4 then s_up (s_fa cd val g k) (s_dp cd k - 2) (s_op (-cd k) (s_fa cd val g k (s_dp cd k - 2)) (s_fa cd val g k (s_dp cd k - 1))) else s_up (s_fa cd val g k) (s_dp cd k) (val (cd k))
def s_cw (cd : Nat → Int32) (n : Nat) : Prop := ∀ k, k < n → (cd k < -4 → 2 ≤ s_dp cd k) ∧ s_dp cd k < 16
def s_cl (v : Int32) : Int32 := if 0 ≤ v then if v ≤ 9999 then v else 9999 else 0
def s_fare (ct cd st : Nat → Int32) (n a b : Nat) : Int32 := s_cl (s_fa cd (s_val ct st a b) (fun _ => 0) n 0)
theorem s_dp_pos (cd : Nat → Int32) : ∀ n, s_cw cd n → 1 ≤ n → 1 ≤ s_dp cd n
  | 0, _, h => absurd h (by decide)
  | n + 1, hw, _ => by
    have := hw n (by omega)
    unfold s_dp
    split
    · rename_i hc; have := this.1 hc; omega
    · omega
theorem s_fa_eq (cd : Nat → Int32) (val : Int32 → Int32) (g g' : Nat → Int32) : ∀ n, s_cw cd n → ∀ i, i < s_dp cd n → s_fa cd val g n i = s_fa cd val g' n i
  | 0, _, i, h => absurd h (Nat.not_lt_zero _)
  | n + 1, hw, i, h => by
    have ih := s_fa_eq cd val g g' n (fun k hk => hw k (by omega))
    unfold s_fa
    unfold s_dp at h
    by_cases hc : cd n < -4
    · have h2 := (hw n (by omega)).1 hc
      rw [if_pos hc] at h
      rw [if_pos hc, if_pos hc, ih _ (show s_dp cd n - 2 < s_dp cd n by omega), ih _ (show s_dp cd n - 1 < s_dp cd n by omega)]
      unfold s_up
      split
      · rfl
      · exact ih i (by omega)
    · rw [if_neg hc] at h
      rw [if_neg hc, if_neg hc]
      unfold s_up
      split
      · rfl
      · exact ih i (by omega)
section P9L
variable {M : zM} {i j k n : Nat}
theorem f9_near (h : L9 M) (hs : z_i M 78 0 = nI n) (hn : n ≤ 8) (hk : k < 8) (d : Int32) : (p_X9_nearestTo 75 (nI k) d).1 M = some (.inr (iO (s_near (z_i M 78) (z_i M 83) k d n)), M) := by
  unfold p_X9_nearestTo
  refine lp_cnt n (fun j => (iO (s_near (z_i M 78) (z_i M 83) k d j), nI j)) (fun _ => M) _ _ ?_ ?_
  · intro j hj
    have h8 : j < 8 := by omega
    have hnj : ¬ nI n ≤ nI j := nI_ge hj (by omega)
    have hjk : (nI j = nI k) = (j = k) := propext (nI_eq (by omega) (by omega))
    simp (disch := first | assumption | omega | (simp only [L9_wi, L9_wI]; assumption)) only [e_pu, e_ite, oL_add, oL_addr, oL_mul, nI_add, nI_1, b_pu, b_bd, b_ite, j_L, j_R, j_ite, j_bd, z_ex, q9_gI, q9_pI, q9_cv, q9_g76, q9_g77, q9_g78, q9_g79, q9_g80, q9_g81, q9_g82, q9_g83, q9_g84, q9_g85, q9_g86, q9_g87, q9_g88, q9_g89, q9_g90, q9_g91, q9_g92, q9_g93, q9_g94, q9_a78, q9_s78, q9_a80, q9_s80, q9_a82, q9_s82, q9_a83, q9_s83, q9_l78_0, q9_t78_0, q9_l78_1, q9_t78_1, q9_l78_2, q9_t78_2, q9_l78_3, q9_t78_3, q9_l78_4, q9_t78_4, q9_l78_5, q9_t78_5, q9_l78_6, q9_t78_6, q9_l78_7, q9_t78_7, q9_l78_8, q9_t78_8, q9_l83_0, q9_t83_0, q9_l83_1, q9_t83_1, q9_l83_2, q9_t83_2, q9_l83_3, q9_t83_3, q9_l83_4, q9_t83_4, q9_l83_5, q9_t83_5, q9_l83_204, q9_t83_204, q9_l82_0, q9_t82_0, g9_wk, g9_fr, g9_mk, g9_ds, g9_rd, g9_dr, g9_ev, g9_bn, ↓reduceIte, e_zg, if_true, if_false, hs, hnj, hjk]
    by_cases h1 : j = k
    · simp only [s_near, h1, if_true]
    · simp only [s_near, h1, if_false]
      by_cases hd : d = 0
      · simp (disch := first | assumption | omega | (simp only [L9_wi, L9_wI]; assumption)) only [e_pu, e_ite, oL_add, oL_addr, oL_mul, nI_add, nI_1, b_pu, b_bd, b_ite, j_L, j_R, j_ite, j_bd, z_ex, q9_gI, q9_pI, q9_cv, q9_g76, q9_g77, q9_g78, q9_g79, q9_g80, q9_g81, q9_g82, q9_g83, q9_g84, q9_g85, q9_g86, q9_g87, q9_g88, q9_g89, q9_g90, q9_g91, q9_g92, q9_g93, q9_g94, q9_a78, q9_s78, q9_a80, q9_s80, q9_a82, q9_s82, q9_a83, q9_s83, q9_l78_0, q9_t78_0, q9_l78_1, q9_t78_1, q9_l78_2, q9_t78_2, q9_l78_3, q9_t78_3, q9_l78_4, q9_t78_4, q9_l78_5, q9_t78_5, q9_l78_6, q9_t78_6, q9_l78_7, q9_t78_7, q9_l78_8, q9_t78_8, q9_l83_0, q9_t83_0, q9_l83_1, q9_t83_1, q9_l83_2, q9_t83_2, q9_l83_3, q9_t83_3, q9_l83_4, q9_t83_4, q9_l83_5, q9_t83_5, q9_l83_204, q9_t83_204, q9_l82_0, q9_t82_0, g9_wk, g9_fr, g9_mk, g9_ds, g9_rd, g9_dr, g9_ev, g9_bn, ↓reduceIte, e_zg, if_true, if_false, s_bk, hd]
        cases hc : s_near (z_i M 78) (z_i M 83) k 0 j with
        | none =>
          simp (disch := first | assumption | omega | (simp only [L9_wi, L9_wI]; assumption)) only [e_pu, e_ite, oL_add, oL_addr, oL_mul, nI_add, nI_1, b_pu, b_bd, b_ite, j_L, j_R, j_ite, j_bd, z_ex, q9_gI, q9_pI, q9_cv, q9_g76, q9_g77, q9_g78, q9_g79, q9_g80, q9_g81, q9_g82, q9_g83, q9_g84, q9_g85, q9_g86, q9_g87, q9_g88, q9_g89, q9_g90, q9_g91, q9_g92, q9_g93, q9_g94, q9_a78, q9_s78, q9_a80, q9_s80, q9_a82, q9_s82, q9_a83, q9_s83, q9_l78_0, q9_t78_0, q9_l78_1, q9_t78_1, q9_l78_2, q9_t78_2, q9_l78_3, q9_t78_3, q9_l78_4, q9_t78_4, q9_l78_5, q9_t78_5, q9_l78_6, q9_t78_6, q9_l78_7, q9_t78_7, q9_l78_8, q9_t78_8, q9_l83_0, q9_t83_0, q9_l83_1, q9_t83_1, q9_l83_2, q9_t83_2, q9_l83_3, q9_t83_3, q9_l83_4, q9_t83_4, q9_l83_5, q9_t83_5, q9_l83_204, q9_t83_204, q9_l82_0, q9_t82_0, g9_wk, g9_fr, g9_mk, g9_ds, g9_rd, g9_dr, g9_ev, g9_bn, ↓reduceIte, e_zg, if_true, if_false, iO_none]
          split <;> rfl
        | some m =>
          have hm := (s_near_lt _ _ _ _ _ _ hc).1
          simp (disch := first | assumption | omega | (simp only [L9_wi, L9_wI]; assumption)) only [e_pu, e_ite, oL_add, oL_addr, oL_mul, nI_add, nI_1, b_pu, b_bd, b_ite, j_L, j_R, j_ite, j_bd, z_ex, q9_gI, q9_pI, q9_cv, q9_g76, q9_g77, q9_g78, q9_g79, q9_g80, q9_g81, q9_g82, q9_g83, q9_g84, q9_g85, q9_g86, q9_g87, q9_g88, q9_g89, q9_g90, q9_g91, q9_g92, q9_g93, q9_g94, q9_a78, q9_s78, q9_a80, q9_s80, q9_a82, q9_s82, q9_a83, q9_s83, q9_l78_0, q9_t78_0, q9_l78_1, q9_t78_1, q9_l78_2, q9_t78_2, q9_l78_3, q9_t78_3, q9_l78_4, q9_t78_4, q9_l78_5, q9_t78_5, q9_l78_6, q9_t78_6, q9_l78_7, q9_t78_7, q9_l78_8, q9_t78_8, q9_l83_0, q9_t83_0, q9_l83_1, q9_t83_1, q9_l83_2, q9_t83_2, q9_l83_3, q9_t83_3, q9_l83_4, q9_t83_4, q9_l83_5, q9_t83_5, q9_l83_204, q9_t83_204, q9_l82_0, q9_t82_0, g9_wk, g9_fr, g9_mk, g9_ds, g9_rd, g9_dr, g9_ev, g9_bn, ↓reduceIte, e_zg, if_true, if_false, nI_pos (show m < 2 ^ 31 by omega), iO_some]
          split
          · rfl
          · split <;> rfl
      · simp (disch := first | assumption | omega | (simp only [L9_wi, L9_wI]; assumption)) only [e_pu, e_ite, oL_add, oL_addr, oL_mul, nI_add, nI_1, b_pu, b_bd, b_ite, j_L, j_R, j_ite, j_bd, z_ex, q9_gI, q9_pI, q9_cv, q9_g76, q9_g77, q9_g78, q9_g79, q9_g80, q9_g81, q9_g82, q9_g83, q9_g84, q9_g85, q9_g86, q9_g87, q9_g88, q9_g89, q9_g90, q9_g91, q9_g92, q9_g93, q9_g94, q9_a78, q9_s78, q9_a80, q9_s80, q9_a82, q9_s82, q9_a83, q9_s83, q9_l78_0, q9_t78_0, q9_l78_1, q9_t78_1, q9_l78_2, q9_t78_2, q9_l78_3, q9_t78_3, q9_l78_4, q9_t78_4, q9_l78_5, q9_t78_5, q9_l78_6, q9_t78_6, q9_l78_7, q9_t78_7, q9_l78_8, q9_t78_8, q9_l83_0, q9_t83_0, q9_l83_1, q9_t83_1, q9_l83_2, q9_t83_2, q9_l83_3, q9_t83_3, q9_l83_4, q9_t83_4, q9_l83_5, q9_t83_5, q9_l83_204, q9_t83_204, q9_l82_0, q9_t82_0, g9_wk, g9_fr, g9_mk, g9_ds, g9_rd, g9_dr, g9_ev, g9_bn, ↓reduceIte, e_zg, if_true, if_false, s_bk, hd]
        cases hc : s_near (z_i M 78) (z_i M 83) k d j with
        | none =>
          simp (disch := first | assumption | omega | (simp only [L9_wi, L9_wI]; assumption)) only [e_pu, e_ite, oL_add, oL_addr, oL_mul, nI_add, nI_1, b_pu, b_bd, b_ite, j_L, j_R, j_ite, j_bd, z_ex, q9_gI, q9_pI, q9_cv, q9_g76, q9_g77, q9_g78, q9_g79, q9_g80, q9_g81, q9_g82, q9_g83, q9_g84, q9_g85, q9_g86, q9_g87, q9_g88, q9_g89, q9_g90, q9_g91, q9_g92, q9_g93, q9_g94, q9_a78, q9_s78, q9_a80, q9_s80, q9_a82, q9_s82, q9_a83, q9_s83, q9_l78_0, q9_t78_0, q9_l78_1, q9_t78_1, q9_l78_2, q9_t78_2, q9_l78_3, q9_t78_3, q9_l78_4, q9_t78_4, q9_l78_5, q9_t78_5, q9_l78_6, q9_t78_6, q9_l78_7, q9_t78_7, q9_l78_8, q9_t78_8, q9_l83_0, q9_t83_0, q9_l83_1, q9_t83_1, q9_l83_2, q9_t83_2, q9_l83_3, q9_t83_3, q9_l83_4, q9_t83_4, q9_l83_5, q9_t83_5, q9_l83_204, q9_t83_204, q9_l82_0, q9_t82_0, g9_wk, g9_fr, g9_mk, g9_ds, g9_rd, g9_dr, g9_ev, g9_bn, ↓reduceIte, e_zg, if_true, if_false, iO_none]
          split <;> rfl
        | some m =>
          have hm := (s_near_lt _ _ _ _ _ _ hc).1
          simp (disch := first | assumption | omega | (simp only [L9_wi, L9_wI]; assumption)) only [e_pu, e_ite, oL_add, oL_addr, oL_mul, nI_add, nI_1, b_pu, b_bd, b_ite, j_L, j_R, j_ite, j_bd, z_ex, q9_gI, q9_pI, q9_cv, q9_g76, q9_g77, q9_g78, q9_g79, q9_g80, q9_g81, q9_g82, q9_g83, q9_g84, q9_g85, q9_g86, q9_g87, q9_g88, q9_g89, q9_g90, q9_g91, q9_g92, q9_g93, q9_g94, q9_a78, q9_s78, q9_a80, q9_s80, q9_a82, q9_s82, q9_a83, q9_s83, q9_l78_0, q9_t78_0, q9_l78_1, q9_t78_1, q9_l78_2, q9_t78_2, q9_l78_3, q9_t78_3, q9_l78_4, q9_t78_4, q9_l78_5, q9_t78_5, q9_l78_6, q9_t78_6, q9_l78_7, q9_t78_7, q9_l78_8, q9_t78_8, q9_l83_0, q9_t83_0, q9_l83_1, q9_t83_1, q9_l83_2, q9_t83_2, q9_l83_3, q9_t83_3, q9_l83_4, q9_t83_4, q9_l83_5, q9_t83_5, q9_l83_204, q9_t83_204, q9_l82_0, q9_t82_0, g9_wk, g9_fr, g9_mk, g9_ds, g9_rd, g9_dr, g9_ev, g9_bn, ↓reduceIte, e_zg, if_true, if_false, nI_pos (show m < 2 ^ 31 by omega), iO_some]
          split
          · rfl
          · split <;> rfl
  · simp (disch := first | assumption | omega | (simp only [L9_wi, L9_wI]; assumption)) only [e_pu, e_ite, oL_add, oL_addr, oL_mul, nI_add, nI_1, b_pu, b_bd, b_ite, j_L, j_R, j_ite, j_bd, z_ex, q9_gI, q9_pI, q9_cv, q9_g76, q9_g77, q9_g78, q9_g79, q9_g80, q9_g81, q9_g82, q9_g83, q9_g84, q9_g85, q9_g86, q9_g87, q9_g88, q9_g89, q9_g90, q9_g91, q9_g92, q9_g93, q9_g94, q9_a78, q9_s78, q9_a80, q9_s80, q9_a82, q9_s82, q9_a83, q9_s83, q9_l78_0, q9_t78_0, q9_l78_1, q9_t78_1, q9_l78_2, q9_t78_2, q9_l78_3, q9_t78_3, q9_l78_4, q9_t78_4, q9_l78_5, q9_t78_5, q9_l78_6, q9_t78_6, q9_l78_7, q9_t78_7, q9_l78_8, q9_t78_8, q9_l83_0, q9_t83_0, q9_l83_1, q9_t83_1, q9_l83_2, q9_t83_2, q9_l83_3, q9_t83_3, q9_l83_4, q9_t83_4, q9_l83_5, q9_t83_5, q9_l83_204, q9_t83_204, q9_l82_0, q9_t82_0, g9_wk, g9_fr, g9_mk, g9_ds, g9_rd, g9_dr, g9_ev, g9_bn, ↓reduceIte, e_zg, if_true, if_false, hs, show nI n ≤ nI n from Int32.le_refl _]
theorem g9_near {β : Type} {f : Int32 → zP β} (h : L9 M) (hs : z_i M 78 0 = nI n) (hn : n ≤ 8) (hk : k < 8) (d : Int32) : (z_bd (p_X9_nearestTo 75 (nI k) d) f).1 M = (f (iO (s_near (z_i M 78) (z_i M 83) k d n))).1 M := e_run (f9_near h hs hn hk d)
theorem f9_of {t q : Nat} (h : L9 M) (ht : t < 3) (hq : q < 18) : (p_X9_of 75 (nI t) (nI q)).1 M = some (.inr (s_tr (z_i M 83) t q), M) := by
  unfold p_X9_of s_tr
  simp (disch := first | assumption | omega | (simp only [L9_wi, L9_wI]; assumption)) only [e_pu, e_ite, oL_add, oL_addr, oL_mul, nI_add, nI_1, b_pu, b_bd, b_ite, j_L, j_R, j_ite, j_bd, z_ex, q9_gI, q9_pI, q9_cv, q9_g76, q9_g77, q9_g78, q9_g79, q9_g80, q9_g81, q9_g82, q9_g83, q9_g84, q9_g85, q9_g86, q9_g87, q9_g88, q9_g89, q9_g90, q9_g91, q9_g92, q9_g93, q9_g94, q9_a78, q9_s78, q9_a80, q9_s80, q9_a82, q9_s82, q9_a83, q9_s83, q9_l78_0, q9_t78_0, q9_l78_1, q9_t78_1, q9_l78_2, q9_t78_2, q9_l78_3, q9_t78_3, q9_l78_4, q9_t78_4, q9_l78_5, q9_t78_5, q9_l78_6, q9_t78_6, q9_l78_7, q9_t78_7, q9_l78_8, q9_t78_8, q9_l83_0, q9_t83_0, q9_l83_1, q9_t83_1, q9_l83_2, q9_t83_2, q9_l83_3, q9_t83_3, q9_l83_4, q9_t83_4, q9_l83_5, q9_t83_5, q9_l83_204, q9_t83_204, q9_l82_0, q9_t82_0, g9_wk, g9_fr, g9_mk, g9_ds, g9_rd, g9_dr, g9_ev, g9_bn, ↓reduceIte, e_zg, if_true, if_false]
theorem g9_of {β : Type} {f : Int32 → zP β} {t q : Nat} (h : L9 M) (ht : t < 3) (hq : q < 18) : (z_bd (p_X9_of 75 (nI t) (nI q)) f).1 M = (f (s_tr (z_i M 83) t q)).1 M := e_run (f9_of h ht hq)

theorem g9_of0 {β : Type} {f : Int32 → zP β} {t : Nat} (h : L9 M) (ht : t < 3) : (z_bd (p_X9_of 75 (nI t) 0) f).1 M = (f (s_tr (z_i M 83) t 0)).1 M := g9_of (q := 0) h ht (by decide)
theorem g9_of1 {β : Type} {f : Int32 → zP β} {t : Nat} (h : L9 M) (ht : t < 3) : (z_bd (p_X9_of 75 (nI t) 1) f).1 M = (f (s_tr (z_i M 83) t 1)).1 M := g9_of (q := 1) h ht (by decide)
theorem g9_of2 {β : Type} {f : Int32 → zP β} {t : Nat} (h : L9 M) (ht : t < 3) : (z_bd (p_X9_of 75 (nI t) 2) f).1 M = (f (s_tr (z_i M 83) t 2)).1 M := g9_of (q := 2) h ht (by decide)
theorem g9_of3 {β : Type} {f : Int32 → zP β} {t : Nat} (h : L9 M) (ht : t < 3) : (z_bd (p_X9_of 75 (nI t) 3) f).1 M = (f (s_tr (z_i M 83) t 3)).1 M := g9_of (q := 3) h ht (by decide)
theorem g9_of4 {β : Type} {f : Int32 → zP β} {t : Nat} (h : L9 M) (ht : t < 3) : (z_bd (p_X9_of 75 (nI t) 4) f).1 M = (f (s_tr (z_i M 83) t 4)).1 M := g9_of (q := 4) h ht (by decide)
theorem g9_of5 {β : Type} {f : Int32 → zP β} {t : Nat} (h : L9 M) (ht : t < 3) : (z_bd (p_X9_of 75 (nI t) 5) f).1 M = (f (s_tr (z_i M 83) t 5)).1 M := g9_of (q := 5) h ht (by decide)
theorem g9_of6 {β : Type} {f : Int32 → zP β} {t : Nat} (h : L9 M) (ht : t < 3) : (z_bd (p_X9_of 75 (nI t) 6) f).1 M = (f (s_tr (z_i M 83) t 6)).1 M := g9_of (q := 6) h ht (by decide)
theorem f9_loads (h : L9 M) (hs : z_i M 78 1 = nI n) (hn : n ≤ 3) : (p_X9_loads 75).1 M = some (.inr (s_sum 0 (fun t => s_tr (z_i M 83) t 4) n), M) := by
  unfold p_X9_loads
  refine lp_cnt n (fun j => (s_sum 0 (fun t => s_tr (z_i M 83) t 4) j, nI j)) (fun _ => M) _ _ ?_ ?_
  · intro j hj
    have h8 : j < 3 := by omega
    have hnj : ¬ nI n ≤ nI j := nI_ge hj (by omega)
    simp (disch := first | assumption | omega | (simp only [L9_wi, L9_wI]; assumption)) only [e_pu, e_ite, oL_add, oL_addr, oL_mul, nI_add, nI_1, b_pu, b_bd, b_ite, j_L, j_R, j_ite, j_bd, z_ex, q9_gI, q9_pI, q9_cv, q9_g76, q9_g77, q9_g78, q9_g79, q9_g80, q9_g81, q9_g82, q9_g83, q9_g84, q9_g85, q9_g86, q9_g87, q9_g88, q9_g89, q9_g90, q9_g91, q9_g92, q9_g93, q9_g94, q9_a78, q9_s78, q9_a80, q9_s80, q9_a82, q9_s82, q9_a83, q9_s83, q9_l78_0, q9_t78_0, q9_l78_1, q9_t78_1, q9_l78_2, q9_t78_2, q9_l78_3, q9_t78_3, q9_l78_4, q9_t78_4, q9_l78_5, q9_t78_5, q9_l78_6, q9_t78_6, q9_l78_7, q9_t78_7, q9_l78_8, q9_t78_8, q9_l83_0, q9_t83_0, q9_l83_1, q9_t83_1, q9_l83_2, q9_t83_2, q9_l83_3, q9_t83_3, q9_l83_4, q9_t83_4, q9_l83_5, q9_t83_5, q9_l83_204, q9_t83_204, q9_l82_0, q9_t82_0, g9_wk, g9_fr, g9_mk, g9_ds, g9_rd, g9_dr, g9_ev, g9_bn, ↓reduceIte, e_zg, if_true, if_false, g9_of0, g9_of1, g9_of2, g9_of3, g9_of4, g9_of5, g9_of6, hs, hnj, s_sum]
  · simp (disch := first | assumption | omega | (simp only [L9_wi, L9_wI]; assumption)) only [e_pu, e_ite, oL_add, oL_addr, oL_mul, nI_add, nI_1, b_pu, b_bd, b_ite, j_L, j_R, j_ite, j_bd, z_ex, q9_gI, q9_pI, q9_cv, q9_g76, q9_g77, q9_g78, q9_g79, q9_g80, q9_g81, q9_g82, q9_g83, q9_g84, q9_g85, q9_g86, q9_g87, q9_g88, q9_g89, q9_g90, q9_g91, q9_g92, q9_g93, q9_g94, q9_a78, q9_s78, q9_a80, q9_s80, q9_a82, q9_s82, q9_a83, q9_s83, q9_l78_0, q9_t78_0, q9_l78_1, q9_t78_1, q9_l78_2, q9_t78_2, q9_l78_3, q9_t78_3, q9_l78_4, q9_t78_4, q9_l78_5, q9_t78_5, q9_l78_6, q9_t78_6, q9_l78_7, q9_t78_7, q9_l78_8, q9_t78_8, q9_l83_0, q9_t83_0, q9_l83_1, q9_t83_1, q9_l83_2, q9_t83_2, q9_l83_3, q9_t83_3, q9_l83_4, q9_t83_4, q9_l83_5, q9_t83_5, q9_l83_204, q9_t83_204, q9_l82_0, q9_t82_0, g9_wk, g9_fr, g9_mk, g9_ds, g9_rd, g9_dr, g9_ev, g9_bn, ↓reduceIte, e_zg, if_true, if_false, g9_of0, g9_of1, g9_of2, g9_of3, g9_of4, g9_of5, g9_of6, hs, show nI n ≤ nI n from Int32.le_refl _]
theorem g9_loads {β : Type} {f : Int32 → zP β} (h : L9 M) (hs : z_i M 78 1 = nI n) (hn : n ≤ 3) : (z_bd (p_X9_loads 75) f).1 M = (f (s_sum 0 (fun t => s_tr (z_i M 83) t 4) n)).1 M := e_run (f9_loads h hs hn)
theorem f9_all {m : Nat} (h : L9 M) (hs : z_i M 78 1 = nI m) (hn : m ≤ 3) (hs0 : z_i M 78 0 = nI n) (hn0 : n ≤ 8) : (p_X9_all 75).1 M = some (.inr (s_sum (s_sum 0 (fun t => s_tr (z_i M 83) t 4) m + z_i M 83 204) (fun k => z_i M 83 (6 + k)) n), M) := by
  unfold p_X9_all
  simp (disch := first | assumption | omega | (simp only [L9_wi, L9_wI]; assumption)) only [e_pu, e_ite, oL_add, oL_addr, oL_mul, nI_add, nI_1, b_pu, b_bd, b_ite, j_L, j_R, j_ite, j_bd, z_ex, q9_gI, q9_pI, q9_cv, q9_g76, q9_g77, q9_g78, q9_g79, q9_g80, q9_g81, q9_g82, q9_g83, q9_g84, q9_g85, q9_g86, q9_g87, q9_g88, q9_g89, q9_g90, q9_g91, q9_g92, q9_g93, q9_g94, q9_a78, q9_s78, q9_a80, q9_s80, q9_a82, q9_s82, q9_a83, q9_s83, q9_l78_0, q9_t78_0, q9_l78_1, q9_t78_1, q9_l78_2, q9_t78_2, q9_l78_3, q9_t78_3, q9_l78_4, q9_t78_4, q9_l78_5, q9_t78_5, q9_l78_6, q9_t78_6, q9_l78_7, q9_t78_7, q9_l78_8, q9_t78_8, q9_l83_0, q9_t83_0, q9_l83_1, q9_t83_1, q9_l83_2, q9_t83_2, q9_l83_3, q9_t83_3, q9_l83_4, q9_t83_4, q9_l83_5, q9_t83_5, q9_l83_204, q9_t83_204, q9_l82_0, q9_t82_0, g9_wk, g9_fr, g9_mk, g9_ds, g9_rd, g9_dr, g9_ev, g9_bn, ↓reduceIte, e_zg, if_true, if_false, g9_of0, g9_of1, g9_of2, g9_of3, g9_of4, g9_of5, g9_of6, g9_loads h hs hn]
  refine lp_cnt n (fun j => (s_sum (s_sum 0 (fun t => s_tr (z_i M 83) t 4) m + z_i M 83 204) (fun k => z_i M 83 (6 + k)) j, nI j)) (fun _ => M) _ _ ?_ ?_
  · intro j hj
    have h8 : j < 8 := by omega
    have hnj : ¬ nI n ≤ nI j := nI_ge hj (by omega)
    simp (disch := first | assumption | omega | (simp only [L9_wi, L9_wI]; assumption)) only [e_pu, e_ite, oL_add, oL_addr, oL_mul, nI_add, nI_1, b_pu, b_bd, b_ite, j_L, j_R, j_ite, j_bd, z_ex, q9_gI, q9_pI, q9_cv, q9_g76, q9_g77, q9_g78, q9_g79, q9_g80, q9_g81, q9_g82, q9_g83, q9_g84, q9_g85, q9_g86, q9_g87, q9_g88, q9_g89, q9_g90, q9_g91, q9_g92, q9_g93, q9_g94, q9_a78, q9_s78, q9_a80, q9_s80, q9_a82, q9_s82, q9_a83, q9_s83, q9_l78_0, q9_t78_0, q9_l78_1, q9_t78_1, q9_l78_2, q9_t78_2, q9_l78_3, q9_t78_3, q9_l78_4, q9_t78_4, q9_l78_5, q9_t78_5, q9_l78_6, q9_t78_6, q9_l78_7, q9_t78_7, q9_l78_8, q9_t78_8, q9_l83_0, q9_t83_0, q9_l83_1, q9_t83_1, q9_l83_2, q9_t83_2, q9_l83_3, q9_t83_3, q9_l83_4, q9_t83_4, q9_l83_5, q9_t83_5, q9_l83_204, q9_t83_204, q9_l82_0, q9_t82_0, g9_wk, g9_fr, g9_mk, g9_ds, g9_rd, g9_dr, g9_ev, g9_bn, ↓reduceIte, e_zg, if_true, if_false, g9_of0, g9_of1, g9_of2, g9_of3, g9_of4, g9_of5, g9_of6, hs0, hnj, s_sum]
  · simp (disch := first | assumption | omega | (simp only [L9_wi, L9_wI]; assumption)) only [e_pu, e_ite, oL_add, oL_addr, oL_mul, nI_add, nI_1, b_pu, b_bd, b_ite, j_L, j_R, j_ite, j_bd, z_ex, q9_gI, q9_pI, q9_cv, q9_g76, q9_g77, q9_g78, q9_g79, q9_g80, q9_g81, q9_g82, q9_g83, q9_g84, q9_g85, q9_g86, q9_g87, q9_g88, q9_g89, q9_g90, q9_g91, q9_g92, q9_g93, q9_g94, q9_a78, q9_s78, q9_a80, q9_s80, q9_a82, q9_s82, q9_a83, q9_s83, q9_l78_0, q9_t78_0, q9_l78_1, q9_t78_1, q9_l78_2, q9_t78_2, q9_l78_3, q9_t78_3, q9_l78_4, q9_t78_4, q9_l78_5, q9_t78_5, q9_l78_6, q9_t78_6, q9_l78_7, q9_t78_7, q9_l78_8, q9_t78_8, q9_l83_0, q9_t83_0, q9_l83_1, q9_t83_1, q9_l83_2, q9_t83_2, q9_l83_3, q9_t83_3, q9_l83_4, q9_t83_4, q9_l83_5, q9_t83_5, q9_l83_204, q9_t83_204, q9_l82_0, q9_t82_0, g9_wk, g9_fr, g9_mk, g9_ds, g9_rd, g9_dr, g9_ev, g9_bn, ↓reduceIte, e_zg, if_true, if_false, g9_of0, g9_of1, g9_of2, g9_of3, g9_of4, g9_of5, g9_of6, hs0, show nI n ≤ nI n from Int32.le_refl _]
theorem g9_at (v : Int32) {β : Type} {f : Int32 → zP β} : (z_bd (p_X9_atLeast0 v) f).1 M = (f (if 0 ≤ v then v else 0)).1 M := by
  unfold p_X9_atLeast0
  simp only [b_ite, b_pu, e_ite]
  split <;> rfl
theorem g9_ap (c a b : Int32) {β : Type} {f : Int32 → zP β} : (z_bd (p_X9_apply c a b) f).1 M = (f (s_op c a b)).1 M := by
  unfold p_X9_apply s_op z_nz
  simp only [b_ite, b_pu, e_ite]
  by_cases h0 : b = 0
  · simp only [h0, if_true, b_pu, b_fl]
    repeat' (split <;> try rfl)
  · simp only [h0, if_false, b_pu]
    repeat' (split <;> try rfl)
theorem f9_fare (h : L9 M) (hc : z_i M 78 8 = nI n) (hn : n ≤ 700) (hn1 : 1 ≤ n) (hw : s_cw (z_i M 80) n) (hj : j < 8) (hk : k < 8) :
    (p_X9_fareOf 75 (nI j) (nI k)).1 M = some (.inr (s_fare (z_i M 78) (z_i M 80) (z_i M 83) n j k), z_wI M 82 (s_fa (z_i M 80) (s_val (z_i M 78) (z_i M 83) j k) (z_i M 82) n)) := by
  unfold p_X9_fareOf
  refine (e_jL (t := ()) (M1 := z_wI M 82 (s_fa (z_i M 80) (s_val (z_i M 78) (z_i M 83) j k) (z_i M 82) n)) ?_).trans ?_
  · have e0 : M = z_wI M 82 (s_fa (z_i M 80) (s_val (z_i M 78) (z_i M 83) j k) (z_i M 82) 0) := (m_wI_id M 82).symm
    conv => lhs; rw [e0]
    refine lp_cnt n (fun i => (nI (s_dp (z_i M 80) i), nI i)) (fun i => z_wI M 82 (s_fa (z_i M 80) (s_val (z_i M 78) (z_i M 83) j k) (z_i M 82) i)) _ _ ?_ ?_
    · intro i hi
      have hni : ¬ nI n ≤ nI i := nI_ge hi (by omega)
      have hwi := hw i hi
      have hd : s_dp (z_i M 80) i < 700 := by omega
      by_cases hc4 : z_i M 80 i < -4
      · have h2 := hwi.1 hc4
        simp (disch := first | assumption | omega | (simp only [L9_wi, L9_wI]; assumption)) only [e_pu, e_ite, oL_add, oL_addr, oL_mul, nI_add, nI_1, b_pu, b_bd, b_ite, j_L, j_R, j_ite, j_bd, z_ex, q9_gI, q9_pI, q9_cv, q9_g76, q9_g77, q9_g78, q9_g79, q9_g80, q9_g81, q9_g82, q9_g83, q9_g84, q9_g85, q9_g86, q9_g87, q9_g88, q9_g89, q9_g90, q9_g91, q9_g92, q9_g93, q9_g94, q9_a78, q9_s78, q9_a80, q9_s80, q9_a82, q9_s82, q9_a83, q9_s83, q9_l78_0, q9_t78_0, q9_l78_1, q9_t78_1, q9_l78_2, q9_t78_2, q9_l78_3, q9_t78_3, q9_l78_4, q9_t78_4, q9_l78_5, q9_t78_5, q9_l78_6, q9_t78_6, q9_l78_7, q9_t78_7, q9_l78_8, q9_t78_8, q9_l83_0, q9_t83_0, q9_l83_1, q9_t83_1, q9_l83_2, q9_t83_2, q9_l83_3, q9_t83_3, q9_l83_4, q9_t83_4, q9_l83_5, q9_t83_5, q9_l83_204, q9_t83_204, q9_l82_0, q9_t82_0, g9_wk, g9_fr, g9_mk, g9_ds, g9_rd, g9_dr, g9_ev, g9_bn, ↓reduceIte, e_zg, if_true, if_false, g9_of0, g9_of1, g9_of2, g9_of3, g9_of4, g9_of5, g9_of6, m_iWn, m_iW, hc, hni, hc4, nI_dec, nI_dec', g9_ap, m_wi_wI, s_fa, s_dp]
        rw [show s_dp (z_i M 80) i - 1 - 1 = s_dp (z_i M 80) i - 2 by omega]
      · simp (disch := first | assumption | omega | (simp only [L9_wi, L9_wI]; assumption)) only [e_pu, e_ite, oL_add, oL_addr, oL_mul, nI_add, nI_1, b_pu, b_bd, b_ite, j_L, j_R, j_ite, j_bd, z_ex, q9_gI, q9_pI, q9_cv, q9_g76, q9_g77, q9_g78, q9_g79, q9_g80, q9_g81, q9_g82, q9_g83, q9_g84, q9_g85, q9_g86, q9_g87, q9_g88, q9_g89, q9_g90, q9_g91, q9_g92, q9_g93, q9_g94, q9_a78, q9_s78, q9_a80, q9_s80, q9_a82, q9_s82, q9_a83, q9_s83, q9_l78_0, q9_t78_0, q9_l78_1, q9_t78_1, q9_l78_2, q9_t78_2, q9_l78_3, q9_t78_3, q9_l78_4, q9_t78_4, q9_l78_5, q9_t78_5, q9_l78_6, q9_t78_6, q9_l78_7, q9_t78_7, q9_l78_8, q9_t78_8, q9_l83_0, q9_t83_0, q9_l83_1, q9_t83_1, q9_l83_2, q9_t83_2, q9_l83_3, q9_t83_3, q9_l83_4, q9_t83_4, q9_l83_5, q9_t83_5, q9_l83_204, q9_t83_204, q9_l82_0, q9_t82_0, g9_wk, g9_fr, g9_mk, g9_ds, g9_rd, g9_dr, g9_ev, g9_bn, ↓reduceIte, e_zg, if_true, if_false, g9_of0, g9_of1, g9_of2, g9_of3, g9_of4, g9_of5, g9_of6, m_iWn, m_iW, hc, hni, hc4, m_wi_wI, s_fa, s_dp, s_val]
        repeat' (split <;> try rfl)
    · simp (disch := first | assumption | omega | (simp only [L9_wi, L9_wI]; assumption)) only [e_pu, e_ite, oL_add, oL_addr, oL_mul, nI_add, nI_1, b_pu, b_bd, b_ite, j_L, j_R, j_ite, j_bd, z_ex, q9_gI, q9_pI, q9_cv, q9_g76, q9_g77, q9_g78, q9_g79, q9_g80, q9_g81, q9_g82, q9_g83, q9_g84, q9_g85, q9_g86, q9_g87, q9_g88, q9_g89, q9_g90, q9_g91, q9_g92, q9_g93, q9_g94, q9_a78, q9_s78, q9_a80, q9_s80, q9_a82, q9_s82, q9_a83, q9_s83, q9_l78_0, q9_t78_0, q9_l78_1, q9_t78_1, q9_l78_2, q9_t78_2, q9_l78_3, q9_t78_3, q9_l78_4, q9_t78_4, q9_l78_5, q9_t78_5, q9_l78_6, q9_t78_6, q9_l78_7, q9_t78_7, q9_l78_8, q9_t78_8, q9_l83_0, q9_t83_0, q9_l83_1, q9_t83_1, q9_l83_2, q9_t83_2, q9_l83_3, q9_t83_3, q9_l83_4, q9_t83_4, q9_l83_5, q9_t83_5, q9_l83_204, q9_t83_204, q9_l82_0, q9_t82_0, g9_wk, g9_fr, g9_mk, g9_ds, g9_rd, g9_dr, g9_ev, g9_bn, ↓reduceIte, e_zg, if_true, if_false, g9_of0, g9_of1, g9_of2, g9_of3, g9_of4, g9_of5, g9_of6, m_iWn, hc, show nI n ≤ nI n from Int32.le_refl _]
  · have e1 := s_fa_eq (z_i M 80) (s_val (z_i M 78) (z_i M 83) j k) (z_i M 82) (fun _ => 0) n hw 0 (s_dp_pos _ n hw hn1)
    simp (disch := first | assumption | omega | (simp only [L9_wi, L9_wI]; assumption)) only [e_pu, e_ite, oL_add, oL_addr, oL_mul, nI_add, nI_1, b_pu, b_bd, b_ite, j_L, j_R, j_ite, j_bd, z_ex, q9_gI, q9_pI, q9_cv, q9_g76, q9_g77, q9_g78, q9_g79, q9_g80, q9_g81, q9_g82, q9_g83, q9_g84, q9_g85, q9_g86, q9_g87, q9_g88, q9_g89, q9_g90, q9_g91, q9_g92, q9_g93, q9_g94, q9_a78, q9_s78, q9_a80, q9_s80, q9_a82, q9_s82, q9_a83, q9_s83, q9_l78_0, q9_t78_0, q9_l78_1, q9_t78_1, q9_l78_2, q9_t78_2, q9_l78_3, q9_t78_3, q9_l78_4, q9_t78_4, q9_l78_5, q9_t78_5, q9_l78_6, q9_t78_6, q9_l78_7, q9_t78_7, q9_l78_8, q9_t78_8, q9_l83_0, q9_t83_0, q9_l83_1, q9_t83_1, q9_l83_2, q9_t83_2, q9_l83_3, q9_t83_3, q9_l83_4, q9_t83_4, q9_l83_5, q9_t83_5, q9_l83_204, q9_t83_204, q9_l82_0, q9_t82_0, g9_wk, g9_fr, g9_mk, g9_ds, g9_rd, g9_dr, g9_ev, g9_bn, ↓reduceIte, e_zg, if_true, if_false, g9_of0, g9_of1, g9_of2, g9_of3, g9_of4, g9_of5, g9_of6, m_iW]
    unfold s_fare s_cl
    rw [e1]
    split
    · split <;> rfl
    · rfl

end P9L
