/-! ===== PHASE 2: the model's riders and minutes ===== -/
/-- a loop that counts n steps, its memory under an invariant -/
theorem lp_ct {σ β : Type} {f : σ → zP (σ ⊕ β)} (n : Nat) (S : Nat → σ) (I : Nat → zM → Prop) (Q : β → zM → Prop) (hs : ∀ j M, j < n → I j M → ∃ M', (f (S j)).1 M = some (.inr (.inl (S (j + 1))), M') ∧ I (j + 1) M')
    (he : ∀ M, I n M → ∃ b M', (f (S n)).1 M = some (.inr (.inr b), M') ∧ Q b M') : ∀ M, I 0 M → ∃ b M', (z_lp f (S 0)).1 M = some (.inr b, M') ∧ Q b M' := by
  have key : ∀ k j M, j + k = n → I j M → ∃ b M', (z_lp f (S j)).1 M = some (.inr b, M') ∧ Q b M' := by
    intro k
    induction k with
    | zero =>
      intro j M hj hI
      have : j = n := hj
      subst this
      obtain ⟨b, M', h1, h2⟩ := he M hI
      exact ⟨b, M', z_lp_end h1, h2⟩
    | succ k ih =>
      intro j M hj hI
      obtain ⟨M', h1, h2⟩ := hs j M (by omega) hI
      obtain ⟨b, M2, g1, g2⟩ := ih (j + 1) M' (by omega) h2
      exact ⟨b, M2, (z_lp_step h1).trans g1, g2⟩
  exact fun M hI => key n 0 M (Nat.zero_add n) hI
theorem s_fr_co {ct st st' : Nat → Int32} {j : Nat} (h6 : st (6 + j) = st' (6 + j)) (h14 : st (14 + j) = st' (14 + j)) : s_fr ct st j = s_fr ct st' j := by
  unfold s_fr s_wk
  rw [h6, h14]
theorem s_near_co {ct st st' : Nat → Int32} {k : Nat} {d : Int32} : ∀ n, (∀ j, j < n → st (6 + j) = st' (6 + j) ∧ st (14 + j) = st' (14 + j)) → s_near ct st k d n = s_near ct st' k d n
  | 0, _ => rfl
  | n + 1, h => by
    have ih := s_near_co (ct := ct) (st := st) (st' := st') (k := k) (d := d) n (fun j hj => h j (by omega))
    have hb : s_bk ct st d n = s_bk ct st' d n := by
      unfold s_bk
      rw [(h n (by omega)).1, s_fr_co (h n (by omega)).1 (h n (by omega)).2]
    unfold s_near
    rw [ih, hb]
def s_nO (ct : Nat → Int32) (s : Nat) : Option Nat → Int32
  | none => 1
  | some m => s_rd ct s m
def s_nT (s : Nat) : Option Nat → Int32
  | none => nI s
  | some m => nI m
/-- rider k, at station s, is turned away -/
def s_tun (ct st : Nat → Int32) (n k s : Nat) : Nat → Int32 := s_up (s_up (s_up st 5 (st 5 + 1)) (205 + 3 * k) (st 0 + s_nO ct s (s_near ct st s 1 n))) (205 + 3 * k + 1) (s_nT s (s_near ct st s 1 n))
/-- a ride ends at station s -/
def s_lnd (ct st : Nat → Int32) (s : Nat) : Nat → Int32 := s_up (s_up st 2 (st 2 + s_bn ct st s)) (6 + s) (st (6 + s) + 1)
section PK3
variable {β : Type} {M : zM} {g st : Nat → Int32} {i j k n m t q s p l : Nat} {v x : Int32}
theorem kk_com {f : Int32 → zP β} (h : L9 M) (hs0 : z_i M 78 0 = nI n) (hn : n ≤ 8) (hk : k < 1024) (e1 : st (205 + 3 * k + 1) = nI s) (hs : s < 8) :
    (z_bd (p_X9_comes 75 (nI k)) f).1 (K9 M g st) = if s_fr (z_i M 78) st s ≤ 0 then (f 0).1 (K9 M g (s_tun (z_i M 78) st n k s)) else (f 1).1 (K9 M g (s_lnd (z_i M 78) st s)) := by
  have en : s_near (z_i M 78) (s_up st 5 (st 5 + 1)) s 1 n = s_near (z_i M 78) st s 1 n := s_near_co n (fun j hj => ⟨s_upn _ _ (by omega), s_upn _ _ (by omega)⟩)
  unfold p_X9_comes
  by_cases h0 : s_fr (z_i M 78) st s ≤ 0
  · rw [if_pos h0]
    unfold s_tun
    cases hc : s_near (z_i M 78) st s 1 n with
    | none =>
      simp (disch := first | assumption | omega) only [e_pu, e_ite, oL_add, oL_addr, oL_mul, nI_add, nI_1, b_pu, b_bd, b_ite, j_L, j_R, j_ite, j_bd, z_ex, ↓reduceIte, if_true, if_false, kk_cv, kk_a83, kk_s83, kk_a78, kk_g78, kk_g80, kk_g82, kk_g83, kk_l78_0, kk_l78_1, kk_l78_2, kk_l78_3, kk_l78_4, kk_l78_5, kk_l78_6, kk_l78_7, kk_l78_8, kk_l83_0, kk_t83_0, kk_l83_1, kk_t83_1, kk_l83_2, kk_t83_2, kk_l83_3, kk_t83_3, kk_l83_4, kk_t83_4, kk_l83_5, kk_t83_5, kk_l83_204, kk_t83_204, kk_wk, kk_fr, kk_mk, kk_ev, kk_bn, kk_ds, kk_rd, kk_dr, kk_of, kk_of0, kk_of1, kk_of2, kk_of3, kk_of4, kk_of5, kk_of6, kk_of7, kk_near, kk_loads, kk_all, kk_fare, g9_at, g9_ap, kk_put0, kk_put1, kk_put2, kk_put3, kk_put4, kk_put5, kk_put6, kk_put7, kk_put, kk_ra0, kk_ra1, kk_ra2, kk_ra, kk_beg, kk_car, e1, h0, kk_near h hs0 hn hs, en, hc, s_upn, show ¬ (0 : Int32) ≤ iO none by decide]
      rfl
    | some m =>
      have hm := (s_near_lt _ _ _ _ _ _ hc).1
      simp (disch := first | assumption | omega) only [e_pu, e_ite, oL_add, oL_addr, oL_mul, nI_add, nI_1, b_pu, b_bd, b_ite, j_L, j_R, j_ite, j_bd, z_ex, ↓reduceIte, if_true, if_false, kk_cv, kk_a83, kk_s83, kk_a78, kk_g78, kk_g80, kk_g82, kk_g83, kk_l78_0, kk_l78_1, kk_l78_2, kk_l78_3, kk_l78_4, kk_l78_5, kk_l78_6, kk_l78_7, kk_l78_8, kk_l83_0, kk_t83_0, kk_l83_1, kk_t83_1, kk_l83_2, kk_t83_2, kk_l83_3, kk_t83_3, kk_l83_4, kk_t83_4, kk_l83_5, kk_t83_5, kk_l83_204, kk_t83_204, kk_wk, kk_fr, kk_mk, kk_ev, kk_bn, kk_ds, kk_rd, kk_dr, kk_of, kk_of0, kk_of1, kk_of2, kk_of3, kk_of4, kk_of5, kk_of6, kk_of7, kk_near, kk_loads, kk_all, kk_fare, g9_at, g9_ap, kk_put0, kk_put1, kk_put2, kk_put3, kk_put4, kk_put5, kk_put6, kk_put7, kk_put, kk_ra0, kk_ra1, kk_ra2, kk_ra, kk_beg, kk_car, e1, h0, kk_near h hs0 hn hs, en, hc, s_upn, iO_some, nI_pos' (show m < 2 ^ 31 by omega)]
      rfl
  · rw [if_neg h0]
    unfold s_lnd
    simp (disch := first | assumption | omega) only [e_pu, e_ite, oL_add, oL_addr, oL_mul, nI_add, nI_1, b_pu, b_bd, b_ite, j_L, j_R, j_ite, j_bd, z_ex, ↓reduceIte, if_true, if_false, kk_cv, kk_a83, kk_s83, kk_a78, kk_g78, kk_g80, kk_g82, kk_g83, kk_l78_0, kk_l78_1, kk_l78_2, kk_l78_3, kk_l78_4, kk_l78_5, kk_l78_6, kk_l78_7, kk_l78_8, kk_l83_0, kk_t83_0, kk_l83_1, kk_t83_1, kk_l83_2, kk_t83_2, kk_l83_3, kk_t83_3, kk_l83_4, kk_t83_4, kk_l83_5, kk_t83_5, kk_l83_204, kk_t83_204, kk_wk, kk_fr, kk_mk, kk_ev, kk_bn, kk_ds, kk_rd, kk_dr, kk_of, kk_of0, kk_of1, kk_of2, kk_of3, kk_of4, kk_of5, kk_of6, kk_of7, kk_near, kk_loads, kk_all, kk_fare, g9_at, g9_ap, kk_put0, kk_put1, kk_put2, kk_put3, kk_put4, kk_put5, kk_put6, kk_put7, kk_put, kk_ra0, kk_ra1, kk_ra2, kk_ra, kk_beg, kk_car, e1, h0, s_upn]
/-- rider k's three numbers, into place l -/
def s_cp (st : Nat → Int32) (k l : Nat) : Nat → Nat → Int32
  | 0 => st
  | i + 1 => s_up (s_cp st k l i) (205 + 3 * l + i) (s_cp st k l i (205 + 3 * k + i))
def s_rl (ct : Nat → Int32) (n : Nat) (st : Nat → Int32) : Nat → Nat × (Nat → Int32)
  | 0 => (0, st)
  | k + 1 =>
    let r := s_rl ct n st k
    if r.2 (205 + 3 * k) = r.2 0 then
      (if s_fr ct r.2 (ix (r.2 (205 + 3 * k + 1))) ≤ 0 then (r.1 + 1, s_cp (s_tun ct r.2 n k (ix (r.2 (205 + 3 * k + 1)))) k r.1 3) else (r.1, s_lnd ct r.2 (ix (r.2 (205 + 3 * k + 1)))))
    else (r.1 + 1, s_cp r.2 k r.1 3)
theorem s_cp_o (st : Nat → Int32) (k l j : Nat) : ∀ i, (j < 205 + 3 * l ∨ 205 + 3 * l + i ≤ j) → s_cp st k l i j = st j
  | 0, _ => rfl
  | i + 1, h => by
    unfold s_cp
    rw [s_upn _ _ (by omega)]
    exact s_cp_o st k l j i (by omega)
theorem s_rl_le (ct : Nat → Int32) (n : Nat) (st : Nat → Int32) : ∀ k, (s_rl ct n st k).1 ≤ k
  | 0 => Nat.le_refl _
  | k + 1 => by
    have ih := s_rl_le ct n st k
    unfold s_rl
    simp only
    split
    · split
      · exact Nat.succ_le_succ ih
      · exact Nat.le_succ_of_le ih
    · exact Nat.succ_le_succ ih

end PK3
