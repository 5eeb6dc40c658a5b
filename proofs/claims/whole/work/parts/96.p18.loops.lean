/-! ===== PHASE 2: rows copied by loops ===== -/
/-- st up to the state's size, then w -/
def s_ab3 (st w : Nat → Int32) : Nat → Int32 := fun j => if j < 3277 then st j else w j
section PA18
variable {β : Type} {M : zM} {F : Nat → Nat → Int32} {ct cd st bf : Nat → Int32} {i j k q c sp n ns nt np nc L : Nat} {H : List (Nat → Int32)} {S : Nat → Option (Nat → Int32)} {v w x y code : Int32} {xs : Nat → Int32} {f : Unit → zP β}
theorem cp_loop {β : Type} {f : Int32 → zP (Int32 ⊕ β)} {b : β} (n sq dq x y : Nat) (hn : n < 2 ^ 31) (hs : ∀ t g, t < n → (f (nI t)).1 (KI M (z_up1 F y g)) = some (.inr (.inl (nI (t + 1))), KI M (z_up2 (z_up1 F y g) y (dq + t) (F x (sq + t))))) (he : ∀ g, (f (nI n)).1 (KI M (z_up1 F y g)) = some (.inr (.inr b), KI M (z_up1 F y g))) : (z_lp f (nI 0)).1 (KI M F) = some (.inr b, KI M (z_up1 F y (va_cpy (F x) (F y) sq dq n))) := by
  have h0 : KI M F = KI M (z_up1 F y (va_cpy (F x) (F y) sq dq 0)) := by
    have : va_cpy (F x) (F y) sq dq 0 = F y := by
      funext j
      exact pk_cpy_out (by omega)
    rw [this, up1_id]
  rw [h0]
  refine lp_cnt n (fun t => nI t) (fun t => KI M (z_up1 F y (va_cpy (F x) (F y) sq dq t))) b _ ?_ (he _)
  intro t ht
  rw [hs t _ ht]
  refine congrArg (fun G => some (Sum.inr (Sum.inl (nI (t + 1))), KI M G)) ?_
  funext u j
  by_cases e : u = y
  · subst e
    rw [u1_s]
    by_cases e2 : j = dq + t
    · subst e2
      rw [u2_s, pk_cpy_in (by omega) (by omega)]
      congr 1
      omega
    · rw [u2_n _ _ (Or.inr e2), u1_s]
      by_cases e3 : dq ≤ j ∧ j < dq + t
      · rw [pk_cpy_in e3.1 e3.2, pk_cpy_in e3.1 (by omega)]
      · rw [pk_cpy_out (by omega), pk_cpy_out (by omega)]
  · rw [u2_n _ _ (Or.inl e), u1_n _ _ e, u1_n _ _ e]
/-- a row moved down within itself -/
theorem sh_loop {β : Type} {f : Int32 → zP (Int32 ⊕ β)} {b : β} (n s y : Nat) (hn : n < 2 ^ 31) (hs : ∀ t g, t < n → (f (nI t)).1 (KI M (z_up1 F y g)) = some (.inr (.inl (nI (t + 1))), KI M (z_up2 (z_up1 F y g) y t (g (t + s))))) (he : ∀ g, (f (nI n)).1 (KI M (z_up1 F y g)) = some (.inr (.inr b), KI M (z_up1 F y g))) : (z_lp f (nI 0)).1 (KI M F) = some (.inr b, KI M (z_up1 F y (fun j => if j < n then F y (j + s) else F y j))) := by
  have h0 : KI M F = KI M (z_up1 F y (fun j => if j < 0 then F y (j + s) else F y j)) := by
    have : (fun j => if j < 0 then F y (j + s) else F y j) = F y := by
      funext j
      exact if_neg (Nat.not_lt_zero _)
    rw [this, up1_id]
  rw [h0]
  refine lp_cnt n (fun t => nI t) (fun t => KI M (z_up1 F y (fun j => if j < t then F y (j + s) else F y j))) b _ ?_ (he _)
  intro t ht
  rw [hs t _ ht]
  refine congrArg (fun G => some (Sum.inr (Sum.inl (nI (t + 1))), KI M G)) ?_
  funext u j
  by_cases e : u = y
  · subst e
    rw [u1_s]
    by_cases e2 : j = t
    · subst e2
      rw [u2_s]
      show (if j + s < j then _ else F u (j + s)) = (if j < j + 1 then F u (j + s) else F u j)
      rw [if_neg (by omega), if_pos (by omega)]
    · rw [u2_n _ _ (Or.inr e2), u1_s]
      show (if j < t then _ else _) = (if j < t + 1 then _ else _)
      by_cases e3 : j < t
      · rw [if_pos e3, if_pos (by omega)]
      · rw [if_neg e3, if_neg (by omega)]
  · rw [u2_n _ _ (Or.inl e), u1_n _ _ e, u1_n _ _ e]
theorem m_aside {f : Unit → zP β} (h : L9 M) : (z_bd (p_X9_setAside 75) f).1 (KI M F) = (f ()).1 (KI M (z_up1 F 87 (va_cpy (F 83) (F 87) 0 0 3277))) := by
  refine e_run ?_
  unfold p_X9_setAside
  refine cp_loop 3277 0 0 83 87 (by omega) (fun t g ht => ?_) (fun g => ?_)
  · have h3 : ¬ (3277 : Int32) ≤ nI t := nI_ge (b := 3277) ht (by omega)
    simp (disch := first | assumption | omega) only [e_pu, e_ite, oL_add, oL_addr, oL_mul, nI_add, nI_1, b_pu, b_bd, b_ite, j_L, j_R, j_ite, j_bd, z_ex, ↓reduceIte, if_true, if_false, kn_gI, kn_pI, kn_cv, kn_g76, kn_a76, kn_s76, kn_g77, kn_a77, kn_s77, kn_g78, kn_a78, kn_s78, kn_g79, kn_a79, kn_s79, kn_g80, kn_a80, kn_s80, kn_g81, kn_a81, kn_s81, kn_g82, kn_a82, kn_s82, kn_g83, kn_a83, kn_s83, kn_g84, kn_a84, kn_s84, kn_g85, kn_a85, kn_s85, kn_g86, kn_g87, kn_a87, kn_s87, kn_g88, kn_a88, kn_s88, kn_g89, kn_a89, kn_s89, kn_g90, kn_a90, kn_s90, kn_g91, kn_a91, kn_s91, kn_g92, kn_a92, kn_s92, kn_g93, kn_a93, kn_s93, kn_g94, kn_a94, kn_s94, kn_l77_0, kn_t77_0, kn_l77_1, kn_t77_1, kn_l77_2, kn_t77_2, kn_l77_3, kn_t77_3, kn_l77_4, kn_t77_4, kn_l77_5, kn_t77_5, kn_l77_6, kn_t77_6, kn_l77_7, kn_t77_7, kn_l77_8, kn_t77_8, kn_l78_0, kn_t78_0, kn_l78_1, kn_t78_1, kn_l78_2, kn_t78_2, kn_l78_3, kn_t78_3, kn_l78_4, kn_t78_4, kn_l78_5, kn_t78_5, kn_l78_6, kn_t78_6, kn_l78_7, kn_t78_7, kn_l78_8, kn_t78_8, kn_l79_0, kn_t79_0, kn_l82_0, kn_t82_0, kn_l83_0, kn_t83_0, kn_l83_1, kn_t83_1, kn_l83_2, kn_t83_2, kn_l83_3, kn_t83_3, kn_l83_4, kn_t83_4, kn_l83_5, kn_t83_5, kn_l83_204, kn_t83_204, kn_wk, kn_fr, kn_mk, kn_ev, kn_bn, kn_ds, kn_rd, kn_dr, kn_of, kn_of0, kn_of1, kn_of2, kn_of3, kn_of4, kn_of5, kn_of6, kn_near, kn_loads, kn_all, kn_fare, kn_fail, kn_told, g9_wi, g9_at, h3, u1_n]
    rw [Nat.zero_add]
  · rfl
theorem m_back {f : Unit → zP β} (h : L9 M) : (z_bd (p_X9_bringBack 75) f).1 (KI M F) = (f ()).1 (KI M (z_up1 F 83 (va_cpy (F 87) (F 83) 0 0 3277))) := by
  refine e_run ?_
  unfold p_X9_bringBack
  refine cp_loop 3277 0 0 87 83 (by omega) (fun t g ht => ?_) (fun g => ?_)
  · have h3 : ¬ (3277 : Int32) ≤ nI t := nI_ge (b := 3277) ht (by omega)
    simp (disch := first | assumption | omega) only [e_pu, e_ite, oL_add, oL_addr, oL_mul, nI_add, nI_1, b_pu, b_bd, b_ite, j_L, j_R, j_ite, j_bd, z_ex, ↓reduceIte, if_true, if_false, kn_gI, kn_pI, kn_cv, kn_g76, kn_a76, kn_s76, kn_g77, kn_a77, kn_s77, kn_g78, kn_a78, kn_s78, kn_g79, kn_a79, kn_s79, kn_g80, kn_a80, kn_s80, kn_g81, kn_a81, kn_s81, kn_g82, kn_a82, kn_s82, kn_g83, kn_a83, kn_s83, kn_g84, kn_a84, kn_s84, kn_g85, kn_a85, kn_s85, kn_g86, kn_g87, kn_a87, kn_s87, kn_g88, kn_a88, kn_s88, kn_g89, kn_a89, kn_s89, kn_g90, kn_a90, kn_s90, kn_g91, kn_a91, kn_s91, kn_g92, kn_a92, kn_s92, kn_g93, kn_a93, kn_s93, kn_g94, kn_a94, kn_s94, kn_l77_0, kn_t77_0, kn_l77_1, kn_t77_1, kn_l77_2, kn_t77_2, kn_l77_3, kn_t77_3, kn_l77_4, kn_t77_4, kn_l77_5, kn_t77_5, kn_l77_6, kn_t77_6, kn_l77_7, kn_t77_7, kn_l77_8, kn_t77_8, kn_l78_0, kn_t78_0, kn_l78_1, kn_t78_1, kn_l78_2, kn_t78_2, kn_l78_3, kn_t78_3, kn_l78_4, kn_t78_4, kn_l78_5, kn_t78_5, kn_l78_6, kn_t78_6, kn_l78_7, kn_t78_7, kn_l78_8, kn_t78_8, kn_l79_0, kn_t79_0, kn_l82_0, kn_t82_0, kn_l83_0, kn_t83_0, kn_l83_1, kn_t83_1, kn_l83_2, kn_t83_2, kn_l83_3, kn_t83_3, kn_l83_4, kn_t83_4, kn_l83_5, kn_t83_5, kn_l83_204, kn_t83_204, kn_wk, kn_fr, kn_mk, kn_ev, kn_bn, kn_ds, kn_rd, kn_dr, kn_of, kn_of0, kn_of1, kn_of2, kn_of3, kn_of4, kn_of5, kn_of6, kn_near, kn_loads, kn_all, kn_fare, kn_fail, kn_told, g9_wi, g9_at, h3, u1_n]
    rw [Nat.zero_add]
  · rfl
theorem CI_st {st' : Nat → Int32} (h : CI k M c sp ct cd ns nt np nc st H S n bf) (he : ∀ j, j < 3277 → st' j = st j) : CI k M c sp ct cd ns nt np nc st' H S n bf := by
  obtain ⟨h1, ⟨T, hT, hA⟩, h3⟩ := h
  exact ⟨h1, ⟨T, hT, AV_st hA he⟩, h3⟩
theorem cres_st {α : Type} {pc : zP α} {a : α} {st' : Nat → Int32} (h : cres pc k M a c sp ct cd ns nt np nc st H S n bf) (he : ∀ j, j < 3277 → st' j = st j) : cres pc k M a c sp ct cd ns nt np nc st' H S n bf := by
  obtain ⟨M1, e1, c1, r⟩ := h
  exact ⟨M1, e1, CI_st c1 he, r⟩
end PA18
