/-! ===== PHASE 2: rider ===== -/
/-- how many of the first riders arrive ahead of the number z -/
def s_rk (R : List zRd) (z : Nat) : Nat → Nat
  | 0 => 0
  | o + 1 => s_rk R z o + (match R[o]? with
    | some y => if cX y < z then 1 else 0
    | none => 0)
section PA17
variable {β : Type} {M : zM} {F : Nat → Nat → Int32} {ct cd st bf : Nat → Int32} {i j k q c sp n ns nt np nc L : Nat} {H : List (Nat → Int32)} {S : Nat → Option (Nat → Int32)} {v w x y code : Int32} {xs : Nat → Int32} {f : Unit → zP β}
theorem s_rk_take (R : List zRd) (z : Nat) : ∀ n, s_rk R z n = (R.take n).countP (fun y => decide (cX y < z))
  | 0 => rfl
  | n + 1 => by
    rw [s_rk, s_rk_take R z n, List.take_succ, List.countP_append]
    congr 1
    cases R[n]? with
    | none => rfl
    | some y =>
      show (if cX y < z then 1 else 0) = List.countP _ [y]
      rw [List.countP_singleton]
      by_cases h : cX y < z
      · rw [if_pos h]; simp [h]
      · rw [if_neg h]; simp [h]
theorem s_rk_all {R : List zRd} {l : List Nat} (z : Nat) (hl : l.Perm (R.map cX)) : s_rk R z R.length = l.countP (fun w => decide (w < z)) := by
  rw [s_rk_take, List.take_length, hl.countP_eq, List.countP_map]
  rfl
theorem cnt_sorted : ∀ (l : List Nat) (j z : Nat), l.Pairwise (· < ·) → l[j]? = some z → l.countP (fun w => decide (w < z)) = j
  | [], j, z, _, h => by cases h
  | y :: l, 0, z, hp, h => by
    cases h
    rw [List.countP_cons_of_neg (by simp)]
    rw [List.countP_eq_zero]
    intro w hw
    have := (List.pairwise_cons.mp hp).1 w hw
    simp only [decide_eq_true_eq]
    omega
  | y :: l, j + 1, z, hp, h => by
    have h2 : l[j]? = some z := h
    have hm := List.mem_of_getElem? h2
    have := (List.pairwise_cons.mp hp).1 z hm
    rw [List.countP_cons_of_pos (by simp only [decide_eq_true_eq]; exact this), cnt_sorted l j z (List.pairwise_cons.mp hp).2 h2]
theorem rk_of {R : List zRd} {l : List Nat} {z : Nat} (hl : l.Perm (R.map cX)) (hp : l.Pairwise (· < ·)) (hz : l[j]? = some z) : j = s_rk R z R.length := by rw [s_rk_all z hl, cnt_sorted l j z hp hz]
theorem rk_ne {R : List zRd} {l : List Nat} {z d q k0 : Nat} {x y : zRd} (hl : l.Perm (R.map cX)) (hp : l.Pairwise (· < ·)) (hrn : R.Pairwise (fun x y => x.2.1 < y.2.1)) (hok : ∀ x ∈ R, okX ns d x) (hns : ns ≤ 8 ∧ d ≤ 768) (hz : l[j]? = some z) (hk0 : R[k0]? = some x ∧ cX x = z) (hy : R[q]? = some y) (hq : q < k0) : ¬ s_rk R (cX y) R.length = j := by
  intro e
  have hm : cX y ∈ l := hl.mem_iff.mpr (List.mem_map.mpr ⟨y, List.mem_of_getElem? hy, rfl⟩)
  obtain ⟨a, ha, ea⟩ := List.getElem_of_mem hm
  have ha2 : l[a]? = some (cX y) := by rw [List.getElem?_eq_getElem ha, ea]
  have h1 := rk_of hl hp ha2
  have : a = j := by omega
  subst this
  have hzy : z = cX y := Option.some.inj (hz.symm.trans ha2)
  have hlt : y.2.1 < x.2.1 := by
    obtain ⟨hq1, hq2⟩ := List.getElem?_eq_some_iff.mp hy
    obtain ⟨hk1, hk2⟩ := List.getElem?_eq_some_iff.mp hk0.1
    have := List.pairwise_iff_getElem.mp hrn q k0 hq1 hk1 hq
    rw [hq2, hk2] at this
    exact this
  have o1 := hok y (List.mem_of_getElem? hy)
  have o2 := hok x (List.mem_of_getElem? hk0.1)
  have e1 := cN_rn (A := x.1) (R := x.2.1) (O := x.2.2.1) (T := x.2.2.2) (by have := o2.2.1; omega) (by have := o2.2.2.1; omega) (by have := o2.2.2.2; omega)
  have e2 := cN_rn (A := y.1) (R := y.2.1) (O := y.2.2.1) (T := y.2.2.2) (by have := o1.2.1; omega) (by have := o1.2.2.1; omega) (by have := o1.2.2.2; omega)
  have e3 : cN x.1 x.2.1 x.2.2.1 x.2.2.2 = cN y.1 y.2.1 y.2.2.1 y.2.2.2 := hk0.2.trans hzy
  rw [e3, e2] at e1
  omega
/-- which of two riders is ahead -/
theorem cX_ltq {R : List zRd} {d o q : Nat} {x y : zRd} (hrn : R.Pairwise (fun x y => x.2.1 < y.2.1)) (hok : ∀ x ∈ R, okX ns d x) (hns : ns ≤ 8 ∧ d ≤ 768) (hy : R[o]? = some y) (hx : R[q]? = some x) (hoq : o ≠ q) : cX y < cX x ↔ (if y.1 = x.1 then o < q else y.1 < x.1) := by
  have o1 := hok y (List.mem_of_getElem? hy)
  have o2 := hok x (List.mem_of_getElem? hx)
  obtain ⟨a1, a2⟩ := List.getElem?_eq_some_iff.mp hy
  obtain ⟨b1, b2⟩ := List.getElem?_eq_some_iff.mp hx
  have h1 := o1.2.1
  have h2 := o2.2.1
  have h3 := o1.2.2.1
  have h4 := o2.2.2.1
  have h5 := o1.2.2.2
  have h6 := o2.2.2.2
  unfold cX cN
  by_cases e : y.1 = x.1
  · rw [if_pos e, e]
    by_cases hlt : o < q
    · have := List.pairwise_iff_getElem.mp hrn o q a1 b1 hlt
      rw [a2, b2] at this
      refine ⟨fun _ => hlt, fun _ => by omega⟩
    · have := List.pairwise_iff_getElem.mp hrn q o b1 a1 (by omega)
      rw [a2, b2] at this
      refine ⟨fun h => by omega, fun h => absurd h hlt⟩
  · rw [if_neg e]
    omega
theorem kx_cd {f : Int32 → zP β} {a : Nat} (hL : LZ a M) (hj : j < 768) : (z_bd (z_gA 5 a 5) (fun v5 => (z_bd (z_gA 4 v5 0) (fun v6 => (z_bd (z_aI 11 v6 (nI j)) f))))).1 (KI M F) = (f (F (a + 6 + 1) j)).1 (KI M F) := by
  simp (disch := first | assumption | omega | (apply LZ_R; assumption) | (apply LZ_T <;> first | assumption | omega) | (apply LC_F; assumption)) only [e_pu, e_ite, oL_add, oL_addr, oL_mul, nI_add, nI_1, b_pu, b_bd, b_ite, j_L, j_R, j_ite, j_bd, z_ex, ↓reduceIte, if_true, if_false, kt_gI, kt_pI, kt_cv, kt_g0, kt_g1, kt_a1, kt_s1, kt_n1, kt_z1, kt_a2, kt_s2, kt_n2, kt_z2, kr_gI, kr_pI, kr_cv, kr_g0, kr_a1, kr_s1, kr_n1, kr_z1, kf_gI, kf_pI, kf_cv, kf_g0, kf_g1, kf_a1, kf_s1, kf_n1, kf_z1, kf_a2, kf_s2, kf_n2, kf_z2, kc_gI, kc_pI, kc_cv, kc_g0, kc_g1, kc_g2, kc_g3, kc_g4, kc_g5, kc_g6, kc_g7, kc_g8, kc_g9, kc_a1, kc_s1, kc_n1, kc_z1, kc_a2, kc_s2, kc_n2, kc_z2, kc_a3, kc_s3, kc_n3, kc_z3, kc_a4, kc_s4, kc_n4, kc_z4, kc_a5, kc_s5, kc_n5, kc_z5, kc_a6, kc_s6, kc_n6, kc_z6, kc_a7, kc_s7, kc_n7, kc_z7, kc_a8, kc_s8, kc_n8, kc_z8, kc_a9, kc_s9, kc_n9, kc_z9, ks_gI, ks_pI, ks_cv, ks_g0, ks_g1, ks_g2, ks_g3, ks_g4, ks_g5, ks_a1, ks_s1, ks_n1, ks_z1, ks_a2, ks_s2, ks_n2, ks_z2, ks_a3, ks_s3, ks_n3, ks_z3, ks_a4, ks_s4, ks_n4, ks_z4, ks_tr]
theorem g4_arX {f : Int32 → zP β} {x : zRd} (hx : okX 8 1024 x) : (z_bd (p_X4_arrival (nI (cX x))) f).1 M = (f (nI x.1)).1 M := by
  unfold p_X4_arrival cX
  rw [cN_arr hx.1 hx.2.1 hx.2.2.1 hx.2.2.2]
  rfl
theorem g4_org {f : Int32 → zP β} {x : zRd} (hx : okX 8 1024 x) : (z_bd (p_X4_origin (nI (cX x))) f).1 M = (f (nI x.2.2.1)).1 M := by
  unfold p_X4_origin cX
  rw [cN_from hx.1 hx.2.1 hx.2.2.1 hx.2.2.2]
  rfl
theorem m_rdb {r : Nat} (h : MI M ct cd st H S n bf) (hx : x < 0 ∨ nI r ≤ x) (hr : st 204 = nI r) (hr1 : r < 2 ^ 31) : (p_X9_rider 75 x y).1 M = some (.inr 0, KI M (z_up2 (z_up2 (z_i M) 75 0 0) 75 0 1)) := by
  obtain ⟨h9, e78, e80, e83⟩ := MI_0 h
  unfold p_X9_rider
  show (z_bd (z_pI 9 75 0 0) _).1 (KI M (z_i M)) = _
  rw [kn_pI h9, kn_g83 h9, kn_l83_204 h9, F0_83, e83, hr, g9_wi, wi_bad hx hr1, if_pos rfl, kn_cv h9, kn_fail h9]
  rfl
theorem rk_inner {R : List zRd} {d : Nat} {x : zRd} (h9 : L9 M) (f83 : F 83 = st) (hr : st 204 = nI R.length) (hlen : R.length ≤ 768) (hrr : ∀ k x, R[k]? = some x → st (205 + 3 * k) = nI x.1 ∧ st (205 + 3 * k + 1) = nI x.2.2.2 ∧ st (205 + 3 * k + 2) = nI x.2.2.1) (hrn : R.Pairwise (fun x y => x.2.1 < y.2.1)) (hok : ∀ x ∈ R, okX ns d x) (hns : ns ≤ 8 ∧ d ≤ 768) (hx : R[q]? = some x) : ((z_lp (fun (t10 : Int32 × Int32) => (z_bd (z_gA 9 75 19) (fun v11 => (z_bd (z_aI 11 v11 204) (fun v12 => (if v12 ≤ t10.2 then (z_pu (.inr (.inl t10.1))) else (if t10.2 = (nI q) then (z_pu (.inl (t10.1, (t10.2 + 1)))) else (z_bd (z_cv 9 75 (p_X9_isAhead 75 t10.2 (nI q))) (fun r13 => (if r13 = 0 then (z_pu (.inl (t10.1, (t10.2 + 1)))) else (z_pu (.inl ((t10.1 + 1), (t10.2 + 1)))))))))))))) (0, 0)) : zP (Int32 ⊕ ((Int32 × Int32) ⊕ (Int32 ⊕ Int32)))).1 (KI M F) = some (.inr (.inl (nI (s_rk R (cX x) R.length))), KI M F) := by
  refine lp_cnt R.length (fun o => (nI (s_rk R (cX x) o), nI o)) (fun _ => KI M F) _ _ ?_ ?_
  · intro o ho
    have hn : ¬ nI R.length ≤ nI o := nI_ge ho (by omega)
    obtain ⟨y, hy⟩ : ∃ y, R[o]? = some y := ⟨R[o], List.getElem?_eq_getElem ho⟩
    have y1 := (hrr o y hy).1
    have x1 := (hrr q x hx).1
    have hyl := (hok y (List.mem_of_getElem? hy)).1
    have hxl := (hok x (List.mem_of_getElem? hx)).1
    have hql : q < R.length := (List.getElem?_eq_some_iff.mp hx).1
    have i1 : 205 + 3 * o + 0 < 3277 := by omega
    have i2 : 205 + 3 * q + 0 < 3277 := by omega
    have hstep : s_rk R (cX x) (o + 1) = s_rk R (cX x) o + (if cX y < cX x then 1 else 0) := by rw [s_rk, hy]
    by_cases hoq : o = q
    · have e2 : nI o = nI q := by rw [hoq]
      have : y = x := by rw [hoq] at hy; exact Option.some.inj (hy.symm.trans hx)
      rw [hstep, this, if_neg (Nat.lt_irrefl _)]
      simp (disch := first | assumption | omega) only [e_pu, e_ite, oL_add, oL_addr, oL_mul, nI_add, nI_1, b_pu, b_bd, b_ite, j_L, j_R, j_ite, j_bd, z_ex, ↓reduceIte, if_true, if_false, kn_gI, kn_pI, kn_cv, kn_g76, kn_a76, kn_s76, kn_g77, kn_a77, kn_s77, kn_g78, kn_a78, kn_s78, kn_g79, kn_a79, kn_s79, kn_g80, kn_a80, kn_s80, kn_g81, kn_a81, kn_s81, kn_g82, kn_a82, kn_s82, kn_g83, kn_a83, kn_s83, kn_g84, kn_a84, kn_s84, kn_g85, kn_a85, kn_s85, kn_g86, kn_g87, kn_a87, kn_s87, kn_g88, kn_a88, kn_s88, kn_g89, kn_a89, kn_s89, kn_g90, kn_a90, kn_s90, kn_g91, kn_a91, kn_s91, kn_g92, kn_a92, kn_s92, kn_g93, kn_a93, kn_s93, kn_g94, kn_a94, kn_s94, kn_l77_0, kn_t77_0, kn_l77_1, kn_t77_1, kn_l77_2, kn_t77_2, kn_l77_3, kn_t77_3, kn_l77_4, kn_t77_4, kn_l77_5, kn_t77_5, kn_l77_6, kn_t77_6, kn_l77_7, kn_t77_7, kn_l77_8, kn_t77_8, kn_l78_0, kn_t78_0, kn_l78_1, kn_t78_1, kn_l78_2, kn_t78_2, kn_l78_3, kn_t78_3, kn_l78_4, kn_t78_4, kn_l78_5, kn_t78_5, kn_l78_6, kn_t78_6, kn_l78_7, kn_t78_7, kn_l78_8, kn_t78_8, kn_l79_0, kn_t79_0, kn_l82_0, kn_t82_0, kn_l83_0, kn_t83_0, kn_l83_1, kn_t83_1, kn_l83_2, kn_t83_2, kn_l83_3, kn_t83_3, kn_l83_4, kn_t83_4, kn_l83_5, kn_t83_5, kn_l83_204, kn_t83_204, kn_wk, kn_fr, kn_mk, kn_ev, kn_bn, kn_ds, kn_rd, kn_dr, kn_of, kn_of0, kn_of1, kn_of2, kn_of3, kn_of4, kn_of5, kn_of6, kn_near, kn_loads, kn_all, kn_fare, kn_fail, kn_told, g9_wi, g9_at, f83, hr, hn, if_pos e2, Nat.add_zero]
    · have e2 : ¬ nI o = nI q := fun qq => hoq ((nI_eq (by omega) (by omega)).mp qq)
      have hcl := cX_ltq hrn hok hns hy hx hoq
      have ho0 : (0 : Int32) = nI 0 := rfl
      have r0 : ∀ (t : Nat) (f : Int32 → zP ((Int32 × Int32) ⊕ (Int32 ⊕ ((Int32 × Int32) ⊕ (Int32 ⊕ Int32))))), t < 1024 → (z_bd (p_X9_riderAt 75 (nI t) 0) f).1 (KI M F) = (f (st (205 + 3 * t))).1 (KI M F) := fun t f ht => by
        have i1 : 205 + 3 * t + 0 < 3277 := by omega
        unfold p_X9_riderAt
        rw [ho0]
        simp (disch := first | assumption | omega) only [e_pu, e_ite, oL_add, oL_addr, oL_mul, nI_add, nI_1, b_pu, b_bd, b_ite, j_L, j_R, j_ite, j_bd, z_ex, ↓reduceIte, if_true, if_false, kn_gI, kn_pI, kn_cv, kn_g76, kn_a76, kn_s76, kn_g77, kn_a77, kn_s77, kn_g78, kn_a78, kn_s78, kn_g79, kn_a79, kn_s79, kn_g80, kn_a80, kn_s80, kn_g81, kn_a81, kn_s81, kn_g82, kn_a82, kn_s82, kn_g83, kn_a83, kn_s83, kn_g84, kn_a84, kn_s84, kn_g85, kn_a85, kn_s85, kn_g86, kn_g87, kn_a87, kn_s87, kn_g88, kn_a88, kn_s88, kn_g89, kn_a89, kn_s89, kn_g90, kn_a90, kn_s90, kn_g91, kn_a91, kn_s91, kn_g92, kn_a92, kn_s92, kn_g93, kn_a93, kn_s93, kn_g94, kn_a94, kn_s94, kn_l77_0, kn_t77_0, kn_l77_1, kn_t77_1, kn_l77_2, kn_t77_2, kn_l77_3, kn_t77_3, kn_l77_4, kn_t77_4, kn_l77_5, kn_t77_5, kn_l77_6, kn_t77_6, kn_l77_7, kn_t77_7, kn_l77_8, kn_t77_8, kn_l78_0, kn_t78_0, kn_l78_1, kn_t78_1, kn_l78_2, kn_t78_2, kn_l78_3, kn_t78_3, kn_l78_4, kn_t78_4, kn_l78_5, kn_t78_5, kn_l78_6, kn_t78_6, kn_l78_7, kn_t78_7, kn_l78_8, kn_t78_8, kn_l79_0, kn_t79_0, kn_l82_0, kn_t82_0, kn_l83_0, kn_t83_0, kn_l83_1, kn_t83_1, kn_l83_2, kn_t83_2, kn_l83_3, kn_t83_3, kn_l83_4, kn_t83_4, kn_l83_5, kn_t83_5, kn_l83_204, kn_t83_204, kn_wk, kn_fr, kn_mk, kn_ev, kn_bn, kn_ds, kn_rd, kn_dr, kn_of, kn_of0, kn_of1, kn_of2, kn_of3, kn_of4, kn_of5, kn_of6, kn_near, kn_loads, kn_all, kn_fare, kn_fail, kn_told, g9_wi, g9_at, f83]
        rfl
      rw [hstep]
      have hq24 : q < 1024 := by omega
      have ho24 : o < 1024 := by omega
      unfold p_X9_isAhead
      simp (disch := first | assumption | omega) only [e_pu, e_ite, oL_add, oL_addr, oL_mul, nI_add, nI_1, b_pu, b_bd, b_ite, j_L, j_R, j_ite, j_bd, z_ex, ↓reduceIte, if_true, if_false, kn_g83, kn_l83_204, kn_cv, f83, hr, hn, if_neg e2, r0, y1, x1]
      by_cases ea : y.1 = x.1
      · rw [if_pos ea] at hcl
        rw [if_pos (by rw [ea])]
        by_cases hlt : o < q
        · rw [if_neg (nI_ge hlt (by omega)), if_neg (show ¬ (1 : Int32) = 0 by decide), if_pos (hcl.mpr hlt)]
        · rw [if_pos (nI_le (by omega) (by omega)), if_neg (fun qq => hlt (hcl.mp qq))]
          rfl
      · rw [if_neg ea] at hcl
        rw [if_neg (fun qq => ea ((nI_eq (by omega) (by omega)).mp qq))]
        by_cases hlt : y.1 < x.1
        · rw [if_neg (nI_ge hlt (by omega)), if_neg (show ¬ (1 : Int32) = 0 by decide), if_pos (hcl.mpr hlt)]
        · rw [if_pos (nI_le (by omega) (by omega)), if_neg (fun qq => hlt (hcl.mp qq))]
          rfl
  · simp (disch := first | assumption | omega) only [e_pu, e_ite, oL_add, oL_addr, oL_mul, nI_add, nI_1, b_pu, b_bd, b_ite, j_L, j_R, j_ite, j_bd, z_ex, ↓reduceIte, if_true, if_false, kn_gI, kn_pI, kn_cv, kn_g76, kn_a76, kn_s76, kn_g77, kn_a77, kn_s77, kn_g78, kn_a78, kn_s78, kn_g79, kn_a79, kn_s79, kn_g80, kn_a80, kn_s80, kn_g81, kn_a81, kn_s81, kn_g82, kn_a82, kn_s82, kn_g83, kn_a83, kn_s83, kn_g84, kn_a84, kn_s84, kn_g85, kn_a85, kn_s85, kn_g86, kn_g87, kn_a87, kn_s87, kn_g88, kn_a88, kn_s88, kn_g89, kn_a89, kn_s89, kn_g90, kn_a90, kn_s90, kn_g91, kn_a91, kn_s91, kn_g92, kn_a92, kn_s92, kn_g93, kn_a93, kn_s93, kn_g94, kn_a94, kn_s94, kn_l77_0, kn_t77_0, kn_l77_1, kn_t77_1, kn_l77_2, kn_t77_2, kn_l77_3, kn_t77_3, kn_l77_4, kn_t77_4, kn_l77_5, kn_t77_5, kn_l77_6, kn_t77_6, kn_l77_7, kn_t77_7, kn_l77_8, kn_t77_8, kn_l78_0, kn_t78_0, kn_l78_1, kn_t78_1, kn_l78_2, kn_t78_2, kn_l78_3, kn_t78_3, kn_l78_4, kn_t78_4, kn_l78_5, kn_t78_5, kn_l78_6, kn_t78_6, kn_l78_7, kn_t78_7, kn_l78_8, kn_t78_8, kn_l79_0, kn_t79_0, kn_l82_0, kn_t82_0, kn_l83_0, kn_t83_0, kn_l83_1, kn_t83_1, kn_l83_2, kn_t83_2, kn_l83_3, kn_t83_3, kn_l83_4, kn_t83_4, kn_l83_5, kn_t83_5, kn_l83_204, kn_t83_204, kn_wk, kn_fr, kn_mk, kn_ev, kn_bn, kn_ds, kn_rd, kn_dr, kn_of, kn_of0, kn_of1, kn_of2, kn_of3, kn_of4, kn_of5, kn_of6, kn_near, kn_loads, kn_all, kn_fare, kn_fail, kn_told, g9_wi, g9_at, f83, hr, show nI R.length ≤ nI R.length from Int32.le_refl _]
theorem s_rk_le (R : List zRd) (z : Nat) : ∀ n, s_rk R z n ≤ n
  | 0 => Nat.le_refl _
  | n + 1 => by
    have := s_rk_le R z n
    rw [s_rk]
    split
    · split <;> omega
    · omega
theorem rk_loop {R : List zRd} {d k0 : Nat} {x : zRd} (h9 : L9 M) (f83 : F 83 = st) (hr : st 204 = nI R.length) (hlen : R.length ≤ 768) (hrr : ∀ k x, R[k]? = some x → st (205 + 3 * k) = nI x.1 ∧ st (205 + 3 * k + 1) = nI x.2.2.2 ∧ st (205 + 3 * k + 2) = nI x.2.2.1) (hrn : R.Pairwise (fun x y => x.2.1 < y.2.1)) (hok : ∀ x ∈ R, okX ns d x) (hns : ns ≤ 8 ∧ d ≤ 768) (hk0 : R[k0]? = some x) (hj : s_rk R (cX x) R.length = j) (hne : ∀ q y, q < k0 → R[q]? = some y → ¬ s_rk R (cX y) R.length = j) : (z_lp (fun (t6 : Int32 × Int32) => (z_bd (z_gA 9 75 19) (fun v7 => (z_bd (z_aI 11 v7 204) (fun v8 => (if v8 ≤ t6.2 then (z_pu (.inr (.inl t6.1))) else (if 0 ≤ t6.1 then (z_pu (.inr (.inl t6.1))) else (z_jn (τ := Int32) (z_lp (fun (t10 : Int32 × Int32) => (z_bd (z_gA 9 75 19) (fun v11 => (z_bd (z_aI 11 v11 204) (fun v12 => (if v12 ≤ t10.2 then (z_pu (.inr (.inl t10.1))) else (if t10.2 = t6.2 then (z_pu (.inl (t10.1, (t10.2 + 1)))) else (z_bd (z_cv 9 75 (p_X9_isAhead 75 t10.2 t6.2)) (fun r13 => (if r13 = 0 then (z_pu (.inl (t10.1, (t10.2 + 1)))) else (z_pu (.inl ((t10.1 + 1), (t10.2 + 1)))))))))))))) (0, 0)) (fun t9 => (if t9 = (nI j) then (z_pu (.inl (t6.2, (t6.2 + 1)))) else (z_pu (.inl (t6.1, (t6.2 + 1)))))))))))))) ((-1), 0) : zP (Int32 ⊕ Int32)).1 (KI M F) = some (.inr (.inl (nI k0)), KI M F) := by
  have hk : k0 < R.length := (List.getElem?_eq_some_iff.mp hk0).1
  have hjr : j ≤ R.length := by rw [← hj]; exact s_rk_le _ _ _
  have hpt : ∀ (w : Int32 × Int32) (u : Nat), True := fun _ _ => trivial
  refine lp_cnt (k0 + 1) (fun q => if q ≤ k0 then ((-1 : Int32), nI q) else (nI k0, nI (k0 + 1))) (fun _ => KI M F) _ _ ?_ ?_
  · intro q hq
    have hqk : q ≤ k0 := by omega
    have hn : ¬ nI R.length ≤ nI q := nI_ge (by omega) (by omega)
    obtain ⟨y, hy⟩ : ∃ y, R[q]? = some y := ⟨R[q]'(by omega), List.getElem?_eq_getElem (by omega)⟩
    have hin := rk_inner (q := q) h9 f83 hr hlen hrr hrn hok hns hy
    rw [if_pos hqk]
    simp (disch := first | assumption | omega) only [e_pu, e_ite, oL_add, oL_addr, oL_mul, nI_add, nI_1, b_pu, b_bd, b_ite, j_L, j_R, j_ite, j_bd, z_ex, ↓reduceIte, if_true, if_false, kn_g83, kn_l83_204, f83, hr, hn, show ¬ (0 : Int32) ≤ -1 by decide]
    refine (e_jL hin).trans ?_
    by_cases e : q = k0
    · subst e
      have : y = x := Option.some.inj (hy.symm.trans hk0)
      rw [this, hj, if_pos rfl, if_neg (by omega)]
      rfl
    · have hlt : q < k0 := by omega
      have h1 := hne q y hlt hy
      have h2 := s_rk_le R (cX y) R.length
      rw [if_neg (fun qq => h1 ((nI_eq (by omega) (by omega)).mp qq)), if_pos (by omega)]
      rfl
  · rw [if_neg (by omega)]
    by_cases hle : nI R.length ≤ nI (k0 + 1)
    · simp (disch := first | assumption | omega) only [e_pu, e_ite, oL_add, oL_addr, oL_mul, nI_add, nI_1, b_pu, b_bd, b_ite, j_L, j_R, j_ite, j_bd, z_ex, ↓reduceIte, if_true, if_false, kn_g83, kn_l83_204, f83, hr, hle]
    · simp (disch := first | assumption | omega) only [e_pu, e_ite, oL_add, oL_addr, oL_mul, nI_add, nI_1, b_pu, b_bd, b_ite, j_L, j_R, j_ite, j_bd, z_ex, ↓reduceIte, if_true, if_false, kn_g83, kn_l83_204, f83, hr, hle, show (0 : Int32) ≤ nI k0 from nI_pos' (by omega)]
theorem L_c16 (hI : CI k M c sp ct cd ns nt np nc st H S n bf) (hm : MI M ct cd st H S n bf) (hi : i + 6 ≤ L) (hL : L ≤ 3072) : STEP (p_L_c16 xs L 0 75 95 (nI i)) k M i := by
  have hc := CI_c hI
  have hns := hc.1.2.1
  have hnt := hc.1.2.2.2.1
  obtain ⟨h0, hcy, hC, T, d, R, l, hT, hS, hn, hst0, hg, hd⟩ := CI_un hI
  have E := CI_E hI
  have hL41 := E.1.1
  unfold p_L_c16 p_L_rider
  rw [show nI i + 1 = nI (i + 1) from oL_addr 1 i, show nI i + 2 = nI (i + 2) from oL_addr 2 i]
  simp only [z_xs_ok (xs := xs) (show i + 1 < L by omega) hL, z_xs_ok (xs := xs) (show i + 2 < L by omega) hL, b_pu]
  have hlen := RS_len hS
  have hRd := hS.2.2.2.2
  have hr1 : z_i M (41 + 6) 1 = nI R.length := hRd.1.1
  have hr2 : st 204 = nI R.length := hRd.1.2.1
  have hcls : ∀ f : Int32 → zP Int32, (z_bd (z_gA 8 0 6) (fun v1 => (z_bd (z_gA 5 v1 5) (fun v2 => (z_bd (z_gI 4 v2 1) f))))).1 M = (f (nI R.length)).1 (KI M (z_i M)) := fun f => by
    show (z_bd (z_gA 8 0 6) _).1 (KI M (z_i M)) = _
    rw [k0_g0_6 h0, ← hr2]
    exact kx_rc hS
  rcases pk_ix (xs (i + 1)) (n := R.length) (by omega) with h | h | ⟨j, hj, e⟩
  · refine glue_t hI hm (E := "java/lang/IndexOutOfBoundsException") ?_ (if_pos rfl) (show ¬ (1 : Int32) = 0 by decide) (fun M1 h1 => mres_th2 (w := 0) h1 (v := 0) ?_)
    · unfold p_X8_rider
      rw [if_pos h]
      rfl
    · exact m_rdb h1 (Or.inl h) hr2 (by omega)
  · refine glue_t hI hm (E := "java/lang/IndexOutOfBoundsException") ?_ (if_pos rfl) (show ¬ (1 : Int32) = 0 by decide) (fun M1 h1 => mres_th2 (w := 0) h1 (v := 0) ?_)
    · have hn0 : ¬ xs (i + 1) < 0 := fun q => by
        rw [i_le, nI_toInt (by omega)] at h
        rw [i_lt] at q
        have : (0 : Int32).toInt = 0 := rfl
        omega
      have hn1 : ¬ xs (i + 1) < nI R.length := fun q => by
        rw [i_le] at h
        rw [i_lt] at q
        omega
      unfold p_X8_rider
      rw [if_neg hn0, hcls, if_neg hn1]
      rfl
    · exact m_rdb h1 (Or.inr h) hr2 (by omega)
  · rw [e]
    have hl1 := hRd.2.2.1.1
    have hl2 := hRd.2.2.1.2.1
    have hl3 := hRd.2.2.1.2.2
    have hrn := hRd.2.2.2.1
    have hok := hRd.2.2.2.2
    have hrr := hRd.2.1
    have hll : l.length = R.length := by rw [hl2.length_eq, List.length_map]
    obtain ⟨z, hz⟩ : ∃ z, l[j]? = some z := ⟨l[j], List.getElem?_eq_getElem (by omega)⟩
    obtain ⟨x, hxR, hxz⟩ := List.mem_map.mp (hl2.mem_iff.mp (List.mem_of_getElem? hz))
    have hx := hok x hxR
    have hx8 : okX 8 1024 x := ⟨hx.1, by have := hx.2.1; omega, by have := hx.2.2.1; omega, by have := hx.2.2.2; omega⟩
    have hcode : z_i M (41 + 6 + 1) j = nI (cX x) := by rw [hl1 j z hz, hxz]
    have hcls2 : ∀ f : Int32 → zP Int32, (z_bd (z_gA 8 0 6) (fun v4 => (z_bd (z_gA 5 v4 5) (fun v5 => (z_bd (z_gA 4 v5 0) (fun v6 => (z_bd (z_aI 11 v6 (nI j)) f))))))).1 (KI M (z_i M)) = (f (nI (cX x))).1 (KI M (z_i M)) := fun f => by
      rw [k0_g0_6 h0, ← hcode]
      exact kx_cd hL41 (by omega)
    have hn0 : ¬ nI j < 0 := nI_pos (by omega)
    have hn1 : nI j < nI R.length := nI_lt hj (by omega)
    rcases pk_ix (xs (i + 2)) (n := 3) (by omega) with h | h | ⟨m, hm3, e2⟩
    · have hne : ∀ m : Nat, m < 3 → ¬ xs (i + 2) = nI m := bad_ne (Or.inl h)
      refine glue_t hI hm (E := "java/lang/IllegalArgumentException") ?_ (by rw [if_neg (by decide), if_pos rfl]) (show ¬ (2 : Int32) = 0 by decide) (fun M1 h1 => mres_th2 (w := 0) h1 (v := 0) ?_)
      · unfold p_X8_rider
        rw [if_neg hn0, hcls, if_pos hn1, hcls2, if_neg (show ¬ xs (i + 2) = 0 from hne 0 (by omega)), if_neg (show ¬ xs (i + 2) = 1 from hne 1 (by omega)), if_neg (show ¬ xs (i + 2) = 2 from hne 2 (by omega))]
        rfl
      · obtain ⟨h9, e78, e80, e83⟩ := MI_0 h1
        unfold p_X9_rider
        show (z_bd (z_pI 9 75 0 0) _).1 (KI M1 (z_i M1)) = _
        rw [kn_pI h9, kn_g83 h9, kn_l83_204 h9, F0_83, e83, hr2, g9_wi, wi_ok hj (by omega), if_neg (by decide), g9_wi, wr_bad (show xs (i + 2) < 0 ∨ (2 : Int32) < xs (i + 2) from bad_wi (n := 2) (Or.inl h) (by omega)), if_pos rfl, kn_cv h9, kn_fail h9]
        rfl
    · have hne : ∀ m : Nat, m < 3 → ¬ xs (i + 2) = nI m := bad_ne (Or.inr h)
      refine glue_t hI hm (E := "java/lang/IllegalArgumentException") ?_ (by rw [if_neg (by decide), if_pos rfl]) (show ¬ (2 : Int32) = 0 by decide) (fun M1 h1 => mres_th2 (w := 0) h1 (v := 0) ?_)
      · unfold p_X8_rider
        rw [if_neg hn0, hcls, if_pos hn1, hcls2, if_neg (show ¬ xs (i + 2) = 0 from hne 0 (by omega)), if_neg (show ¬ xs (i + 2) = 1 from hne 1 (by omega)), if_neg (show ¬ xs (i + 2) = 2 from hne 2 (by omega))]
        rfl
      · obtain ⟨h9, e78, e80, e83⟩ := MI_0 h1
        unfold p_X9_rider
        show (z_bd (z_pI 9 75 0 0) _).1 (KI M1 (z_i M1)) = _
        rw [kn_pI h9, kn_g83 h9, kn_l83_204 h9, F0_83, e83, hr2, g9_wi, wi_ok hj (by omega), if_neg (by decide), g9_wi, wr_bad (show xs (i + 2) < 0 ∨ (2 : Int32) < xs (i + 2) from bad_wi (n := 2) (Or.inr h) (by omega)), if_pos rfl, kn_cv h9, kn_fail h9]
        rfl
    · rw [e2]
      obtain ⟨k0, hk0, ek0⟩ := List.getElem_of_mem hxR
      have hk0' : R[k0]? = some x := by rw [List.getElem?_eq_getElem hk0, ek0]
      obtain ⟨w0, w1, w2⟩ := hrr k0 x hk0'
      have hmod : ∀ M1, MI M1 ct cd st H S n bf → (p_X9_rider 75 (nI j) (nI m)).1 M1 = some (.inr (st (205 + 3 * k0 + m)), KI M1 (z_up2 (z_i M1) 75 0 0)) := fun M1 h1 => by
        obtain ⟨h9, e78, e80, e83⟩ := MI_0 h1
        unfold p_X9_rider
        show (z_bd (z_pI 9 75 0 0) _).1 (KI M1 (z_i M1)) = _
        rw [kn_pI h9, kn_g83 h9, kn_l83_204 h9, F0_83, e83, hr2, g9_wi, wi_ok hj (by omega), if_neg (by decide), g9_wi, wr_ok (nI_pos (by omega)) (show ¬ (2 : Int32) < nI m from nI_nlt (a := 2) (by omega) (by omega)), if_neg (by decide)]
        obtain ⟨F1, eF1⟩ : ∃ F1, F1 = z_up2 (z_i M1) 75 0 0 := ⟨_, rfl⟩
        rw [← eF1]
        have f83 : F1 83 = st := by rw [eF1, F0_83, e83]
        refine (e_jL (t := nI k0) (M1 := KI M1 F1) ?_).trans ?_
        · refine rk_loop h9 f83 hr2 (by omega) hrr hrn hok ⟨hns, by omega⟩ hk0' (by rw [hxz]; exact (rk_of hl2 hl3 hz).symm) (fun q y hq hy => ?_)
          exact rk_ne hl2 hl3 hrn hok ⟨hns, by omega⟩ hz ⟨hk0', hxz⟩ hy hq
        · have hkm : k0 < 1024 := by omega
          have h205 : 205 + 3 * k0 + m < 3277 := by omega
          unfold p_X9_riderAt
          simp (disch := first | assumption | omega) only [e_pu, e_ite, oL_add, oL_addr, oL_mul, nI_add, nI_1, b_pu, b_bd, b_ite, j_L, j_R, j_ite, j_bd, z_ex, ↓reduceIte, if_true, if_false, kn_gI, kn_pI, kn_cv, kn_g76, kn_a76, kn_s76, kn_g77, kn_a77, kn_s77, kn_g78, kn_a78, kn_s78, kn_g79, kn_a79, kn_s79, kn_g80, kn_a80, kn_s80, kn_g81, kn_a81, kn_s81, kn_g82, kn_a82, kn_s82, kn_g83, kn_a83, kn_s83, kn_g84, kn_a84, kn_s84, kn_g85, kn_a85, kn_s85, kn_g86, kn_g87, kn_a87, kn_s87, kn_g88, kn_a88, kn_s88, kn_g89, kn_a89, kn_s89, kn_g90, kn_a90, kn_s90, kn_g91, kn_a91, kn_s91, kn_g92, kn_a92, kn_s92, kn_g93, kn_a93, kn_s93, kn_g94, kn_a94, kn_s94, kn_l77_0, kn_t77_0, kn_l77_1, kn_t77_1, kn_l77_2, kn_t77_2, kn_l77_3, kn_t77_3, kn_l77_4, kn_t77_4, kn_l77_5, kn_t77_5, kn_l77_6, kn_t77_6, kn_l77_7, kn_t77_7, kn_l77_8, kn_t77_8, kn_l78_0, kn_t78_0, kn_l78_1, kn_t78_1, kn_l78_2, kn_t78_2, kn_l78_3, kn_t78_3, kn_l78_4, kn_t78_4, kn_l78_5, kn_t78_5, kn_l78_6, kn_t78_6, kn_l78_7, kn_t78_7, kn_l78_8, kn_t78_8, kn_l79_0, kn_t79_0, kn_l82_0, kn_t82_0, kn_l83_0, kn_t83_0, kn_l83_1, kn_t83_1, kn_l83_2, kn_t83_2, kn_l83_3, kn_t83_3, kn_l83_4, kn_t83_4, kn_l83_5, kn_t83_5, kn_l83_204, kn_t83_204, kn_wk, kn_fr, kn_mk, kn_ev, kn_bn, kn_ds, kn_rd, kn_dr, kn_of, kn_of0, kn_of1, kn_of2, kn_of3, kn_of4, kn_of5, kn_of6, kn_near, kn_loads, kn_all, kn_fare, kn_fail, kn_told, g9_wi, g9_at, f83]
      obtain hmm | hmm | hmm : m = 0 ∨ m = 1 ∨ m = 2 := by omega
      · subst hmm
        refine glue_r hI hm (v := st (205 + 3 * k0 + 0)) (cres_of hI ?_) (fun M1 h1 => mres_th h1 (hmod M1 h1))
        unfold p_X8_rider
        rw [if_neg hn0, hcls, if_pos hn1, hcls2, if_pos (show nI 0 = 0 from rfl), g4_arX hx8]
        rw [show st (205 + 3 * k0 + 0) = _ from w0]
        rfl
      · subst hmm
        refine glue_r hI hm (v := st (205 + 3 * k0 + 1)) (cres_of hI ?_) (fun M1 h1 => mres_th h1 (hmod M1 h1))
        unfold p_X8_rider
        rw [if_neg hn0, hcls, if_pos hn1, hcls2, if_neg (show ¬ nI 1 = 0 by decide), if_pos (show nI 1 = 1 from rfl), g4_to hx8]
        rw [show st (205 + 3 * k0 + 1) = _ from w1]
        rfl
      · subst hmm
        refine glue_r hI hm (v := st (205 + 3 * k0 + 2)) (cres_of hI ?_) (fun M1 h1 => mres_th h1 (hmod M1 h1))
        unfold p_X8_rider
        rw [if_neg hn0, hcls, if_pos hn1, hcls2, if_neg (show ¬ nI 2 = 0 by decide), if_neg (show ¬ nI 2 = 1 by decide), if_pos (show nI 2 = 2 from rfl), g4_org hx8]
        rw [show st (205 + 3 * k0 + 2) = _ from w2]
        rfl
end PA17
