/-! ===== PHASE 2: the class's riders ===== -/
theorem rw_push {g : Nat → Int32} {l : List Nat} {x : Nat} (h : rw_is g l) : rw_is (s_up g l.length (nI x)) (l ++ [x]) := by
  intro i y hi
  by_cases e : i = l.length
  · subst e
    rw [s_ups]
    rw [List.getElem?_append_right (Nat.le_refl _), Nat.sub_self] at hi
    cases hi
    rfl
  · rw [s_upn _ _ e]
    by_cases hl : i < l.length
    · rw [List.getElem?_append_left hl] at hi; exact h i y hi
    · rw [List.getElem?_append_right (by omega)] at hi
      obtain ⟨d, hd⟩ : ∃ d, i - l.length = d + 1 := ⟨i - l.length - 1, by omega⟩
      rw [hd] at hi
      cases hi
section PR3
variable {β : Type} {M : zM} {F : Nat → Nat → Int32} {b r : Nat}
theorem kr_add {f : Unit → zP β} {l : List Nat} {x : Nat} (h : LR b M) (hr : rw_is (F (b + 1)) l) (h1 : F b 1 = nI r) (hlr : l.length = r) (hl : r < 768) (hs : l.Pairwise (· < ·)) (hx : x ∉ l) (hb : ∀ z ∈ l, z < 2 ^ 31) (hx31 : x < 2 ^ 31) :
    ∃ g l', (z_bd (p_X4_add b (nI x)) f).1 (KI M F) = (f ()).1 (KI M (z_up1 (z_up2 F b 1 (nI (r + 1))) (b + 1) g)) ∧ rw_is g l' ∧ l'.Perm (x :: l) ∧ l'.Pairwise (· < ·) := by
  subst hlr
  have hnot : ¬ nI 768 ≤ nI l.length := nI_ge hl (by decide)
  have e1 : ∀ y, z_up2 F (b + 1) l.length y b 1 = nI l.length := fun y => (u2_n _ _ (Or.inl (by omega))).trans h1
  have er : rw_is ((z_up2 (z_up2 F (b + 1) l.length (nI x)) b 1 (nI (l.length + 1))) (b + 1)) (l ++ x :: []) := by
    rw [u2_row _ _ (by omega)]
    have := rw_push (x := x) hr
    intro i y hi
    have e := this i y hi
    rw [← e]
    unfold s_up
    by_cases hi2 : i = l.length
    · rw [if_pos hi2, hi2, u2_s]
    · rw [if_neg hi2, u2_n _ _ (Or.inr hi2)]
  obtain ⟨g, l', k1, k2, k3, k4⟩ := kr_settle (f := fun _ => f ()) h er hl hs hx hb hx31
  refine ⟨g, l', ?_, by rw [List.append_nil] at k2; exact k2, k3, k4⟩
  unfold p_X4_add
  simp (disch := first | assumption | omega | (apply LZ_R; assumption) | (apply LZ_T <;> first | assumption | omega) | (apply LC_F; assumption)) only [e_pu, e_ite, oL_add, oL_addr, oL_mul, nI_add, nI_1, b_pu, b_bd, b_ite, j_L, j_R, j_ite, j_bd, z_ex, ↓reduceIte, if_true, if_false, kt_gI, kt_pI, kt_cv, kt_g0, kt_g1, kt_a1, kt_s1, kt_n1, kt_z1, kt_a2, kt_s2, kt_n2, kt_z2, kr_gI, kr_pI, kr_cv, kr_g0, kr_a1, kr_s1, kr_n1, kr_z1, kf_gI, kf_pI, kf_cv, kf_g0, kf_g1, kf_a1, kf_s1, kf_n1, kf_z1, kf_a2, kf_s2, kf_n2, kf_z2, kc_gI, kc_pI, kc_cv, kc_g0, kc_g1, kc_g2, kc_g3, kc_g4, kc_g5, kc_g6, kc_g7, kc_g8, kc_g9, kc_a1, kc_s1, kc_n1, kc_z1, kc_a2, kc_s2, kc_n2, kc_z2, kc_a3, kc_s3, kc_n3, kc_z3, kc_a4, kc_s4, kc_n4, kc_z4, kc_a5, kc_s5, kc_n5, kc_z5, kc_a6, kc_s6, kc_n6, kc_z6, kc_a7, kc_s7, kc_n7, kc_z7, kc_a8, kc_s8, kc_n8, kc_z8, kc_a9, kc_s9, kc_n9, kc_z9, ks_gI, ks_pI, ks_cv, ks_g0, ks_g1, ks_g2, ks_g3, ks_g4, ks_g5, ks_a1, ks_s1, ks_n1, ks_z1, ks_a2, ks_s2, ks_n2, ks_z2, ks_a3, ks_s3, ks_n3, ks_z3, ks_a4, ks_s4, ks_n4, ks_z4, ks_tr, h1, hnot, e1, u2_s, nI_pred]
  refine k1.trans ?_
  have : z_up1 (z_up2 (z_up2 F (b + 1) l.length (nI x)) b 1 (nI (l.length + 1))) (b + 1) g = z_up1 (z_up2 F b 1 (nI (l.length + 1))) (b + 1) g := by
    funext y z
    by_cases hy : y = b + 1
    · subst hy; rw [u1_s, u1_s]
    · rw [u1_n _ _ hy, u1_n _ _ hy]
      by_cases hyb : y = b ∧ z = 1
      · rw [hyb.1, hyb.2, u2_s, u2_s]
      · have : y ≠ b ∨ z ≠ 1 := by
          by_cases h1 : y = b
          · exact Or.inr (fun h2 => hyb ⟨h1, h2⟩)
          · exact Or.inl h1
        rw [u2_n _ _ this, u2_n _ _ this, u2_n _ _ (Or.inl hy)]
  rw [this]
theorem kr_sort {l : List Nat} (h : LR b M) (hr : rw_is (F (b + 1)) l) (h1 : F b 1 = nI l.length) (hl : l.length ≤ 768) (hp : 1 ≤ l.length) (hnd : l.Nodup) (hb : ∀ z ∈ l, z < 2 ^ 31) :
    ∃ g l', (z_lp (fun (t6 : Int32) => (z_bd (z_gI 4 b 1) (fun v7 => (if v7 ≤ t6 then (z_pu (.inr ())) else (z_bd (z_cv 4 b (p_X4_settle b t6)) (fun _ => (z_pu (.inl ((t6 + 1)))))))))) 1).1 (KI M F) = some (.inr (), KI M (z_up1 F (b + 1) g)) ∧ rw_is g l' ∧ l'.Perm l ∧ l'.Pairwise (· < ·) := by
  suffices hz : ∃ (t : Unit), ∃ M', (z_lp (fun (t6 : Int32) => (z_bd (z_gI 4 b 1) (fun v7 => (if v7 ≤ t6 then (z_pu (.inr ())) else (z_bd (z_cv 4 b (p_X4_settle b t6)) (fun _ => (z_pu (.inl ((t6 + 1)))))))))) (nI 1)).1 (KI M F) = some (.inr t, M') ∧ ∃ g l', M' = KI M (z_up1 F (b + 1) g) ∧ rw_is g l' ∧ l'.Perm l ∧ l'.Pairwise (· < ·) by
    obtain ⟨t, M', hz, g, l', rfl, k1⟩ := hz
    exact ⟨g, l', hz, k1⟩
  obtain ⟨y, l0, rfl⟩ : ∃ y l0, l = y :: l0 := by
    cases l with
    | nil => exact absurd hp (by decide)
    | cons y l0 => exact ⟨y, l0, rfl⟩
  refine lp_ct l0.length (fun i => nI (i + 1)) (fun i M' => ∃ g s rest, M' = KI M (z_up1 F (b + 1) g) ∧ rw_is g (s ++ rest) ∧ s.length = i + 1 ∧ (s ++ rest).Perm (y :: l0) ∧ s.Pairwise (· < ·)) (fun _ M' => ∃ g l', M' = KI M (z_up1 F (b + 1) g) ∧ rw_is g l' ∧ l'.Perm (y :: l0) ∧ l'.Pairwise (· < ·)) ?_ ?_ _ ⟨F (b + 1), [y], l0, by rw [u1_id], hr, rfl, List.Perm.refl _, List.pairwise_singleton _ _⟩
  · rintro i _ hi ⟨g, s, rest, rfl, hg, hs, hperm, hsort⟩
    have hlen := hperm.length_eq
    rw [List.length_append, List.length_cons] at hlen
    cases rest with
    | nil => rw [List.length_nil] at hlen; omega
    | cons x rest =>
      rw [List.length_cons] at hlen
      have hnd2 : (s ++ x :: rest).Nodup := hperm.nodup_iff.mpr hnd
      have hx : x ∉ s := by
        rw [List.nodup_append] at hnd2
        intro hxs
        exact hnd2.2.2 x hxs x (List.mem_cons_self ..) rfl
      rw [List.length_cons] at hl h1
      have hb2 : ∀ z ∈ s ++ x :: rest, z < 2 ^ 31 := fun z hz => hb z (hperm.mem_iff.mp hz)
      obtain ⟨g', l', k1, k2, k3, k4⟩ := kr_settle (F := z_up1 F (b + 1) g) (β := Int32 ⊕ Unit) (f := fun _ => z_pu (.inl (nI s.length + 1))) h (by rw [u1_s]; exact hg) (by omega) hsort hx (fun z hz => hb2 z (List.mem_append_left _ hz)) (hb2 x (by simp))
      have hu : z_up1 (z_up1 F (b + 1) g) (b + 1) g' = z_up1 F (b + 1) g' := by
        funext q
        by_cases hq : q = b + 1
        · subst hq; rw [u1_s, u1_s]
        · rw [u1_n _ _ hq, u1_n _ _ hq, u1_n _ _ hq]
      rw [hu] at k1
      refine ⟨KI M (z_up1 F (b + 1) g'), ?_, g', l', rest, rfl, k2, ?_, ?_, k4⟩
      · have hnot : ¬ nI (l0.length + 1) ≤ nI (i + 1) := nI_ge (by omega) (by omega)
        simp (disch := first | assumption | omega | (apply LZ_R; assumption) | (apply LZ_T <;> first | assumption | omega) | (apply LC_F; assumption)) only [e_pu, e_ite, oL_add, oL_addr, oL_mul, nI_add, nI_1, b_pu, b_bd, b_ite, j_L, j_R, j_ite, j_bd, z_ex, ↓reduceIte, if_true, if_false, kt_gI, kt_pI, kt_cv, kt_g0, kt_g1, kt_a1, kt_s1, kt_n1, kt_z1, kt_a2, kt_s2, kt_n2, kt_z2, kr_gI, kr_pI, kr_cv, kr_g0, kr_a1, kr_s1, kr_n1, kr_z1, kf_gI, kf_pI, kf_cv, kf_g0, kf_g1, kf_a1, kf_s1, kf_n1, kf_z1, kf_a2, kf_s2, kf_n2, kf_z2, kc_gI, kc_pI, kc_cv, kc_g0, kc_g1, kc_g2, kc_g3, kc_g4, kc_g5, kc_g6, kc_g7, kc_g8, kc_g9, kc_a1, kc_s1, kc_n1, kc_z1, kc_a2, kc_s2, kc_n2, kc_z2, kc_a3, kc_s3, kc_n3, kc_z3, kc_a4, kc_s4, kc_n4, kc_z4, kc_a5, kc_s5, kc_n5, kc_z5, kc_a6, kc_s6, kc_n6, kc_z6, kc_a7, kc_s7, kc_n7, kc_z7, kc_a8, kc_s8, kc_n8, kc_z8, kc_a9, kc_s9, kc_n9, kc_z9, ks_gI, ks_pI, ks_cv, ks_g0, ks_g1, ks_g2, ks_g3, ks_g4, ks_g5, ks_a1, ks_s1, ks_n1, ks_z1, ks_a2, ks_s2, ks_n2, ks_z2, ks_a3, ks_s3, ks_n3, ks_z3, ks_a4, ks_s4, ks_n4, ks_z4, ks_tr, u1_n, h1, hnot]
        rw [hs, nI_1] at k1
        exact k1
      · rw [k3.length_eq, List.length_cons]; omega
      · refine List.Perm.trans ?_ hperm
        refine (List.Perm.append_right rest k3).trans ?_
        exact (List.perm_middle (a := x) (l₁ := s) (l₂ := rest)).symm
  · rintro _ ⟨g, s, rest, rfl, hg, hs, hperm, hsort⟩
    have hlen := hperm.length_eq
    rw [List.length_append, List.length_cons] at hlen
    have hrest : rest = [] := List.eq_nil_of_length_eq_zero (by omega)
    subst hrest
    rw [List.append_nil] at hg hperm
    rw [List.length_cons] at h1
    refine ⟨(), KI M (z_up1 F (b + 1) g), ?_, g, s, rfl, hg, hperm, hsort⟩
    simp (disch := first | assumption | omega | (apply LZ_R; assumption) | (apply LZ_T <;> first | assumption | omega) | (apply LC_F; assumption)) only [e_pu, e_ite, oL_add, oL_addr, oL_mul, nI_add, nI_1, b_pu, b_bd, b_ite, j_L, j_R, j_ite, j_bd, z_ex, ↓reduceIte, if_true, if_false, kt_gI, kt_pI, kt_cv, kt_g0, kt_g1, kt_a1, kt_s1, kt_n1, kt_z1, kt_a2, kt_s2, kt_n2, kt_z2, kr_gI, kr_pI, kr_cv, kr_g0, kr_a1, kr_s1, kr_n1, kr_z1, kf_gI, kf_pI, kf_cv, kf_g0, kf_g1, kf_a1, kf_s1, kf_n1, kf_z1, kf_a2, kf_s2, kf_n2, kf_z2, kc_gI, kc_pI, kc_cv, kc_g0, kc_g1, kc_g2, kc_g3, kc_g4, kc_g5, kc_g6, kc_g7, kc_g8, kc_g9, kc_a1, kc_s1, kc_n1, kc_z1, kc_a2, kc_s2, kc_n2, kc_z2, kc_a3, kc_s3, kc_n3, kc_z3, kc_a4, kc_s4, kc_n4, kc_z4, kc_a5, kc_s5, kc_n5, kc_z5, kc_a6, kc_s6, kc_n6, kc_z6, kc_a7, kc_s7, kc_n7, kc_z7, kc_a8, kc_s8, kc_n8, kc_z8, kc_a9, kc_s9, kc_n9, kc_z9, ks_gI, ks_pI, ks_cv, ks_g0, ks_g1, ks_g2, ks_g3, ks_g4, ks_g5, ks_a1, ks_s1, ks_n1, ks_z1, ks_a2, ks_s2, ks_n2, ks_z2, ks_a3, ks_s3, ks_n3, ks_z3, ks_a4, ks_s4, ks_n4, ks_z4, ks_tr, u1_n, h1, show nI (l0.length + 1) ≤ nI (l0.length + 1) from Int32.le_refl _]
end PR3
