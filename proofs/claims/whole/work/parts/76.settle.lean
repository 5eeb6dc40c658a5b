/-! ===== PHASE 2: rows as lists; the class's settle ===== -/
def rw_is (g : Nat → Int32) (l : List Nat) : Prop := ∀ i x, l[i]? = some x → g i = nI x
theorem rw_up {g : Nat → Int32} {u w : List Nat} {y z : Nat} (h : rw_is g (u ++ y :: w)) : rw_is (s_up g u.length (nI z)) (u ++ z :: w) := by
  intro i x hi
  by_cases e : i = u.length
  · subst e
    rw [s_ups]
    rw [List.getElem?_append_right (Nat.le_refl _), Nat.sub_self] at hi
    cases hi
    rfl
  · rw [s_upn _ _ e]
    refine h i x ?_
    by_cases hl : i < u.length
    · rw [List.getElem?_append_left hl] at hi ⊢; exact hi
    · rw [List.getElem?_append_right (by omega)] at hi ⊢
      obtain ⟨d, hd⟩ : ∃ d, i - u.length = d + 1 := ⟨i - u.length - 1, by omega⟩
      rw [hd] at hi ⊢
      exact hi
theorem rw_at {g : Nat → Int32} {u w : List Nat} {y : Nat} (h : rw_is g (u ++ y :: w)) : g u.length = nI y := h _ _ (by rw [List.getElem?_append_right (Nat.le_refl _), Nat.sub_self]; rfl)
section PR2
variable {β : Type} {M : zM} {F : Nat → Nat → Int32} {b : Nat}
theorem kr_settle {f : Unit → zP β} {l1 l2 : List Nat} {x : Nat} (h : LR b M) (hr : rw_is (F (b + 1)) (l1 ++ x :: l2)) (hl : l1.length < 768) (hs : l1.Pairwise (· < ·)) (hx : x ∉ l1) (hb : ∀ z ∈ l1, z < 2 ^ 31) (hx31 : x < 2 ^ 31) :
    ∃ g l', (z_bd (p_X4_settle b (nI l1.length)) f).1 (KI M F) = (f ()).1 (KI M (z_up1 F (b + 1) g)) ∧ rw_is g (l' ++ l2) ∧ l'.Perm (x :: l1) ∧ l'.Pairwise (· < ·) := by
  have ex : F (b + 1) l1.length = nI x := rw_at hr
  suffices hz : ∃ (t : Int32 ⊕ Unit), ∃ M', (z_lp (fun (t4 : Int32) => (if t4 ≤ 0 then (z_pu (.inr (.inl t4))) else (z_bd (z_gA 4 b 0) (fun v5 => (z_bd (z_aI 11 v5 (t4 - 1)) (fun v6 => (if v6 ≤ (nI x) then (z_pu (.inr (.inl t4))) else (z_bd (z_gA 4 b 0) (fun v7 => (z_bd (z_gA 4 b 0) (fun v8 => (z_bd (z_aI 11 v8 (t4 - 1)) (fun v9 => (z_bd (z_sI 11 v7 t4 v9) (fun _ => (z_pu (.inl ((t4 + (-1)))))))))))))))))))) (nI l1.length)).1 (KI M F) = some (.inr t, M') ∧ ∃ u v y g, l1 = u ++ v ∧ t = .inl (nI u.length) ∧ M' = KI M (z_up1 F (b + 1) g) ∧ rw_is g (u ++ y :: (v ++ l2)) ∧ (∀ z ∈ v, x < z) ∧ (∀ u' z, u = u' ++ [z] → z ≤ x) by
    obtain ⟨t, M', hz, u, v, y, g, e1, rfl, rfl, hg, hv, hu⟩ := hz
    refine ⟨s_up g u.length (nI x), u ++ x :: v, ?_, ?_, ?_, ?_⟩
    · unfold p_X4_settle
      have hul : u.length < 768 := by rw [e1, List.length_append] at hl; omega
      simp (disch := first | assumption | omega | (apply LZ_R; assumption) | (apply LZ_T <;> first | assumption | omega) | (apply LC_F; assumption)) only [e_pu, e_ite, oL_add, oL_addr, oL_mul, nI_add, nI_1, b_pu, b_bd, b_ite, j_L, j_R, j_ite, j_bd, z_ex, ↓reduceIte, if_true, if_false, kt_gI, kt_pI, kt_cv, kt_g0, kt_g1, kt_a1, kt_s1, kt_n1, kt_z1, kt_a2, kt_s2, kt_n2, kt_z2, kr_gI, kr_pI, kr_cv, kr_g0, kr_a1, kr_s1, kr_n1, kr_z1, kf_gI, kf_pI, kf_cv, kf_g0, kf_g1, kf_a1, kf_s1, kf_n1, kf_z1, kf_a2, kf_s2, kf_n2, kf_z2, kc_gI, kc_pI, kc_cv, kc_g0, kc_g1, kc_g2, kc_g3, kc_g4, kc_g5, kc_g6, kc_g7, kc_g8, kc_g9, kc_a1, kc_s1, kc_n1, kc_z1, kc_a2, kc_s2, kc_n2, kc_z2, kc_a3, kc_s3, kc_n3, kc_z3, kc_a4, kc_s4, kc_n4, kc_z4, kc_a5, kc_s5, kc_n5, kc_z5, kc_a6, kc_s6, kc_n6, kc_z6, kc_a7, kc_s7, kc_n7, kc_z7, kc_a8, kc_s8, kc_n8, kc_z8, kc_a9, kc_s9, kc_n9, kc_z9, ks_gI, ks_pI, ks_cv, ks_g0, ks_g1, ks_g2, ks_g3, ks_g4, ks_g5, ks_a1, ks_s1, ks_n1, ks_z1, ks_a2, ks_s2, ks_n2, ks_z2, ks_a3, ks_s3, ks_n3, ks_z3, ks_a4, ks_s4, ks_n4, ks_z4, ks_tr, ex]
      refine e_run (a := ()) (M1 := KI M (z_up1 F (b + 1) (s_up g u.length (nI x)))) ((e_jL hz).trans ?_)
      simp (disch := first | assumption | omega | (apply LZ_R; assumption) | (apply LZ_T <;> first | assumption | omega) | (apply LC_F; assumption)) only [e_pu, e_ite, oL_add, oL_addr, oL_mul, nI_add, nI_1, b_pu, b_bd, b_ite, j_L, j_R, j_ite, j_bd, z_ex, ↓reduceIte, if_true, if_false, kt_gI, kt_pI, kt_cv, kt_g0, kt_g1, kt_a1, kt_s1, kt_n1, kt_z1, kt_a2, kt_s2, kt_n2, kt_z2, kr_gI, kr_pI, kr_cv, kr_g0, kr_a1, kr_s1, kr_n1, kr_z1, kf_gI, kf_pI, kf_cv, kf_g0, kf_g1, kf_a1, kf_s1, kf_n1, kf_z1, kf_a2, kf_s2, kf_n2, kf_z2, kc_gI, kc_pI, kc_cv, kc_g0, kc_g1, kc_g2, kc_g3, kc_g4, kc_g5, kc_g6, kc_g7, kc_g8, kc_g9, kc_a1, kc_s1, kc_n1, kc_z1, kc_a2, kc_s2, kc_n2, kc_z2, kc_a3, kc_s3, kc_n3, kc_z3, kc_a4, kc_s4, kc_n4, kc_z4, kc_a5, kc_s5, kc_n5, kc_z5, kc_a6, kc_s6, kc_n6, kc_z6, kc_a7, kc_s7, kc_n7, kc_z7, kc_a8, kc_s8, kc_n8, kc_z8, kc_a9, kc_s9, kc_n9, kc_z9, ks_gI, ks_pI, ks_cv, ks_g0, ks_g1, ks_g2, ks_g3, ks_g4, ks_g5, ks_a1, ks_s1, ks_n1, ks_z1, ks_a2, ks_s2, ks_n2, ks_z2, ks_a3, ks_s3, ks_n3, ks_z3, ks_a4, ks_s4, ks_n4, ks_z4, ks_tr, u2_u1]
    · have := rw_up (z := x) hg
      rw [List.append_assoc]
      exact this
    · rw [e1]
      exact List.perm_middle
    · rw [e1] at hs
      rw [List.pairwise_append] at hs ⊢
      refine ⟨hs.1, List.pairwise_cons.mpr ⟨hv, hs.2.1⟩, ?_⟩
      intro p hp q hq
      have hpx : p < x := by
        have hne : p ≠ x := fun e => hx (by rw [e1, ← e]; exact List.mem_append_left _ hp)
        rcases List.eq_nil_or_concat u with hn | ⟨u', z, hz⟩
        · rw [hn] at hp; cases hp
        · rw [List.concat_eq_append] at hz
          have hzx := hu u' z hz
          rw [hz] at hp hs
          rcases List.mem_append.mp hp with hp | hp
          · have := (List.pairwise_append.mp hs.1).2.2 p hp z (List.mem_singleton.mpr rfl)
            omega
          · have := List.mem_singleton.mp hp
            omega
      rcases List.mem_cons.mp hq with rfl | hq
      · exact hpx
      · exact Nat.lt_trans hpx (hv q hq)
  refine lp_wf (fun s M' => ∃ u v y g, l1 = u ++ v ∧ s = nI u.length ∧ M' = KI M (z_up1 F (b + 1) g) ∧ rw_is g (u ++ y :: (v ++ l2)) ∧ (∀ z ∈ v, x < z)) (fun s _ => s.toNatClampNeg) (fun (t : Int32 ⊕ Unit) M' => ∃ u v y g, l1 = u ++ v ∧ t = .inl (nI u.length) ∧ M' = KI M (z_up1 F (b + 1) g) ∧ rw_is g (u ++ y :: (v ++ l2)) ∧ (∀ z ∈ v, x < z) ∧ (∀ u' z, u = u' ++ [z] → z ≤ x)) ?_ _ _ ⟨l1, [], x, F (b + 1), (List.append_nil _).symm, rfl, by rw [u1_id], hr, fun z hz => by cases hz⟩
  rintro s M' ⟨u, v, y, g, e1, rfl, rfl, hg, hv⟩
  rcases List.eq_nil_or_concat u with rfl | ⟨u', z, hz⟩
  · refine Or.inl ⟨.inl (nI 0), KI M (z_up1 F (b + 1) g), ?_, [], v, y, g, e1, rfl, rfl, hg, hv, ?_⟩
    · rw [if_pos (show nI ([] : List Nat).length ≤ 0 from Int32.le_refl _)]
      rfl
    · intro u' z e
      cases u' <;> cases e
  · rw [List.concat_eq_append] at hz
    subst hz
    have hlen : (u' ++ [z]).length = u'.length + 1 := by rw [List.length_append]; rfl
    have hul : u'.length + 1 < 768 := by
      have := congrArg List.length e1
      rw [List.length_append, hlen] at this
      omega
    have h0 : ¬ nI (u'.length + 1) ≤ 0 := nI_nle (by omega) (by omega)
    have hg' : rw_is g (u' ++ z :: (y :: (v ++ l2))) := by rw [List.append_assoc] at hg; exact hg
    have ez : g u'.length = nI z := rw_at hg'
    have hz31 : z < 2 ^ 31 := hb z (by rw [e1]; simp)
    by_cases hzx : z ≤ x
    · refine Or.inl ⟨.inl (nI (u' ++ [z]).length), KI M (z_up1 F (b + 1) g), ?_, u' ++ [z], v, y, g, e1, rfl, rfl, hg, hv, ?_⟩
      · rw [hlen]
        simp (disch := first | assumption | omega | (apply LZ_R; assumption) | (apply LZ_T <;> first | assumption | omega) | (apply LC_F; assumption)) only [e_pu, e_ite, oL_add, oL_addr, oL_mul, nI_add, nI_1, b_pu, b_bd, b_ite, j_L, j_R, j_ite, j_bd, z_ex, ↓reduceIte, if_true, if_false, kt_gI, kt_pI, kt_cv, kt_g0, kt_g1, kt_a1, kt_s1, kt_n1, kt_z1, kt_a2, kt_s2, kt_n2, kt_z2, kr_gI, kr_pI, kr_cv, kr_g0, kr_a1, kr_s1, kr_n1, kr_z1, kf_gI, kf_pI, kf_cv, kf_g0, kf_g1, kf_a1, kf_s1, kf_n1, kf_z1, kf_a2, kf_s2, kf_n2, kf_z2, kc_gI, kc_pI, kc_cv, kc_g0, kc_g1, kc_g2, kc_g3, kc_g4, kc_g5, kc_g6, kc_g7, kc_g8, kc_g9, kc_a1, kc_s1, kc_n1, kc_z1, kc_a2, kc_s2, kc_n2, kc_z2, kc_a3, kc_s3, kc_n3, kc_z3, kc_a4, kc_s4, kc_n4, kc_z4, kc_a5, kc_s5, kc_n5, kc_z5, kc_a6, kc_s6, kc_n6, kc_z6, kc_a7, kc_s7, kc_n7, kc_z7, kc_a8, kc_s8, kc_n8, kc_z8, kc_a9, kc_s9, kc_n9, kc_z9, ks_gI, ks_pI, ks_cv, ks_g0, ks_g1, ks_g2, ks_g3, ks_g4, ks_g5, ks_a1, ks_s1, ks_n1, ks_z1, ks_a2, ks_s2, ks_n2, ks_z2, ks_a3, ks_s3, ks_n3, ks_z3, ks_a4, ks_s4, ks_n4, ks_z4, ks_tr, h0, nI_dec', Nat.add_sub_cancel, u1_s, ez, nI_le hzx hx31]
      · intro u2 z2 e
        have := List.append_inj' e rfl
        have := List.singleton_inj.mp this.2
        omega
    · refine Or.inr ⟨nI u'.length, KI M (z_up1 F (b + 1) (s_up g (u'.length + 1) (nI z))), ?_, ⟨u', z :: v, z, s_up g (u'.length + 1) (nI z), ?_, rfl, rfl, ?_, ?_⟩, ?_⟩
      · have hn : ¬ nI z ≤ nI x := nI_ge (by omega) hz31
        rw [hlen]
        simp (disch := first | assumption | omega | (apply LZ_R; assumption) | (apply LZ_T <;> first | assumption | omega) | (apply LC_F; assumption)) only [e_pu, e_ite, oL_add, oL_addr, oL_mul, nI_add, nI_1, b_pu, b_bd, b_ite, j_L, j_R, j_ite, j_bd, z_ex, ↓reduceIte, if_true, if_false, kt_gI, kt_pI, kt_cv, kt_g0, kt_g1, kt_a1, kt_s1, kt_n1, kt_z1, kt_a2, kt_s2, kt_n2, kt_z2, kr_gI, kr_pI, kr_cv, kr_g0, kr_a1, kr_s1, kr_n1, kr_z1, kf_gI, kf_pI, kf_cv, kf_g0, kf_g1, kf_a1, kf_s1, kf_n1, kf_z1, kf_a2, kf_s2, kf_n2, kf_z2, kc_gI, kc_pI, kc_cv, kc_g0, kc_g1, kc_g2, kc_g3, kc_g4, kc_g5, kc_g6, kc_g7, kc_g8, kc_g9, kc_a1, kc_s1, kc_n1, kc_z1, kc_a2, kc_s2, kc_n2, kc_z2, kc_a3, kc_s3, kc_n3, kc_z3, kc_a4, kc_s4, kc_n4, kc_z4, kc_a5, kc_s5, kc_n5, kc_z5, kc_a6, kc_s6, kc_n6, kc_z6, kc_a7, kc_s7, kc_n7, kc_z7, kc_a8, kc_s8, kc_n8, kc_z8, kc_a9, kc_s9, kc_n9, kc_z9, ks_gI, ks_pI, ks_cv, ks_g0, ks_g1, ks_g2, ks_g3, ks_g4, ks_g5, ks_a1, ks_s1, ks_n1, ks_z1, ks_a2, ks_s2, ks_n2, ks_z2, ks_a3, ks_s3, ks_n3, ks_z3, ks_a4, ks_s4, ks_n4, ks_z4, ks_tr, h0, nI_dec', nI_dec, Nat.add_sub_cancel, u1_s, ez, hn, u2_u1]
      · rw [e1, List.append_assoc]; rfl
      · have := rw_up (z := z) hg
        rw [hlen, List.append_assoc] at this
        exact this
      · intro p hp
        rcases List.mem_cons.mp hp with rfl | hp
        · omega
        · exact hv p hp
      · rw [hlen, nI_clamp (by omega), nI_clamp (by omega)]
        omega
end PR2
