/-! ===== PHASE 2: the class's loop over the arriving riders ===== -/
section PR9
variable {β : Type} {M : zM} {F : Nat → Nat → Int32} {ct cd st : Nat → Int32} {a b c d i j k n p q r s t v ns nt np nc T : Nat} {A : List zRd}
theorem g4_to {f : Int32 → zP β} {x : zRd} (hx : okX 8 1024 x) : (z_bd (p_X4_target (nI (cX x))) f).1 M = (f (nI x.2.2.2)).1 M := by
  unfold p_X4_target cX
  rw [cN_to hx.1 hx.2.1 hx.2.2.1 hx.2.2.2]
  rfl
theorem rw_push2 {g : Nat → Int32} {l : List Nat} {x : Nat} {F : Nat → Nat → Int32} {y : Nat} (h : rw_is (F y) l) : rw_is (z_up2 F y l.length (nI x) y) (l ++ [x]) := by
  have := rw_push (x := x) h
  intro i z hi
  rw [← this i z hi]
  unfold s_up
  by_cases e : i = l.length
  · rw [if_pos e, e, u2_s]
  · rw [if_neg e, u2_n _ _ (Or.inr e)]
/-- so far: i riders of A have come -/
def JL (M : zM) (F : Nat → Nat → Int32) (a c : Nat) (ct cd st : Nat → Int32) (ns nt np nc : Nat) (A : List zRd) (i : Nat) (G : Nat → Nat → Int32) : Prop :=
  EN M G a c ct cd (s_pr ct ns (A.take i) st).2 ns nt np nc ∧ (G a 9 = (s_pr ct ns (A.take i) st).2 2 ∧ G a 12 = (s_pr ct ns (A.take i) st).2 5) ∧ (rw_is (G (a + 6 + 1)) ((s_pr ct ns (A.take i) st).1.map cX) ∧ (∀ j, i ≤ j → G (a + 6 + 1) j = F (a + 6 + 1) j) ∧ (s_pr ct ns (A.take i) st).1.length ≤ i) ∧ (∀ y, y ≠ a → y ≠ a + 1 → y ≠ a + 6 + 1 → G y = F y) ∧ ∀ z, z ≠ 9 → z ≠ 12 → G a z = F a z
theorem kx_ldL (hJ : JL M F a c ct cd st ns nt np nc A 0 F) (hrd : ∀ p s, p < ns → s < ns → ∃ b, b < 10000 ∧ s_rd ct p s = nI b) (hT1 : T < 12000) (hT : st 0 = nI T) (hA : ∀ x ∈ A, okX ns 1024 x ∧ x.1 = T) (hrow : ∀ i x, A[i]? = some x → F (a + 6 + 1) i = nI (cX x)) (hlen : A.length ≤ 768) :
    ∃ G, (z_lp (fun (t5 : Int32 × Int32) => (if (nI A.length) ≤ t5.2 then (z_pu (.inr (.inl t5.1))) else (z_bd (z_gA 5 a 5) (fun v6 => (z_bd (z_gA 4 v6 0) (fun v7 => (z_bd (z_aI 11 v7 t5.2) (fun v8 => (z_bd (p_X4_target v8) (fun r9 => (z_bd (z_cv 5 a (p_X5_free a r9)) (fun r10 => (if r10 ≤ 0 then (z_bd (z_gA 5 a 5) (fun v11 => (z_bd (z_gA 4 v11 0) (fun v12 => (z_bd (z_cv 5 a (p_X5_turnAway a v8 r9)) (fun r13 => (z_bd (z_sI 11 v12 t5.1 r13) (fun _ => (z_pu (.inl ((t5.1 + 1), (t5.2 + 1)))))))))))) else (z_bd (z_gI 5 a 9) (fun v14 => (z_bd (z_cv 5 a (p_X5_bonusNow a r9)) (fun r15 => (z_bd (z_pI 5 a 9 (v14 + r15)) (fun _ => (z_bd (z_gA 5 a 0) (fun v16 => (z_bd (z_aI 11 v16 r9) (fun v17 => (z_bd (z_sI 11 v16 r9 (v17 + 1)) (fun _ => (z_pu (.inl (t5.1, (t5.2 + 1))))))))))))))))))))))))))))) (0, 0)).1 (KI M F) = some (.inr (Sum.inl (nI (s_pr ct ns A st).1.length) : Int32 ⊕ Int32), KI M G) ∧ JL M F a c ct cd st ns nt np nc A A.length G := by
  suffices hz : ∃ (t : Int32 ⊕ Int32), ∃ M', (z_lp (fun (t5 : Int32 × Int32) => (if (nI A.length) ≤ t5.2 then (z_pu (.inr (.inl t5.1))) else (z_bd (z_gA 5 a 5) (fun v6 => (z_bd (z_gA 4 v6 0) (fun v7 => (z_bd (z_aI 11 v7 t5.2) (fun v8 => (z_bd (p_X4_target v8) (fun r9 => (z_bd (z_cv 5 a (p_X5_free a r9)) (fun r10 => (if r10 ≤ 0 then (z_bd (z_gA 5 a 5) (fun v11 => (z_bd (z_gA 4 v11 0) (fun v12 => (z_bd (z_cv 5 a (p_X5_turnAway a v8 r9)) (fun r13 => (z_bd (z_sI 11 v12 t5.1 r13) (fun _ => (z_pu (.inl ((t5.1 + 1), (t5.2 + 1)))))))))))) else (z_bd (z_gI 5 a 9) (fun v14 => (z_bd (z_cv 5 a (p_X5_bonusNow a r9)) (fun r15 => (z_bd (z_pI 5 a 9 (v14 + r15)) (fun _ => (z_bd (z_gA 5 a 0) (fun v16 => (z_bd (z_aI 11 v16 r9) (fun v17 => (z_bd (z_sI 11 v16 r9 (v17 + 1)) (fun _ => (z_pu (.inl (t5.1, (t5.2 + 1))))))))))))))))))))))))))))) (nI 0, nI 0)).1 (KI M F) = some (.inr t, M') ∧ t = .inl (nI (s_pr ct ns A st).1.length) ∧ ∃ G, M' = KI M G ∧ JL M F a c ct cd st ns nt np nc A A.length G by
    obtain ⟨t, M', hz, rfl, G, rfl, hG⟩ := hz
    exact ⟨G, hz, hG⟩
  refine lp_ct A.length (fun i => (nI (s_pr ct ns (A.take i) st).1.length, nI i)) (fun i M' => ∃ G, M' = KI M G ∧ JL M F a c ct cd st ns nt np nc A i G) (fun (t : Int32 ⊕ Int32) M' => t = .inl (nI (s_pr ct ns A st).1.length) ∧ ∃ G, M' = KI M G ∧ JL M F a c ct cd st ns nt np nc A A.length G) ?_ ?_ _ ⟨F, rfl, hJ⟩
  · rintro i _ hi ⟨G, rfl, E, ⟨g9, g12⟩, ⟨hr1, hr2, hr3⟩, ho1, ho2⟩
    obtain ⟨x, hx⟩ : ∃ x, A[i]? = some x := ⟨A[i], List.getElem?_eq_getElem hi⟩
    have hxA := hA x (List.mem_of_getElem? hx)
    have h8 := EN_ns E
    obtain ⟨⟨hL, hcy, hC, hdis⟩, ⟨rc, hok⟩, rb, r0⟩ := id E
    have htk : A.take (i + 1) = A.take i ++ [x] := by rw [List.take_succ, hx]; rfl
    have hmem : ∀ y ∈ A.take i, y.2.2.2 < ns := fun y hy => (hA y (List.mem_of_mem_take hy)).1.2.2.2
    have h00 : (s_pr ct ns (A.take i) st).2 0 = nI T := by rw [s_pr_o h8 (by omega) _ _ hmem]; exact hT
    have hcode : G (a + 6 + 1) i = nI (cX x) := (hr2 i (Nat.le_refl _)).trans (hrow i x hx)
    unfold JL
    rw [htk, s_pr_app]
    generalize s_pr ct ns (A.take i) st = Z at E g9 g12 hr1 hr3 h00 rb r0 ⊢
    obtain ⟨L, z⟩ := Z
    simp only at E g9 g12 hr1 hr3 h00 rb r0 ⊢
    have hs : x.2.2.2 < ns := hxA.1.2.2.2
    have hx8 : okX 8 1024 x := ⟨hxA.1.1, hxA.1.2.1, by have := hxA.1.2.2.1; omega, by omega⟩
    have hs8 : x.2.2.2 < 8 := by omega
    have hn : ¬ nI A.length ≤ nI i := nI_ge hi (by omega)
    have h1 : nI x.1 = z 0 := by rw [hxA.2, h00]
    have hi768 : i < 768 := by omega
    have hL768 : L.length < 768 := by omega
    have hlm : (L.map cX).length = L.length := List.length_map ..
    by_cases h2 : s_fr ct z x.2.2.2 ≤ 0
    · have ep : s_pr ct ns [x] z = ([s_tx ct z ns x], s_up z 5 (z 5 + 1)) := by rw [s_pr, if_pos h1, if_pos h2]; rfl
      rw [ep]
      refine ⟨KI M (z_up2 (z_up2 G a 12 (z 5 + 1)) (a + 6 + 1) L.length (nI (cX (s_tx ct z ns x)))), ?_, _, rfl, ?_, ⟨?_, ?_⟩, ⟨?_, ?_, ?_⟩, ?_, ?_⟩
      · simp (disch := first | assumption | omega | (apply LZ_R; assumption) | (apply LZ_T <;> first | assumption | omega) | (apply LC_F; assumption)) only [e_pu, e_ite, oL_add, oL_addr, oL_mul, nI_add, nI_1, b_pu, b_bd, b_ite, j_L, j_R, j_ite, j_bd, z_ex, ↓reduceIte, if_true, if_false, kt_gI, kt_pI, kt_cv, kt_g0, kt_g1, kt_a1, kt_s1, kt_n1, kt_z1, kt_a2, kt_s2, kt_n2, kt_z2, kr_gI, kr_pI, kr_cv, kr_g0, kr_a1, kr_s1, kr_n1, kr_z1, kf_gI, kf_pI, kf_cv, kf_g0, kf_g1, kf_a1, kf_s1, kf_n1, kf_z1, kf_a2, kf_s2, kf_n2, kf_z2, kc_gI, kc_pI, kc_cv, kc_g0, kc_g1, kc_g2, kc_g3, kc_g4, kc_g5, kc_g6, kc_g7, kc_g8, kc_g9, kc_a1, kc_s1, kc_n1, kc_z1, kc_a2, kc_s2, kc_n2, kc_z2, kc_a3, kc_s3, kc_n3, kc_z3, kc_a4, kc_s4, kc_n4, kc_z4, kc_a5, kc_s5, kc_n5, kc_z5, kc_a6, kc_s6, kc_n6, kc_z6, kc_a7, kc_s7, kc_n7, kc_z7, kc_a8, kc_s8, kc_n8, kc_z8, kc_a9, kc_s9, kc_n9, kc_z9, ks_gI, ks_pI, ks_cv, ks_g0, ks_g1, ks_g2, ks_g3, ks_g4, ks_g5, ks_a1, ks_s1, ks_n1, ks_z1, ks_a2, ks_s2, ks_n2, ks_z2, ks_a3, ks_s3, ks_n3, ks_z3, ks_a4, ks_s4, ks_n4, ks_z4, ks_tr, hn, hcode, g4_to hx8, kx_fr E, h2, kx_turn E hrd hT1 h00 g12 hxA.1, List.length_append, List.length_cons, List.length_nil]
      · refine EN_gen E (fun k hk => ?_) ?_ (fun y y1 y2 => ?_)
        · rw [u2_row _ _ (by omega), u2_row _ _ (by omega), u2_row _ _ (by omega), u2_row _ _ (by omega)]
          show _ = s_up z 5 (z 5 + 1) (6 + k) ∧ _ = s_up z 5 (z 5 + 1) (14 + k)
          rw [s_upn _ _ (by omega), s_upn _ _ (by omega)]
          exact rb k hk
        · rw [u2_row _ _ (by omega), u2_n _ _ (by omega)]
          exact r0.trans (s_upn (k := 5) (j := 0) z (z 5 + 1) (by decide)).symm
        · rw [u2_row _ _ (by omega), u2_row _ _ (by omega)]
      · rw [u2_row _ _ (by omega), u2_n _ _ (by omega)]
        exact g9.trans (s_upn (k := 5) (j := 2) z (z 5 + 1) (by decide)).symm
      · rw [u2_row _ _ (by omega), u2_s]
        exact (s_ups z 5 (z 5 + 1)).symm
      · rw [List.map_append, ← hlm]
        exact rw_push2 (g := fun _ => 0) (F := z_up2 G a 12 (z 5 + 1)) (by rw [u2_row _ _ (by omega)]; exact hr1)
      · intro j hj
        rw [u2_n _ _ (by omega), u2_row _ _ (by omega)]
        exact hr2 j (by omega)
      · show (L ++ [_]).length ≤ i + 1
        rw [List.length_append]
        exact Nat.succ_le_succ hr3
      · intro y y1 y2 y3
        rw [u2_row _ _ y3, u2_row _ _ y1]
        exact ho1 y y1 y2 y3
      · intro w w1 w2
        rw [u2_row _ _ (by omega), u2_n _ _ (Or.inr w2)]
        exact ho2 w w1 w2
    · have ep : s_pr ct ns [x] z = ([], s_lnd ct z x.2.2.2) := by rw [s_pr, if_pos h1, if_neg h2]; rfl
      rw [ep, List.append_nil]
      have b1 := (rb x.2.2.2 hs).1
      refine ⟨KI M (z_up2 (z_up2 G a 9 (z 2 + s_bn ct z x.2.2.2)) (a + 1) x.2.2.2 (z (6 + x.2.2.2) + 1)), ?_, _, rfl, ?_, ⟨?_, ?_⟩, ⟨?_, ?_, ?_⟩, ?_, ?_⟩
      · simp (disch := first | assumption | omega | (apply LZ_R; assumption) | (apply LZ_T <;> first | assumption | omega) | (apply LC_F; assumption)) only [e_pu, e_ite, oL_add, oL_addr, oL_mul, nI_add, nI_1, b_pu, b_bd, b_ite, j_L, j_R, j_ite, j_bd, z_ex, ↓reduceIte, if_true, if_false, kt_gI, kt_pI, kt_cv, kt_g0, kt_g1, kt_a1, kt_s1, kt_n1, kt_z1, kt_a2, kt_s2, kt_n2, kt_z2, kr_gI, kr_pI, kr_cv, kr_g0, kr_a1, kr_s1, kr_n1, kr_z1, kf_gI, kf_pI, kf_cv, kf_g0, kf_g1, kf_a1, kf_s1, kf_n1, kf_z1, kf_a2, kf_s2, kf_n2, kf_z2, kc_gI, kc_pI, kc_cv, kc_g0, kc_g1, kc_g2, kc_g3, kc_g4, kc_g5, kc_g6, kc_g7, kc_g8, kc_g9, kc_a1, kc_s1, kc_n1, kc_z1, kc_a2, kc_s2, kc_n2, kc_z2, kc_a3, kc_s3, kc_n3, kc_z3, kc_a4, kc_s4, kc_n4, kc_z4, kc_a5, kc_s5, kc_n5, kc_z5, kc_a6, kc_s6, kc_n6, kc_z6, kc_a7, kc_s7, kc_n7, kc_z7, kc_a8, kc_s8, kc_n8, kc_z8, kc_a9, kc_s9, kc_n9, kc_z9, ks_gI, ks_pI, ks_cv, ks_g0, ks_g1, ks_g2, ks_g3, ks_g4, ks_g5, ks_a1, ks_s1, ks_n1, ks_z1, ks_a2, ks_s2, ks_n2, ks_z2, ks_a3, ks_s3, ks_n3, ks_z3, ks_a4, ks_s4, ks_n4, ks_z4, ks_tr, hn, hcode, g4_to hx8, kx_fr E, h2, g9, kx_bn E, u2_row, b1]
      · refine EN_gen E (fun k hk => ?_) ?_ (fun y y1 y2 => ?_)
        · unfold s_lnd
          refine ⟨?_, ?_⟩
          · by_cases hkx : k = x.2.2.2
            · subst hkx; rw [u2_s]; exact (s_ups _ _ _).symm
            · rw [u2_n _ _ (Or.inr hkx), u2_row _ _ (by omega)]
              exact (rb k hk).1.trans ((s_upn _ _ (by omega)).trans (s_upn _ _ (by omega))).symm
          · rw [u2_row _ _ (by omega), u2_row _ _ (by omega)]
            exact (rb k hk).2.trans ((s_upn _ _ (by omega)).trans (s_upn _ _ (by omega))).symm
        · rw [u2_row _ _ (by omega), u2_n _ _ (by omega)]
          exact r0.trans (s_lnd_o (by omega)).symm
        · rw [u2_row _ _ (by omega), u2_row _ _ (by omega)]
      · rw [u2_row _ _ (by omega), u2_s]
        unfold s_lnd
        exact ((s_upn _ _ (by omega)).trans (s_ups _ _ _)).symm
      · rw [u2_row _ _ (by omega), u2_n _ _ (by omega)]
        exact g12.trans (s_lnd_o (by omega)).symm
      · rw [u2_row _ _ (by omega), u2_row _ _ (by omega)]
        exact hr1
      · intro j hj
        rw [u2_row _ _ (by omega), u2_row _ _ (by omega)]
        exact hr2 j (by omega)
      · exact Nat.le_succ_of_le hr3
      · intro y y1 y2 y3
        rw [u2_row _ _ y2, u2_row _ _ y1]
        exact ho1 y y1 y2 y3
      · intro w w1 w2
        rw [u2_row _ _ (by omega), u2_n _ _ (Or.inr w1)]
        exact ho2 w w1 w2
  · rintro _ ⟨G, rfl, hG⟩
    refine ⟨.inl (nI (s_pr ct ns A st).1.length), KI M G, ?_, rfl, G, rfl, hG⟩
    rw [List.take_length]
    simp (disch := first | assumption | omega | (apply LZ_R; assumption) | (apply LZ_T <;> first | assumption | omega) | (apply LC_F; assumption)) only [e_pu, e_ite, oL_add, oL_addr, oL_mul, nI_add, nI_1, b_pu, b_bd, b_ite, j_L, j_R, j_ite, j_bd, z_ex, ↓reduceIte, if_true, if_false, kt_gI, kt_pI, kt_cv, kt_g0, kt_g1, kt_a1, kt_s1, kt_n1, kt_z1, kt_a2, kt_s2, kt_n2, kt_z2, kr_gI, kr_pI, kr_cv, kr_g0, kr_a1, kr_s1, kr_n1, kr_z1, kf_gI, kf_pI, kf_cv, kf_g0, kf_g1, kf_a1, kf_s1, kf_n1, kf_z1, kf_a2, kf_s2, kf_n2, kf_z2, kc_gI, kc_pI, kc_cv, kc_g0, kc_g1, kc_g2, kc_g3, kc_g4, kc_g5, kc_g6, kc_g7, kc_g8, kc_g9, kc_a1, kc_s1, kc_n1, kc_z1, kc_a2, kc_s2, kc_n2, kc_z2, kc_a3, kc_s3, kc_n3, kc_z3, kc_a4, kc_s4, kc_n4, kc_z4, kc_a5, kc_s5, kc_n5, kc_z5, kc_a6, kc_s6, kc_n6, kc_z6, kc_a7, kc_s7, kc_n7, kc_z7, kc_a8, kc_s8, kc_n8, kc_z8, kc_a9, kc_s9, kc_n9, kc_z9, ks_gI, ks_pI, ks_cv, ks_g0, ks_g1, ks_g2, ks_g3, ks_g4, ks_g5, ks_a1, ks_s1, ks_n1, ks_z1, ks_a2, ks_s2, ks_n2, ks_z2, ks_a3, ks_s3, ks_n3, ks_z3, ks_a4, ks_s4, ks_n4, ks_z4, ks_tr, show nI A.length ≤ nI A.length from Int32.le_refl _]
end PR9
