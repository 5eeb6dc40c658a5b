/-! ===== PHASE 2: bestDeal ===== -/
/-- the best deal from j among the first stations, and its price -/
def s_dl (ct cd st : Nat → Int32) (nc j : Nat) : Nat → Option Nat × Int32
  | 0 => (none, 0)
  | s + 1 => if s = j then s_dl ct cd st nc j s else if s_fr ct st s = 0 then s_dl ct cd st nc j s else match (s_dl ct cd st nc j s).1 with
    | none => (some s, s_fare ct cd st nc j s - s_bn ct st s)
    | some _ => if (s_dl ct cd st nc j s).2 ≤ s_fare ct cd st nc j s - s_bn ct st s then s_dl ct cd st nc j s else (some s, s_fare ct cd st nc j s - s_bn ct st s)
section PA16
variable {β : Type} {M : zM} {F : Nat → Nat → Int32} {ct cd st bf : Nat → Int32} {i j k q c sp n ns nt np nc L : Nat} {H : List (Nat → Int32)} {S : Nat → Option (Nat → Int32)} {v w x y code : Int32} {xs : Nat → Int32} {f : Unit → zP β}
theorem s_dl_lt : ∀ s m, (s_dl ct cd st nc j s).1 = some m → m < s
  | 0, m, h => by cases h
  | s + 1, m, h => by
    unfold s_dl at h
    split at h
    · have := s_dl_lt s m h; omega
    · split at h
      · have := s_dl_lt s m h; omega
      · split at h
        · cases h; omega
        · split at h
          · have := s_dl_lt s m h; omega
          · cases h; omega
theorem EN_fs {a : Nat} {g : Nat → Int32} (E : EN M F a c ct cd st ns nt np nc) : EN M (z_up1 F (c + 10 + 2) g) a c ct cd st ns nt np nc := by
  have hd := E.1.2.2.2
  exact EN_gen E (fun k hk => by rw [u1_n _ _ (by omega), u1_n _ _ (by omega)]; exact E.2.2.1 k hk) (by rw [u1_n _ _ (by omega)]; exact E.2.2.2) (fun y y1 y2 => u1_n _ _ (by omega))
theorem up1_up1 (F : Nat → Nat → Int32) (a : Nat) (g g2 : Nat → Int32) : z_up1 (z_up1 F a g) a g2 = z_up1 F a g2 := by
  funext y
  unfold z_up1
  split <;> rfl
theorem L_c14 (hI : CI k M c sp ct cd ns nt np nc st H S n bf) (hm : MI M ct cd st H S n bf) (hi : i + 6 ≤ L) (hL : L ≤ 3072) : STEP (p_L_c14 xs L 0 75 95 (nI i)) k M i := by
  have hc := CI_c hI
  have hns := hc.1.2.1
  have hnt := hc.1.2.2.2.1
  obtain ⟨h0, hcy, hC, T, d, R, l, hT, hS, hn, hst0, hg, hd⟩ := CI_un hI
  have E := CI_E hI
  have hL41 := E.1.1
  unfold p_L_c14 p_L_bestDeal
  rw [show nI i + 1 = nI (i + 1) from oL_addr 1 i]
  simp only [z_xs_ok (xs := xs) (show i + 1 < L by omega) hL, b_pu]
  rcases pk_ix (xs (i + 1)) (n := ns) (by omega) with h | h | ⟨j, hj, e⟩
  · exact glue_t hI hm (c_stb hI (Or.inl h)) (if_pos rfl) (by decide) (fun M1 h1 => m_stb h1 hc (Or.inl h))
  · exact glue_t hI hm (c_stb hI (Or.inr h)) (if_pos rfl) (by decide) (fun M1 h1 => m_stb h1 hc (Or.inr h))
  · rw [e]
    have hj8 : j < 8 := by omega
    have hcc := hI.1.2.2.1
    have hcls : ∃ b M', (p_X8_bestDeal 0 (nI j)).1 M = some (.inr b, M') ∧ (b = iO (s_dl ct cd st nc j ns).1 ∧ ∃ g, M' = KI M (z_up1 (z_i M) (c + 10 + 2) g)) := by
      unfold p_X8_bestDeal
      rw [c_st hI hj]
      refine lp_ct ns (fun s => (iO (s_dl ct cd st nc j s).1, (s_dl ct cd st nc j s).2, nI s)) (fun _ M' => ∃ g, M' = KI M (z_up1 (z_i M) (c + 10 + 2) g)) (fun b M' => b = iO (s_dl ct cd st nc j ns).1 ∧ ∃ g, M' = KI M (z_up1 (z_i M) (c + 10 + 2) g)) ?_ ?_ _ ⟨z_i M (c + 10 + 2), by rw [up1_id]; rfl⟩
      · rintro s _ hs ⟨g, rfl⟩
        have E2 := EN_fs (g := g) E
        have hn1 : ¬ nI ns ≤ nI s := nI_ge hs (by omega)
        by_cases hsj : s = j
        · refine ⟨_, ?_, g, rfl⟩
          have e2 : nI s = nI j := by rw [hsj]
          simp (disch := first | assumption | omega | (apply LZ_R; assumption) | (apply LZ_T <;> first | assumption | omega) | (apply LC_F; assumption)) only [e_pu, e_ite, oL_add, oL_addr, oL_mul, nI_add, nI_1, b_pu, b_bd, b_ite, j_L, j_R, j_ite, j_bd, z_ex, ↓reduceIte, if_true, if_false, k8_city h0 hcy, kc_gI, EN_s0 E2, hn1, if_pos e2, s_dl, if_pos hsj]
        · have e2 : ¬ nI s = nI j := fun q => hsj ((nI_eq (by omega) (by omega)).mp q)
          by_cases hf : s_fr ct st s = 0
          · refine ⟨_, ?_, g, rfl⟩
            simp (disch := first | assumption | omega | (apply LZ_R; assumption) | (apply LZ_T <;> first | assumption | omega) | (apply LC_F; assumption)) only [e_pu, e_ite, oL_add, oL_addr, oL_mul, nI_add, nI_1, b_pu, b_bd, b_ite, j_L, j_R, j_ite, j_bd, z_ex, ↓reduceIte, if_true, if_false, k8_city h0 hcy, kc_gI, EN_s0 E2, hn1, if_neg e2, k0_g0_6, ks_cv, kx_fr E2 hs, if_pos hf, s_dl, if_neg hsj]
          · have E3 := EN_fs (g := s_fa cd (s_val ct st j s) (z_up1 (z_i M) (c + 10 + 2) g (c + 10 + 2)) nc) E
            refine ⟨_, ?_, s_fa cd (s_val ct st j s) (z_up1 (z_i M) (c + 10 + 2) g (c + 10 + 2)) nc, rfl⟩
            cases hz : (s_dl ct cd st nc j s).1 with
            | none =>
              have e1 : iO none = -1 := rfl
              simp (disch := first | assumption | omega | (apply LZ_R; assumption) | (apply LZ_T <;> first | assumption | omega) | (apply LC_F; assumption)) only [e_pu, e_ite, oL_add, oL_addr, oL_mul, nI_add, nI_1, b_pu, b_bd, b_ite, j_L, j_R, j_ite, j_bd, z_ex, ↓reduceIte, if_true, if_false, k8_city h0 hcy, kc_gI, EN_s0 E2, hn1, if_neg e2, k0_g0_6, ks_cv, kx_fr E2 hs, if_neg hf, kx_fare E2 hj hs, up1_up1, kx_bn E3 hs, s_dl, if_neg hsj, hz, e1]
              rfl
            | some m =>
              have e1 : iO (some m) = nI m := rfl
              have e3 : ¬ nI m = -1 := nI_nm1 (by have := s_dl_lt _ _ hz; omega)
              by_cases hle : (s_dl ct cd st nc j s).2 ≤ s_fare ct cd st nc j s - s_bn ct st s
              · simp (disch := first | assumption | omega | (apply LZ_R; assumption) | (apply LZ_T <;> first | assumption | omega) | (apply LC_F; assumption)) only [e_pu, e_ite, oL_add, oL_addr, oL_mul, nI_add, nI_1, b_pu, b_bd, b_ite, j_L, j_R, j_ite, j_bd, z_ex, ↓reduceIte, if_true, if_false, k8_city h0 hcy, kc_gI, EN_s0 E2, hn1, if_neg e2, k0_g0_6, ks_cv, kx_fr E2 hs, if_neg hf, kx_fare E2 hj hs, up1_up1, kx_bn E3 hs, s_dl, if_neg hsj, hz, e1, if_neg e3, if_pos hle]
              · simp (disch := first | assumption | omega | (apply LZ_R; assumption) | (apply LZ_T <;> first | assumption | omega) | (apply LC_F; assumption)) only [e_pu, e_ite, oL_add, oL_addr, oL_mul, nI_add, nI_1, b_pu, b_bd, b_ite, j_L, j_R, j_ite, j_bd, z_ex, ↓reduceIte, if_true, if_false, k8_city h0 hcy, kc_gI, EN_s0 E2, hn1, if_neg e2, k0_g0_6, ks_cv, kx_fr E2 hs, if_neg hf, kx_fare E2 hj hs, up1_up1, kx_bn E3 hs, s_dl, if_neg hsj, hz, e1, if_neg e3, if_neg hle]
                rfl
      · rintro _ ⟨g, rfl⟩
        have E2 := EN_fs (g := g) E
        refine ⟨_, _, ?_, rfl, g, rfl⟩
        simp (disch := first | assumption | omega | (apply LZ_R; assumption) | (apply LZ_T <;> first | assumption | omega) | (apply LC_F; assumption)) only [e_pu, e_ite, oL_add, oL_addr, oL_mul, nI_add, nI_1, b_pu, b_bd, b_ite, j_L, j_R, j_ite, j_bd, z_ex, ↓reduceIte, if_true, if_false, k8_city h0 hcy, kc_gI, EN_s0 E2, show nI ns ≤ nI ns from Int32.le_refl _]
    obtain ⟨b, M', hr, rfl, g, rfl⟩ := hcls
    refine glue_r hI hm (v := iO (s_dl ct cd st nc j ns).1) (cres_loc hI hr (loc_KI (F := z_i M) (M := M) (fun y hy => u1_n _ _ (fun e => hy (by unfold scr; omega)))) id (fun y y1 y2 => u1_n _ _ (by omega)) (by show z_nx M ≤ z_nx M + 18; omega) (by show z_sl M ≤ z_sl M + 992; omega)) (fun M1 h1 => ?_)
    obtain ⟨h9, e78, e80, e83⟩ := MI_0 h1
    have hmod : ∃ b M', (p_X9_bestDeal 75 (nI j)).1 M1 = some (.inr b, M') ∧ (b = iO (s_dl ct cd st nc j ns).1 ∧ ∃ g, M' = KI M1 (z_up1 (z_up2 (z_i M1) 75 0 0) 82 g)) := by
      unfold p_X9_bestDeal
      rw [m_st h1 hc hj]
      obtain ⟨F1, eF1⟩ : ∃ F1, F1 = z_up2 (z_i M1) 75 0 0 := ⟨_, rfl⟩
      rw [← eF1]
      have f78 : F1 78 = ct := by rw [eF1, F0_78, e78]
      have f80 : F1 80 = cd := by rw [eF1, F0_80, e80]
      have f83 : F1 83 = st := by rw [eF1, F0_83, e83]
      refine lp_ct ns (fun s => (iO (s_dl ct cd st nc j s).1, (s_dl ct cd st nc j s).2, nI s)) (fun _ M' => ∃ g, M' = KI M1 (z_up1 F1 82 g)) (fun b M' => b = iO (s_dl ct cd st nc j ns).1 ∧ ∃ g, M' = KI M1 (z_up1 F1 82 g)) ?_ ?_ _ ⟨F1 82, by rw [up1_id]⟩
      · rintro s _ hs ⟨g, rfl⟩
        have u78 : z_up1 F1 82 g 78 = ct := (u1_n _ _ (by omega)).trans f78
        have u80 : z_up1 F1 82 g 80 = cd := (u1_n _ _ (by omega)).trans f80
        have u83 : z_up1 F1 82 g 83 = st := (u1_n _ _ (by omega)).trans f83
        have hs0 : ct 0 = nI ns := hc.1.1
        have hs8 : s < 8 := by omega
        have hn1 : ¬ nI ns ≤ nI s := nI_ge hs (by omega)
        have hf1 : ∀ f : Int32 → zP ((Int32 × Int32 × Int32) ⊕ Int32), (z_bd (p_X9_fareOf 75 (nI j) (nI s)) f).1 (KI M1 (z_up1 F1 82 g)) = (f (s_fare ct cd st nc j s)).1 (KI M1 (z_up1 F1 82 (s_fa cd (s_val ct st j s) g nc))) := fun f => by
          rw [kn_fare (n := nc) h9 (by rw [u78]; exact hc.2.1.1) hc.2.1.2.1 hc.2.1.2.2.1 (by rw [u80]; exact hc.2.1.2.2.2) hj8 hs8, u78, u80, u83, up1_up1, u1_s]
        have w78 : z_up1 F1 82 (s_fa cd (s_val ct st j s) g nc) 78 = ct := (u1_n _ _ (by omega)).trans f78
        have w83 : z_up1 F1 82 (s_fa cd (s_val ct st j s) g nc) 83 = st := (u1_n _ _ (by omega)).trans f83
        by_cases hsj : s = j
        · refine ⟨_, ?_, g, rfl⟩
          have e2 : nI s = nI j := by rw [hsj]
          simp (disch := first | assumption | omega) only [e_pu, e_ite, oL_add, oL_addr, oL_mul, nI_add, nI_1, b_pu, b_bd, b_ite, j_L, j_R, j_ite, j_bd, z_ex, ↓reduceIte, if_true, if_false, kn_g78, kn_l78_0, u78, hs0, hn1, if_pos e2, s_dl, if_pos hsj]
        · have e2 : ¬ nI s = nI j := fun q => hsj ((nI_eq (by omega) (by omega)).mp q)
          by_cases hf : s_fr ct st s = 0
          · refine ⟨_, ?_, g, rfl⟩
            simp (disch := first | assumption | omega) only [e_pu, e_ite, oL_add, oL_addr, oL_mul, nI_add, nI_1, b_pu, b_bd, b_ite, j_L, j_R, j_ite, j_bd, z_ex, ↓reduceIte, if_true, if_false, kn_g78, kn_l78_0, u78, u83, hs0, hn1, if_neg e2, kn_cv, kn_fr, if_pos hf, s_dl, if_neg hsj]
          · refine ⟨_, ?_, s_fa cd (s_val ct st j s) g nc, rfl⟩
            cases hz : (s_dl ct cd st nc j s).1 with
            | none =>
              have e1 : iO none = -1 := rfl
              simp (disch := first | assumption | omega) only [e_pu, e_ite, oL_add, oL_addr, oL_mul, nI_add, nI_1, b_pu, b_bd, b_ite, j_L, j_R, j_ite, j_bd, z_ex, ↓reduceIte, if_true, if_false, kn_g78, kn_l78_0, u78, u83, w78, w83, hs0, hn1, if_neg e2, kn_cv, kn_fr, if_neg hf, hf1, kn_bn, s_dl, if_neg hsj, hz, e1, if_pos (show (-1 : Int32) < 0 by decide)]
              rfl
            | some m =>
              have e1 : iO (some m) = nI m := rfl
              have e3 : ¬ nI m < 0 := nI_pos (by have := s_dl_lt _ _ hz; omega)
              by_cases hle : (s_dl ct cd st nc j s).2 ≤ s_fare ct cd st nc j s - s_bn ct st s
              · have hlt : ¬ s_fare ct cd st nc j s - s_bn ct st s < (s_dl ct cd st nc j s).2 := fun q => by rw [i_lt] at q; rw [i_le] at hle; omega
                simp (disch := first | assumption | omega) only [e_pu, e_ite, oL_add, oL_addr, oL_mul, nI_add, nI_1, b_pu, b_bd, b_ite, j_L, j_R, j_ite, j_bd, z_ex, ↓reduceIte, if_true, if_false, kn_g78, kn_l78_0, u78, u83, w78, w83, hs0, hn1, if_neg e2, kn_cv, kn_fr, if_neg hf, hf1, kn_bn, s_dl, if_neg hsj, hz, e1, if_neg e3, if_pos hle, if_neg hlt]
              · have hlt : s_fare ct cd st nc j s - s_bn ct st s < (s_dl ct cd st nc j s).2 := by rw [i_le] at hle; rw [i_lt]; omega
                simp (disch := first | assumption | omega) only [e_pu, e_ite, oL_add, oL_addr, oL_mul, nI_add, nI_1, b_pu, b_bd, b_ite, j_L, j_R, j_ite, j_bd, z_ex, ↓reduceIte, if_true, if_false, kn_g78, kn_l78_0, u78, u83, w78, w83, hs0, hn1, if_neg e2, kn_cv, kn_fr, if_neg hf, hf1, kn_bn, s_dl, if_neg hsj, hz, e1, if_neg e3, if_neg hle, if_pos hlt]
                rfl
      · rintro _ ⟨g, rfl⟩
        have u78 : z_up1 F1 82 g 78 = ct := (u1_n _ _ (by omega)).trans f78
        have hs0 : ct 0 = nI ns := hc.1.1
        refine ⟨_, _, ?_, rfl, g, rfl⟩
        simp (disch := first | assumption | omega) only [e_pu, e_ite, oL_add, oL_addr, oL_mul, nI_add, nI_1, b_pu, b_bd, b_ite, j_L, j_R, j_ite, j_bd, z_ex, ↓reduceIte, if_true, if_false, kn_g78, kn_l78_0, u78, hs0, show nI ns ≤ nI ns from Int32.le_refl _]
    obtain ⟨b, M', hr2, rfl, g2, rfl⟩ := hmod
    refine mres_rd h1 hr2 ?_ ?_ ?_ ?_
    · rw [u1_n _ _ (by omega), u2_s]
    · intro y hy
      rw [u1_n _ _ (by omega), u2_row _ _ (by omega)]
    · rw [u1_n _ _ (by omega), u2_n _ _ (by omega)]
    · rw [u1_n _ _ (by omega), u2_n _ _ (by omega)]
end PA16
