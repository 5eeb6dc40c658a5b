/-! ===== PHASE 2: the class's turnAway, arrivedBy ===== -/
section PR7
variable {β : Type} {M : zM} {F F' : Nat → Nat → Int32} {ct cd st st' : Nat → Int32} {a b c d i j k n p q r s t v ns nt np nc T : Nat} {R : List zRd} {l l1 l2 : List Nat} {x : zRd}
theorem rw_get {g : Nat → Int32} (h : rw_is g l) {i : Nat} (hi : i < l.length) : g i = nI l[i] := h i _ (List.getElem?_eq_getElem hi)
theorem g4_arr {f : Int32 → zP β} {z : Nat} (hz : z < 2 ^ 31) : (z_bd (p_X4_arrival (nI z)) f).1 M = (f (nI (z / 65536))).1 M := by
  unfold p_X4_arrival
  rw [pk_shrN hz _ 16 (by decide)]
  rfl
theorem kr_by {f : Int32 → zP β} (h : LR b M) (hr : rw_is (F (b + 1)) (l1 ++ l2)) (h1 : F b 1 = nI (l1.length + l2.length)) (hl : l1.length + l2.length ≤ 768) (hT : T < 2 ^ 31) (h31 : ∀ z ∈ l1 ++ l2, z < 2 ^ 31) (ha : ∀ z ∈ l1, z / 65536 ≤ T) (hb : ∀ z ∈ l2, T < z / 65536) :
    (z_bd (p_X4_arrivedBy b (nI T)) f).1 (KI M F) = (f (nI l1.length)).1 (KI M F) := by
  refine e_run ?_
  unfold p_X4_arrivedBy
  refine lp_cnt l1.length (fun i => nI i) (fun _ => KI M F) _ _ ?_ ?_
  · intro i hi
    have hn : ¬ nI (l1.length + l2.length) ≤ nI i := nI_ge (by omega) (by omega)
    have hz := rw_get hr (i := i) (by rw [List.length_append]; omega)
    have hzm : (l1 ++ l2)[i]'(by rw [List.length_append]; omega) = l1[i] := List.getElem_append_left hi
    rw [hzm] at hz
    have hm := List.getElem_mem hi
    have hz31 := h31 _ (List.mem_append_left l2 hm)
    have hle := ha _ hm
    have hn2 : ¬ nI T < nI (l1[i] / 65536) := nI_nlt hle hT
    simp (disch := first | assumption | omega | (apply LZ_R; assumption) | (apply LZ_T <;> first | assumption | omega) | (apply LC_F; assumption)) only [e_pu, e_ite, oL_add, oL_addr, oL_mul, nI_add, nI_1, b_pu, b_bd, b_ite, j_L, j_R, j_ite, j_bd, z_ex, ↓reduceIte, if_true, if_false, kt_gI, kt_pI, kt_cv, kt_g0, kt_g1, kt_a1, kt_s1, kt_n1, kt_z1, kt_a2, kt_s2, kt_n2, kt_z2, kr_gI, kr_pI, kr_cv, kr_g0, kr_a1, kr_s1, kr_n1, kr_z1, kf_gI, kf_pI, kf_cv, kf_g0, kf_g1, kf_a1, kf_s1, kf_n1, kf_z1, kf_a2, kf_s2, kf_n2, kf_z2, kc_gI, kc_pI, kc_cv, kc_g0, kc_g1, kc_g2, kc_g3, kc_g4, kc_g5, kc_g6, kc_g7, kc_g8, kc_g9, kc_a1, kc_s1, kc_n1, kc_z1, kc_a2, kc_s2, kc_n2, kc_z2, kc_a3, kc_s3, kc_n3, kc_z3, kc_a4, kc_s4, kc_n4, kc_z4, kc_a5, kc_s5, kc_n5, kc_z5, kc_a6, kc_s6, kc_n6, kc_z6, kc_a7, kc_s7, kc_n7, kc_z7, kc_a8, kc_s8, kc_n8, kc_z8, kc_a9, kc_s9, kc_n9, kc_z9, ks_gI, ks_pI, ks_cv, ks_g0, ks_g1, ks_g2, ks_g3, ks_g4, ks_g5, ks_a1, ks_s1, ks_n1, ks_z1, ks_a2, ks_s2, ks_n2, ks_z2, ks_a3, ks_s3, ks_n3, ks_z3, ks_a4, ks_s4, ks_n4, ks_z4, ks_tr, h1, hn, hz, g4_arr hz31, hn2]
  · cases l2 with
    | nil => simp (disch := first | assumption | omega | (apply LZ_R; assumption) | (apply LZ_T <;> first | assumption | omega) | (apply LC_F; assumption)) only [e_pu, e_ite, oL_add, oL_addr, oL_mul, nI_add, nI_1, b_pu, b_bd, b_ite, j_L, j_R, j_ite, j_bd, z_ex, ↓reduceIte, if_true, if_false, kt_gI, kt_pI, kt_cv, kt_g0, kt_g1, kt_a1, kt_s1, kt_n1, kt_z1, kt_a2, kt_s2, kt_n2, kt_z2, kr_gI, kr_pI, kr_cv, kr_g0, kr_a1, kr_s1, kr_n1, kr_z1, kf_gI, kf_pI, kf_cv, kf_g0, kf_g1, kf_a1, kf_s1, kf_n1, kf_z1, kf_a2, kf_s2, kf_n2, kf_z2, kc_gI, kc_pI, kc_cv, kc_g0, kc_g1, kc_g2, kc_g3, kc_g4, kc_g5, kc_g6, kc_g7, kc_g8, kc_g9, kc_a1, kc_s1, kc_n1, kc_z1, kc_a2, kc_s2, kc_n2, kc_z2, kc_a3, kc_s3, kc_n3, kc_z3, kc_a4, kc_s4, kc_n4, kc_z4, kc_a5, kc_s5, kc_n5, kc_z5, kc_a6, kc_s6, kc_n6, kc_z6, kc_a7, kc_s7, kc_n7, kc_z7, kc_a8, kc_s8, kc_n8, kc_z8, kc_a9, kc_s9, kc_n9, kc_z9, ks_gI, ks_pI, ks_cv, ks_g0, ks_g1, ks_g2, ks_g3, ks_g4, ks_g5, ks_a1, ks_s1, ks_n1, ks_z1, ks_a2, ks_s2, ks_n2, ks_z2, ks_a3, ks_s3, ks_n3, ks_z3, ks_a4, ks_s4, ks_n4, ks_z4, ks_tr, h1, List.length_nil, Nat.add_zero, show nI l1.length ≤ nI l1.length from Int32.le_refl _]
    | cons y l2 =>
      rw [List.length_cons] at h1 hl
      have hn : ¬ nI (l1.length + (l2.length + 1)) ≤ nI l1.length := nI_ge (by omega) (by omega)
      have hz := rw_at hr
      have hy31 := h31 y (by simp)
      have hlt := hb y (List.mem_cons_self ..)
      have hn2 : nI T < nI (y / 65536) := nI_lt hlt (by omega)
      simp (disch := first | assumption | omega | (apply LZ_R; assumption) | (apply LZ_T <;> first | assumption | omega) | (apply LC_F; assumption)) only [e_pu, e_ite, oL_add, oL_addr, oL_mul, nI_add, nI_1, b_pu, b_bd, b_ite, j_L, j_R, j_ite, j_bd, z_ex, ↓reduceIte, if_true, if_false, kt_gI, kt_pI, kt_cv, kt_g0, kt_g1, kt_a1, kt_s1, kt_n1, kt_z1, kt_a2, kt_s2, kt_n2, kt_z2, kr_gI, kr_pI, kr_cv, kr_g0, kr_a1, kr_s1, kr_n1, kr_z1, kf_gI, kf_pI, kf_cv, kf_g0, kf_g1, kf_a1, kf_s1, kf_n1, kf_z1, kf_a2, kf_s2, kf_n2, kf_z2, kc_gI, kc_pI, kc_cv, kc_g0, kc_g1, kc_g2, kc_g3, kc_g4, kc_g5, kc_g6, kc_g7, kc_g8, kc_g9, kc_a1, kc_s1, kc_n1, kc_z1, kc_a2, kc_s2, kc_n2, kc_z2, kc_a3, kc_s3, kc_n3, kc_z3, kc_a4, kc_s4, kc_n4, kc_z4, kc_a5, kc_s5, kc_n5, kc_z5, kc_a6, kc_s6, kc_n6, kc_z6, kc_a7, kc_s7, kc_n7, kc_z7, kc_a8, kc_s8, kc_n8, kc_z8, kc_a9, kc_s9, kc_n9, kc_z9, ks_gI, ks_pI, ks_cv, ks_g0, ks_g1, ks_g2, ks_g3, ks_g4, ks_g5, ks_a1, ks_s1, ks_n1, ks_z1, ks_a2, ks_s2, ks_n2, ks_z2, ks_a3, ks_s3, ks_n3, ks_z3, ks_a4, ks_s4, ks_n4, ks_z4, ks_tr, h1, hn, hz, g4_arr hy31, hn2]
theorem g4_red {f : Int32 → zP β} {B S : Nat} {u : Int32} (hu : u = nI B) (hx : okX 8 1024 x) (hB : B < 32768) (hS : S < 8) : (z_bd (p_X4_redirected (nI (cX x)) u (nI S)) f).1 M = (f (nI (cN B x.2.1 x.2.2.1 S))).1 M := by
  unfold p_X4_redirected cX
  rw [hu, cN_red hx.1 hx.2.1 hx.2.2.1 hx.2.2.2 hB hS]
  rfl
theorem kx_turn {f : Int32 → zP β} (E : EN M F a c ct cd st ns nt np nc) (hrd : ∀ p s, p < ns → s < ns → ∃ b, b < 10000 ∧ s_rd ct p s = nI b) (hT1 : T < 12000) (hT : st 0 = nI T) (h12 : F a 12 = st 5) (hx : okX ns 1024 x) :
    (z_bd (p_X5_turnAway a (nI (cX x)) (nI x.2.2.2)) f).1 (KI M F) = (f (nI (cX (s_tx ct st ns x)))).1 (KI M (z_up2 F a 12 (st 5 + 1))) := by
  have h8 := EN_ns E
  have E' := E
  obtain ⟨⟨hL, hcy, hC, hdis⟩, ⟨rc, hok⟩, rb, r0⟩ := E'
  have hs := hx.2.2.2
  have hx8 : okX 8 1024 x := ⟨hx.1, hx.2.1, by have := hx.2.2.1; omega, by omega⟩
  have E1 : EN M (z_up2 F a 12 (st 5 + 1)) a c ct cd st ns nt np nc := EN_gen E (fun k hk => by rw [u2_row _ _ (by omega), u2_row _ _ (by omega)]; exact rb k hk) (by rw [u2_n _ _ (by omega)]; exact r0) (fun y y1 y2 => u2_row _ _ (by omega))
  have e7 := E1.2.2.2
  unfold p_X5_turnAway
  cases hc : s_near ct st x.2.2.2 1 ns with
  | none =>
    have ht : cX (s_tx ct st ns x) = cN (T + 1) x.2.1 x.2.2.1 x.2.2.2 := by
      unfold s_tx cX
      rw [hc]
      show cN (ix (st 0 + 1)) _ _ _ = _
      rw [hT, nI_1, ix_nI (by omega)]
      rfl
    have hu : st 0 + 1 = nI (T + 1) := by rw [hT, nI_1]
    simp (disch := first | assumption | omega | (apply LZ_R; assumption) | (apply LZ_T <;> first | assumption | omega) | (apply LC_F; assumption)) only [e_pu, e_ite, oL_add, oL_addr, oL_mul, nI_add, nI_1, b_pu, b_bd, b_ite, j_L, j_R, j_ite, j_bd, z_ex, ↓reduceIte, if_true, if_false, kt_gI, kt_pI, kt_cv, kt_g0, kt_g1, kt_a1, kt_s1, kt_n1, kt_z1, kt_a2, kt_s2, kt_n2, kt_z2, kr_gI, kr_pI, kr_cv, kr_g0, kr_a1, kr_s1, kr_n1, kr_z1, kf_gI, kf_pI, kf_cv, kf_g0, kf_g1, kf_a1, kf_s1, kf_n1, kf_z1, kf_a2, kf_s2, kf_n2, kf_z2, kc_gI, kc_pI, kc_cv, kc_g0, kc_g1, kc_g2, kc_g3, kc_g4, kc_g5, kc_g6, kc_g7, kc_g8, kc_g9, kc_a1, kc_s1, kc_n1, kc_z1, kc_a2, kc_s2, kc_n2, kc_z2, kc_a3, kc_s3, kc_n3, kc_z3, kc_a4, kc_s4, kc_n4, kc_z4, kc_a5, kc_s5, kc_n5, kc_z5, kc_a6, kc_s6, kc_n6, kc_z6, kc_a7, kc_s7, kc_n7, kc_z7, kc_a8, kc_s8, kc_n8, kc_z8, kc_a9, kc_s9, kc_n9, kc_z9, ks_gI, ks_pI, ks_cv, ks_g0, ks_g1, ks_g2, ks_g3, ks_g4, ks_g5, ks_a1, ks_s1, ks_n1, ks_z1, ks_a2, ks_s2, ks_n2, ks_z2, ks_a3, ks_s3, ks_n3, ks_z3, ks_a4, ks_s4, ks_n4, ks_z4, ks_tr, h12, kx_near E1 hs, hc, show iO none = -1 from rfl, e7, g4_red hu hx8 (show T + 1 < 32768 by omega) hx8.2.2.2, ht]
  | some m =>
    have hm := (s_near_lt _ _ _ _ _ _ hc).1
    obtain ⟨b, hb, eb⟩ := hrd x.2.2.2 m hs hm
    have hu : st 0 + s_rd ct x.2.2.2 m = nI (T + b) := by rw [hT, eb, nI_add]
    have ht : cX (s_tx ct st ns x) = cN (T + b) x.2.1 x.2.2.1 m := by
      unfold s_tx cX
      rw [hc]
      show cN (ix (st 0 + s_rd ct x.2.2.2 m)) _ _ _ = _
      rw [hu, ix_nI (by omega)]
      rfl
    have hm8 : m < 8 := by omega
    simp (disch := first | assumption | omega | (apply LZ_R; assumption) | (apply LZ_T <;> first | assumption | omega) | (apply LC_F; assumption)) only [e_pu, e_ite, oL_add, oL_addr, oL_mul, nI_add, nI_1, b_pu, b_bd, b_ite, j_L, j_R, j_ite, j_bd, z_ex, ↓reduceIte, if_true, if_false, kt_gI, kt_pI, kt_cv, kt_g0, kt_g1, kt_a1, kt_s1, kt_n1, kt_z1, kt_a2, kt_s2, kt_n2, kt_z2, kr_gI, kr_pI, kr_cv, kr_g0, kr_a1, kr_s1, kr_n1, kr_z1, kf_gI, kf_pI, kf_cv, kf_g0, kf_g1, kf_a1, kf_s1, kf_n1, kf_z1, kf_a2, kf_s2, kf_n2, kf_z2, kc_gI, kc_pI, kc_cv, kc_g0, kc_g1, kc_g2, kc_g3, kc_g4, kc_g5, kc_g6, kc_g7, kc_g8, kc_g9, kc_a1, kc_s1, kc_n1, kc_z1, kc_a2, kc_s2, kc_n2, kc_z2, kc_a3, kc_s3, kc_n3, kc_z3, kc_a4, kc_s4, kc_n4, kc_z4, kc_a5, kc_s5, kc_n5, kc_z5, kc_a6, kc_s6, kc_n6, kc_z6, kc_a7, kc_s7, kc_n7, kc_z7, kc_a8, kc_s8, kc_n8, kc_z8, kc_a9, kc_s9, kc_n9, kc_z9, ks_gI, ks_pI, ks_cv, ks_g0, ks_g1, ks_g2, ks_g3, ks_g4, ks_g5, ks_a1, ks_s1, ks_n1, ks_z1, ks_a2, ks_s2, ks_n2, ks_z2, ks_a3, ks_s3, ks_n3, ks_z3, ks_a4, ks_s4, ks_n4, ks_z4, ks_tr, ks_city hcy, h12, kx_near E1 hs, hc, iO_some, nI_nm1 (show m < 2 ^ 31 by omega), e7, kx_rd E1 hs hm, g4_red hu hx8 (show T + b < 32768 by omega) hm8, ht]
end PR7
