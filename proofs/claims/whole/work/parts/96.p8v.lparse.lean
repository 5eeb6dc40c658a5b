/-! ===== PHASE 2: the law's parse ===== -/
section PA76
variable {M M1 N : zM} {ct cd st bf : Nat → Int32} {i j k n c sp ns nt np nc L : Nat} {v w : Int32} {H : List (Nat → Int32)} {S : Nat → Option (Nat → Int32)} {xs : Nat → Int32} {pc pm : zP Int32} {hE : String → zP Int32}
/-- a call of which both sides' answers are known together -/
theorem glue_j (hI : CI k M c sp ct cd ns nt np nc st H S n bf) (hm : MI M ct cd st H S n bf) (J : ∀ N, MI N ct cd st H S n bf → ∃ v c' sp' ct' cd' ns' nt' np' nc' st' H' S' n' bf', cres pc k M v c' sp' ct' cd' ns' nt' np' nc' st' H' S' n' bf' ∧ mres pm N v 0 ct' cd' st' H' S' n' bf') :
    STEP (z_bd (z_ct (z_cv 8 0 pc) hE (fun r1 => (z_bd (z_sJ 15 95 0 ((r1 : Int32).toInt64)) (fun _ => (z_pu 0))))) (fun r102 => (z_bd (z_cv 9 75 pm) (fun r104 => (z_bd (z_cv 9 75 (p_X9_thrown 75)) (fun r105 => (if r105 = r102 then (if r102 = 0 then (z_bd (z_aJ 15 95 0) (fun v106 => (if (lg_cmp v106 ((r104 : Int32).toInt64)) = 0 then (z_pu (.inl ((nI i + 6)))) else (z_pu (.inr 0))))) else (z_pu (.inl ((nI i + 6))))) else (z_pu (.inr 0))))))))) k M i := by
  obtain ⟨v, c0, sp0, ct0, cd0, ns0, nt0, np0, nc0, st0, H0, S0, n0, bf0, ⟨M1, e1, c1, l9, f1, x1, x2⟩, _⟩ := J M hm
  have h0 := hI.1.1
  have h91 := l9 hm.1
  obtain ⟨v', c', sp', ct', cd', ns', nt', np', nc', st', H', S', n', bf', ⟨M1', e1', c1', _, _, _, _⟩, hmr⟩ := J (z_wj M1 95 0 v.toInt64) (MI_tr hm h91 f1)
  have ee := e1.symm.trans e1'
  cases ee
  obtain ⟨F, m1, m2, m3, m4⟩ := hmr
  have h01 := c1'.1.1
  have hout := L0_out h01
  refine ⟨KI (z_wj M1 95 0 v.toInt64) F, ?_, ⟨c', sp', ct', cd', ns', nt', np', nc', st', H', S', n', bf', CI_M c1' _ m3, m4⟩, by show z_nx M1 ≤ _; omega, by show z_sl M1 ≤ _; omega⟩
  have ew : (z_ct (z_cv 8 0 pc) hE (fun r1 => (z_bd (z_sJ 15 95 0 ((r1 : Int32).toInt64)) (fun _ => (z_pu 0))))).1 M = some (.inr 0, z_wj M1 95 0 v.toInt64) := by
    refine (e_ct ((z_cv_pos (k0_is0 h0)).trans e1)).trans ?_
    exact e_sJ hout
  refine (e_run ew).trans ?_
  refine (e_run ((z_cv_pos (q9_is (M := z_wj M1 95 0 v.toInt64) h91)).trans m1)).trans ?_
  have h9K : L9 (KI (z_wj M1 95 0 v.toInt64) F) := h91
  rw [e_cv (q9_is h9K)]
  unfold p_X9_thrown
  rw [b_bd, q9_gI h9K]
  have e0 : z_i (KI (z_wj M1 95 0 v.toInt64) F) 75 0 = 0 := m2
  rw [b_pu, e0, if_pos rfl, if_pos rfl, e_aJ (L0_out (M := KI (z_wj M1 95 0 v.toInt64) F) h01)]
  have ej : z_j (KI (z_wj M1 95 0 v.toInt64) F) 95 (0 : Int32).toNatClampNeg = v.toInt64 := by
    show z_up2 (z_j M1) 95 0 v.toInt64 95 0 = _
    exact if_pos ⟨rfl, rfl⟩
  rw [ej, lg_rf, if_pos rfl]
  rfl
theorem L_c1 (hI : CI k M c sp ct cd ns nt np nc st H S n bf) (hm : MI M ct cd st H S n bf) (hi : i + 6 ≤ L) (hL : L ≤ 3072) : STEP (p_L_c1 xs L 0 75 95 (nI i)) k M i := by
  have h0 := hI.1.1
  obtain ⟨b1, b2, b3⟩ := hI.2.2.2.2
  unfold p_L_c1 p_L_parse
  rw [show nI i + 1 = nI (i + 1) from oL_addr 1 i]
  simp only [z_xs_ok (xs := xs) (show i + 1 < L by omega) hL, b_pu]
  have bad : (xs (i + 1) < 0 ∨ nI (n + 1) ≤ xs (i + 1)) → STEP (z_bd (z_ct (z_cv 8 0 (p_X8_parse 0 (xs (i + 1)))) (fun E => if E = "java/lang/IllegalArgumentException" then z_pu 1 else z_fl) (fun r1 => (z_bd (z_sJ 15 95 0 ((r1 : Int32).toInt64)) (fun _ => (z_pu 0))))) (fun r102 => (z_bd (z_cv 9 75 (p_X9_parse 75 (xs (i + 1)))) (fun r104 => (z_bd (z_cv 9 75 (p_X9_thrown 75)) (fun r105 => (if r105 = r102 then (if r102 = 0 then (z_bd (z_aJ 15 95 0) (fun v106 => (if (lg_cmp v106 ((r104 : Int32).toInt64)) = 0 then (z_pu (.inl ((nI i + 6)))) else (z_pu (.inr 0))))) else (z_pu (.inl ((nI i + 6))))) else (z_pu (.inr 0))))))))) k M i := fun hbad => by
    have hnw : ¬ (0 ≤ xs (i + 1) ∧ xs (i + 1) ≤ nI n) := fun q => by
      have q1 := q.1
      have q2 := q.2
      rw [i_le] at q1 q2
      rw [nI_toInt (by omega)] at q2
      have z0 : (0 : Int32).toInt = 0 := rfl
      rcases hbad with h | h
      · rw [i_lt] at h
        omega
      · rw [i_le, nI_toInt (by omega)] at h
        omega
    refine glue_t hI hm (E := "java/lang/IllegalArgumentException") ?_ (if_pos rfl) (show ¬ (1 : Int32) = 0 by decide) (fun M1 h1 => mres_th2 (w := 0) h1 (v := 0) ?_)
    · show (p_X8_parse 0 (xs (i + 1))).1 (KI M (z_i M)) = _
      unfold p_X8_parse
      by_cases hz : xs (i + 1) < 0
      · rw [if_pos hz]
        rfl
      · have hge : 0 ≤ xs (i + 1) := by
          rw [i_le]
          rw [i_lt] at hz
          omega
        have hnl : ¬ xs (i + 1) ≤ nI n := fun q => hnw ⟨hge, q⟩
        rw [if_neg hz, k0_gI0 h0, b1, if_neg hnl]
        rfl
    · have h9 := h1.1
      have e2 := h1.2.2.2.2.1
      show (p_X9_parse 75 (xs (i + 1))).1 (KI M1 (z_i M1)) = _
      unfold p_X9_parse
      rw [kn_pI h9, kn_gI h9, u2_n _ _ (by omega), e2, g9_wi, wi_iff, if_neg hnw, if_pos rfl, kn_cv h9]
      unfold p_X9_fail
      rw [b_bd, kn_pI h9, b_pu]
      rfl
  rcases pk_ix (xs (i + 1)) (n := n + 1) (by omega) with h | h | ⟨j, hj, e⟩
  · exact bad (Or.inl h)
  · exact bad (Or.inr h)
  · rw [e]
    exact glue_j hI hm (fun N hN => j_parse hI hN (by omega))
end PA76
