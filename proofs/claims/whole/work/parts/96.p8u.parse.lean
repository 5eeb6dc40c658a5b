/-! ===== PHASE 2: parse ===== -/
noncomputable def sl_body : Int32 → zP (Int32 ⊕ (Unit ⊕ Int32)) := (fun (t14 : Int32) => (if 2 ≤ t14 then (z_pu (.inr (.inl ()))) else (z_bd (z_gA 8 0 5) (fun v15 => (z_bd (z_sZ v15 t14 0) (fun _ => (z_pu (.inl ((t14 + 1))))))))))
/-- references that a new city changes -/
def nr (y j : Nat) : Prop := (y = 2 ∧ (j = 2 ∨ j = 3)) ∨ (y = 0 ∧ (j = 9 ∨ j = 10)) ∨ (y = 41 ∧ j = 6)
section PA75
variable {α β : Type} {M M' N : zM} {F F' F1 G G' G1 : Nat → Nat → Int32} {ct ct' cd cd' st bf : Nat → Int32} {a i j k m n q s c sp ns nt np nc : Nat} {v w x : Int32} {H : List (Nat → Int32)} {S : Nat → Option (Nat → Int32)}
theorem RC_cg (h : RC F sp ct cd ns nt np nc) (hns : ns ≤ 8) (hnt : nt ≤ 3) (hnp : np ≤ 30) (e : ∀ j, j < 138 → ct' j = ct j) (e2 : ∀ i, i < nc → cd' i = cd i) : RC F sp ct' cd' ns nt np nc := by
  obtain ⟨⟨r10, r11, r12, r13, r14, r15, r16, r17⟩, r2, r3, r4, r5, r6⟩ := h
  refine ⟨⟨r10.trans (e 0 (by omega)).symm, r11.trans (e 1 (by omega)).symm, r12.trans (e 2 (by omega)).symm, r13.trans (e 3 (by omega)).symm, r14.trans (e 4 (by omega)).symm, r15.trans (e 5 (by omega)).symm, r16.trans (e 6 (by omega)).symm, r17.trans (e 7 (by omega)).symm⟩, fun k hk => ?_, fun t ht => ?_, fun p hp => ?_, r5, fun i hi => ?_⟩
  · obtain ⟨g1, g2, g3, g4⟩ := r2 k hk
    exact ⟨g1.trans (e _ (by omega)).symm, g2.trans (e _ (by omega)).symm, g3.trans (e _ (by omega)).symm, g4.trans (e _ (by omega)).symm⟩
  · obtain ⟨g1, g2⟩ := r3 t ht
    exact ⟨g1.trans (e _ (by omega)).symm, g2.trans (e _ (by omega)).symm⟩
  · obtain ⟨g1, g2, g3⟩ := r4 p hp
    exact ⟨g1.trans (e _ (by omega)).symm, g2.trans (e _ (by omega)).symm, g3.trans (e _ (by omega)).symm⟩
  · rw [e2 i hi]
    exact r6 i hi
theorem ck_cg (h : c_ok ct cd ns nt np nc) (e : ∀ j, j < 138 → ct' j = ct j) (e2 : ∀ i, i < nc → cd' i = cd i) : c_ok ct' cd' ns nt np nc := by
  obtain ⟨⟨a1, a2, a3, a4, a5, a6⟩, ⟨b1, b2, b3, b4⟩, h3, h4, ⟨x1, x2, x3, x4, x5, y1, y2, y3, y4, y5, z1, z2, z3, z4, z5⟩, h6⟩ := h
  refine ⟨⟨(e 0 (by omega)).trans a1, a2, (e 1 (by omega)).trans a3, a4, (e 2 (by omega)).trans a5, a6⟩, ⟨(e 8 (by omega)).trans b1, b2, b3, fun k hk => ?_⟩, fun p hp => ?_, fun k hk => ?_, ⟨x1, x2, x3, x4, x5, y1, y2, y3, y4, y5, (e 3 (by omega)).trans z1, (e 4 (by omega)).trans z2, (e 5 (by omega)).trans z3, (e 6 (by omega)).trans z4, (e 7 (by omega)).trans z5⟩, fun t ht => ?_⟩
  · rw [e2 k hk, s_dp_eq k (fun i hi => e2 i (by omega))]
    exact b4 k hk
  · obtain ⟨a, b, c, q1, q2, q3, q4, q5, q6⟩ := h3 p hp
    exact ⟨a, b, c, q1, q2, q3, (e _ (by omega)).trans q4, (e _ (by omega)).trans q5, (e _ (by omega)).trans q6⟩
  · obtain ⟨a, b, c, f, q1, q2, q3, q4, q5, q6, q7, q8, q9⟩ := h4 k hk
    exact ⟨a, b, c, f, q1, q2, q3, q4, q5, (e _ (by omega)).trans q6, (e _ (by omega)).trans q7, (e _ (by omega)).trans q8, (e _ (by omega)).trans q9⟩
  · obtain ⟨a, b, q1, q2, q3, q4, q5⟩ := h6 t ht
    exact ⟨a, b, q1, q2, q3, (e _ (by omega)).trans q4, (e _ (by omega)).trans q5⟩
theorem s_b0_cg (hns : ns ≤ 8) (hnt : nt ≤ 3) (e : ∀ j, j < 138 → ct' j = ct j) (q : Nat) : s_b0 ct' ns nt q = s_b0 ct ns nt q := by
  unfold s_b0
  by_cases h1 : 6 ≤ q ∧ q < 6 + ns
  · rw [if_pos h1, if_pos h1, e _ (by omega)]
  · rw [if_neg h1, if_neg h1]
    by_cases h2 : 22 ≤ q ∧ q < 22 + 18 * nt
    · rw [if_pos h2, if_pos h2]
      by_cases h3 : (q - 22) % 18 = 0
      · rw [if_pos h3, if_pos h3, e _ (by omega)]
      · rw [if_neg h3, if_neg h3]
    · rw [if_neg h2, if_neg h2]
theorem L0_r (h : L0 M) (hn : z_nx M' = z_nx M) (hk : ∀ y, z_kd M' y = z_kd M y ∧ z_ln M' y = z_ln M y) (hr : ∀ y j, ¬ nr y j → z_r M' y j = z_r M y j) : L0 M' := by
  have b3 : ∀ p ∈ tr0, ¬ ((p.1 = 2 ∧ (p.2.1 = 2 ∨ p.2.1 = 3)) ∨ (p.1 = 0 ∧ (p.2.1 = 9 ∨ p.2.1 = 10)) ∨ (p.1 = 41 ∧ p.2.1 = 6)) := by decide
  exact ⟨by rw [hn]; exact h.1, fun p hp => (hk p.1).1.trans (h.2.1 p hp), fun p hp => ⟨(hk p.1).1.trans (h.2.2.1 p hp).1, (hk p.1).2.trans (h.2.2.1 p hp).2⟩, fun p hp => (hr p.1 p.2.1 (b3 p hp)).trans (h.2.2.2 p hp)⟩
theorem LZ_r (h : LZ a M) (ha : 41 ≤ a) (hn : z_nx M' = z_nx M) (hk : ∀ y, z_kd M' y = z_kd M y ∧ z_ln M' y = z_ln M y) (hr : ∀ y j, ¬ nr y j → z_r M' y j = z_r M y j) : LZ a M' := LZ_gen h (by omega) (fun y _ _ => hk y) (fun y j h1 h2 h3 => hr y j (by unfold nr; omega))
theorem LC_r (h : LC a M) (ha : 15 ≤ a) (ha2 : a + 13 ≤ 41) (hn : z_nx M' = z_nx M) (hk : ∀ y, z_kd M' y = z_kd M y ∧ z_ln M' y = z_ln M y) (hr : ∀ y j, ¬ nr y j → z_r M' y j = z_r M y j) : LC a M' := LC_gen h (by omega) (fun y _ _ => hk y) (fun y j h1 h2 => hr y j (by unfold nr; omega))
theorem HS_r (h : HS M) (hn : z_nx M' = z_nx M) (hk : ∀ y, z_kd M' y = z_kd M y ∧ z_ln M' y = z_ln M y) (hr : ∀ y j, ¬ nr y j → z_r M' y j = z_r M y j) : HS M' := by
  have e : ∀ i, sref M' i = sref M i := fun i => by
    unfold sref
    split
    · exact hr 5 i (by unfold nr; omega)
    · exact hr 13 (i - 10) (by unfold nr; omega)
  refine ⟨fun i x hi hx => ?_, fun i j x x' hi hj hij hx hx' => ?_⟩
  · rw [e] at hx
    have h1 := h.1 i x hi hx
    exact ⟨h1.1, LZ_r h1.2 (by omega) hn hk hr⟩
  · rw [e] at hx hx'
    exact h.2 i j x x' hi hj hij hx hx'
/-- the slots hold nothing -/
theorem c_slots (h0 : L0 M) : (z_lp sl_body 0).1 (KI M F) = some (.inr (.inl ()), KI M (z_up2 (z_up2 F 14 0 0) 14 1 0)) := by
  have hz : ∀ (G : Nat → Nat → Int32) (q : Nat) (f : Unit → zP (Int32 ⊕ (Unit ⊕ Int32))), q < 2 → (z_bd (z_sZ 14 (nI q) 0) f).1 (KI M G) = (f ()).1 (KI M (z_up2 G 14 q 0)) := fun G q f hq => by
    refine (e_sZ (n_in (M := KI M G) (k0_ar14 h0).1 (k0_ar14 h0).2 hq (by decide)) (Or.inl rfl)).trans ?_
    rw [nI_clamp (by omega)]
    rfl
  have st : ∀ (G : Nat → Nat → Int32) (q : Nat), q < 2 → (sl_body (nI q)).1 (KI M G) = some (.inr (.inl (nI (q + 1))), KI M (z_up2 G 14 q 0)) := fun G q hq => by
    unfold sl_body
    rw [if_neg (show ¬ (2 : Int32) ≤ nI q from nI_ge (b := 2) hq (by decide)), k0_g0_5 h0, hz G q _ hq, nI_1]
    rfl
  show (z_lp sl_body (nI 0)).1 (KI M F) = _
  refine (z_lp_step (st F 0 (by decide))).trans ((z_lp_step (st _ 1 (by decide))).trans (z_lp_end ?_))
  unfold sl_body
  rw [if_pos (show (2 : Int32) ≤ nI (1 + 1) by decide)]
  rfl
theorem MI_pz (h : MI N ct cd st H S n bf) (g2 : G 75 2 = 0) (g21 : G 75 21 = z_i N 75 21) (gy : ∀ y, ¬ (y = 75 ∨ y = 77 ∨ y = 79 ∨ y = 81) → G y = z_i N y) : MI (KI N G) ct cd st H S 0 bf := by
  show L9 N ∧ (G 78 = ct ∧ G 80 = cd ∧ G 83 = st) ∧ (G 75 21 = nI H.length ∧ ∀ i s, H[i]? = some s → ∀ j, j < 3277 → G 84 (3277 * i + j) = s j) ∧ (∀ i, i < 2 → (S i = none → G 86 i = 0) ∧ ∀ s, S i = some s → G 86 i = 1 ∧ ∀ j, j < 3277 → G 85 (3277 * i + j) = s j) ∧ (G 75 2 = nI 0 ∧ ∀ i, i < 0 → G 76 i = bf i ∧ ∃ b : Int8, bf i = b.toInt32)
  rw [gy 78 (by omega), gy 80 (by omega), gy 83 (by omega), gy 84 (by omega), gy 86 (by omega), gy 85 (by omega), g21]
  exact ⟨h.1, h.2.1, h.2.2.1, h.2.2.2.1, g2, fun i hi => absurd hi (Nat.not_lt_zero _)⟩
/-- parse of a length in range -/
theorem j_parse (hI : CI k M c sp ct cd ns nt np nc st H S n bf) (hN : MI N ct cd st H S n bf) (hj : j ≤ n) : ∃ v c' sp' ct' cd' ns' nt' np' nc' st' H' S' n' bf', cres (p_X8_parse 0 (nI j)) k M v c' sp' ct' cd' ns' nt' np' nc' st' H' S' n' bf' ∧ mres (p_X9_parse 75 (nI j)) N v 0 ct' cd' st' H' S' n' bf' := by
  obtain ⟨⟨h0, ⟨z41, z58, c15, c28⟩, hcc, ⟨r9, r10⟩, hs⟩, _, ⟨fs, f1, f2, f3, f4, f5⟩, hS, b1, b2, b3⟩ := id hI
  have hsp : sp = 15 ∨ sp = 28 := by omega
  have hC : LC sp M := by
    rcases hsp with e | e
    · rw [e]; exact c15
    · rw [e]; exact c28
  obtain ⟨h9, ⟨e78, e80, e83⟩, hmH, hmS, m2, mb⟩ := id hN
  obtain ⟨F1, G1, a1, a2, a3, ⟨g0, g2, g21, gy⟩, a4⟩ := j_city (M := M) (N := N) (F := z_i M) (G := z_i N) (b := bf) (n := j) (n0 := n) h0 hC hsp h9 hj b2 (fun q hq => (mb q (by omega)).2) (fun q hq => b3 q (by omega)) (fun q hq => (mb q (by omega)).1) m2
  obtain ⟨M2, eM2⟩ : ∃ M2, M2 = z_wr (z_wr M 2 2 (some 1)) 2 3 (some sp) := ⟨_, rfl⟩
  rw [← eM2] at a1
  have g12 : loc c sp M M2 := by rw [eM2]; exact loc_tr (loc_wr (Or.inr ⟨rfl, Or.inl rfl⟩)) (loc_wr (Or.inr ⟨rfl, Or.inr rfl⟩))
  have h02 : L0 M2 := L0_loc h0 g12
  have nx2 : z_nx M2 = z_nx M := by rw [eM2]; rfl
  have sl2 : z_sl M2 = z_sl M := by rw [eM2]; rfl
  have i2 : z_i M2 = z_i M := by rw [eM2]; rfl
  have kd2 : ∀ y, z_kd M2 y = z_kd M y ∧ z_ln M2 y = z_ln M y := fun y => by rw [eM2]; exact ⟨rfl, rfl⟩
  have rr2 : ∀ y j, ¬ nr y j → z_r M2 y j = z_r M y j := fun y j hy => by
    unfold nr at hy
    rw [eM2, r_wr (by omega), r_wr (by omega)]
  have l92 : L9 M → L9 M2 := fun h => by rw [eM2]; exact L9_wr (L9_wr h (by decide)) (by decide)
  have hge : ¬ nI j < 0 := nI_pos (by omega)
  have hle : nI j ≤ nI n := nI_le hj (by omega)
  have F75 : ∀ y, 75 ≤ y → F1 y = z_i M y := fun y hy => a3 y (by omega)
  have cst : (p_X8_parse 0 (nI j)).1 M = ((if F1 2 9 = 0 then (z_bd (z_gA 8 0 10) (fun v6 => (z_bd (z_gA 8 0 9) (fun v7 => (z_bd (z_pR 8 0 10 (some v7)) (fun _ => (z_bd (z_pR 8 0 9 (some v6)) (fun _ => (z_bd (z_gA 8 0 6) (fun v8 => (z_bd (z_gA 8 0 9) (fun v9 => (z_bd (z_cv 5 v8 (p_X5_begin v8 v9)) (fun _ => (z_bd (z_gA 8 0 2) (fun v11 => (z_bd (z_cv 3 v11 (p_X3_clear v11)) (fun _ => (z_jn (τ := Unit) (z_lp sl_body 0) (fun t13 => (z_bd (z_gA 8 0 9) (fun v16 => (z_bd (z_gI 0 v16 10) (fun v17 => (z_pu v17))))))))))))))))))))))))) else (z_pu ((-2) - F1 2 9))) : zP Int32).1 (KI M2 (z_up2 F1 0 8 0)) := by
    show (p_X8_parse 0 (nI j)).1 (KI M (z_i M)) = _
    unfold p_X8_parse
    rw [if_neg hge, k0_gI0 h0, b1, if_pos hle, k0_g0_1 h0, k0_g0_0 h0, ki_gA (k0_is0 h0) r10, k0_cv2 h0, e_run a1, k0_pI0 h02]
    rfl
  rcases a4 with hE | ⟨s, ns', nt', np', nc', hJ, hD⟩
  · obtain ⟨n1, n2⟩ := JE_n hE
    obtain ⟨_, s0, kk, q1, q2, q3, q4, q5, q6⟩ := hE
    refine ⟨(-2) - F1 2 9, c, sp, ct, cd, ns, nt, np, nc, st, H, S, 0, bf, ⟨KI M2 (z_up2 F1 0 8 0), ?_, ?_, l92, fun y y1 y2 => ?_, by show z_nx M2 ≤ _; omega, by show z_sl M2 ≤ _; omega⟩, G1, ?_, g0, fun y hy => gy y (by omega), MI_pz hN g2 (g21 21 (by decide)) gy⟩
    · rw [cst, if_neg n1]
      rfl
    · have gl : loc c sp M (KI M2 F1) := by
        refine loc_tr g12 ?_
        have q := loc_KI (M := M2) (F := z_i M) (F' := F1) (c := c) (sp := sp) (fun y hy => a3 y (fun q => hy (by unfold scr; omega)))
        rw [← i2] at q
        exact q
      have q := CI_buf (M := KI M2 F1) (G := z_up2 F1 0 8 0) (n' := 0) (bf' := bf) (CI_loc hI gl) (fun y y1 y2 => u2_row F1 0 y1) (u2_s _ _ _ _) (by decide) (fun i hi => absurd hi (Nat.not_lt_zero _))
      exact CI_kk (M := KI M2 (z_up2 F1 0 8 0)) q (by omega)
    · show z_up2 F1 0 8 0 y = z_i M y
      rw [u2_row _ _ (by omega)]
      exact F75 y y1
    · show (p_X9_parse 75 (nI j)).1 (KI N (z_i N)) = _
      rw [a2, kn_gI h9, if_neg n2, kn_gI h9, q6, kn_gI h9, q5, n83, q4]
      rfl
  · obtain ⟨rc, ck, fl⟩ := hD
    have hns := ck.1.2.1
    have hnt := ck.1.2.2.2.1
    have hnp := ck.1.2.2.2.2.2
    obtain ⟨G2, t1, t2, t3, t4, t5, t6, t7, t8, t9⟩ := m_take (F := G1) h9 ck.2.1.1 ck.2.1.2.1 ck.1.1 hns ck.1.2.2.1 hnt
    have ect : ∀ q, q < 138 → G2 78 q = G1 77 q := fun q hq => by
      rw [t2, pk_cpy_in (by omega) (by omega), show 0 + (q - 0) = q by omega]
    have ecd : ∀ q, q < nc' → G2 80 q = G1 79 q := fun q hq => by
      rw [t3, pk_cpy_in (by omega) (by omega), show 0 + (q - 0) = q by omega]
    have rc' := RC_cg rc hns hnt hnp ect ecd
    have ck' := ck_cg ck ect ecd
    obtain ⟨F2, eF2⟩ : ∃ F2, F2 = z_up2 F1 0 8 0 := ⟨_, rfl⟩
    have oF2 : ∀ y, y ≠ 0 → F2 y = F1 y := fun y hy => by rw [eF2, u2_row _ _ hy]
    have rc2 : RC F2 sp (G2 78) (G2 80) ns' nt' np' nc' := by
      unfold RC
      rw [oF2 sp (by omega), oF2 (sp + 1) (by omega), oF2 (sp + 2) (by omega), oF2 (sp + 3) (by omega), oF2 (sp + 4) (by omega), oF2 (sp + 5) (by omega), oF2 (sp + 6) (by omega), oF2 (sp + 7) (by omega), oF2 (sp + 8) (by omega), oF2 (sp + 9) (by omega), oF2 (sp + 10) (by omega), oF2 (sp + 10 + 1) (by omega)]
      exact rc'
    obtain ⟨M3, eM3⟩ : ∃ M3, M3 = z_wr M2 0 10 (some c) := ⟨_, rfl⟩
    obtain ⟨M4, eM4⟩ : ∃ M4, M4 = z_wr M3 0 9 (some sp) := ⟨_, rfl⟩
    obtain ⟨M5, eM5⟩ : ∃ M5, M5 = z_wr M4 41 6 (some sp) := ⟨_, rfl⟩
    have nx3 : z_nx M3 = z_nx M := by rw [eM3]; exact nx2
    have kd3 : ∀ y, z_kd M3 y = z_kd M y ∧ z_ln M3 y = z_ln M y := fun y => by rw [eM3]; exact kd2 y
    have rr3 : ∀ y j, ¬ nr y j → z_r M3 y j = z_r M y j := fun y j hy => by
      rw [eM3, r_wr (by unfold nr at hy; omega)]
      exact rr2 y j hy
    have nx4 : z_nx M4 = z_nx M := by rw [eM4]; exact nx3
    have kd4 : ∀ y, z_kd M4 y = z_kd M y ∧ z_ln M4 y = z_ln M y := fun y => by rw [eM4]; exact kd3 y
    have rr4 : ∀ y j, ¬ nr y j → z_r M4 y j = z_r M y j := fun y j hy => by
      rw [eM4, r_wr (by unfold nr at hy; omega)]
      exact rr3 y j hy
    have nx5 : z_nx M5 = z_nx M := by rw [eM5]; exact nx4
    have sl5 : z_sl M5 = z_sl M := by rw [eM5, eM4, eM3]; exact sl2
    have kd5 : ∀ y, z_kd M5 y = z_kd M y ∧ z_ln M5 y = z_ln M y := fun y => by rw [eM5]; exact kd4 y
    have rr5 : ∀ y j, ¬ nr y j → z_r M5 y j = z_r M y j := fun y j hy => by
      rw [eM5, r_wr (by unfold nr at hy; omega)]
      exact rr4 y j hy
    have h03 : L0 M3 := L0_r h0 nx3 kd3 rr3
    have h04 : L0 M4 := L0_r h0 nx4 kd4 rr4
    have h05 : L0 M5 := L0_r h0 nx5 kd5 rr5
    have q210 : z_r M2 0 10 = some sp := by rw [eM2, r_wr (by omega), r_wr (by omega)]; exact r10
    have q29 : z_r M2 0 9 = some c := by rw [eM2, r_wr (by omega), r_wr (by omega)]; exact r9
    have q49 : z_r M4 0 9 = some sp := by rw [eM4, r_wrs]
    have q59 : z_r M5 0 9 = some sp := by rw [eM5, r_wr (by omega)]; exact q49
    have q510 : z_r M5 0 10 = some c := by rw [eM5, r_wr (by omega), eM4, r_wr (by omega), eM3, r_wrs]
    have z414 : LZ 41 M4 := LZ_r z41 (by decide) nx4 kd4 rr4
    have hC4 : LC sp M4 := LC_r hC (by omega) (by omega) nx4 kd4 rr4
    have hC5 : LC sp M5 := LC_r hC (by omega) (by omega) nx5 kd5 rr5
    obtain ⟨F3, k1, A3, f3'⟩ := kx_begin (kk := k + 1) (F := F2) z414 hC4 (show 41 + 17 ≤ sp ∨ sp + 13 ≤ 41 by omega) rc2 ck'
    rw [← eM5] at k1 A3
    obtain ⟨F4, eF4⟩ : ∃ F4, F4 = z_up2 F3 4 2 0 := ⟨_, rfl⟩
    obtain ⟨F5, eF5⟩ : ∃ F5, F5 = z_up2 (z_up2 F4 14 0 0) 14 1 0 := ⟨_, rfl⟩
    have oF5 : ∀ y, y ≠ 4 → y ≠ 14 → F5 y = F3 y := fun y h1 h2 => by rw [eF5, u2_row _ _ h2, u2_row _ _ h2, eF4, u2_row _ _ h1]
    have f510 : F5 sp 10 = nI ns' := by
      rw [oF5 sp (by omega) (by omega), f3' sp (by omega)]
      exact rc2.1.1.trans ck'.1.1
    have crun : (p_X8_parse 0 (nI j)).1 M = some (.inr (nI ns'), KI M5 F5) := by
      rw [cst, if_pos hJ.2.2.1, ← eF2, ki_gA (k0_is0 h02) q210, ki_gA (k0_is0 h02) q29]
      refine (ki_pR (k0_is0 h02)).trans ?_
      rw [← eM3]
      refine (ki_pR (k0_is0 h03)).trans ?_
      rw [← eM4, k0_g0_6 h04, ki_gA (k0_is0 h04) q49, ks_cv z414, e_run k1, k0_g0_2 h05, k0_cv4 h05]
      unfold p_X3_clear
      rw [b_bd, k0_pI4 h05, b_pu, ← eF4]
      refine (e_jL (c_slots h05)).trans ?_
      rw [← eF5, ki_gA (k0_is0 h05) q59, kc_gI hC5, f510]
      rfl
    have hst : ∀ q, q < 3277 → G2 83 q = s_b0 (G2 78) ns' nt' q := fun q hq => by rw [t4 q hq, s_b0_cg hns hnt ect]
    have A5 : AV M5 F5 41 sp (G2 78) (G2 80) (G2 83) ns' nt' np' nc' (k + 1) 0 := AV_F (AV_st A3 hst) (fun y h1 h2 => oF5 y (by omega) (by omega)) (fun y h1 h2 => oF5 y (by omega) (by omega))
    have f41 : F5 4 1 = z_i M 4 1 := by rw [eF5, u2_row _ _ (by decide), u2_row _ _ (by decide), eF4, u2_n _ _ (by decide), f3' 4 (by omega), oF2 4 (by decide), a3 4 (by omega)]
    have f42 : F5 4 2 = nI 0 := by rw [eF5, u2_row _ _ (by decide), u2_row _ _ (by decide), eF4, u2_s]; rfl
    have f08 : F5 0 8 = nI 0 := by rw [oF5 0 (by decide) (by decide), f3' 0 (by omega), eF2, u2_s]; rfl
    have f14 : ∀ i, i < 2 → F5 14 i = 0 := fun i hi => by
      rw [eF5]
      by_cases e : i = 1
      · rw [e, u2_s]
      · have e0 : i = 0 := by omega
        rw [e0, u2_n _ _ (by decide), u2_s]
    refine ⟨nI ns', sp, c, G2 78, G2 80, ns', nt', np', nc', G2 83, [], fun _ => none, 0, bf, ⟨KI M5 F5, crun, ?_, fun h => ?_, fun y y1 y2 => ?_, by show z_nx M5 ≤ _; omega, by show z_sl M5 ≤ _; omega⟩, G2, ?_, ?_, fun y hy => ?_, ?_⟩
    · refine ⟨⟨h05, ⟨LZ_r z41 (by decide) nx5 kd5 rr5, LZ_r z58 (by decide) nx5 kd5 rr5, LC_r c15 (by decide) (by decide) nx5 kd5 rr5, LC_r c28 (by decide) (by decide) nx5 kd5 rr5⟩, by omega, ⟨q59, q510⟩, HS_r hs nx5 kd5 rr5⟩, ⟨0, by decide, A5⟩, ⟨fs, f1, by decide, f41.trans f3, f42, fun i s hi => ?_⟩, fun i hi => ⟨fun _ => f14 i hi, fun s e => ?_⟩, f08, by decide, fun i hi => absurd hi (Nat.not_lt_zero _)⟩
      · cases hi
      · cases e
    · have h2 := l92 h
      show L9 M5
      rw [eM5, eM4, eM3]
      exact L9_wr (L9_wr (L9_wr h2 (by decide)) (by decide)) (by decide)
    · show F5 y = z_i M y
      rw [oF5 y (by omega) (by omega), f3' y (by omega), oF2 y (by omega)]
      exact F75 y y1
    · show (p_X9_parse 75 (nI j)).1 (KI N (z_i N)) = _
      rw [a2, kn_gI h9, if_pos hJ.2.2.2, kn_cv h9, e_run t1, kn_g78 h9, kn_l78_0 h9, ck'.1.1]
      rfl
    · rw [t8 0 (by decide)]; exact g0
    · rw [t9 y (by omega) (by omega) (by omega) (by omega) (by omega)]
      exact gy y (by omega)
    · refine ⟨h9, ⟨rfl, rfl, rfl⟩, ⟨t5, fun i s hi => ?_⟩, fun i hi => ⟨fun _ => ?_, fun s e => ?_⟩, (t8 2 (by decide)).trans g2, fun i hi => absurd hi (Nat.not_lt_zero _)⟩
      · cases hi
      · show G2 86 i = 0
        by_cases e : i = 1
        · rw [e]; exact t7
        · have e0 : i = 0 := by omega
          rw [e0]; exact t6
      · cases e
end PA75
