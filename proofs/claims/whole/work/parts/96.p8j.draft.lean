/-! ===== PHASE 2: the draft of a city, as both readers keep it ===== -/
def DR (F G : Nat → Nat → Int32) (sp ns nt np nc : Nat) : Prop := RC F sp (G 77) (G 79) ns nt np nc ∧ c_ok (G 77) (G 79) ns nt np nc ∧ ∃ m, m < 16 ∧ G 75 14 = nI m ∧ F 2 10 = nI (m % 2) ∧ F 2 11 = nI (m / 2 % 2) ∧ F 2 12 = nI (m / 4 % 2) ∧ F 2 13 = nI (m / 8 % 2)
def oC (sp : Nat) (F F' : Nat → Nat → Int32) : Prop := ∀ y, ¬ (y = 2 ∨ y = 3 ∨ (sp ≤ y ∧ y < sp + 13)) → F' y = F y
def oM (G G' : Nat → Nat → Int32) : Prop := (∀ y, ¬ (y = 75 ∨ y = 77 ∨ y = 79 ∨ y = 81) → G' y = G y) ∧ ∀ j, (j < 3 ∨ 17 < j) → G' 75 j = G 75 j
/-- behind a statement, or a part of one -/
def JT (b : Nat → Int32) (n : Nat) (F G : Nat → Nat → Int32) (sp lo : Nat) : Prop := JE b n F G ∨ ∃ s ns nt np nc, lo ≤ s ∧ JO b n F G s ∧ DR F G sp ns nt np nc
section PA64
variable {α β : Type} {M N : zM} {F F' F1 G G' G1 : Nat → Nat → Int32} {b ct ct' cd : Nat → Int32} {i j k m n s s' lo sp ns nt np nc x y d e : Nat} {p q q' c v w : Int32} {w1 w2 w3 w4 : Int32}
theorem oC_tr (h : oC sp F F1) (g : oC sp F1 F') : oC sp F F' := fun y hy => (g y hy).trans (h y hy)
theorem oM_tr (h : oM G G1) (g : oM G1 G') : oM G G' := ⟨fun y hy => (g.1 y hy).trans (h.1 y hy), fun j hj => (g.2 j hj).trans (h.2 j hj)⟩
theorem oC_rf : oC sp F F := fun _ _ => rfl
theorem oM_rf : oM G G := ⟨fun _ _ => rfl, fun _ _ => rfl⟩
theorem oc_C (h : oc F F') : oC sp F F' := fun y hy => oc_r h (by omega)
theorem om_M (h : om G G') : oM G G' := ⟨fun y hy => om_r h (by omega), fun j hj => h 75 j (by omega)⟩
theorem oC_u {a k : Nat} (h : a = 2 ∨ a = 3 ∨ (sp ≤ a ∧ a < sp + 13)) : oC sp F (z_up2 F a k v) := fun y hy => u2_row _ _ (fun e => hy (e ▸ h))
theorem oM_u {a k : Nat} (h : a = 77 ∨ a = 79 ∨ a = 81 ∨ (a = 75 ∧ 3 ≤ k ∧ k ≤ 17)) : oM G (z_up2 G a k v) := ⟨fun y hy => u2_row _ _ (by omega), fun j hj => u2_n _ _ (by omega)⟩
theorem ck_st (h : c_ok ct cd ns nt np nc) (hns : ns < 8) (hx : x < 100) (hy : y < 100) (hd : 1 ≤ d ∧ d ≤ 20) (he : e ≤ d) (hct : ∀ j, (j ≠ 0 ∧ j ≠ 10 + ns ∧ j ≠ 18 + ns ∧ j ≠ 26 + ns ∧ j ≠ 34 + ns) → ct' j = ct j) (h0 : ct' 0 = nI (ns + 1)) (hv : ct' (10 + ns) = nI x ∧ ct' (18 + ns) = nI y ∧ ct' (26 + ns) = nI d ∧ ct' (34 + ns) = nI e) : c_ok ct' cd (ns + 1) nt np nc := by
  obtain ⟨⟨a1, a2, a3, a4, a5, a6⟩, ⟨b1, b2, b3, b4⟩, h3, h4, ⟨x1, x2, x3, x4, x5, y1, y2, y3, y4, y5, z1, z2, z3, z4, z5⟩, h6⟩ := h
  refine ⟨⟨h0, by omega, (hct 1 (by omega)).trans a3, a4, (hct 2 (by omega)).trans a5, a6⟩, ⟨(hct 8 (by omega)).trans b1, b2, b3, b4⟩, fun p hp => ?_, fun k hk => ?_, ⟨x1, x2, x3, x4, x5, y1, y2, y3, y4, y5, (hct 3 (by omega)).trans z1, (hct 4 (by omega)).trans z2, (hct 5 (by omega)).trans z3, (hct 6 (by omega)).trans z4, (hct 7 (by omega)).trans z5⟩, fun t ht => ?_⟩
  · obtain ⟨a, b, c, q1, q2, q3, q4, q5, q6⟩ := h3 p hp
    exact ⟨a, b, c, by omega, by omega, q3, (hct _ (by omega)).trans q4, (hct _ (by omega)).trans q5, (hct _ (by omega)).trans q6⟩
  · by_cases g : k = ns
    · subst g
      exact ⟨x, y, d, e, hx, hy, hd.1, hd.2, he, hv⟩
    · obtain ⟨a, b, c, f, q1, q2, q3, q4, q5, q6, q7, q8, q9⟩ := h4 k (by omega)
      exact ⟨a, b, c, f, q1, q2, q3, q4, q5, (hct _ (by omega)).trans q6, (hct _ (by omega)).trans q7, (hct _ (by omega)).trans q8, (hct _ (by omega)).trans q9⟩
  · obtain ⟨a, b, q1, q2, q3, q4, q5⟩ := h6 t ht
    exact ⟨a, b, by omega, q2, q3, (hct _ (by omega)).trans q4, (hct _ (by omega)).trans q5⟩
theorem ck_tk (h : c_ok ct cd ns nt np nc) (hnt : nt < 3) (hx : x < ns) (hd : 1 ≤ d ∧ d ≤ 20) (hct : ∀ j, (j ≠ 1 ∧ j ≠ 42 + nt ∧ j ≠ 45 + nt) → ct' j = ct j) (h0 : ct' 1 = nI (nt + 1)) (hv : ct' (42 + nt) = nI x ∧ ct' (45 + nt) = nI d) : c_ok ct' cd ns (nt + 1) np nc := by
  obtain ⟨⟨a1, a2, a3, a4, a5, a6⟩, ⟨b1, b2, b3, b4⟩, h3, h4, ⟨x1, x2, x3, x4, x5, y1, y2, y3, y4, y5, z1, z2, z3, z4, z5⟩, h6⟩ := h
  refine ⟨⟨(hct 0 (by omega)).trans a1, a2, h0, by omega, (hct 2 (by omega)).trans a5, a6⟩, ⟨(hct 8 (by omega)).trans b1, b2, b3, b4⟩, fun p hp => ?_, fun k hk => ?_, ⟨x1, x2, x3, x4, x5, y1, y2, y3, y4, y5, (hct 3 (by omega)).trans z1, (hct 4 (by omega)).trans z2, (hct 5 (by omega)).trans z3, (hct 6 (by omega)).trans z4, (hct 7 (by omega)).trans z5⟩, fun t ht => ?_⟩
  · obtain ⟨a, b, c, q1, q2, q3, q4, q5, q6⟩ := h3 p hp
    exact ⟨a, b, c, q1, q2, q3, (hct _ (by omega)).trans q4, (hct _ (by omega)).trans q5, (hct _ (by omega)).trans q6⟩
  · obtain ⟨a, b, c, f, q1, q2, q3, q4, q5, q6, q7, q8, q9⟩ := h4 k hk
    exact ⟨a, b, c, f, q1, q2, q3, q4, q5, (hct _ (by omega)).trans q6, (hct _ (by omega)).trans q7, (hct _ (by omega)).trans q8, (hct _ (by omega)).trans q9⟩
  · by_cases g : t = nt
    · subst g
      exact ⟨x, d, hx, hd.1, hd.2, hv⟩
    · obtain ⟨a, b, q1, q2, q3, q4, q5⟩ := h6 t (by omega)
      exact ⟨a, b, q1, q2, q3, (hct _ (by omega)).trans q4, (hct _ (by omega)).trans q5⟩
theorem ck_tp (h : c_ok ct cd ns nt np nc) (hnp : np < 30) (hx : x < ns) (hy : y < ns) (hd : d < 1440) (hct : ∀ j, (j ≠ 2 ∧ j ≠ 48 + np ∧ j ≠ 78 + np ∧ j ≠ 108 + np) → ct' j = ct j) (h0 : ct' 2 = nI (np + 1)) (hv : ct' (48 + np) = nI x ∧ ct' (78 + np) = nI y ∧ ct' (108 + np) = nI d) : c_ok ct' cd ns nt (np + 1) nc := by
  obtain ⟨⟨a1, a2, a3, a4, a5, a6⟩, ⟨b1, b2, b3, b4⟩, h3, h4, ⟨x1, x2, x3, x4, x5, y1, y2, y3, y4, y5, z1, z2, z3, z4, z5⟩, h6⟩ := h
  refine ⟨⟨(hct 0 (by omega)).trans a1, a2, (hct 1 (by omega)).trans a3, a4, h0, by omega⟩, ⟨(hct 8 (by omega)).trans b1, b2, b3, b4⟩, fun p hp => ?_, fun k hk => ?_, ⟨x1, x2, x3, x4, x5, y1, y2, y3, y4, y5, (hct 3 (by omega)).trans z1, (hct 4 (by omega)).trans z2, (hct 5 (by omega)).trans z3, (hct 6 (by omega)).trans z4, (hct 7 (by omega)).trans z5⟩, fun t ht => ?_⟩
  · by_cases g : p = np
    · subst g
      exact ⟨x, y, d, hx, hy, hd, hv⟩
    · obtain ⟨a, b, c, q1, q2, q3, q4, q5, q6⟩ := h3 p (by omega)
      exact ⟨a, b, c, q1, q2, q3, (hct _ (by omega)).trans q4, (hct _ (by omega)).trans q5, (hct _ (by omega)).trans q6⟩
  · obtain ⟨a, b, c, f, q1, q2, q3, q4, q5, q6, q7, q8, q9⟩ := h4 k hk
    exact ⟨a, b, c, f, q1, q2, q3, q4, q5, (hct _ (by omega)).trans q6, (hct _ (by omega)).trans q7, (hct _ (by omega)).trans q8, (hct _ (by omega)).trans q9⟩
  · obtain ⟨a, b, q1, q2, q3, q4, q5⟩ := h6 t ht
    exact ⟨a, b, q1, q2, q3, (hct _ (by omega)).trans q4, (hct _ (by omega)).trans q5⟩
theorem ck_pc (h : c_ok ct cd ns nt np nc) (hct : ∀ j, (j < 3 ∨ 7 < j) → ct' j = ct j) (hv : ∃ a b c d e, a < 100 ∧ b < 100 ∧ c ≤ 50 ∧ d ≤ 100 ∧ e < 1000 ∧ ct' 3 = nI a ∧ ct' 4 = nI b ∧ ct' 5 = nI c ∧ ct' 6 = nI d ∧ ct' 7 = nI e) : c_ok ct' cd ns nt np nc := by
  obtain ⟨⟨a1, a2, a3, a4, a5, a6⟩, ⟨b1, b2, b3, b4⟩, h3, h4, _, h6⟩ := h
  refine ⟨⟨(hct 0 (by omega)).trans a1, a2, (hct 1 (by omega)).trans a3, a4, (hct 2 (by omega)).trans a5, a6⟩, ⟨(hct 8 (by omega)).trans b1, b2, b3, b4⟩, fun p hp => ?_, fun k hk => ?_, hv, fun t ht => ?_⟩
  · obtain ⟨a, b, c, q1, q2, q3, q4, q5, q6⟩ := h3 p hp
    exact ⟨a, b, c, q1, q2, q3, (hct _ (by omega)).trans q4, (hct _ (by omega)).trans q5, (hct _ (by omega)).trans q6⟩
  · obtain ⟨a, b, c, f, q1, q2, q3, q4, q5, q6, q7, q8, q9⟩ := h4 k hk
    exact ⟨a, b, c, f, q1, q2, q3, q4, q5, (hct _ (by omega)).trans q6, (hct _ (by omega)).trans q7, (hct _ (by omega)).trans q8, (hct _ (by omega)).trans q9⟩
  · obtain ⟨a, b, q1, q2, q3, q4, q5⟩ := h6 t ht
    exact ⟨a, b, q1, q2, q3, (hct _ (by omega)).trans q4, (hct _ (by omega)).trans q5⟩
theorem c_addS (hC : LC sp M) (h : F sp 10 = nI ns) (hns : ns < 8) : (p_X0_addStation sp w1 w2 w3 w4).1 (KI M F) = some (.inr (), KI M (z_up2 (z_up2 (z_up2 (z_up2 (z_up2 F (sp + 1) ns w1) (sp + 2) ns w2) (sp + 3) ns w3) (sp + 4) ns w4) sp 10 (nI (ns + 1)))) := by
  unfold p_X0_addStation
  have g1 : z_up2 F (sp + 1) ns w1 sp 10 = nI ns := (u2_n _ _ (Or.inl (by omega))).trans h
  have g2 : z_up2 (z_up2 F (sp + 1) ns w1) (sp + 2) ns w2 sp 10 = nI ns := (u2_n _ _ (Or.inl (by omega))).trans g1
  have g3 : z_up2 (z_up2 (z_up2 F (sp + 1) ns w1) (sp + 2) ns w2) (sp + 3) ns w3 sp 10 = nI ns := (u2_n _ _ (Or.inl (by omega))).trans g2
  have g4 : z_up2 (z_up2 (z_up2 (z_up2 F (sp + 1) ns w1) (sp + 2) ns w2) (sp + 3) ns w3) (sp + 4) ns w4 sp 10 = nI ns := (u2_n _ _ (Or.inl (by omega))).trans g3
  rw [kc_gI hC, h, if_neg (show ¬ (8 : Int32) ≤ nI ns from nI_ge (b := 8) hns (by decide)), kc_g0 hC, kc_gI hC, h, kc_s1 hC hns, kc_g1 hC, kc_gI hC, g1, kc_s2 hC hns, kc_g2 hC, kc_gI hC, g2, kc_s3 hC hns, kc_g3 hC, kc_gI hC, g3, kc_s4 hC hns, kc_gI hC, g4, nI_1, kc_pI hC]
  rfl
theorem c_addT (hC : LC sp M) (h : F sp 11 = nI nt) (hnt : nt < 3) : (p_X0_addTruck sp w1 w2).1 (KI M F) = some (.inr (), KI M (z_up2 (z_up2 (z_up2 F (sp + 5) nt w1) (sp + 6) nt w2) sp 11 (nI (nt + 1)))) := by
  unfold p_X0_addTruck
  have g1 : z_up2 F (sp + 5) nt w1 sp 11 = nI nt := (u2_n _ _ (Or.inl (by omega))).trans h
  have g2 : z_up2 (z_up2 F (sp + 5) nt w1) (sp + 6) nt w2 sp 11 = nI nt := (u2_n _ _ (Or.inl (by omega))).trans g1
  rw [kc_gI hC, h, if_neg (show ¬ (3 : Int32) ≤ nI nt from nI_ge (b := 3) hnt (by decide)), kc_g4 hC, kc_gI hC, h, kc_s5 hC hnt, kc_g5 hC, kc_gI hC, g1, kc_s6 hC hnt, kc_gI hC, g2, nI_1, kc_pI hC]
  rfl
theorem c_addP (hC : LC sp M) (h : F sp 12 = nI np) (hnp : np < 30) : (p_X0_addTrip sp w1 w2 w3).1 (KI M F) = some (.inr (), KI M (z_up2 (z_up2 (z_up2 (z_up2 F (sp + 7) np w1) (sp + 8) np w2) (sp + 9) np w3) sp 12 (nI (np + 1)))) := by
  unfold p_X0_addTrip
  have g1 : z_up2 F (sp + 7) np w1 sp 12 = nI np := (u2_n _ _ (Or.inl (by omega))).trans h
  have g2 : z_up2 (z_up2 F (sp + 7) np w1) (sp + 8) np w2 sp 12 = nI np := (u2_n _ _ (Or.inl (by omega))).trans g1
  have g3 : z_up2 (z_up2 (z_up2 F (sp + 7) np w1) (sp + 8) np w2) (sp + 9) np w3 sp 12 = nI np := (u2_n _ _ (Or.inl (by omega))).trans g2
  rw [kc_gI hC, h, if_neg (show ¬ (30 : Int32) ≤ nI np from nI_ge (b := 30) hnp (by decide)), kc_g6 hC, kc_gI hC, h, kc_s7 hC hnp, kc_g7 hC, kc_gI hC, g1, kc_s8 hC hnp, kc_g8 hC, kc_gI hC, g2, kc_s9 hC hnp, kc_gI hC, g3, nI_1, kc_pI hC]
  rfl
/-- the flags stay -/
theorem fl_o (h : ∃ m, m < 16 ∧ G 75 14 = nI m ∧ F 2 10 = nI (m % 2) ∧ F 2 11 = nI (m / 2 % 2) ∧ F 2 12 = nI (m / 4 % 2) ∧ F 2 13 = nI (m / 8 % 2)) (g : G' 75 14 = G 75 14) (f : ∀ j, 10 ≤ j → j ≤ 13 → F' 2 j = F 2 j) : ∃ m, m < 16 ∧ G' 75 14 = nI m ∧ F' 2 10 = nI (m % 2) ∧ F' 2 11 = nI (m / 2 % 2) ∧ F' 2 12 = nI (m / 4 % 2) ∧ F' 2 13 = nI (m / 8 % 2) := by
  obtain ⟨m, m1, m2, m3, m4, m5, m6⟩ := h
  exact ⟨m, m1, g.trans m2, (f 10 (by omega) (by omega)).trans m3, (f 11 (by omega) (by omega)).trans m4, (f 12 (by omega) (by omega)).trans m5, (f 13 (by omega) (by omega)).trans m6⟩
end PA64
