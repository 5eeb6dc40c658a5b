/-! ===== PHASE 2: waiting signs become codes ===== -/
/-- what a fare may change in the class -/
def fC (sp : Nat) (F F' : Nat → Nat → Int32) : Prop := ∀ y j, ¬ ((y = 2 ∧ j < 10) ∨ y = 3 ∨ (y = sp + 10 ∧ j = 2) ∨ y = sp + 10 + 1) → F' y j = F y j
def fM (G G' : Nat → Nat → Int32) : Prop := ∀ y j, ¬ ((y = 75 ∧ 4 ≤ j ∧ j ≤ 17 ∧ j ≠ 14) ∨ (y = 77 ∧ j = 8) ∨ y = 79 ∨ y = 81) → G' y j = G y j
/-- what releasing signs may change -/
def fR (sp : Nat) (F F' : Nat → Nat → Int32) : Prop := ∀ y j, ¬ ((y = 2 ∧ j = 1) ∨ (y = sp + 10 ∧ j = 2) ∨ y = sp + 10 + 1) → F' y j = F y j
def fS (G G' : Nat → Nat → Int32) : Prop := ∀ y j, ¬ ((y = 75 ∧ j = 16) ∨ (y = 77 ∧ j = 8) ∨ y = 79) → G' y j = G y j
section PA68
variable {α β : Type} {M N : zM} {F F' F1 G G' G1 : Nat → Nat → Int32} {b g cd cd' : Nat → Int32} {i j k m n s s' lo sp nc x r : Nat} {p q q' c v w : Int32} {l t : List Nat}
theorem u2_cm {a b k j : Nat} {x y : Int32} (h : a ≠ b) : z_up2 (z_up2 F a k x) b j y = z_up2 (z_up2 F b j y) a k x := by
  funext u i
  by_cases e : u = b ∧ i = j
  · obtain ⟨e1, e2⟩ := e
    subst e1 e2
    rw [u2_s, u2_n (z_up2 F u i y) _ (by omega), u2_s]
  · rw [u2_n (z_up2 F a k x) _ (by omega)]
    by_cases e2 : u = a ∧ i = k
    · obtain ⟨e3, e4⟩ := e2
      subst e3 e4
      rw [u2_s, u2_s]
    · rw [u2_n F _ (by omega), u2_n (z_up2 F b j y) _ (by omega), u2_n F _ (by omega)]
theorem fC_tr (h : fC sp F F1) (g : fC sp F1 F') : fC sp F F' := fun y j hn => (g y j hn).trans (h y j hn)
theorem fM_tr (h : fM G G1) (g : fM G1 G') : fM G G' := fun y j hn => (g y j hn).trans (h y j hn)
theorem fC_rf : fC sp F F := fun _ _ _ => rfl
theorem fM_rf : fM G G := fun _ _ _ => rfl
theorem fR_C (h : fR sp F F') : fC sp F F' := fun y j hn => h y j (by omega)
theorem fS_M (h : fS G G') : fM G G' := fun y j hn => h y j (by omega)
theorem oc_fC (h : oc F F') : fC sp F F' := fun y j hn => h y j (by omega)
theorem om_fM (h : om G G') : fM G G' := fun y j hn => h y j (by omega)
theorem SK_o (h : SK F G sp l nc) (f : ∀ y j, ((y = 2 ∧ j = 1) ∨ y = 3 ∨ (y = sp + 10 ∧ j = 2) ∨ y = sp + 10 + 1) → F' y j = F y j) (g : ∀ y j, ((y = 75 ∧ j = 16) ∨ y = 81 ∨ (y = 77 ∧ j = 8) ∨ y = 79) → G' y j = G y j) : SK F' G' sp l nc := by
  obtain ⟨⟨a1, a2⟩, ⟨b1, b2⟩, h3, h4, h5, h6⟩ := h
  have e3 : F' 3 = F 3 := funext fun j => f 3 j (by omega)
  have e81 : G' 81 = G 81 := funext fun j => g 81 j (by omega)
  refine ⟨⟨(f 2 1 (by omega)).trans a1, by rw [e3]; exact a2⟩, ⟨(g 75 16 (by omega)).trans b1, by rw [e81]; exact b2⟩, h3, (f _ 2 (by omega)).trans h4, (g 77 8 (by omega)).trans h5, fun i hi => ?_⟩
  rw [f _ i (by omega), g 79 i (by omega)]
  exact h6 i hi
/-- the class's release ends, whatever waits -/
theorem c_relT (hP : PC M N b n sp) (p : Int32) : ∀ w m F, w ≤ 24 → m ≤ 700 → F 2 1 = nI w → F (sp + 10) 2 = nI m → ∃ F', (p_X1_releaseOperators 2 p).1 (KI M F) = some (.inr (), KI M F') ∧ fR sp F F' := by
  have h0 := hP.1.1
  have hC := hP.1.2.2.2
  have hF := LC_F hC
  have hsp := hP.2.2.2.2
  have rka : ∀ z : Int32, ∃ y, p_X1_rank z = z_pu y := fun z => by
    unfold p_X1_rank
    by_cases z1 : z = 0
    · exact ⟨0, if_pos z1⟩
    · rw [if_neg z1]
      by_cases z2 : z = -5
      · exact ⟨1, if_pos z2⟩
      · rw [if_neg z2]
        by_cases z3 : z = -6
        · exact ⟨1, if_pos z3⟩
        · exact ⟨2, if_neg z3⟩
  intro w
  induction w with
  | zero =>
    intro m F _ hm h1 h2
    refine ⟨F, ?_, fun _ _ _ => rfl⟩
    unfold p_X1_releaseOperators
    refine z_lp_end ?_
    show (z_bd (z_gI 1 2 1) _).1 _ = _
    rw [k0_gI2 h0, h1, if_pos (show nI 0 ≤ 0 by decide)]
    rfl
  | succ w ih =>
    intro m F hw hm h1 h2
    have h1n : ¬ nI (w + 1) ≤ 0 := nI_ge (a := 0) (by omega) (by omega)
    obtain ⟨y, hy⟩ := rka (F 3 w)
    have hd : nI (w + 1) - 1 = nI w := nI_dec' (by omega)
    by_cases hlt : y < p
    · refine ⟨F, ?_, fun _ _ _ => rfl⟩
      unfold p_X1_releaseOperators
      refine z_lp_end ?_
      show (z_bd (z_gI 1 2 1) _).1 _ = _
      rw [k0_gI2 h0, h1, if_neg h1n, k0_g2_0 h0, k0_gI2 h0, h1, hd, ki_aI (k0_ar3 h0) (by omega) (by decide), hy, b_pu, if_pos hlt]
      rfl
    · have add : ∃ F1 m1, (p_X2_add (sp + 10) (F 3 w)).1 (KI M F) = some (.inr (), KI M F1) ∧ m1 ≤ 700 ∧ F1 (sp + 10) 2 = nI m1 ∧ ∀ y j, ¬ ((y = sp + 10 ∧ j = 2) ∨ y = sp + 10 + 1) → F1 y j = F y j := by
        by_cases h7 : m = 700
        · subst h7
          exact ⟨F, 700, c_add7 hF h2, by decide, h2, fun _ _ _ => rfl⟩
        · exact ⟨_, m + 1, c_add hF h2 (by omega), by omega, u2_s _ _ _ _, fun y j hy => by rw [u2_n _ _ (by omega), u2_n _ _ (by omega)]⟩
      obtain ⟨F1, m1, f1, f2, f3, f4⟩ := add
      have g1 : F1 2 1 = nI (w + 1) := (f4 2 1 (by omega)).trans h1
      obtain ⟨F', k1, k2⟩ := ih m1 (z_up2 F1 2 1 (nI w)) (by omega) f2 (u2_s _ _ _ _) (by rw [u2_n _ _ (by omega)]; exact f3)
      refine ⟨F', ?_, fun y j hy => by rw [k2 y j hy, u2_n _ _ (by omega), f4 y j (by omega)]⟩
      unfold p_X1_releaseOperators
      refine (z_lp_step (s' := ()) (M1 := KI M (z_up2 F1 2 1 (nI w))) ?_).trans k1
      show (z_bd (z_gI 1 2 1) _).1 _ = _
      rw [k0_gI2 h0, h1, if_neg h1n, k0_g2_0 h0, k0_gI2 h0, h1, hd, ki_aI (k0_ar3 h0) (by omega) (by decide), hy, b_pu, if_neg hlt, kb_ct hP, kc_g9 hC, k0_g2_0 h0, k0_gI2 h0, h1, hd, ki_aI (k0_ar3 h0) (by omega) (by decide), kf_cv hF, e_run f1, k0_gI2 h0, g1, hd, k0_pI2 h0]
      rfl
/-- both let go of the signs of rank r and more -/
theorem j_settle (hP : PC M N b n sp) (hr : r = 1 ∨ r = 2) : ∀ l nc F G, SK F G sp l nc → nc + l.length ≤ 700 → l.length ≤ 24 → ∃ F' G' l' nc', (p_X1_releaseOperators 2 (nI r)).1 (KI M F) = some (.inr (), KI M F') ∧ (p_X9_settle 75 (nI r)).1 (KI N G) = some (.inr (), KI N G') ∧ SK F' G' sp l' nc' ∧ nc' + l'.length = nc + l.length ∧ fR sp F F' ∧ fS G G' ∧ (trk l' < r ∧ npa l' = npa l ∧ (oks l → oks l') ∧ nop l' ≤ nop l) ∧ ((s_cw (G 79) nc ∧ s_dp (G 79) nc = nop l + 1 ∧ nop l ≤ 14) → s_cw (G' 79) nc' ∧ s_dp (G' 79) nc' = nop l' + 1) := by
  have h0 := hP.1.1
  have h9 := hP.2.1
  have hC := hP.1.2.2.2
  have hF := LC_F hC
  have hsp := hP.2.2.2.2
  intro l
  induction l with
  | nil =>
    intro nc F G hS hn hl
    refine ⟨F, G, [], nc, ?_, ?_, hS, rfl, fun _ _ _ => rfl, fun _ _ _ => rfl, ⟨by show 0 < r; omega, rfl, id, Nat.le_refl _⟩, fun h => ⟨h.1, h.2.1⟩⟩
    · unfold p_X1_releaseOperators
      refine z_lp_end ?_
      show (z_bd (z_gI 1 2 1) _).1 _ = _
      rw [k0_gI2 h0, hS.1.1, if_pos (show nI ([] : List Nat).length ≤ 0 by decide)]
      rfl
    · unfold p_X9_settle
      refine z_lp_end ?_
      show (z_bd (z_gI 9 75 16) _).1 _ = _
      rw [kn_gI h9, hS.2.1.1, if_pos (show nI ([] : List Nat).length ≤ 0 by decide)]
      rfl
  | cons x t ih =>
    intro nc F G hS hn hl
    have hS0 := hS
    obtain ⟨⟨a1, a2, a3⟩, ⟨b1, b2, b3⟩, h3, h4, h5, h6⟩ := hS
    have hn' : nc + (t.length + 1) ≤ 700 := hn
    have hl' : t.length + 1 ≤ 24 := hl
    have a1 : F 2 1 = nI (t.length + 1) := a1
    have b1 : G 75 16 = nI (t.length + 1) := b1
    have hx : sv x := h3 x (List.mem_cons_self)
    have h1n : ¬ nI (t.length + 1) ≤ 0 := nI_ge (a := 0) (by omega) (by omega)
    have hd : nI (t.length + 1) - 1 = nI t.length := nI_dec' (by omega)
    have hrk := rk_le (x := x)
    by_cases hlt : rk x < r
    · have hlt' : nI (rk x) < nI r := nI_lt hlt (by omega)
      refine ⟨F, G, x :: t, nc, ?_, ?_, hS0, rfl, fun _ _ _ => rfl, fun _ _ _ => rfl, ⟨hlt, rfl, id, Nat.le_refl _⟩, fun h => ⟨h.1, h.2.1⟩⟩
      · unfold p_X1_releaseOperators
        refine z_lp_end ?_
        show (z_bd (z_gI 1 2 1) _).1 _ = _
        rw [k0_gI2 h0, a1, if_neg h1n, k0_g2_0 h0, k0_gI2 h0, a1, hd, ki_aI (k0_ar3 h0) (by omega) (by decide), a2, cr_k hx, b_pu, if_pos hlt']
        rfl
      · unfold p_X9_settle
        refine z_lp_end ?_
        show (z_bd (z_gI 9 75 16) _).1 _ = _
        rw [kn_gI h9, b1, if_neg h1n, kn_g81 h9, kn_gI h9, b1, hd, kn_a81 h9 (by omega), b2, mr_k hx, b_pu, if_pos hlt']
        rfl
    · have hlt' : ¬ nI (rk x) < nI r := nI_nlt (by omega) (by omega)
      have hx40 : x ≠ 40 := fun e => hlt (by rw [e]; show 0 < r; omega)
      obtain ⟨i1, i2, i3⟩ := sg_it hx hx40
      obtain ⟨F1, eF1⟩ : ∃ F1, F1 = z_up2 (z_up2 F (sp + 10 + 1) nc (oo (nI x))) (sp + 10) 2 (nI (nc + 1)) := ⟨_, rfl⟩
      obtain ⟨G0, eG0⟩ : ∃ G0, G0 = z_up2 G 75 16 (nI t.length) := ⟨_, rfl⟩
      obtain ⟨G1, eG1⟩ : ∃ G1, G1 = z_up2 (z_up2 G0 79 nc (- nI x)) 77 8 (nI (nc + 1)) := ⟨_, rfl⟩
      have hS1 := SK_code hsp (SK_pop hsp hS0) (w := oo (nI x)) (v := - nI x) ⟨i1, i2⟩
      have hS2 : SK (z_up2 F1 2 1 (nI t.length)) G1 sp t (nc + 1) := by
        rw [eF1, u2_cm (a := sp + 10) (b := 2) (by omega), u2_cm (a := sp + 10 + 1) (b := 2) (by omega), eG1, eG0]
        exact hS1
      have g16 : z_up2 G 75 16 (nI t.length) 75 16 = nI t.length := u2_s _ _ _ _
      have m81 : G0 81 t.length = nI x := by rw [eG0, u2_n _ _ (by omega)]; exact b2
      have m77 : G0 77 8 = nI nc := by rw [eG0, u2_n _ _ (by omega)]; exact h5
      have f1 : (p_X2_add (sp + 10) (oo (nI x))).1 (KI M F) = some (.inr (), KI M F1) := by rw [eF1]; exact c_add hF h4 (by omega)
      have g1 : F1 2 1 = nI (t.length + 1) := by rw [eF1, u2_n _ _ (by omega), u2_n _ _ (by omega)]; exact a1
      have e1 : (p_X9_emit 75 (- nI x)).1 (KI N G0) = some (.inr (), KI N G1) := by rw [eG1]; exact m_emit h9 m77 (by omega)
      obtain ⟨F', G', l', nc', k1, k2, k3, k4, k5, k6, ⟨k7, k8, k9, k10⟩, k11⟩ := ih (nc + 1) _ _ hS2 (by omega) (by omega)
      have hnp : npa (x :: t) = npa t := if_neg hx40
      have hno : nop (x :: t) = nop t + 1 := if_neg hx40
      have e79 : ∀ i, i < nc → G1 79 i = G 79 i := fun i hi => by rw [eG1, eG0, u2_n _ _ (by omega), u2_n _ _ (by omega), u2_n _ _ (by omega)]
      have e79n : G1 79 nc = - nI x := by rw [eG1, u2_n _ _ (by omega), u2_s]
      refine ⟨F', G', l', nc', ?_, ?_, k3, by show _ = nc + (t.length + 1); omega, ?_, ?_, ⟨k7, k8.trans hnp.symm, fun h => k9 h.2, by omega⟩, fun h => k11 ⟨?_, ?_, by omega⟩⟩
      · unfold p_X1_releaseOperators
        refine (z_lp_step (s' := ()) (M1 := KI M (z_up2 F1 2 1 (nI t.length))) ?_).trans k1
        show (z_bd (z_gI 1 2 1) _).1 _ = _
        rw [k0_gI2 h0, a1, if_neg h1n, k0_g2_0 h0, k0_gI2 h0, a1, hd, ki_aI (k0_ar3 h0) (by omega) (by decide), a2, cr_k hx, b_pu, if_neg hlt', kb_ct hP, kc_g9 hC, k0_g2_0 h0, k0_gI2 h0, a1, hd, ki_aI (k0_ar3 h0) (by omega) (by decide), a2, kf_cv hF, e_run f1, k0_gI2 h0, g1, hd, k0_pI2 h0]
        rfl
      · unfold p_X9_settle
        refine (z_lp_step (s' := ()) (M1 := KI N G1) ?_).trans k2
        show (z_bd (z_gI 9 75 16) _).1 _ = _
        rw [kn_gI h9, b1, if_neg h1n, kn_g81 h9, kn_gI h9, b1, hd, kn_a81 h9 (by omega), b2, mr_k hx, b_pu, if_neg hlt', kn_gI h9, b1, hd, kn_pI h9, kn_g81 h9, kn_gI h9, g16, ← eG0, kn_a81 h9 (by omega), m81, kn_cv h9, e_run e1]
        rfl
      · intro y j hy
        rw [k5 y j hy, u2_n _ _ (by omega), eF1, u2_n _ _ (by omega), u2_n _ _ (by omega)]
      · intro y j hy
        rw [k6 y j hy, eG1, u2_n _ _ (by omega), u2_n _ _ (by omega), eG0, u2_n _ _ (by omega)]
      · exact s_cw_p h.1 e79 (fun _ => by omega) (by omega)
      · rw [s_dp_p e79, e79n, if_pos i3]
        omega
end PA68
