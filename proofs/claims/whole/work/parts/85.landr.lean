/-! ===== PHASE 2: the class's landRiders ===== -/
section PRb
variable {β : Type} {M : zM} {F F' : Nat → Nat → Int32} {ct cd st st' : Nat → Int32} {a b c d i j k n p q r s t v ns nt np nc T : Nat} {R : List zRd} {l : List Nat}
theorem e_bj {τ γ : Type} {X : zP (τ ⊕ β)} {k : τ → zP β} {f : β → zP γ} {t : τ} {M1 : zM} (hX : X.1 M = some (.inr (.inl t), M1)) : (z_bd (z_jn X k) f).1 M = (z_bd (k t) f).1 M1 := by
  unfold z_jn
  rw [b_bd]
  exact e_run hX
/-- the model's state when the minute's riders have come -/
def s_rd2 (ct : Nat → Int32) (ns : Nat) (st : Nat → Int32) (r : Nat) : Nat → Int32 := s_up (s_rl ct ns st r).2 204 (nI (s_rl ct ns st r).1)
theorem kx_land {f : Int32 → zP β} (hS : RS M F a c ct cd st ns nt np nc d R l) (hrd : ∀ p s, p < ns → s < ns → ∃ b, b < 10000 ∧ s_rd ct p s = nI b) (hT1 : T < 12000) (hT : st 0 = nI T) (hge : ∀ x ∈ R, T ≤ x.1) :
    ∃ F' l', (z_bd (p_X5_landRiders a) f).1 (KI M F) = (f (nI R.length - nI (s_rl ct ns st R.length).1)).1 (KI M F') ∧ RS M F' a c ct cd (s_rd2 ct ns st R.length) ns nt np nc d (s_pr ct ns R st).1 l' ∧ fr5 a c F F' := by
  obtain ⟨E, hX, hP, hTr, ⟨hr1, hr2, hr3, hr4⟩, hrr, ⟨hl1, hl2, hl3⟩, hrn, hok⟩ := hS
  have h8 := EN_ns E
  obtain ⟨⟨hL, hcy, hC, hdis⟩, ⟨rc, hcok⟩, rb, r0⟩ := id E
  have hRd : R.length ≤ d := by
    have := len_rn (d := d) R 0 hrn (fun x hx => ⟨Nat.zero_le _, (hok x hx).2.1⟩)
    omega
  have hok8 : ∀ x ∈ R, okX 8 1024 x := fun x hx => by
    have := hok x hx
    exact ⟨this.1, by have := this.2.1; omega, by have := this.2.2.1; omega, by have := this.2.2.2; omega⟩
  obtain ⟨hfe, hp2⟩ := front_eq (T := T) hl2 hl3 hrn hok8 hge
  have hpr := s_pr_fil (ct := ct) (n := ns) (m := ns) h8 (show T < 2 ^ 31 by omega) R st hT (fun x hx => ⟨by have := (hok x hx).1; omega, (hok x hx).2.2.2⟩)
  obtain ⟨hm1, hm2, hm3⟩ := s_rl_pr (ct := ct) h8 hT1 hT hrd (R := R) (fun k x hx => hrr k x hx) (fun x hx => ⟨by have := (hok x hx).1; omega, (hok x hx).2.2⟩) R.length (Nat.le_refl _)
  rw [List.take_length] at hm1 hm2 hm3
  have hpo := fun (j : Nat) hj => s_pr_o (ct := ct) (n := ns) (j := j) h8 hj R st (fun x hx => (hok x hx).2.2.2)
  have hRok := s_pr_ok (ct := ct) (d := d) h8 hrd (show T < 12000 by omega) R st hT hok
  have hsub := s_pr_sub (ct := ct) (ns := ns) R st
  have hrn' : (s_pr ct ns R st).1.Pairwise (fun x y => x.2.1 < y.2.1) := by
    have h1 : (R.map (fun x => x.2.1)).Pairwise (· < ·) := by rw [List.pairwise_map]; exact hrn
    have h2 := h1.sublist hsub
    rw [List.pairwise_map] at h2
    exact h2
  have hlen : (s_pr ct ns R st).1.length ≤ R.length := by
    have := hsub.length_le
    rw [List.length_map, List.length_map] at this
    exact this
  have hok8' : ∀ x ∈ (s_pr ct ns R st).1, okX 8 1024 x := fun x hx => by
    have := (hRok x hx).1
    exact ⟨this.1, by have := this.2.1; omega, by have := this.2.2.1; omega, by have := this.2.2.2; omega⟩
  have hnd := nodup_cX hrn' hok8'
  have hll : l.length = R.length := by rw [hl2.length_eq, List.length_map]
  -- names for the front and the rest
  have hA0 : ∃ A, A = R.filter (fun x => x.1 == T) := ⟨_, rfl⟩
  obtain ⟨A, eA⟩ := hA0
  have hB0 : ∃ l2, l2 = l.filter (fun z => T < z / 65536) := ⟨_, rfl⟩
  obtain ⟨l2, eB⟩ := hB0
  rw [← eA, ← eB] at hfe
  rw [← eB] at hp2
  rw [← eA] at hpr
  have hAm : ∀ x ∈ A, okX ns 1024 x ∧ x.1 = T := fun x hx => by
    rw [eA, List.mem_filter] at hx
    have := hok x hx.1
    exact ⟨⟨this.1, by have := this.2.1; omega, this.2.2⟩, by simpa using hx.2⟩
  have hAl : A.length + l2.length = R.length := by
    rw [← hll]
    conv => rhs; rw [hfe]
    rw [List.length_append, List.length_map]
  have hl2s : l2.Pairwise (· < ·) := by rw [eB]; exact hl3.filter _
  have hl31 : ∀ z ∈ l, z < 2 ^ 31 := fun z hz => by
    obtain ⟨y, hy, ey⟩ := List.mem_map.mp (hl2.mem_iff.mp hz)
    have hy2 := hok8 y hy
    rw [← ey]
    exact cN_lt hy2.1 hy2.2.1 hy2.2.2.1 hy2.2.2.2
  have hrow : ∀ i x, A[i]? = some x → F (a + 6 + 1) i = nI (cX x) := fun i x hx => by
    refine hl1 i (cX x) ?_
    rw [hfe]
    have hi : i < A.length := by
      rcases Nat.lt_or_ge i A.length with h | h
      · exact h
      · rw [List.getElem?_eq_none h] at hx; cases hx
    rw [List.getElem?_append_left (by rw [List.length_map]; exact hi), List.getElem?_map, hx]
    rfl
  have hJ0 : JL M F a c ct cd st ns nt np nc A 0 F := by
    unfold JL
    rw [List.take_zero]
    exact ⟨E, ⟨hX.2.1, hX.2.2.2.2⟩, ⟨fun i x h => (by cases h), fun _ _ => rfl, Nat.le_refl _⟩, fun _ _ _ _ => rfl, fun _ _ _ => rfl⟩
  obtain ⟨G, hG1, hG2⟩ := kx_ldL hJ0 hrd (show T < 12000 by omega) hT hAm hrow (by omega)
  unfold JL at hG2
  rw [List.take_length] at hG2
  obtain ⟨EG, ⟨g9, g12⟩, ⟨gr1, gr2, gr3⟩, go1, go2⟩ := hG2
  have hKl : ((s_pr ct ns A st).1.map cX).length = (s_pr ct ns A st).1.length := List.length_map ..
  have hperm : ((s_pr ct ns A st).1.map cX ++ l2).Perm ((s_pr ct ns R st).1.map cX) := by
    refine (List.Perm.append_left _ hp2).trans ?_
    rw [← List.map_append]
    exact (hpr.2.map cX).symm
  have hG61 : G (a + 6) 1 = nI (A.length + l2.length) := by rw [go1 _ (by omega) (by omega) (by omega), hAl]; exact hr1
  obtain ⟨g, l', k1, k2, k3, k4⟩ := kr_keep (F := G) (e := A.length) (K := (s_pr ct ns A st).1.map cX) (l2 := l2) (f := fun _ => f (nI A.length - nI (s_pr ct ns A st).1.length)) (LZ_R hL) gr1 (fun i x hx => by
      rw [gr2 _ (by omega)]
      refine hl1 _ x ?_
      rw [hfe, List.getElem?_append_right (by rw [List.length_map]; omega), List.length_map, show A.length + i - A.length = i by omega]
      exact hx) hG61 (by rw [hKl]; exact gr3) (by omega) (hperm.nodup_iff.mpr hnd) (fun z hz => by
      obtain ⟨y, hy, ey⟩ := List.mem_map.mp (hperm.mem_iff.mp hz)
      have hy2 := hok8' y hy
      rw [← ey]
      exact cN_lt hy2.1 hy2.2.1 hy2.2.2.1 hy2.2.2.2) hl2s
  rw [hKl] at k1
  have hlR : (s_pr ct ns A st).1.length + l2.length = (s_pr ct ns R st).1.length := by
    have := hperm.length_eq
    rw [List.length_append, List.length_map, List.length_map] at this
    exact this
  have hans : nI A.length - nI (s_pr ct ns A st).1.length = nI R.length - nI (s_rl ct ns st R.length).1 := by
    rw [hm1, nI_sub gr3, nI_sub hlen]
    congr 1
    omega
  refine ⟨z_up1 (z_up2 G (a + 6) 1 (nI ((s_pr ct ns A st).1.length + l2.length))) (a + 6 + 1) g, l', ?_, ?_, ?_⟩
  · rw [← hans]
    refine Eq.trans ?_ k1
    have e7 : F a 7 = nI T := r0.trans hT
    unfold p_X5_landRiders
    have hby := fun (f' : Int32 → zP β) => kr_by (F := F) (f := f') (l1 := A.map cX) (l2 := l2) (T := T) (LZ_R hL) (by rw [← hfe]; exact hl1) (by rw [List.length_map, hAl]; exact hr1) (by rw [List.length_map]; omega) (by omega) (by rw [← hfe]; exact hl31) (fun z hz => by
      obtain ⟨y, hy, ey⟩ := List.mem_map.mp hz
      have h1 := hAm y hy
      rw [← ey, cX_arr ⟨h1.1.1, h1.1.2.1, by have := h1.1.2.2.1; omega, by have := h1.1.2.2.2; omega⟩]
      omega) (fun z hz => by rw [eB, List.mem_filter] at hz; simpa using hz.2)
    simp (disch := first | assumption | omega | (apply LZ_R; assumption) | (apply LZ_T <;> first | assumption | omega) | (apply LC_F; assumption)) only [b_bd, ks_g5, ks_gI, kr_cv, e7, hby, List.length_map]
    refine (e_bj hG1).trans ?_
    simp (disch := first | assumption | omega | (apply LZ_R; assumption) | (apply LZ_T <;> first | assumption | omega) | (apply LC_F; assumption)) only [b_bd, b_pu, ks_g5, kr_cv, hKl]
  · have hst : ∀ j, j < 204 → s_rd2 ct ns st R.length j = (s_pr ct ns A st).2 j := fun j hj => by
      unfold s_rd2
      rw [s_upn _ _ (by omega), hm2 j (by omega), hpr.1]
    have hsto : ∀ j, j < 204 → (j ≠ 2 ∧ j ≠ 5 ∧ (j < 6 ∨ 14 ≤ j)) → s_rd2 ct ns st R.length j = st j := fun j hj hj2 => by
      rw [hst j hj, hpr.1]
      exact hpo j hj2
    have fo : ∀ y, y ≠ a + 6 → y ≠ a + 6 + 1 → z_up1 (z_up2 G (a + 6) 1 (nI ((s_pr ct ns A st).1.length + l2.length))) (a + 6 + 1) g y = G y := fun y y1 y2 => by rw [u1_n _ _ y2, u2_row _ _ y1]
    refine ⟨?_, ?_, ?_, ?_, ?_⟩
    · refine EN_gen EG (fun k hk => ?_) ?_ (fun y y1 y2 => fo _ (by omega) (by omega))
      · rw [fo _ (by omega) (by omega), fo _ (by omega) (by omega), hst _ (by omega), hst _ (by omega)]
        exact EG.2.2.1 k hk
      · rw [fo _ (by omega) (by omega), hst _ (by omega)]
        exact EG.2.2.2
    · refine ⟨?_, ?_, ?_, ?_, ?_⟩
      · rw [fo _ (by omega) (by omega), go2 _ (by decide) (by decide), hsto _ (by decide) (by decide)]; exact hX.1
      · rw [fo _ (by omega) (by omega), hst _ (by decide)]; exact g9
      · rw [fo _ (by omega) (by omega), go2 _ (by decide) (by decide), hsto _ (by decide) (by decide)]; exact hX.2.2.1
      · rw [fo _ (by omega) (by omega), go2 _ (by decide) (by decide), hsto _ (by decide) (by decide)]; exact hX.2.2.2.1
      · rw [fo _ (by omega) (by omega), hst _ (by decide)]; exact g12
    · intro p hp
      rw [fo _ (by omega) (by omega), fo _ (by omega) (by omega), go1 _ (by omega) (by omega) (by omega), go1 _ (by omega) (by omega) (by omega), hsto _ (by omega) (by omega), hsto _ (by omega) (by omega)]
      exact hP p hp
    · intro t ht
      obtain ⟨q, hq⟩ := hTr t ht
      have hnt := hcok.1.2.2.2.1
      refine ⟨q, RK_fr hq ?_ ?_ ?_ (fun i hi => hsto _ (by omega) (by omega))⟩
      · rw [fo _ (by omega) (by omega), go1 _ (by omega) (by omega) (by omega)]
      · rw [fo _ (by omega) (by omega), go1 _ (by omega) (by omega) (by omega)]
      · rw [fo _ (by omega) (by omega), go1 _ (by omega) (by omega) (by omega)]
    · refine ⟨⟨?_, ?_, ?_, hr4⟩, ?_, ⟨?_, ?_, k4⟩, hrn', fun x hx => (hRok x hx).1⟩
      · rw [u1_n _ _ (by omega), u2_s, hlR]
      · unfold s_rd2
        rw [s_ups, hm1]
      · rw [hsto _ (by decide) (by decide)]; exact hr3
      · intro k x hx
        unfold s_rd2
        rw [s_upn _ _ (by omega), s_upn _ _ (by omega), s_upn _ _ (by omega)]
        exact hm3 k x hx
      · rw [u1_s]; exact k2
      · exact k3.trans hperm
  · intro y h1 h2
    rw [u1_n _ _ (by omega), u2_row _ _ (by omega)]
    exact go1 y (by omega) (by omega) (by omega)
end PRb
