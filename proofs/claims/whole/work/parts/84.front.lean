/-! ===== PHASE 2: the arriving riders stand in front ===== -/
section PRa
variable {ct cd st : Nat → Int32} {ns d T : Nat} {R : List zRd} {l : List Nat}
theorem cX_arr {x : zRd} (hx : okX 8 1024 x) : cX x / 65536 = x.1 := by
  have h1 := hx.2.1
  have h2 := hx.2.2.1
  have h3 := hx.2.2.2
  unfold cX cN
  omega
theorem cX_lt {x y : zRd} (hx : okX 8 1024 x) (hy : okX 8 1024 y) (h : x.1 = y.1) (h2 : x.2.1 < y.2.1) : cX x < cX y := by
  have a1 := hx.2.2.1
  have a2 := hx.2.2.2
  unfold cX cN
  omega
theorem split_s (T : Nat) : ∀ (l : List Nat), l.Pairwise (· < ·) → l = l.filter (fun z => z / 65536 ≤ T) ++ l.filter (fun z => T < z / 65536)
  | [], _ => rfl
  | x :: l, h => by
    rw [List.pairwise_cons] at h
    have ih := split_s T l h.2
    by_cases hx : x / 65536 ≤ T
    · rw [List.filter_cons, if_pos (by simpa using hx), List.filter_cons, if_neg (by simpa using hx), List.cons_append, ← ih]
    · have hall : ∀ z ∈ l, T < z / 65536 := fun z hz => by
        have := h.1 z hz
        have := Nat.div_le_div_right (c := 65536) (Nat.le_of_lt this)
        omega
      have e1 : (x :: l).filter (fun z => z / 65536 ≤ T) = [] := by
        rw [List.filter_eq_nil_iff]
        intro z hz
        rcases List.mem_cons.mp hz with rfl | hz
        · simpa using hx
        · have := hall z hz
          simp only [decide_eq_true_eq]
          omega
      have e2 : (x :: l).filter (fun z => T < z / 65536) = x :: l := by
        rw [List.filter_eq_self]
        intro z hz
        rcases List.mem_cons.mp hz with rfl | hz
        · simp only [decide_eq_true_eq]; omega
        · simpa using hall z hz
      rw [e1, e2, List.nil_append]
theorem front_eq (hl1 : l.Perm (R.map cX)) (hl2 : l.Pairwise (· < ·)) (hrn : R.Pairwise (fun x y => x.2.1 < y.2.1)) (hok : ∀ x ∈ R, okX 8 1024 x) (hge : ∀ x ∈ R, T ≤ x.1) :
    l = (R.filter (fun x => x.1 == T)).map cX ++ l.filter (fun z => T < z / 65536) ∧ (l.filter (fun z => T < z / 65536)).Perm ((R.filter (fun x => !(x.1 == T))).map cX) := by
  have e1 : (R.map cX).filter (fun z => z / 65536 ≤ T) = (R.filter (fun x => x.1 == T)).map cX := by
    rw [List.filter_map]
    congr 1
    apply List.filter_congr
    intro x hx
    have h1 := cX_arr (hok x hx)
    have h2 := hge x hx
    simp only [Function.comp, h1]
    by_cases h3 : x.1 = T
    · simp [h3]
    · have : ¬ x.1 ≤ T := by omega
      simp [h3, this]
  have e2 : (R.map cX).filter (fun z => T < z / 65536) = (R.filter (fun x => !(x.1 == T))).map cX := by
    rw [List.filter_map]
    congr 1
    apply List.filter_congr
    intro x hx
    have h1 := cX_arr (hok x hx)
    have h2 := hge x hx
    simp only [Function.comp, h1]
    by_cases h3 : x.1 = T
    · simp [h3]
    · have : T < x.1 := by omega
      simp [h3, this]
  have p1 := hl1.filter (fun z => z / 65536 ≤ T)
  have p2 := hl1.filter (fun z => T < z / 65536)
  rw [e1] at p1
  rw [e2] at p2
  have hsA : ((R.filter (fun x => x.1 == T)).map cX).Pairwise (· < ·) := by
    rw [List.pairwise_map]
    have hp := hrn.filter (fun x => x.1 == T)
    refine List.Pairwise.imp_of_mem ?_ hp
    intro x y hx hy hxy
    rw [List.mem_filter] at hx hy
    have ex : x.1 = T := by simpa using hx.2
    have ey : y.1 = T := by simpa using hy.2
    exact cX_lt (hok x hx.1) (hok y hy.1) (ex.trans ey.symm) hxy
  have u := sort_uniq _ _ (hl2.filter _) hsA p1
  refine ⟨?_, p2⟩
  rw [← u]
  exact split_s T l hl2
theorem s_pr_sub : ∀ (A : List zRd) (st : Nat → Int32), ((s_pr ct ns A st).1.map (fun x => x.2.1)).Sublist (A.map (fun x => x.2.1))
  | [], st => List.Sublist.refl _
  | x :: A, st => by
    unfold s_pr
    split
    · split
      · exact (s_pr_sub A _).cons₂ _
      · exact (s_pr_sub A _).cons _
    · exact (s_pr_sub A _).cons₂ _
theorem s_pr_ok (hns : ns ≤ 8) (hrd : ∀ p s, p < ns → s < ns → ∃ b, b < 10000 ∧ s_rd ct p s = nI b) (hT1 : T < 12000) : ∀ (A : List zRd) (st : Nat → Int32), st 0 = nI T → (∀ x ∈ A, okX ns d x) → ∀ y ∈ (s_pr ct ns A st).1, okX ns d y ∧ (T ≤ y.1 ∨ ∃ x ∈ A, x.1 = y.1)
  | [], st, _, _ => fun y hy => by cases hy
  | x :: A, st, h0, h => by
    have hx := h x (List.mem_cons_self ..)
    have hA := fun y hy => h y (List.mem_cons_of_mem x hy)
    have up : ∀ {st' : Nat → Int32}, (∀ y ∈ (s_pr ct ns A st').1, okX ns d y ∧ (T ≤ y.1 ∨ ∃ x ∈ A, x.1 = y.1)) → ∀ y ∈ (s_pr ct ns A st').1, okX ns d y ∧ (T ≤ y.1 ∨ ∃ z ∈ x :: A, z.1 = y.1) := fun hh y hy => by
      obtain ⟨h1, h2⟩ := hh y hy
      refine ⟨h1, ?_⟩
      rcases h2 with h2 | ⟨z, hz, e⟩
      · exact Or.inl h2
      · exact Or.inr ⟨z, List.mem_cons_of_mem _ hz, e⟩
    unfold s_pr
    split
    · split
      · have ih := up (s_pr_ok hns hrd hT1 A (s_up st 5 (st 5 + 1)) ((s_upn _ _ (by decide)).trans h0) hA)
        intro y hy
        rcases List.mem_cons.mp hy with rfl | hy
        · obtain ⟨b, hb, eb⟩ := s_nO_ok (st := st) hrd hx.2.2.2 h0
          have e1 : (s_tx ct st ns x).1 = T + b := by
            show ix (st 0 + _) = _
            rw [eb, ix_nI (by omega)]
          refine ⟨⟨by rw [e1]; omega, hx.2.1, hx.2.2.1, ?_⟩, Or.inl (by rw [e1]; omega)⟩
          show s_nX x.2.2.2 _ < ns
          cases hc : s_near ct st x.2.2.2 1 ns with
          | none => exact hx.2.2.2
          | some m => exact (s_near_lt _ _ _ _ _ _ hc).1
        · exact ih y hy
      · exact up (s_pr_ok hns hrd hT1 A (s_lnd ct st x.2.2.2) ((s_lnd_o (by have := hx.2.2.2; omega)).trans h0) hA)
    · have ih := up (s_pr_ok hns hrd hT1 A st h0 hA)
      intro y hy
      rcases List.mem_cons.mp hy with rfl | hy
      · exact ⟨hx, Or.inr ⟨y, List.mem_cons_self .., rfl⟩⟩
      · exact ih y hy
theorem len_rn : ∀ (R : List zRd) (lo : Nat), R.Pairwise (fun x y => x.2.1 < y.2.1) → (∀ x ∈ R, lo ≤ x.2.1 ∧ x.2.1 < d) → R.length ≤ d - lo
  | [], lo, _, _ => Nat.zero_le _
  | x :: R, lo, hp, h => by
    rw [List.pairwise_cons] at hp
    have hx := h x (List.mem_cons_self ..)
    have := len_rn R (x.2.1 + 1) hp.2 (fun y hy => ⟨hp.1 y hy, (h y (List.mem_cons_of_mem _ hy)).2⟩)
    rw [List.length_cons]
    omega
theorem nodup_cX (hrn : R.Pairwise (fun x y => x.2.1 < y.2.1)) (hok : ∀ x ∈ R, okX 8 1024 x) : (R.map cX).Nodup := by
  unfold List.Nodup
  rw [List.pairwise_map]
  refine List.Pairwise.imp_of_mem ?_ hrn
  intro x y hx hy hxy e
  have h1 := hok x hx
  have h2 := hok y hy
  have e1 := cN_rn (A := x.1) h1.2.1 h1.2.2.1 h1.2.2.2
  have e2 := cN_rn (A := y.1) h2.2.1 h2.2.2.1 h2.2.2.2
  unfold cX at e
  rw [e, e2] at e1
  omega
end PRa
