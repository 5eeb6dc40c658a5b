/-! ===== PHASE 2: the model's riders of a minute, as lists ===== -/
section PR6
variable {ct st st' : Nat → Int32} {n ns T k l : Nat}
theorem s_cp_v (w : Nat → Int32) (h : l ≤ k) : s_cp w k l 3 (205 + 3 * l) = w (205 + 3 * k) ∧ s_cp w k l 3 (205 + 3 * l + 1) = w (205 + 3 * k + 1) ∧ s_cp w k l 3 (205 + 3 * l + 2) = w (205 + 3 * k + 2) := by
  have e1 : ∀ j, s_cp w k l 1 j = if j = 205 + 3 * l + 0 then w (205 + 3 * k + 0) else w j := fun j => rfl
  have e2 : ∀ j, s_cp w k l 2 j = if j = 205 + 3 * l + 1 then s_cp w k l 1 (205 + 3 * k + 1) else s_cp w k l 1 j := fun j => rfl
  have e3 : ∀ j, s_cp w k l 3 j = if j = 205 + 3 * l + 2 then s_cp w k l 2 (205 + 3 * k + 2) else s_cp w k l 2 j := fun j => rfl
  by_cases hlk : l = k
  · subst hlk
    have a1 : ∀ j, s_cp w l l 1 j = w j := fun j => by
      rw [e1]
      split
      · rename_i h; rw [h]
      · rfl
    have a2 : ∀ j, s_cp w l l 2 j = w j := fun j => by
      rw [e2, a1, a1]
      split
      · rename_i h; rw [h]
      · rfl
    have a3 : ∀ j, s_cp w l l 3 j = w j := fun j => by
      rw [e3, a2, a2]
      split
      · rename_i h; rw [h]
      · rfl
    exact ⟨a3 _, a3 _, a3 _⟩
  · refine ⟨?_, ?_, ?_⟩
    · rw [e3, if_neg (by omega), e2, if_neg (by omega), e1, if_pos (by omega)]
      rfl
    · rw [e3, if_neg (by omega), e2, if_pos rfl, e1, if_neg (by omega)]
    · rw [e3, if_pos rfl, e2, if_neg (by omega), e1, if_neg (by omega)]
theorem s_bn_co {j : Nat} (h6 : st (6 + j) = st' (6 + j)) (h14 : st (14 + j) = st' (14 + j)) : s_bn ct st j = s_bn ct st' j := by
  unfold s_bn s_wk
  rw [h6, h14]
/-- a turned rider's arrival, a small number -/
theorem s_nO_ok (hrd : ∀ p s, p < ns → s < ns → ∃ b, b < 10000 ∧ s_rd ct p s = nI b) {s : Nat} (hs : s < ns) (hT : st 0 = nI T) : ∃ b, b < 10000 ∧ st 0 + s_nO ct s (s_near ct st s 1 ns) = nI (T + b) := by
  cases hc : s_near ct st s 1 ns with
  | none => exact ⟨1, by decide, by rw [hT]; exact nI_1 T⟩
  | some m =>
    obtain ⟨b, hb, e⟩ := hrd s m hs (s_near_lt _ _ _ _ _ _ hc).1
    exact ⟨b, hb, by rw [hT]; show nI T + s_rd ct s m = _; rw [e, nI_add]⟩
theorem s_nX_T (s : Nat) (o : Option Nat) : nI (s_nX s o) = s_nT s o := by cases o <;> rfl
/-- the rows of riders R from place 0 on -/
def rowsR (st : Nat → Int32) (R : List zRd) : Prop := ∀ k x, R[k]? = some x → st (205 + 3 * k) = nI x.1 ∧ st (205 + 3 * k + 1) = nI x.2.2.2 ∧ st (205 + 3 * k + 2) = nI x.2.2.1
theorem rowsR_app {R : List zRd} {x : zRd} (h : rowsR st R) (h' : ∀ j, 205 ≤ j → j < 205 + 3 * R.length → st' j = st j) (h1 : st' (205 + 3 * R.length) = nI x.1) (h2 : st' (205 + 3 * R.length + 1) = nI x.2.2.2) (h3 : st' (205 + 3 * R.length + 2) = nI x.2.2.1) : rowsR st' (R ++ [x]) := by
  intro i y hy
  by_cases hi : i < R.length
  · rw [List.getElem?_append_left hi] at hy
    rw [h' _ (by omega) (by omega), h' _ (by omega) (by omega), h' _ (by omega) (by omega)]
    exact h i y hy
  · rw [List.getElem?_append_right (by omega)] at hy
    by_cases hi2 : i = R.length
    · subst hi2
      rw [Nat.sub_self] at hy
      cases hy
      exact ⟨h1, h2, h3⟩
    · obtain ⟨e, he⟩ : ∃ e, i - R.length = e + 1 := ⟨i - R.length - 1, by omega⟩
      rw [he] at hy
      cases hy
theorem s_rl_pr (hns : ns ≤ 8) (hT1 : T < 12000) (hT : st 0 = nI T) (hrd : ∀ p s, p < ns → s < ns → ∃ b, b < 10000 ∧ s_rd ct p s = nI b) {R : List zRd} (hR : rowsR st R) (hok : ∀ x ∈ R, x.1 < 2 ^ 31 ∧ x.2.2.1 < ns ∧ x.2.2.2 < ns) :
    ∀ k, k ≤ R.length → (s_rl ct ns st k).1 = (s_pr ct ns (R.take k) st).1.length ∧ (∀ j, j < 205 → (s_rl ct ns st k).2 j = (s_pr ct ns (R.take k) st).2 j) ∧ rowsR (s_rl ct ns st k).2 (s_pr ct ns (R.take k) st).1 := by
  intro k
  induction k with
  | zero =>
    intro _
    rw [List.take_zero]
    exact ⟨rfl, fun _ _ => rfl, fun i x h => by cases h⟩
  | succ k ih =>
    intro hk
    obtain ⟨ih1, ih2, ih3⟩ := ih (by omega)
    obtain ⟨x, hx⟩ : ∃ x, R[k]? = some x := ⟨R[k], List.getElem?_eq_getElem (by omega)⟩
    have hxR : x ∈ R := List.mem_of_getElem? hx
    have hxo := hok x hxR
    have hrow := hR k x hx
    have hv : ∀ i, i < R.length → ∃ s, s < ns ∧ st (205 + 3 * i + 1) = nI s := fun i hi => by
      have := hR i R[i] (List.getElem?_eq_getElem hi)
      exact ⟨R[i].2.2.2, (hok _ (List.getElem_mem hi)).2.2, this.2.1⟩
    have hO := s_rl_o (ct := ct) (st := st) hns hv k (by omega)
    have hl := s_rl_le ct ns st k
    have htk : R.take (k + 1) = R.take k ++ [x] := by rw [List.take_succ, hx]; rfl
    have hmem : ∀ y ∈ R.take k, y.2.2.2 < ns := fun y hy => (hok y (List.mem_of_mem_take hy)).2.2
    have h00 : (s_pr ct ns (R.take k) st).2 0 = nI T := by rw [s_pr_o hns (by omega) _ _ hmem]; exact hT
    rw [htk, s_pr_app]
    have e1 : (s_rl ct ns st k).2 (205 + 3 * k + 1) = nI x.2.2.2 := (hO _ (by omega)).trans hrow.2.1
    have e0 : (s_rl ct ns st k).2 (205 + 3 * k) = nI x.1 := (hO _ (by omega)).trans hrow.1
    have e2 : (s_rl ct ns st k).2 (205 + 3 * k + 2) = nI x.2.2.1 := (hO _ (by omega)).trans hrow.2.2
    rw [show s_rl ct ns st (k + 1) = (if (s_rl ct ns st k).2 (205 + 3 * k) = (s_rl ct ns st k).2 0 then (if s_fr ct (s_rl ct ns st k).2 (ix ((s_rl ct ns st k).2 (205 + 3 * k + 1))) ≤ 0 then ((s_rl ct ns st k).1 + 1, s_cp (s_tun ct (s_rl ct ns st k).2 ns k (ix ((s_rl ct ns st k).2 (205 + 3 * k + 1)))) k (s_rl ct ns st k).1 3) else ((s_rl ct ns st k).1, s_lnd ct (s_rl ct ns st k).2 (ix ((s_rl ct ns st k).2 (205 + 3 * k + 1))))) else ((s_rl ct ns st k).1 + 1, s_cp (s_rl ct ns st k).2 k (s_rl ct ns st k).1 3)) from rfl, e1, e0, ix_nI (by omega)]
    generalize s_rl ct ns st k = W at ih1 ih2 ih3 e0 e1 e2 hl ⊢
    obtain ⟨l, w⟩ := W
    generalize s_pr ct ns (R.take k) st = Z at ih1 ih2 ih3 h00 ⊢
    obtain ⟨L, z⟩ := Z
    simp only at ih1 ih2 ih3 e0 e1 e2 hl h00 ⊢
    have hx8 : x.2.2.2 < 8 := by omega
    have hfr : s_fr ct w x.2.2.2 = s_fr ct z x.2.2.2 := s_fr_co (ih2 _ (by omega)) (ih2 _ (by omega))
    rw [ih2 0 (by omega), hfr]
    subst ih1
    by_cases h1 : nI x.1 = z 0
    · rw [if_pos h1]
      by_cases h2 : s_fr ct z x.2.2.2 ≤ 0
      · rw [if_pos h2]
        have ep : s_pr ct ns [x] z = ([s_tx ct z ns x], s_up z 5 (z 5 + 1)) := by rw [s_pr, if_pos h1, if_pos h2]; rfl
        rw [ep]
        have hcv := s_cp_v (s_tun ct w ns k x.2.2.2) hl
        have hnr : s_near ct w x.2.2.2 1 ns = s_near ct z x.2.2.2 1 ns := s_near_co ns (fun j hj => ⟨ih2 _ (by omega), ih2 _ (by omega)⟩)
        refine ⟨by show L.length + 1 = (L ++ [_]).length; rw [List.length_append]; rfl, fun j hj => ?_, ?_⟩
        · show s_cp _ _ _ 3 j = s_up z 5 (z 5 + 1) j
          rw [s_cp_o _ _ _ _ _ (by omega)]
          by_cases h5 : j = 5
          · subst h5
            unfold s_tun
            rw [s_upn _ _ (by omega), s_upn _ _ (by omega), s_ups, s_ups, ih2 5 (by omega)]
          · rw [s_tun_o (by omega), s_upn _ _ h5]; exact ih2 j hj
        · refine rowsR_app ih3 (fun j h3 h4 => ?_) ?_ ?_ ?_
          · show s_cp _ _ _ 3 j = _
            rw [s_cp_o _ _ _ _ _ (by omega), s_tun_o (by omega)]
          · refine hcv.1.trans ?_
            unfold s_tun
            rw [s_upn _ _ (by omega), s_ups, hnr, ih2 0 (by omega)]
            obtain ⟨b, hb⟩ := s_nO_ok (st := z) hrd hxo.2.2 h00
            show _ = nI (ix _)
            rw [hb.2, ix_nI (by omega)]
          · refine hcv.2.1.trans ?_
            unfold s_tun
            rw [s_ups, hnr]
            exact (s_nX_T _ _).symm
          · refine hcv.2.2.trans ?_
            rw [s_tun_o (by omega)]
            exact e2
      · rw [if_neg h2]
        have ep : s_pr ct ns [x] z = ([], s_lnd ct z x.2.2.2) := by rw [s_pr, if_pos h1, if_neg h2]; rfl
        rw [ep]
        refine ⟨by show L.length = (L ++ []).length; rw [List.append_nil], fun j hj => ?_, ?_⟩
        · show s_lnd ct w x.2.2.2 j = s_lnd ct z x.2.2.2 j
          unfold s_lnd s_up
          rw [s_bn_co (ih2 _ (by omega)) (ih2 _ (by omega)), ih2 2 (by omega), ih2 (6 + x.2.2.2) (by omega), ih2 j hj]
        · rw [List.append_nil]
          intro i y hy
          have hi : i < L.length := by
            rcases Nat.lt_or_ge i L.length with h | h
            · exact h
            · rw [List.getElem?_eq_none h] at hy; cases hy
          show s_lnd ct w x.2.2.2 _ = _ ∧ s_lnd ct w x.2.2.2 _ = _ ∧ s_lnd ct w x.2.2.2 _ = _
          rw [s_lnd_o (by omega), s_lnd_o (by omega), s_lnd_o (by omega)]
          exact ih3 i y hy
    · rw [if_neg h1]
      have ep : s_pr ct ns [x] z = ([x], z) := by rw [s_pr, if_neg h1]; rfl
      rw [ep]
      have hcv := s_cp_v w hl
      refine ⟨by show L.length + 1 = (L ++ [_]).length; rw [List.length_append]; rfl, fun j hj => ?_, ?_⟩
      · show s_cp _ _ _ 3 j = _
        rw [s_cp_o _ _ _ _ _ (by omega)]
        exact ih2 j hj
      · refine rowsR_app ih3 (fun j h3 h4 => ?_) ?_ ?_ ?_
        · show s_cp _ _ _ 3 j = _
          rw [s_cp_o _ _ _ _ _ (by omega)]
        · exact hcv.1.trans e0
        · exact hcv.2.1.trans e1
        · exact hcv.2.2.trans e2
end PR6
