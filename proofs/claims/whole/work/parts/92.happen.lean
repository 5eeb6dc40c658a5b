/-! ===== PHASE 2: the class's happen ===== -/
section PRi
variable {β : Type} {M : zM} {F : Nat → Nat → Int32} {ct cd st : Nat → Int32} {a c d j k ns nt np nc T : Nat} {R : List zRd} {l : List Nat}
theorem s_pr_gt (hrd : ∀ p s, p < ns → s < ns → ∃ b, 1 ≤ b ∧ b < 10000 ∧ s_rd ct p s = nI b) (hns : ns ≤ 8) (hT1 : T < 12000) : ∀ (A : List zRd) (st : Nat → Int32), st 0 = nI T → (∀ x ∈ A, okX ns d x ∧ T ≤ x.1) → ∀ y ∈ (s_pr ct ns A st).1, T < y.1
  | [], st, _, _ => fun y hy => by cases hy
  | x :: A, st, h0, h => by
    have hx := h x (List.mem_cons_self ..)
    have hA := fun y hy => h y (List.mem_cons_of_mem x hy)
    unfold s_pr
    split
    · split
      · have ih := s_pr_gt hrd hns hT1 A (s_up st 5 (st 5 + 1)) ((s_upn _ _ (by decide)).trans h0) hA
        intro y hy
        rcases List.mem_cons.mp hy with rfl | hy
        · show T < ix (st 0 + s_nO ct x.2.2.2 (s_near ct st x.2.2.2 1 ns))
          cases hc : s_near ct st x.2.2.2 1 ns with
          | none =>
            show T < ix (st 0 + 1)
            rw [h0, nI_1, ix_nI (by omega)]
            omega
          | some m =>
            obtain ⟨b, hb0, hb1, hb2⟩ := hrd x.2.2.2 m hx.1.2.2.2 (s_near_lt _ _ _ _ _ _ hc).1
            show T < ix (st 0 + s_rd ct x.2.2.2 m)
            rw [h0, hb2, nI_add, ix_nI (by omega)]
            omega
        · exact ih y hy
      · exact s_pr_gt hrd hns hT1 A (s_lnd ct st x.2.2.2) ((s_lnd_o (by have := hx.1.2.2.2; omega)).trans h0) hA
    · rename_i hne
      have ih := s_pr_gt hrd hns hT1 A st h0 hA
      intro y hy
      rcases List.mem_cons.mp hy with rfl | hy
      · have h1 : y.1 ≠ T := fun e => hne (by rw [h0, e])
        have := hx.2
        omega
      · exact ih y hy
theorem s_rd2_co (hm : ∀ j, j < 205 → (s_rl ct ns st k).2 j = (s_pr ct ns R st).2 j) {j : Nat} (hj : j < 204) : s_rd2 ct ns st k j = (s_pr ct ns R st).2 j := by
  unfold s_rd2
  rw [s_upn _ _ (by omega), hm j (by omega)]
theorem kx_hap (hS : RS M F a c ct cd st ns nt np nc d R l) (hn : n_ok ct st ns nt) (hrd : ∀ p s, p < ns → s < ns → ∃ b, 1 ≤ b ∧ b < 10000 ∧ s_rd ct p s = nI b) (hdr : ∀ p s, p < ns → s < ns → ∃ b, b < 8000 ∧ s_dr ct p s = nI b) (hT1 : T < 12000) (hT : st 0 = nI T) (hge : ∀ x ∈ R, T ≤ x.1) (hd : d + s_cnt ct (st 0 - st 0 / 1440 * 1440) np < 768) :
    ∃ G R' l' d', (p_X5_happen a).1 (KI M F) = some (.inr (nI R.length - nI (s_rl ct ns (s_tl ct st nt) R.length).1), KI M G) ∧ RS M G a c ct cd (s_tp ct cd nc (s_rd2 ct ns (s_tl ct st nt) R.length) np) ns nt np nc d' R' l' ∧ n_ok ct (s_tp ct cd nc (s_rd2 ct ns (s_tl ct st nt) R.length) np) ns nt ∧ d' ≤ d + s_cnt ct (st 0 - st 0 / 1440 * 1440) np ∧ s_tp ct cd nc (s_rd2 ct ns (s_tl ct st nt) R.length) np 0 = st 0 ∧ (∀ x ∈ R', T < x.1) ∧ fr5 a c F G := by
  have hrd' : ∀ p s, p < ns → s < ns → ∃ b, b < 10000 ∧ s_rd ct p s = nI b := fun p s hp hs => by
    obtain ⟨b, _, h1, h2⟩ := hrd p s hp hs
    exact ⟨b, h1, h2⟩
  have E := hS.1
  have h8 := EN_ns E
  have hnt := E.2.1.2.1.2.2.2.1
  have hok := hS.2.2.2.2.2.2.2.2
  have hrr := hS.2.2.2.2.2.1
  have hv : ∀ t, t < nt → ∃ q, t_ok st ns t q := fun t ht => by obtain ⟨q, hq⟩ := hS.2.2.2.1 t ht; exact ⟨q, hq.1⟩
  have hz : ∃ z, z < 12000 ∧ st 0 = nI z := ⟨T, hT1, hT⟩
  have ho := (s_tl_ok (ct := ct) (d := nt) (n := ns) (st := st) h8 hv hz hdr nt (Nat.le_refl _)).1
  have hT2 : s_tl ct st nt 0 = nI T := (ho 0 (by omega)).trans hT
  obtain ⟨G1, k1, S1, f1⟩ := kx_tlR hdr hS hz
  have hn1 := n_ok_tl h8 hnt hv hz hdr hn nt (Nat.le_refl _)
  obtain ⟨hm1, hm2, hm3⟩ := s_rl_pr (ct := ct) (st := s_tl ct st nt) h8 hT1 hT2 hrd' (R := R) (fun k x hx => S1.2.2.2.2.2.1 k x hx) (fun x hx => ⟨by have := (hok x hx).1; omega, (hok x hx).2.2⟩) R.length (Nat.le_refl _)
  rw [List.take_length] at hm1 hm2 hm3
  have hto : ∀ x ∈ R, x.2.2.2 < ns := fun x hx => (hok x hx).2.2.2
  have h20 : s_rd2 ct ns (s_tl ct st nt) R.length 0 = st 0 := by
    rw [s_rd2_co hm2 (by decide), s_pr_o h8 (by decide) _ _ hto, hT2, hT]
  have hn2 : n_ok ct (s_rd2 ct ns (s_tl ct st nt) R.length) ns nt := n_ok_co (n_ok_pr h8 hnt R _ hn1 hto) h8 hnt (fun j hj => s_rd2_co hm2 (by omega))
  obtain ⟨G2, l2, k2, S2, f2⟩ := kx_land (f := fun r => z_pu r) S1 hrd' hT1 hT2 hge
  obtain ⟨G3, R3, l3, d3, k3, S3, n3, c3, t3, g3, f3⟩ := kx_tpL (e := nI R.length - nI (s_rl ct ns (s_tl ct st nt) R.length).1) hrd S2 hn2 hT1 (h20.trans hT) (s_pr_gt hrd h8 hT1 R _ hT2 (fun x hx => ⟨hok x hx, hge x hx⟩)) (by rw [h20]; exact hd)
  rw [h20] at c3 t3 k3
  refine ⟨G3, R3, l3, d3, ?_, S3, n3, c3, t3, g3, fun y y1 y2 => (f3 y y1 y2).trans ((f2 y y1 y2).trans (f1 y y1 y2))⟩
  have hL := hS.1.1.1
  have e7 : G2 a 7 = st 0 := S2.1.2.2.2.trans h20
  unfold p_X5_happen
  refine (e_jL k1).trans ?_
  have k2' : (p_X5_landRiders a).1 (KI M G1) = some (.inr (nI R.length - nI (s_rl ct ns (s_tl ct st nt) R.length).1), KI M G2) := by
    have hh := k2
    rw [show z_bd (p_X5_landRiders a) (fun r => z_pu r) = p_X5_landRiders a from ?_] at hh
    · exact hh
    · apply zP_ext
      intro M'
      show z_bdf _ _ M' = _
      unfold z_bdf
      cases (p_X5_landRiders a).1 M' with
      | none => rfl
      | some q =>
        obtain ⟨x, M1⟩ := q
        cases x <;> rfl
  simp (disch := first | assumption | omega | (apply LZ_R; assumption) | (apply LZ_T <;> first | assumption | omega) | (apply LC_F; assumption)) only [ks_cv]
  refine (e_run k2').trans ?_
  simp (disch := first | assumption | omega | (apply LZ_R; assumption) | (apply LZ_T <;> first | assumption | omega) | (apply LC_F; assumption)) only [ks_gI, b_pu, e7]
  exact k3
end PRi
