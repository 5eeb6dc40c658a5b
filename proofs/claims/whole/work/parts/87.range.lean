/-! ===== PHASE 2: the whole relation behind the trucks of a minute ===== -/
section PRd
variable {M : zM} {F : Nat → Nat → Int32} {ct cd st : Nat → Int32} {a c d ns nt np nc : Nat} {R : List zRd} {l : List Nat}
theorem kx_tlR (hdr : ∀ p s, p < ns → s < ns → ∃ b, b < 8000 ∧ s_dr ct p s = nI b) (hS : RS M F a c ct cd st ns nt np nc d R l) (hz : ∃ z, z < 12000 ∧ st 0 = nI z) :
    ∃ G, (z_lp (fun (t2 : Int32) => (z_bd (z_gA 5 a 6) (fun v3 => (z_bd (z_gI 0 v3 11) (fun v4 => (if v4 ≤ t2 then (z_pu (.inr (.inl ()))) else (z_bd (z_gA 5 a 4) (fun v5 => (z_bd (z_aA 14 v5 t2) (fun v6 => (z_bd (z_gI 7 v6 6) (fun v7 => (z_bd (z_gI 5 a 7) (fun v8 => (if v7 = v8 then (z_bd (z_gA 5 a 4) (fun v9 => (z_bd (z_aA 14 v9 t2) (fun v10 => (z_bd (z_cv 5 a (p_X5_arrive a v10)) (fun _ => (z_pu (.inl ((t2 + 1)))))))))) else (z_pu (.inl ((t2 + 1))))))))))))))))))) 0).1 (KI M F) = some (.inr (Sum.inl () : Unit ⊕ Int32), KI M G) ∧ RS M G a c ct cd (s_tl ct st nt) ns nt np nc d R l ∧ fr5 a c F G := by
  obtain ⟨E, hX, hP, hTr, ⟨hr1, hr2, hr3, hr4⟩, hrr, ⟨hl1, hl2, hl3⟩, hrn, hok⟩ := hS
  obtain ⟨G, k1, k2, k3, k4⟩ := kx_tlL hdr E hz hTr
  have h8 := EN_ns E
  have hnt := E.2.1.2.1.2.2.2.1
  have ho := (s_tl_ok (ct := ct) (d := nt) (n := ns) (st := st) h8 (fun t ht => by obtain ⟨q, hq⟩ := hTr t ht; exact ⟨q, hq.1⟩) hz hdr nt (Nat.le_refl _)).1
  refine ⟨G, k1, ⟨k2, ?_, ?_, k3, ⟨?_, ?_, ?_, hr4⟩, ?_, ⟨?_, hl2, hl3⟩, hrn, hok⟩, fun y y1 y2 => k4 y (by omega) (by omega)⟩
  · unfold RX
    rw [k4 _ (by omega) (by omega), ho 1 (by omega), ho 2 (by omega), ho 3 (by omega), ho 4 (by omega), ho 5 (by omega)]
    exact hX
  · intro p hp
    rw [k4 _ (by omega) (by omega), k4 _ (by omega) (by omega), ho _ (by omega), ho _ (by omega)]
    exact hP p hp
  · rw [k4 _ (by omega) (by omega)]; exact hr1
  · rw [ho _ (by omega)]; exact hr2
  · rw [ho _ (by omega)]; exact hr3
  · intro k x hx
    rw [ho _ (by omega), ho _ (by omega), ho _ (by omega)]
    exact hrr k x hx
  · rw [k4 _ (by omega) (by omega)]; exact hl1
/-- stations' numbers and trucks' numbers are in range -/
def b_ok (ct st : Nat → Int32) (ns : Nat) : Prop := ∀ k, k < ns → ∃ b x e, st (6 + k) = nI b ∧ st (14 + k) = nI x ∧ ct (26 + k) = nI e ∧ b + x ≤ e ∧ e ≤ 20
def l_ok (ct st : Nat → Int32) (nt : Nat) : Prop := ∀ t, t < nt → ∃ u v, s_tr st t 4 = nI u ∧ ct (45 + t) = nI v ∧ u ≤ v ∧ v ≤ 20
def o_ok (st : Nat → Int32) (t q : Nat) : Prop := (∃ x, x ≤ 20 ∧ s_tr st t 3 = nI x) ∧ ∀ i, i < q → ∃ x, x ≤ 20 ∧ s_tr st t (7 + 2 * i) = nI x
theorem nI_neg_sub {x y : Nat} (h : x ≤ y) : -(nI x - nI y) = nI (y - x) := by
  rw [Int32.neg_sub, nI_sub h]
/-- what a truck moves: up or down, in range -/
theorem s_mv_ok {t s x b br e u v : Nat} (hb : st (6 + s) = nI b) (hbr : st (14 + s) = nI br) (he : ct (26 + s) = nI e) (h1 : b + br ≤ e) (h2 : e ≤ 20) (hu : s_tr st t 4 = nI u) (hv : ct (45 + t) = nI v) (huv : u ≤ v) (hv2 : v ≤ 20) (hx : x ≤ 20) :
    (∃ m, m ≤ u ∧ b + m + br ≤ e ∧ s_mv ct st t s (nI x) = nI m) ∨ (∃ m, m ≤ b ∧ u + m ≤ v ∧ s_mv ct st t s (nI x) = - nI m) := by
  have hfr : s_fr ct st s = nI (e - br - b) := by
    unfold s_fr s_wk
    rw [hb, hbr, he, nI_sub (by omega), nI_sub (by omega)]
  unfold s_mv
  rw [hb]
  by_cases hxb : x ≤ b
  · have hle : nI x - nI b ≤ 0 := by
      have e1 := nI_neg_sub hxb
      have e2 : nI x - nI b = - nI (b - x) := by rw [← e1, Int32.neg_neg]
      rw [e2, i_le, Int32.toInt_neg, nI_toInt (by omega)]
      rw [show ((-((b - x : Nat) : Int)).bmod (2 ^ 32)) = -((b - x : Nat) : Int) from Int.bmod_eq_of_le (by omega) (by omega)]
      have : (0 : Int32).toInt = 0 := rfl
      omega
    rw [if_pos hle, nI_neg_sub hxb, hv, hu, nI_sub huv, le3_a]
    right
    by_cases hc : v - u < b - x
    · rw [if_pos (nI_lt hc (by omega))]
      exact ⟨v - u, by omega, by omega, rfl⟩
    · rw [if_neg (nI_nlt (by omega) (by omega))]
      exact ⟨b - x, by omega, by omega, rfl⟩
  · have hs : nI x - nI b = nI (x - b) := nI_sub (by omega)
    rw [hs, if_neg (nI_nle (by omega) (by omega)), hu, hfr, le3_b]
    left
    by_cases hc : e - br - b < u
    · rw [if_pos (nI_lt hc (by omega))]
      by_cases hc2 : e - br - b < x - b
      · rw [if_pos (nI_lt hc2 (by omega))]
        exact ⟨e - br - b, by omega, by omega, rfl⟩
      · rw [if_neg (nI_nlt (by omega) (by omega))]
        exact ⟨x - b, by omega, by omega, rfl⟩
    · rw [if_neg (nI_nlt (by omega) (by omega))]
      by_cases hc2 : u < x - b
      · rw [if_pos (nI_lt hc2 (by omega))]
        exact ⟨u, by omega, by omega, rfl⟩
      · rw [if_neg (nI_nlt (by omega) (by omega))]
        exact ⟨x - b, by omega, by omega, rfl⟩
end PRd
