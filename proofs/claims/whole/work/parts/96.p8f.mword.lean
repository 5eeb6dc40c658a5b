/-! ===== PHASE 2: the model's word ===== -/
noncomputable def h_body : Int64 × Int32 → zP ((Int64 × Int32) ⊕ (Int64 ⊕ Int64)) := (fun (t3 : Int64 × Int32) => (z_bd (z_gI 9 75 6) (fun v4 => (if v4 = 1 then (z_bd (z_gI 9 75 5) (fun v5 => (if v5 ≤ t3.2 then (z_pu (.inr (.inl t3.1))) else (z_bd (z_gA 9 75 1) (fun v6 => (z_bd (z_aI 10 v6 t3.2) (fun v7 => (z_bd (z_pu ((((t3.1 * 32) + ((v7 : Int32).toInt64)) - 96))) (fun x8 => (z_pu (.inl (x8, (t3.2 + 1))))))))))))) else (z_pu (.inr (.inl t3.1)))))))
section PA60
variable {β : Type} {M : zM} {F : Nat → Nat → Int32} {b : Nat → Int32} {x : Nat → Nat} {i j k n s e : Nat}
theorem m_wordh (h : L9 M) (hn : n ≤ 700) (hb : ∀ j, j < n → F 76 j = b j) (h4 : F 75 4 = nI s) (h5 : F 75 5 = nI e) (hse : s ≤ e) (hen : e ≤ n) (h6 : F 75 6 = 1) (hx : ∀ t, t < e - s → b (s + t) = nI (x t + 96) ∧ x t ≤ 26) : (p_X9_wordHere 75).1 (KI M F) = some (.inr (Int64.ofNat (tz_c x (e - s))), KI M F) := by
  unfold p_X9_wordHere
  rw [kn_gI h, h4]
  refine (e_jL (t := Int64.ofNat (tz_c x (e - s))) (M1 := KI M F) ?_).trans ?_
  · refine (lp_cnt (f := h_body) (e - s) (fun t => (Int64.ofNat (tz_c x t), nI (s + t))) (fun _ => KI M F) _ _ (fun t ht => ?_) ?_)
    · obtain ⟨g1, g2⟩ := hx t ht
      unfold h_body
      show (z_bd (z_gI 9 75 6) _).1 _ = _
      rw [kn_gI h, h6, if_pos rfl, kn_gI h, h5, if_neg (nI_ge (by omega) (by omega)), kn_g76 h, kn_a76 h (by omega), hb _ (by omega), g1]
      show (z_pu (.inl ((Int64.ofNat (tz_c x t) * 32 + (nI (x t + 96)).toInt64) - 96, nI (s + t) + 1)) : zP ((Int64 × Int32) ⊕ (Int64 ⊕ Int64))).1 _ = _
      rw [w64 (by omega) (by omega), nI_1, show x t + 96 - 96 = x t by omega]
      rfl
    · unfold h_body
      show (z_bd (z_gI 9 75 6) _).1 _ = _
      rw [kn_gI h, h6, if_pos rfl, kn_gI h, h5, if_pos (nI_le (by omega) (by omega))]
      rfl
  · rw [kn_gI h, h6, if_pos rfl]
    rfl
end PA60
