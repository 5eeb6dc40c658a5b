/-! ===== PHASE 2: the model's bytes ===== -/
/-- what the model reads at a place -/
def tz_u (b : Nat → Int32) (n i : Nat) : Int32 := if n ≤ i then -1 else b i &&& 255
noncomputable def n1_body : Unit → zP (Unit ⊕ (Unit ⊕ Unit)) := (fun (t3 : Unit) => (z_bd (z_gI 9 75 4) (fun v4 => (z_bd (z_cv 9 75 (p_X9_byteAt 75 v4)) (fun r5 => (z_jn (τ := Unit) (if r5 = 32 then (z_pu (.inl ())) else (z_bd (z_gI 9 75 4) (fun v7 => (z_bd (z_cv 9 75 (p_X9_byteAt 75 v7)) (fun r8 => (if r8 = 10 then (z_pu (.inl ())) else (z_pu (.inr (.inr (.inl ())))))))))) (fun t6 => (z_bd (z_gI 9 75 4) (fun v9 => (z_bd (z_pI 9 75 4 (v9 + 1)) (fun _ => (z_pu (.inl ())))))))))))))
noncomputable def n2_body : Unit → zP (Unit ⊕ (Unit ⊕ Unit)) := (fun (t19 : Unit) => (z_bd (z_gI 9 75 5) (fun v20 => (z_bd (z_cv 9 75 (p_X9_byteAt 75 v20)) (fun r21 => (z_bd (p_X9_within r21 48 57) (fun r22 => (if r22 = 0 then (z_pu (.inr (.inl ()))) else (z_bd (z_gI 9 75 5) (fun v23 => (z_bd (z_gI 9 75 4) (fun v24 => (z_jn (τ := Int32) (if 4 ≤ (v23 - v24) then (z_bd (z_gI 9 75 7) (fun v26 => (z_pu (.inl v26)))) else (z_bd (z_gI 9 75 7) (fun v27 => (z_bd (z_gI 9 75 5) (fun v28 => (z_bd (z_cv 9 75 (p_X9_byteAt 75 v28)) (fun r29 => (z_pu (.inl ((((10 * v27) + r29) - 48))))))))))) (fun t25 => (z_bd (z_pI 9 75 7 t25) (fun _ => (z_bd (z_gI 9 75 5) (fun v30 => (z_bd (z_pI 9 75 5 (v30 + 1)) (fun _ => (z_pu (.inl ()))))))))))))))))))))))
noncomputable def n3_body : Unit → zP (Unit ⊕ (Unit ⊕ Unit)) := (fun (t35 : Unit) => (z_bd (z_gI 9 75 5) (fun v36 => (z_bd (z_cv 9 75 (p_X9_byteAt 75 v36)) (fun r37 => (z_bd (p_X9_within r37 97 122) (fun r38 => (if r38 = 0 then (z_pu (.inr (.inl ()))) else (z_bd (z_gI 9 75 5) (fun v39 => (z_bd (z_pI 9 75 5 (v39 + 1)) (fun _ => (z_pu (.inl ()))))))))))))))
section PA53
variable {β : Type} {M : zM} {F F' : Nat → Nat → Int32} {b : Nat → Int32} {i j k n s e : Nat} {x : Int32}
set_option maxRecDepth 100000 in
theorem by_all : ∀ v : Fin 256, (((Int8.ofBitVec (BitVec.ofFin v)).toInt32 &&& 255) = 32 ↔ (Int8.ofBitVec (BitVec.ofFin v)).toInt32 = 32) ∧ (((Int8.ofBitVec (BitVec.ofFin v)).toInt32 &&& 255) = 10 ↔ (Int8.ofBitVec (BitVec.ofFin v)).toInt32 = 10) ∧ ¬ ((Int8.ofBitVec (BitVec.ofFin v)).toInt32 &&& 255) = -1 ∧ ((97 ≤ ((Int8.ofBitVec (BitVec.ofFin v)).toInt32 &&& 255) ∧ ((Int8.ofBitVec (BitVec.ofFin v)).toInt32 &&& 255) ≤ 122) ↔ (97 ≤ (Int8.ofBitVec (BitVec.ofFin v)).toInt32 ∧ (Int8.ofBitVec (BitVec.ofFin v)).toInt32 ≤ 122)) ∧ ((48 ≤ ((Int8.ofBitVec (BitVec.ofFin v)).toInt32 &&& 255) ∧ ((Int8.ofBitVec (BitVec.ofFin v)).toInt32 &&& 255) ≤ 57) ↔ (48 ≤ (Int8.ofBitVec (BitVec.ofFin v)).toInt32 ∧ (Int8.ofBitVec (BitVec.ofFin v)).toInt32 ≤ 57)) ∧ (tz_sg ((Int8.ofBitVec (BitVec.ofFin v)).toInt32 &&& 255) = tz_sg (Int8.ofBitVec (BitVec.ofFin v)).toInt32) ∧ ((0 ≤ (Int8.ofBitVec (BitVec.ofFin v)).toInt32) → ((Int8.ofBitVec (BitVec.ofFin v)).toInt32 &&& 255) = (Int8.ofBitVec (BitVec.ofFin v)).toInt32) := by decide
theorem by_ok (hx : ∃ y : Int8, x = y.toInt32) : ((x &&& 255) = 32 ↔ x = 32) ∧ ((x &&& 255) = 10 ↔ x = 10) ∧ ¬ (x &&& 255) = -1 ∧ ((97 ≤ (x &&& 255) ∧ (x &&& 255) ≤ 122) ↔ (97 ≤ x ∧ x ≤ 122)) ∧ ((48 ≤ (x &&& 255) ∧ (x &&& 255) ≤ 57) ↔ (48 ≤ x ∧ x ≤ 57)) ∧ (tz_sg (x &&& 255) = tz_sg x) ∧ (0 ≤ x → (x &&& 255) = x) := by
  obtain ⟨y, rfl⟩ := hx
  exact by_all y.toBitVec.toFin
theorem m_by {f : Int32 → zP β} (h : L9 M) (hn : n ≤ 700) (h3 : F 75 3 = nI n) (hb : ∀ j, j < n → F 76 j = b j) (hi : i ≤ 1000) : (z_bd (p_X9_byteAt 75 (nI i)) f).1 (KI M F) = (f (tz_u b n i)).1 (KI M F) := by
  unfold p_X9_byteAt tz_u
  rw [b_bd, kn_gI h, h3]
  by_cases g : n ≤ i
  · rw [if_pos (nI_le g (by omega)), if_pos g]
    rfl
  · rw [if_neg (nI_ge (by omega) (by omega)), if_neg g, b_bd, kn_g76 h, b_bd, kn_a76 h (by omega), hb i (by omega)]
    rfl
/-- blanks -/
theorem m_blank (h : L9 M) (hn : n ≤ 700) (hB : ∀ j, j < n → ∃ y : Int8, b j = y.toInt32) : ∀ f i F, f = n - i → i ≤ n → (∀ j, j < n → F 76 j = b j) → F 75 3 = nI n → F 75 4 = nI i → ∃ F', (z_lp n1_body ()).1 (KI M F) = some (.inr (.inl ()), KI M F') ∧ F' 75 4 = nI (tz_to (tz_ws b) n i) ∧ ∀ y j, ¬ (y = 75 ∧ j = 4) → F' y j = F y j := by
  intro f
  induction f with
  | zero =>
    intro i F hf hi hb h3 h4
    refine ⟨F, z_lp_end ?_, by rw [tz_x (by omega)]; exact h4, fun _ _ _ => rfl⟩
    have eu : tz_u b n i = -1 := if_pos (by omega)
    unfold n1_body
    rw [kn_gI h, h4, kn_cv h, m_by h hn h3 hb (by omega), eu, if_neg (by decide), j_bd, kn_gI h, h4, j_bd, kn_cv h, m_by h hn h3 hb (by omega), eu, if_neg (by decide)]
    rfl
  | succ f ih =>
    intro i F hf hi hb h3 h4
    have hin : i < n := by omega
    have eu : tz_u b n i = b i &&& 255 := if_neg (by omega)
    obtain ⟨q1, q2, _⟩ := by_ok (hB i hin)
    by_cases hw : tz_ws b i = true
    · obtain ⟨F', g1, g2, g3⟩ := ih (i + 1) (z_up2 F 75 4 (nI (i + 1))) (by omega) (by omega) (fun j hj => by rw [u2_row _ _ (by omega)]; exact hb j hj) (by rw [u2_n _ _ (Or.inr (by omega))]; exact h3) (u2_s _ _ _ _)
      have hw' : b i = 32 ∨ b i = 10 := of_decide_eq_true hw
      refine ⟨F', (z_lp_step ?_).trans g1, by rw [tz_s hin hw]; exact g2, fun y j hn => (g3 y j hn).trans (u2_n _ _ (by omega))⟩
      unfold n1_body
      rw [kn_gI h, h4, kn_cv h, m_by h hn h3 hb (by omega), eu]
      by_cases h32 : b i = 32
      · rw [if_pos (q1.mpr h32), j_L, kn_gI h, h4, nI_1, kn_pI h]
        rfl
      · have h10 := hw'.resolve_left h32
        rw [if_neg (fun q => h32 (q1.mp q)), j_bd, kn_gI h, h4, j_bd, kn_cv h, m_by h hn h3 hb (by omega), eu, if_pos (q2.mpr h10), j_L, kn_gI h, h4, nI_1, kn_pI h]
        rfl
    · have hw' : ¬ (b i = 32 ∨ b i = 10) := fun q => hw (decide_eq_true q)
      refine ⟨F, z_lp_end ?_, by rw [tz_n hw]; exact h4, fun _ _ _ => rfl⟩
      unfold n1_body
      rw [kn_gI h, h4, kn_cv h, m_by h hn h3 hb (by omega), eu, if_neg (fun q => hw' (Or.inl (q1.mp q))), j_bd, kn_gI h, h4, j_bd, kn_cv h, m_by h hn h3 hb (by omega), eu, if_neg (fun q => hw' (Or.inr (q2.mp q)))]
      rfl
end PA53
