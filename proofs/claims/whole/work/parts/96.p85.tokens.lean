/-! ===== PHASE 2: tokens of a city text ===== -/
def tz_run (p : Nat → Bool) (n : Nat) : Nat → Nat → Nat
  | 0, i => i
  | f + 1, i => if i < n ∧ p i = true then tz_run p n f (i + 1) else i
/-- the first place from i on that p does not take -/
def tz_to (p : Nat → Bool) (n i : Nat) : Nat := tz_run p n (n - i) i
def tz_ws (b : Nat → Int32) (i : Nat) : Bool := decide (b i = 32 ∨ b i = 10)
def tz_le (b : Nat → Int32) (i : Nat) : Bool := decide (97 ≤ b i ∧ b i ≤ 122)
def tz_di (b : Nat → Int32) (i : Nat) : Bool := decide (48 ≤ b i ∧ b i ≤ 57)
def tz_sg (x : Int32) : Bool := decide (x = 59 ∨ (40 ≤ x ∧ x ≤ 43) ∨ x = 45 ∨ x = 47)
def tz_v (b : Nat → Int32) (s : Nat) : Nat → Int32
  | 0 => 0
  | k + 1 => 10 * tz_v b s k + b (s + k) - 48
/-- the token at a place that is no blank: its end -/
def tz_e (b : Nat → Int32) (n s : Nat) : Nat := if n ≤ s then s else if tz_le b s = true then tz_to (tz_le b) n s else if tz_di b s = true then tz_to (tz_di b) n s else s + 1
noncomputable def l1_body : Unit → zP (Unit ⊕ (Unit ⊕ Unit)) := (fun (t3 : Unit) => (z_bd (z_gI 1 2 5) (fun v4 => (z_bd (z_gI 1 2 4) (fun v5 => (if v5 ≤ v4 then (z_pu (.inr (.inl ()))) else (z_bd (z_gA 1 2 2) (fun v6 => (z_bd (z_gI 1 2 5) (fun v7 => (z_bd (z_aI 10 v6 v7) (fun v8 => (z_jn (τ := Unit) (if v8 = 32 then (z_pu (.inl ())) else (z_bd (z_gA 1 2 2) (fun v10 => (z_bd (z_gI 1 2 5) (fun v11 => (z_bd (z_aI 10 v10 v11) (fun v12 => (if v12 = 10 then (z_pu (.inl ())) else (z_pu (.inr (.inr (.inl ())))))))))))) (fun t9 => (z_bd (z_gI 1 2 5) (fun v13 => (z_bd (z_pI 1 2 5 (v13 + 1)) (fun _ => (z_pu (.inl ()))))))))))))))))))))
section PA50
variable {β : Type} {M : zM} {F F' : Nat → Nat → Int32} {b : Nat → Int32} {i j k n s e : Nat} {p : Nat → Bool} {x : Int32}
theorem tz_s (h : i < n) (hp : p i = true) : tz_to p n i = tz_to p n (i + 1) := by
  unfold tz_to
  rw [show n - i = (n - (i + 1)) + 1 by omega]
  exact if_pos ⟨h, hp⟩
theorem tz_n (hp : ¬ p i = true) : tz_to p n i = i := by
  unfold tz_to
  cases h : n - i with
  | zero => rfl
  | succ f => exact if_neg (fun q => hp q.2)
theorem tz_x (h : n ≤ i) : tz_to p n i = i := by
  unfold tz_to
  rw [show n - i = 0 by omega]
  rfl
theorem tz_b (h : i ≤ n) : i ≤ tz_to p n i ∧ tz_to p n i ≤ n := by
  obtain ⟨f, hf⟩ : ∃ f, f = n - i := ⟨_, rfl⟩
  induction f generalizing i with
  | zero => rw [tz_x (by omega)]; omega
  | succ f ih =>
    by_cases hp : p i = true
    · rw [tz_s (by omega) hp]
      have := ih (i := i + 1) (by omega) (by omega)
      omega
    · rw [tz_n hp]
      omega
theorem kb_aI {f : Int32 → zP β} (h : L0 M) (hk : k < 700) : (z_bd (z_aI 10 1 (nI k)) f).1 (KI M F) = (f (F 1 k)).1 (KI M F) := by
  refine (e_aI (ki_in (F := F) (k0_ar1 h) hk (by decide))).trans ?_
  rw [nI_clamp (by omega)]
  rfl
theorem kb_tx {f : Nat → zP β} (h : L0 M) (hr : z_r M 2 2 = some 1) : (z_bd (z_gA 1 2 2) f).1 (KI M F) = (f 1).1 (KI M F) := ki_gA (k0_is2 h) hr
/-- blanks -/
theorem c_skip (h : L0 M) (hr : z_r M 2 2 = some 1) (hn : n ≤ 700) : ∀ f i F, f = n - i → i ≤ n → (∀ j, j < n → F 1 j = b j) → F 2 4 = nI n → F 2 5 = nI i → ∃ F', (z_lp l1_body ()).1 (KI M F) = some (.inr (.inl ()), KI M F') ∧ F' 2 5 = nI (tz_to (tz_ws b) n i) ∧ ∀ y j, ¬ (y = 2 ∧ j = 5) → F' y j = F y j := by
  intro f
  induction f with
  | zero =>
    intro i F hf hi hb h4 h5
    have e : i = n := by omega
    refine ⟨F, ?_, by rw [tz_x (by omega)]; exact h5, fun _ _ _ => rfl⟩
    refine z_lp_end ?_
    have hle : nI n ≤ nI i := nI_le (by omega) (by omega)
    unfold l1_body
    rw [k0_gI2 h, h5, k0_gI2 h, h4, if_pos hle]
    rfl
  | succ f ih =>
    intro i F hf hi hb h4 h5
    have hin : i < n := by omega
    have hle : ¬ nI n ≤ nI i := nI_ge hin (by omega)
    have e1 : F 1 i = b i := hb i hin
    by_cases hw : tz_ws b i = true
    · obtain ⟨F', g1, g2, g3⟩ := ih (i + 1) (z_up2 F 2 5 (nI (i + 1))) (by omega) (by omega) (fun j hj => by rw [u2_row _ _ (by omega)]; exact hb j hj) (by rw [u2_n _ _ (Or.inr (by omega))]; exact h4) (u2_s _ _ _ _)
      have hw' : b i = 32 ∨ b i = 10 := of_decide_eq_true hw
      refine ⟨F', ?_, by rw [tz_s hin hw]; exact g2, fun y j hn => (g3 y j hn).trans (u2_n _ _ (by omega))⟩
      have hst : (l1_body ()).1 (KI M F) = some (.inr (.inl ()), KI M (z_up2 F 2 5 (nI (i + 1)))) := by
        unfold l1_body
        rw [k0_gI2 h, h5, k0_gI2 h, h4, if_neg hle, kb_tx h hr, k0_gI2 h, h5, kb_aI h (by omega), e1]
        by_cases h32 : b i = 32
        · rw [if_pos h32, j_L, k0_gI2 h, h5, nI_1, k0_pI2 h]
          rfl
        · have h10 := hw'.resolve_left h32
          rw [if_neg h32, j_bd, kb_tx h hr, j_bd, k0_gI2 h, h5, j_bd, kb_aI h (by omega), e1, if_pos h10, j_L, k0_gI2 h, h5, nI_1, k0_pI2 h]
          rfl
      exact (z_lp_step hst).trans g1
    · have hw' : ¬ (b i = 32 ∨ b i = 10) := fun q => hw (decide_eq_true q)
      refine ⟨F, ?_, by rw [tz_n hw]; exact h5, fun _ _ _ => rfl⟩
      have hst : (l1_body ()).1 (KI M F) = some (.inr (.inr (.inl ())), KI M F) := by
        unfold l1_body
        rw [k0_gI2 h, h5, k0_gI2 h, h4, if_neg hle, kb_tx h hr, k0_gI2 h, h5, kb_aI h (by omega), e1, if_neg (fun q => hw' (Or.inl q)), j_bd, kb_tx h hr, j_bd, k0_gI2 h, h5, j_bd, kb_aI h (by omega), e1, if_neg (fun q => hw' (Or.inr q))]
        rfl
      exact z_lp_end hst
end PA50
