/-! ===== the pure machine: a memory of numbered cells, and programs over it ===== -/
/-- cells and slots so far; kind and length of each cell; what it holds: ints, references, longs -/
abbrev zM : Type := (Nat × Nat) × ((Nat → Nat) × (Nat → Nat)) × ((Nat → Nat → Int32) × (Nat → Nat → Option Nat) × (Nat → Nat → Int64))
def z_nx (M : zM) : Nat := M.1.1
def z_sl (M : zM) : Nat := M.1.2
def z_kd (M : zM) : Nat → Nat := M.2.1.1
def z_ln (M : zM) : Nat → Nat := M.2.1.2
def z_i (M : zM) : Nat → Nat → Int32 := M.2.2.1
def z_r (M : zM) : Nat → Nat → Option Nat := M.2.2.2.1
def z_j (M : zM) : Nat → Nat → Int64 := M.2.2.2.2
def z_up2 {α : Type} (f : Nat → Nat → α) (a k : Nat) (v : α) : Nat → Nat → α := fun b j => if b = a ∧ j = k then v else f b j
def z_up1 {α : Type} (f : Nat → α) (a : Nat) (v : α) : Nat → α := fun b => if b = a then v else f b
def z_wi (M : zM) (a k : Nat) (v : Int32) : zM := (M.1, M.2.1, z_up2 (z_i M) a k v, z_r M, z_j M)
def z_wr (M : zM) (a k : Nat) (v : Option Nat) : zM := (M.1, M.2.1, z_i M, z_up2 (z_r M) a k v, z_j M)
def z_wj (M : zM) (a k : Nat) (v : Int64) : zM := (M.1, M.2.1, z_i M, z_r M, z_up2 (z_j M) a k v)
/-- a whole row of ints -/
def z_wI (M : zM) (a : Nat) (g : Nat → Int32) : zM := (M.1, M.2.1, z_up1 (z_i M) a g, z_r M, z_j M)
/-- a new cell of a kind, its length, its slots -/
def z_mk (M : zM) (kind len slots : Nat) : zM := ((z_nx M + 1, z_sl M + slots), (z_up1 (z_kd M) (z_nx M) kind, z_up1 (z_ln M) (z_nx M) len), (z_up1 (z_i M) (z_nx M) (fun _ => 0), z_up1 (z_r M) (z_nx M) (fun _ => none), z_up1 (z_j M) (z_nx M) (fun _ => 0)))
theorem z_mem_eqs : (∀ M a k v, z_nx (z_wi M a k v) = z_nx M) ∧ (∀ M a k v, z_sl (z_wi M a k v) = z_sl M) ∧ (∀ M a k v, z_kd (z_wi M a k v) = z_kd M) ∧ (∀ M a k v, z_ln (z_wi M a k v) = z_ln M) ∧ (∀ M a k v, z_i (z_wi M a k v) = z_up2 (z_i M) a k v) ∧ (∀ M a k v, z_r (z_wi M a k v) = z_r M) ∧ (∀ M a k v, z_j (z_wi M a k v) = z_j M)
    ∧ (∀ M a k v, z_nx (z_wr M a k v) = z_nx M) ∧ (∀ M a k v, z_sl (z_wr M a k v) = z_sl M) ∧ (∀ M a k v, z_kd (z_wr M a k v) = z_kd M) ∧ (∀ M a k v, z_ln (z_wr M a k v) = z_ln M) ∧ (∀ M a k v, z_i (z_wr M a k v) = z_i M) ∧ (∀ M a k v, z_r (z_wr M a k v) = z_up2 (z_r M) a k v) ∧ (∀ M a k v, z_j (z_wr M a k v) = z_j M)
    ∧ (∀ M a k v, z_nx (z_wj M a k v) = z_nx M) ∧ (∀ M a k v, z_sl (z_wj M a k v) = z_sl M) ∧ (∀ M a k v, z_kd (z_wj M a k v) = z_kd M) ∧ (∀ M a k v, z_ln (z_wj M a k v) = z_ln M) ∧ (∀ M a k v, z_i (z_wj M a k v) = z_i M) ∧ (∀ M a k v, z_r (z_wj M a k v) = z_r M) ∧ (∀ M a k v, z_j (z_wj M a k v) = z_up2 (z_j M) a k v)
    ∧ (∀ M a g, z_nx (z_wI M a g) = z_nx M) ∧ (∀ M a g, z_sl (z_wI M a g) = z_sl M) ∧ (∀ M a g, z_kd (z_wI M a g) = z_kd M) ∧ (∀ M a g, z_ln (z_wI M a g) = z_ln M) ∧ (∀ M a g, z_i (z_wI M a g) = z_up1 (z_i M) a g) ∧ (∀ M a g, z_r (z_wI M a g) = z_r M) ∧ (∀ M a g, z_j (z_wI M a g) = z_j M)
    ∧ (∀ M k n s, z_nx (z_mk M k n s) = z_nx M + 1) ∧ (∀ M k n s, z_sl (z_mk M k n s) = z_sl M + s) ∧ (∀ M k n s, z_kd (z_mk M k n s) = z_up1 (z_kd M) (z_nx M) k) ∧ (∀ M k n s, z_ln (z_mk M k n s) = z_up1 (z_ln M) (z_nx M) n) ∧ (∀ M k n s, z_i (z_mk M k n s) = z_up1 (z_i M) (z_nx M) (fun _ => 0)) ∧ (∀ M k n s, z_r (z_mk M k n s) = z_up1 (z_r M) (z_nx M) (fun _ => none)) ∧ (∀ M k n s, z_j (z_mk M k n s) = z_up1 (z_j M) (z_nx M) (fun _ => 0)) := by
  refine ⟨?_, ?_, ?_, ?_, ?_, ?_, ?_, ?_, ?_, ?_, ?_, ?_, ?_, ?_, ?_, ?_, ?_, ?_, ?_, ?_, ?_, ?_, ?_, ?_, ?_, ?_, ?_, ?_, ?_, ?_, ?_, ?_, ?_, ?_, ?_⟩ <;> intros <;> rfl
/-- what a program gives: a thrown class or an answer, and the memory; none: the machine's own throw, or no end -/
abbrev zR (α : Type) : Type := Option ((String ⊕ α) × zM)
def z_le (M M' : zM) : Prop := z_nx M ≤ z_nx M' ∧ z_sl M ≤ z_sl M'
theorem z_le.rf (M : zM) : z_le M M := ⟨Nat.le_refl _, Nat.le_refl _⟩
theorem z_le.tr {A B C : zM} (h : z_le A B) (k : z_le B C) : z_le A C := ⟨Nat.le_trans h.1 k.1, Nat.le_trans h.2 k.2⟩
def z_mono {α : Type} (f : zM → zR α) : Prop := ∀ M r M', f M = some (r, M') → z_le M M'
abbrev zP (α : Type) : Type := { f : zM → zR α // z_mono f }
section ZP
variable {α β σ : Type}
def z_pu (a : α) : zP α := ⟨fun M => some (.inr a, M), fun M r M' h => by cases h; exact z_le.rf _⟩
def z_fl : zP α := ⟨fun _ => none, fun M r M' h => by cases h⟩
def z_bdf (p : zM → zR α) (k : α → zM → zR β) (M : zM) : zR β := match p M with
  | none => none
  | some (.inl E, M1) => some (.inl E, M1)
  | some (.inr a, M1) => k a M1
theorem z_bdf_inv {p : zM → zR α} {k : α → zM → zR β} {M M2 : zM} {r : String ⊕ β} (h : z_bdf p k M = some (r, M2)) : (∃ a M1, p M = some (.inr a, M1) ∧ k a M1 = some (r, M2)) ∨ (∃ E, p M = some (.inl E, M2) ∧ r = .inl E) := by
  unfold z_bdf at h
  cases hp : p M with
  | none => rw [hp] at h; cases h
  | some q =>
    obtain ⟨x, M1⟩ := q
    rw [hp] at h
    cases x with
    | inl E => cases h; exact Or.inr ⟨E, rfl, rfl⟩
    | inr a => exact Or.inl ⟨a, M1, rfl, h⟩
def z_bd (p : zP α) (k : α → zP β) : zP β := ⟨z_bdf p.1 (fun a => (k a).1), fun M r M' h => by
  rcases z_bdf_inv h with ⟨a, M1, h1, h2⟩ | ⟨E, h1, -⟩
  · exact (p.2 _ _ _ h1).tr ((k a).2 _ _ _ h2)
  · exact p.2 _ _ _ h1⟩
theorem z_bd_inv {p : zP α} {k : α → zP β} {M M2 : zM} {r : String ⊕ β} (h : (z_bd p k).1 M = some (r, M2)) : (∃ a M1, p.1 M = some (.inr a, M1) ∧ (k a).1 M1 = some (r, M2)) ∨ (∃ E, p.1 M = some (.inl E, M2) ∧ r = .inl E) := z_bdf_inv h
theorem z_bd_of {p : zP α} {k : α → zP β} {M M1 : zM} {a : α} (h : p.1 M = some (.inr a, M1)) : (z_bd p k).1 M = (k a).1 M1 := by
  show z_bdf p.1 (fun a => (k a).1) M = _
  unfold z_bdf
  rw [h]
theorem z_bd_th {p : zP α} {k : α → zP β} {M M1 : zM} {E : String} (h : p.1 M = some (.inl E, M1)) : (z_bd p k).1 M = some (.inl E, M1) := by
  show z_bdf p.1 (fun a => (k a).1) M = _
  unfold z_bdf
  rw [h]
/-- a test, ahead of a program -/
def z_gd (c : zM → Prop) [DecidablePred c] (p : zP α) : zP α := ⟨fun M => if c M then p.1 M else none, fun M r M' h => by
  have h : (if c M then p.1 M else none) = some (r, M') := h
  by_cases hc : c M
  · rw [if_pos hc] at h; exact p.2 _ _ _ h
  · rw [if_neg hc] at h; cases h⟩
/-- a step that keeps cells and slots -/
def z_st (f : zM → α × zM) (hf : ∀ M, z_le M (f M).2) : zP α := ⟨fun M => some (.inr (f M).1, (f M).2), fun M r M' h => by cases h; exact hf M⟩
abbrev z_is (c a : Nat) (M : zM) : Prop := a < z_nx M ∧ z_kd M a = c
abbrev z_in (c a : Nat) (i : Int32) (M : zM) : Prop := a < z_nx M ∧ z_kd M a = c ∧ ¬ i < 0 ∧ i.toNatClampNeg < z_ln M a
def z_gI (c a k : Nat) : zP Int32 := z_gd (z_is c a) (z_st (fun M => (z_i M a k, M)) z_le.rf)
def z_gR (c a k : Nat) : zP (Option Nat) := z_gd (z_is c a) (z_st (fun M => (z_r M a k, M)) z_le.rf)
def z_pI (c a k : Nat) (v : Int32) : zP Unit := z_gd (z_is c a) (z_st (fun M => ((), z_wi M a k v)) z_le.rf)
def z_pZ (c a k : Nat) (v : Int32) : zP Unit := z_gd (fun M => z_is c a M ∧ (v = 0 ∨ v = 1)) (z_st (fun M => ((), z_wi M a k v)) z_le.rf)
def z_pR (c a k : Nat) (v : Option Nat) : zP Unit := z_gd (z_is c a) (z_st (fun M => ((), z_wr M a k v)) z_le.rf)
def z_aI (c a : Nat) (i : Int32) : zP Int32 := z_gd (z_in c a i) (z_st (fun M => (z_i M a i.toNatClampNeg, M)) z_le.rf)
def z_aR (c a : Nat) (i : Int32) : zP (Option Nat) := z_gd (z_in c a i) (z_st (fun M => (z_r M a i.toNatClampNeg, M)) z_le.rf)
def z_aJ (c a : Nat) (i : Int32) : zP Int64 := z_gd (z_in c a i) (z_st (fun M => (z_j M a i.toNatClampNeg, M)) z_le.rf)
def z_sI (c a : Nat) (i v : Int32) : zP Unit := z_gd (z_in c a i) (z_st (fun M => ((), z_wi M a i.toNatClampNeg v)) z_le.rf)
def z_sJ (c a : Nat) (i : Int32) (v : Int64) : zP Unit := z_gd (z_in c a i) (z_st (fun M => ((), z_wj M a i.toNatClampNeg v)) z_le.rf)
/-- a reference, to an object of kind e, into an array of references -/
def z_sR (c e a : Nat) (i : Int32) (v : Nat) : zP Unit := z_gd (fun M => z_in c a i M ∧ z_is e v M) (z_st (fun M => ((), z_wr M a i.toNatClampNeg (some v))) z_le.rf)
def z_al (c a : Nat) : zP Int32 := z_gd (z_is c a) (z_st (fun M => (nI (z_ln M a), M)) z_le.rf)
/-- a new object of kind c with n fields -/
def z_nw (c n : Nat) : zP Nat := z_st (fun M => (z_nx M, z_mk M c 0 n)) (fun M => ⟨Nat.le_succ _, Nat.le_add_right _ _⟩)
/-- a new array of kind c with n places -/
def z_na (c : Nat) (n : Int32) : zP Nat := z_gd (fun _ => ¬ n < 0 ∧ n.toNatClampNeg ≤ 67108864) (z_st (fun M => (z_nx M, z_mk M c n.toNatClampNeg n.toNatClampNeg)) (fun M => ⟨Nat.le_succ _, Nat.le_add_right _ _⟩))
/-- System.arraycopy of ints -/
def z_cp (a0 : Nat) (sp : Int32) (a : Nat) (dp n : Int32) : zP Unit := z_gd (fun M => z_is 11 a0 M ∧ z_is 11 a M ∧ ¬ sp < 0 ∧ ¬ dp < 0 ∧ ¬ n < 0 ∧ sp.toNatClampNeg + n.toNatClampNeg ≤ z_ln M a0 ∧ dp.toNatClampNeg + n.toNatClampNeg ≤ z_ln M a)
  (z_st (fun M => ((), z_wI M a (va_cpy (z_i M a0) (z_i M a) sp.toNatClampNeg dp.toNatClampNeg n.toNatClampNeg))) z_le.rf)
def z_th (E : String) : zP α := ⟨fun M => some (.inl E, z_mk M 99 0 6), fun M r M' h => by cases h; exact ⟨Nat.le_succ _, Nat.le_add_right _ _⟩⟩
/-- a call on an object of kind c -/
def z_cv (c a : Nat) (p : zP α) : zP α := z_gd (z_is c a) p
/-- not null -/
def z_nn (r : Option Nat) (k : Nat → zP α) : zP α := match r with
  | none => z_fl
  | some a => k a
/-- not 0 -/
def z_nz (y : Int32) (p : zP α) : zP α := if y = 0 then z_fl else p
/-- a boolean answer -/
def z_rz (v : Int32) : zP Int32 := if v = 0 ∨ v = 1 then z_pu v else z_fl
/-- out of a loop -/
def z_ex (p : zP β) : zP (σ ⊕ β) := z_bd p (fun r => z_pu (.inr r))
def z_lpN : Nat → (σ → zP (σ ⊕ β)) → σ → zP β
  | 0, _, _ => z_fl
  | n + 1, f, s => z_bd (f s) (fun r => match r with
    | .inl s' => z_lpN n f s'
    | .inr b => z_pu b)
theorem z_lpN_up (f : σ → zP (σ ⊕ β)) : ∀ (n : Nat) (s : σ) (M : zM) (r : (String ⊕ β) × zM), (z_lpN n f s).1 M = some r → (z_lpN (n + 1) f s).1 M = some r
  | 0, _, _, _, h => by cases h
  | n + 1, s, M, r, h => by
    obtain ⟨r, M2⟩ := r
    rcases z_bd_inv h with ⟨a, M1, h1, h2⟩ | ⟨E, h1, h2⟩
    · refine (z_bd_of h1).trans ?_
      cases a with
      | inl s' => exact z_lpN_up f n s' M1 _ h2
      | inr b => exact h2
    · subst h2
      exact z_bd_th h1
theorem z_lpN_le (f : σ → zP (σ ⊕ β)) {n k : Nat} (hk : n ≤ k) {s : σ} {M : zM} {r : (String ⊕ β) × zM} (h : (z_lpN n f s).1 M = some r) : (z_lpN k f s).1 M = some r := by
  induction hk with
  | refl => exact h
  | step _ ih => exact z_lpN_up f _ s M r ih
theorem z_lpN_det (f : σ → zP (σ ⊕ β)) {n k : Nat} {s : σ} {M : zM} {r r' : (String ⊕ β) × zM} (h : (z_lpN n f s).1 M = some r) (h' : (z_lpN k f s).1 M = some r') : r = r' := by
  have a := z_lpN_le f (Nat.le_max_left n k) h
  have b := z_lpN_le f (Nat.le_max_right n k) h'
  exact Option.some.inj (a.symm.trans b)
noncomputable def z_lpf (f : σ → zP (σ ⊕ β)) (s : σ) (M : zM) : zR β := @dite (zR β) (∃ n r, (z_lpN n f s).1 M = some r) (Classical.propDecidable _) (fun h => some (Classical.choose (Classical.choose_spec h))) (fun _ => none)
theorem z_lpf_iff (f : σ → zP (σ ⊕ β)) (s : σ) (M : zM) (r : (String ⊕ β) × zM) : z_lpf f s M = some r ↔ ∃ n, (z_lpN n f s).1 M = some r := by
  unfold z_lpf
  by_cases h : ∃ n r, (z_lpN n f s).1 M = some r
  · rw [dif_pos h]
    constructor
    · intro e
      cases e
      exact ⟨_, Classical.choose_spec (Classical.choose_spec h)⟩
    · rintro ⟨n, hn⟩
      exact congrArg some (z_lpN_det f (Classical.choose_spec (Classical.choose_spec h)) hn)
  · rw [dif_neg h]
    constructor
    · intro e; cases e
    · rintro ⟨n, hn⟩; exact absurd ⟨n, r, hn⟩ h
/-- a loop: the body gives the next state, or the end -/
noncomputable def z_lp (f : σ → zP (σ ⊕ β)) (s : σ) : zP β := ⟨z_lpf f s, fun M r M' h => by
  obtain ⟨n, hn⟩ := (z_lpf_iff f s M (r, M')).mp h
  exact (z_lpN n f s).2 _ _ _ hn⟩
theorem z_lp_iff (f : σ → zP (σ ⊕ β)) (s : σ) (M : zM) (r : (String ⊕ β) × zM) : (z_lp f s).1 M = some r ↔ ∃ n, (z_lpN n f s).1 M = some r := z_lpf_iff f s M r
theorem z_lp_step {f : σ → zP (σ ⊕ β)} {s s' : σ} {M M1 : zM} (h : (f s).1 M = some (.inr (.inl s'), M1)) : (z_lp f s).1 M = (z_lp f s').1 M1 := by
  apply Option.ext
  intro r
  show (z_lp f s).1 M = some r ↔ (z_lp f s').1 M1 = some r
  rw [z_lp_iff, z_lp_iff]
  constructor
  · rintro ⟨n, hn⟩
    cases n with
    | zero => cases hn
    | succ n => exact ⟨n, ((z_bd_of h).symm.trans hn)⟩
  · rintro ⟨n, hn⟩
    exact ⟨n + 1, (z_bd_of h).trans hn⟩
theorem z_lp_end {f : σ → zP (σ ⊕ β)} {s : σ} {b : β} {M M1 : zM} (h : (f s).1 M = some (.inr (.inr b), M1)) : (z_lp f s).1 M = some (.inr b, M1) := by
  rw [z_lp_iff]
  exact ⟨1, (z_bd_of h).trans rfl⟩
theorem z_lp_thr {f : σ → zP (σ ⊕ β)} {s : σ} {E : String} {M M1 : zM} (h : (f s).1 M = some (.inl E, M1)) : (z_lp f s).1 M = some (.inl E, M1) := by
  rw [z_lp_iff]
  exact ⟨1, z_bd_th h⟩
end ZP
