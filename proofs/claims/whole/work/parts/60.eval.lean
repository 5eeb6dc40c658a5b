/-! ===== PHASE 2: the pure programs. Evaluation rules ===== -/
section PE
variable {α β γ τ σ : Type} {M : zM}
theorem zP_ext {p q : zP α} (h : ∀ M, p.1 M = q.1 M) : p = q := Subtype.ext (funext h)
theorem e_pu (a : α) (M : zM) : (z_pu a).1 M = some (.inr a, M) := rfl
theorem e_fl (M : zM) : (z_fl : zP α).1 M = none := rfl
theorem e_th (E : String) (M : zM) : (z_th E : zP α).1 M = some (.inl E, z_mk M 99 0 6) := rfl
theorem e_ite {c : Prop} [Decidable c] (p q : zP α) (M : zM) : (if c then p else q).1 M = if c then p.1 M else q.1 M := by split <;> rfl
/-! programs, put straight -/
theorem b_pu (a : α) (k : α → zP β) : z_bd (z_pu a) k = k a := rfl
theorem b_fl (k : α → zP β) : z_bd z_fl k = z_fl := rfl
theorem b_th (E : String) (k : α → zP β) : z_bd (z_th E) k = z_th E := rfl
theorem b_ite {c : Prop} [Decidable c] (p q : zP α) (k : α → zP β) : z_bd (if c then p else q) k = if c then z_bd p k else z_bd q k := by split <;> rfl
theorem b_bd (p : zP α) (k : α → zP β) (g : β → zP γ) : z_bd (z_bd p k) g = z_bd p (fun a => z_bd (k a) g) := by
  apply zP_ext
  intro M
  show z_bdf (z_bdf p.1 (fun a => (k a).1)) (fun a => (g a).1) M = z_bdf p.1 (fun a => z_bdf (k a).1 (fun b => (g b).1)) M
  unfold z_bdf
  cases p.1 M with
  | none => rfl
  | some q =>
    obtain ⟨x, M1⟩ := q
    cases x <;> rfl
theorem z_cv_pos {c a : Nat} {p : zP α} (h : z_is c a M) : (z_cv c a p).1 M = p.1 M := if_pos h
theorem z_cv_neg {c a : Nat} {p : zP α} (h : ¬ z_is c a M) : (z_cv c a p).1 M = none := if_neg h
theorem b_cv (c a : Nat) (p : zP α) (k : α → zP β) : z_bd (z_cv c a p) k = z_cv c a (z_bd p k) := by
  apply zP_ext
  intro M
  by_cases hc : z_is c a M
  · rw [z_cv_pos hc]
    show z_bdf (z_cv c a p).1 (fun a => (k a).1) M = z_bdf p.1 (fun a => (k a).1) M
    unfold z_bdf
    rw [z_cv_pos hc]
  · rw [z_cv_neg hc]
    show z_bdf (z_cv c a p).1 (fun a => (k a).1) M = none
    unfold z_bdf
    rw [z_cv_neg hc]
theorem j_L (t : τ) (k : τ → zP β) : z_jn (z_pu (.inl t)) k = k t := rfl
theorem j_R (b : β) (k : τ → zP β) : z_jn (z_pu (.inr b)) k = z_pu b := rfl
theorem j_ite {c : Prop} [Decidable c] (p q : zP (τ ⊕ β)) (k : τ → zP β) : z_jn (if c then p else q) k = if c then z_jn p k else z_jn q k := by split <;> rfl
theorem j_bd (p : zP α) (f : α → zP (τ ⊕ β)) (k : τ → zP β) : z_jn (z_bd p f) k = z_bd p (fun a => z_jn (f a) k) := b_bd p f _
theorem j_th (E : String) (k : τ → zP β) : z_jn (z_th E) k = z_th E := rfl
theorem j_fl (k : τ → zP β) : z_jn z_fl k = z_fl := rfl
/-! runs -/
theorem e_run {p : zP α} {k : α → zP β} {M1 : zM} {a : α} (h : p.1 M = some (.inr a, M1)) : (z_bd p k).1 M = (k a).1 M1 := z_bd_of h
theorem e_thr {p : zP α} {k : α → zP β} {M1 : zM} {E : String} (h : p.1 M = some (.inl E, M1)) : (z_bd p k).1 M = some (.inl E, M1) := z_bd_th h
theorem e_gs {α β : Type} {c : zM → Prop} [DecidablePred c] {f : zM → α × zM} {hf : ∀ M, z_le M (f M).2} {k : α → zP β} {M : zM} (h : c M) : (z_bd (z_gd c (z_st f hf)) k).1 M = (k (f M).1).1 (f M).2 := by
  apply e_run
  show (if c M then _ else none) = _
  rw [if_pos h]
  rfl
theorem e_gI {c a k : Nat} {f : Int32 → zP β} (h : z_is c a M) : (z_bd (z_gI c a k) f).1 M = (f (z_i M a k)).1 M := e_gs h
theorem e_pI {c a k : Nat} {v : Int32} {f : Unit → zP β} (h : z_is c a M) : (z_bd (z_pI c a k v) f).1 M = (f ()).1 (z_wi M a k v) := e_gs h
theorem e_pZ {c a k : Nat} {v : Int32} {f : Unit → zP β} (h : z_is c a M) (hv : v = 0 ∨ v = 1) : (z_bd (z_pZ c a k v) f).1 M = (f ()).1 (z_wi M a k v) := e_gs ⟨h, hv⟩
theorem e_pR {c a k : Nat} {v : Option Nat} {f : Unit → zP β} (h : z_is c a M) : (z_bd (z_pR c a k v) f).1 M = (f ()).1 (z_wr M a k v) := e_gs h
theorem e_gA {c a k v : Nat} {f : Nat → zP β} (h : z_is c a M) (hr : z_r M a k = some v) : (z_bd (z_gA c a k) f).1 M = (f v).1 M := by
  apply e_run
  refine (e_gs h).trans ?_
  show (z_nn (z_r M a k) z_pu).1 M = _
  rw [hr]
  rfl
theorem e_aI {c a : Nat} {i : Int32} {f : Int32 → zP β} (h : z_in c a i M) : (z_bd (z_aI c a i) f).1 M = (f (z_i M a i.toNatClampNeg)).1 M := e_gs h
theorem e_aJ {c a : Nat} {i : Int32} {f : Int64 → zP β} (h : z_in c a i M) : (z_bd (z_aJ c a i) f).1 M = (f (z_j M a i.toNatClampNeg)).1 M := e_gs h
theorem e_aR {c a : Nat} {i : Int32} {f : Option Nat → zP β} (h : z_in c a i M) : (z_bd (z_aR c a i) f).1 M = (f (z_r M a i.toNatClampNeg)).1 M := e_gs h
theorem e_aA {c a v : Nat} {i : Int32} {f : Nat → zP β} (h : z_in c a i M) (hr : z_r M a i.toNatClampNeg = some v) : (z_bd (z_aA c a i) f).1 M = (f v).1 M := by
  apply e_run
  refine (e_gs h).trans ?_
  show (z_nn (z_r M a i.toNatClampNeg) z_pu).1 M = _
  rw [hr]
  rfl
theorem e_sI {c a : Nat} {i v : Int32} {f : Unit → zP β} (h : z_in c a i M) : (z_bd (z_sI c a i v) f).1 M = (f ()).1 (z_wi M a i.toNatClampNeg v) := e_gs h
theorem e_sJ {c a : Nat} {i : Int32} {v : Int64} {f : Unit → zP β} (h : z_in c a i M) : (z_bd (z_sJ c a i v) f).1 M = (f ()).1 (z_wj M a i.toNatClampNeg v) := e_gs h
theorem e_sB {a : Nat} {i v : Int32} {f : Unit → zP β} (h : z_in 10 a i M) : (z_bd (z_sB a i v) f).1 M = (f ()).1 (z_wi M a i.toNatClampNeg v.toInt8.toInt32) := e_gs h
theorem e_sZ {a : Nat} {i v : Int32} {f : Unit → zP β} (h : z_in 12 a i M) (hv : v = 0 ∨ v = 1) : (z_bd (z_sZ a i v) f).1 M = (f ()).1 (z_wi M a i.toNatClampNeg v) := e_gs ⟨h, hv⟩
theorem e_sR {c e a v : Nat} {i : Int32} {f : Unit → zP β} (h : z_in c a i M) (hv : z_is e v M) : (z_bd (z_sR c e a i v) f).1 M = (f ()).1 (z_wr M a i.toNatClampNeg (some v)) := e_gs ⟨h, hv⟩
theorem e_al {c a : Nat} {f : Int32 → zP β} (h : z_is c a M) : (z_bd (z_al c a) f).1 M = (f (nI (z_ln M a))).1 M := e_gs h
theorem e_nw {c n : Nat} {f : Nat → zP β} : (z_bd (z_nw c n) f).1 M = (f (z_nx M)).1 (z_mk M c 0 n) := rfl
theorem e_na {c : Nat} {n : Int32} {f : Nat → zP β} (h : ¬ n < 0 ∧ n.toNatClampNeg ≤ 67108864) : (z_bd (z_na c n) f).1 M = (f (z_nx M)).1 (z_mk M c n.toNatClampNeg n.toNatClampNeg) := e_gs h
theorem e_cp {a0 a : Nat} {sp dp n : Int32} {f : Unit → zP β} (h : z_is 11 a0 M ∧ z_is 11 a M ∧ ¬ sp < 0 ∧ ¬ dp < 0 ∧ ¬ n < 0 ∧ sp.toNatClampNeg + n.toNatClampNeg ≤ z_ln M a0 ∧ dp.toNatClampNeg + n.toNatClampNeg ≤ z_ln M a) :
    (z_bd (z_cp a0 sp a dp n) f).1 M = (f ()).1 (z_wI M a (va_cpy (z_i M a0) (z_i M a) sp.toNatClampNeg dp.toNatClampNeg n.toNatClampNeg)) := e_gs h
theorem e_cv {c a : Nat} {p : zP α} {k : α → zP β} (h : z_is c a M) : (z_bd (z_cv c a p) k).1 M = (z_bd p k).1 M := by
  rw [b_cv]
  show (if z_is c a M then _ else none) = _
  rw [if_pos h]
theorem e_nz {y : Int32} {p : zP α} (h : ¬ y = 0) : (z_nz y p).1 M = p.1 M := by unfold z_nz; rw [if_neg h]
theorem e_zg {v : Int32} {p : zP α} (h : v = 0 ∨ v = 1) : (z_zg v p).1 M = p.1 M := by unfold z_zg; rw [if_pos h]
theorem e_jL {g : zP (τ ⊕ β)} {k : τ → zP β} {t : τ} {M1 : zM} (h : g.1 M = some (.inr (.inl t), M1)) : (z_jn g k).1 M = (k t).1 M1 := e_run h
theorem e_jR {g : zP (τ ⊕ β)} {k : τ → zP β} {b : β} {M1 : zM} (h : g.1 M = some (.inr (.inr b), M1)) : (z_jn g k).1 M = some (.inr b, M1) := e_run h
/-! loops -/
theorem lp_wf {f : σ → zP (σ ⊕ β)} (I : σ → zM → Prop) (μ : σ → zM → Nat) (Q : β → zM → Prop)
    (h : ∀ s M, I s M → (∃ b M', (f s).1 M = some (.inr (.inr b), M') ∧ Q b M') ∨ (∃ s' M', (f s).1 M = some (.inr (.inl s'), M') ∧ I s' M' ∧ μ s' M' < μ s M)) :
    ∀ s M, I s M → ∃ b M', (z_lp f s).1 M = some (.inr b, M') ∧ Q b M' := by
  have key : ∀ n s M, I s M → μ s M < n → ∃ b M', (z_lp f s).1 M = some (.inr b, M') ∧ Q b M' := by
    intro n
    induction n with
    | zero => intro s M _ hn; exact absurd hn (Nat.not_lt_zero _)
    | succ n ih =>
      intro s M hI hn
      rcases h s M hI with ⟨b, M', h1, h2⟩ | ⟨s', M', h1, h2, h3⟩
      · exact ⟨b, M', z_lp_end h1, h2⟩
      · obtain ⟨b, M2, g1, g2⟩ := ih s' M' h2 (by omega)
        exact ⟨b, M2, (z_lp_step h1).trans g1, g2⟩
  exact fun s M hI => key _ s M hI (Nat.lt_succ_self _)
/-- a loop that counts n steps -/
theorem lp_cnt {f : σ → zP (σ ⊕ β)} (n : Nat) (S : Nat → σ) (m : Nat → zM) (b : β) (M' : zM) (hs : ∀ j, j < n → (f (S j)).1 (m j) = some (.inr (.inl (S (j + 1))), m (j + 1))) (he : (f (S n)).1 (m n) = some (.inr (.inr b), M')) : (z_lp f (S 0)).1 (m 0) = some (.inr b, M') := by
  have key : ∀ k j, j + k = n → (z_lp f (S j)).1 (m j) = some (.inr b, M') := by
    intro k
    induction k with
    | zero => intro j hj; have : j = n := hj; subst this; exact z_lp_end he
    | succ k ih => intro j hj; exact (z_lp_step (hs j (by omega))).trans (ih (j + 1) (by omega))
  exact key n 0 (Nat.zero_add n)
end PE
/-! memory, read behind a write -/
section PM
variable {M : zM}
theorem m_i_wi (a k : Nat) (v : Int32) (b j : Nat) : z_i (z_wi M a k v) b j = if b = a ∧ j = k then v else z_i M b j := rfl
theorem m_i_wr (a k : Nat) (v : Option Nat) : z_i (z_wr M a k v) = z_i M := rfl
theorem m_i_wj (a k : Nat) (v : Int64) : z_i (z_wj M a k v) = z_i M := rfl
theorem m_r_wi (a k : Nat) (v : Int32) : z_r (z_wi M a k v) = z_r M := rfl
theorem m_r_wj (a k : Nat) (v : Int64) : z_r (z_wj M a k v) = z_r M := rfl
theorem m_r_wr (a k : Nat) (v : Option Nat) (b j : Nat) : z_r (z_wr M a k v) b j = if b = a ∧ j = k then v else z_r M b j := rfl
theorem m_ln_wi (a k : Nat) (v : Int32) : z_ln (z_wi M a k v) = z_ln M := rfl
theorem m_ln_wr (a k : Nat) (v : Option Nat) : z_ln (z_wr M a k v) = z_ln M := rfl
theorem m_ln_wj (a k : Nat) (v : Int64) : z_ln (z_wj M a k v) = z_ln M := rfl
theorem m_is_wi (c a k : Nat) (v : Int32) (b : Nat) : z_is c b (z_wi M a k v) = z_is c b M := rfl
theorem m_is_wr (c a k : Nat) (v : Option Nat) (b : Nat) : z_is c b (z_wr M a k v) = z_is c b M := rfl
theorem m_is_wj (c a k : Nat) (v : Int64) (b : Nat) : z_is c b (z_wj M a k v) = z_is c b M := rfl
theorem m_in_wi (c a k : Nat) (v : Int32) (b : Nat) (i : Int32) : z_in c b i (z_wi M a k v) = z_in c b i M := rfl
theorem m_in_wr (c a k : Nat) (v : Option Nat) (b : Nat) (i : Int32) : z_in c b i (z_wr M a k v) = z_in c b i M := rfl
theorem m_in_wj (c a k : Nat) (v : Int64) (b : Nat) (i : Int32) : z_in c b i (z_wj M a k v) = z_in c b i M := rfl
theorem m_is_wI (c a : Nat) (g : Nat → Int32) (b : Nat) : z_is c b (z_wI M a g) = z_is c b M := rfl
theorem m_in_wI (c a : Nat) (g : Nat → Int32) (b : Nat) (i : Int32) : z_in c b i (z_wI M a g) = z_in c b i M := rfl
theorem m_i_wI (a : Nat) (g : Nat → Int32) (b : Nat) : z_i (z_wI M a g) b = if b = a then g else z_i M b := rfl
theorem m_r_wI (a : Nat) (g : Nat → Int32) : z_r (z_wI M a g) = z_r M := rfl
theorem m_ln_wI (a : Nat) (g : Nat → Int32) : z_ln (z_wI M a g) = z_ln M := rfl
end PM
/-! numbers -/
theorem i_lt {a b : Int32} : a < b ↔ a.toInt < b.toInt := Int32.lt_iff_toInt_lt
theorem i_le {a b : Int32} : a ≤ b ↔ a.toInt ≤ b.toInt := Int32.le_iff_toInt_le
theorem i_eq {a b : Int32} : a = b ↔ a.toInt = b.toInt := Int32.toInt_inj.symm
/-- an index in a row -/
def ix (i : Int32) : Nat := i.toNatClampNeg
theorem ix_def (i : Int32) : i.toNatClampNeg = ix i := rfl
theorem i_in {c a n : Nat} {M : zM} {i : Int32} (h : z_is c a M) (hn : z_ln M a = n) (h0 : 0 ≤ i.toInt) (h1 : i.toInt < n) : z_in c a i M := by
  refine ⟨h.1, h.2, fun q => ?_, ?_⟩
  · rw [i_lt] at q
    have : (0 : Int32).toInt = 0 := rfl
    omega
  · rw [hn]
    show i.toInt.toNat < n
    omega
theorem n_in {c a n k : Nat} {M : zM} (h : z_is c a M) (hn : z_ln M a = n) (hk : k < n) (h31 : n < 2 ^ 31) : z_in c a (nI k) M := i_in h hn (by rw [nI_toInt (by omega)]; omega) (by rw [nI_toInt (by omega)]; omega)
