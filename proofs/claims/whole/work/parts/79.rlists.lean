/-! ===== PHASE 2: the riders of a minute, as lists ===== -/
def s_nX (s : Nat) : Option Nat → Nat
  | none => s
  | some m => m
/-- a rider who is turned away -/
def s_tx (ct st : Nat → Int32) (n : Nat) (x : zRd) : zRd := (ix (st 0 + s_nO ct x.2.2.2 (s_near ct st x.2.2.2 1 n)), x.2.1, x.2.2.1, s_nX x.2.2.2 (s_near ct st x.2.2.2 1 n))
def s_pr (ct : Nat → Int32) (n : Nat) : List zRd → (Nat → Int32) → List zRd × (Nat → Int32)
  | [], st => ([], st)
  | x :: xs, st => if nI x.1 = st 0 then
      (if s_fr ct st x.2.2.2 ≤ 0 then (s_tx ct st n x :: (s_pr ct n xs (s_up st 5 (st 5 + 1))).1, (s_pr ct n xs (s_up st 5 (st 5 + 1))).2) else s_pr ct n xs (s_lnd ct st x.2.2.2))
    else (x :: (s_pr ct n xs st).1, (s_pr ct n xs st).2)
section PR5
variable {ct st : Nat → Int32} {n T : Nat}
theorem s_pr_app : ∀ (A B : List zRd) (st : Nat → Int32), s_pr ct n (A ++ B) st = ((s_pr ct n A st).1 ++ (s_pr ct n B (s_pr ct n A st).2).1, (s_pr ct n B (s_pr ct n A st).2).2)
  | [], B, st => rfl
  | x :: A, B, st => by
    show s_pr ct n (x :: (A ++ B)) st = _
    by_cases h1 : nI x.1 = st 0
    · by_cases h2 : s_fr ct st x.2.2.2 ≤ 0
      · have e : ∀ L, s_pr ct n (x :: L) st = (s_tx ct st n x :: (s_pr ct n L (s_up st 5 (st 5 + 1))).1, (s_pr ct n L (s_up st 5 (st 5 + 1))).2) := fun L => by rw [s_pr, if_pos h1, if_pos h2]
        rw [e, e, s_pr_app A B]
        rfl
      · have e : ∀ L, s_pr ct n (x :: L) st = s_pr ct n L (s_lnd ct st x.2.2.2) := fun L => by rw [s_pr, if_pos h1, if_neg h2]
        rw [e, e, s_pr_app A B]
    · have e : ∀ L, s_pr ct n (x :: L) st = (x :: (s_pr ct n L st).1, (s_pr ct n L st).2) := fun L => by rw [s_pr, if_neg h1]
      rw [e, e, s_pr_app A B]
      rfl
/-- what a minute's riders leave as it is -/
theorem s_pr_o {m j : Nat} (hm : m ≤ 8) (hj : j ≠ 2 ∧ j ≠ 5 ∧ (j < 6 ∨ 14 ≤ j)) : ∀ (A : List zRd) (st : Nat → Int32), (∀ x ∈ A, x.2.2.2 < m) → (s_pr ct n A st).2 j = st j
  | [], st, _ => rfl
  | x :: A, st, h => by
    have hx := h x (List.mem_cons_self ..)
    have hA := fun y hy => h y (List.mem_cons_of_mem x hy)
    unfold s_pr
    split
    · split
      · show (s_pr ct n A _).2 j = _
        rw [s_pr_o hm hj A _ hA, s_upn _ _ (by omega)]
      · rw [s_pr_o hm hj A _ hA, s_lnd_o (by omega)]
    · exact s_pr_o hm hj A _ hA
theorem filt_eq {x : zRd} (hx : x.1 = T) (A : List zRd) : (x :: A).filter (fun x => x.1 == T) = x :: A.filter (fun x => x.1 == T) ∧ (x :: A).filter (fun x => !(x.1 == T)) = A.filter (fun x => !(x.1 == T)) := by
  constructor
  · rw [List.filter_cons, if_pos (by simp [hx])]
  · rw [List.filter_cons, if_neg (by simp [hx])]
theorem filt_ne {x : zRd} (hx : ¬ x.1 = T) (A : List zRd) : (x :: A).filter (fun x => x.1 == T) = A.filter (fun x => x.1 == T) ∧ (x :: A).filter (fun x => !(x.1 == T)) = x :: A.filter (fun x => !(x.1 == T)) := by
  constructor
  · rw [List.filter_cons, if_neg (by simp [hx])]
  · rw [List.filter_cons, if_pos (by simp [hx])]
/-- only those who arrive matter -/
theorem s_pr_fil {m : Nat} (hm : m ≤ 8) (hT : T < 2 ^ 31) : ∀ (A : List zRd) (st : Nat → Int32), st 0 = nI T → (∀ x ∈ A, x.1 < 2 ^ 31 ∧ x.2.2.2 < m) → (s_pr ct n (A.filter (fun x => x.1 == T)) st).2 = (s_pr ct n A st).2 ∧ (s_pr ct n A st).1.Perm ((s_pr ct n (A.filter (fun x => x.1 == T)) st).1 ++ A.filter (fun x => !(x.1 == T)))
  | [], st, _, _ => ⟨rfl, List.Perm.refl _⟩
  | x :: A, st, h0, h => by
    have hx := h x (List.mem_cons_self ..)
    have hA := fun y hy => h y (List.mem_cons_of_mem x hy)
    have he : (nI x.1 = st 0) = (x.1 = T) := by rw [h0]; exact propext (nI_eq hx.1 hT)
    by_cases hxT : x.1 = T
    · rw [(filt_eq hxT A).1, (filt_eq hxT A).2]
      have h1 : nI x.1 = st 0 := by rw [h0, hxT]
      by_cases h2 : s_fr ct st x.2.2.2 ≤ 0
      · have ih := s_pr_fil hm hT A (s_up st 5 (st 5 + 1)) ((s_upn _ _ (by decide)).trans h0) hA
        rw [s_pr, s_pr, if_pos h1, if_pos h1, if_pos h2, if_pos h2]
        exact ⟨ih.1, List.Perm.cons _ ih.2⟩
      · have ih := s_pr_fil hm hT A (s_lnd ct st x.2.2.2) ((s_lnd_o (by omega)).trans h0) hA
        rw [s_pr, s_pr, if_pos h1, if_pos h1, if_neg h2, if_neg h2]
        exact ih
    · rw [(filt_ne hxT A).1, (filt_ne hxT A).2]
      have h1 : ¬ nI x.1 = st 0 := by rw [he]; exact hxT
      have ih := s_pr_fil hm hT A st h0 hA
      rw [s_pr, if_neg h1]
      refine ⟨ih.1, (List.Perm.cons x ih.2).trans ?_⟩
      exact List.perm_middle.symm
theorem sort_uniq : ∀ (k l : List Nat), k.Pairwise (· < ·) → l.Pairwise (· < ·) → k.Perm l → k = l
  | [], l, _, _, h => (List.Perm.nil_eq h)
  | x :: k, [], _, _, h => by have := h.length_eq; cases this
  | x :: k, y :: l, hk, hl, h => by
    rw [List.pairwise_cons] at hk hl
    have e : x = y := by
      have hx : x ∈ y :: l := h.mem_iff.mp (List.mem_cons_self ..)
      have hy : y ∈ x :: k := h.mem_iff.mpr (List.mem_cons_self ..)
      rcases List.mem_cons.mp hx with hx | hx
      · exact hx
      · rcases List.mem_cons.mp hy with hy | hy
        · exact hy.symm
        · have a1 := hl.1 x hx
          have a2 := hk.1 y hy
          omega
    subst e
    rw [sort_uniq k l hk.2 hl.2 (List.Perm.cons_inv h)]
end PR5
