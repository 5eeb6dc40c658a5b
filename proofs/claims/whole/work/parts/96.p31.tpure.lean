/-! ===== PHASE 2: the search for a tour, numbers only ===== -/
section PA31
def TQ : Type := (Nat × Nat × Nat) × ((Nat → Nat) × (Nat → Nat) × (Nat → Nat)) × (Nat → Nat → Nat) × (Nat → Nat)
def TQ.ns (q : TQ) : Nat := q.1.1
def TQ.cap (q : TQ) : Nat := q.1.2.1
def TQ.home (q : TQ) : Nat := q.1.2.2
def TQ.mk (q : TQ) : Nat → Nat := q.2.1.1
def TQ.fr (q : TQ) : Nat → Nat := q.2.1.2.1
def TQ.bk (q : TQ) : Nat → Nat := q.2.1.2.2
def TQ.dr (q : TQ) : Nat → Nat → Nat := q.2.2.1
def TQ.lw (q : TQ) : Nat → Nat := q.2.2.2
abbrev TBt := Option (Nat × List Nat)
abbrev tq_un (q : TQ) (i : Nat) : Prop := q.bk i < q.mk i ∨ q.fr i < q.mk i
abbrev tq_evn (q : TQ) (V : Nat) : Prop := ∀ i, i < q.ns → tq_un q i → V.testBit i = true
def tq_tm (q : TQ) (s pl i : Nat) : Nat := if s = 0 ∧ i = q.home then 0 else q.dr pl i
def tq_wob (b : TBt) (m s : Nat) : Bool := match b with | none => false | some x => decide (x.1 < m ∨ (m = x.1 ∧ x.2.length ≤ s))
abbrev tq_wo (b : TBt) (m s : Nat) : Prop := tq_wob b m s = true
theorem tq_wo_s {x : Nat × List Nat} {m s : Nat} : tq_wo (some x) m s ↔ (x.1 < m ∨ (m = x.1 ∧ x.2.length ≤ s)) := decide_eq_true_iff
theorem tq_wo_n {m s : Nat} : ¬ tq_wo none m s := Bool.false_ne_true
def tq_lo (q : TQ) (lo i : Nat) : Nat := lo + q.mk i - q.fr i
def tq_hi (q : TQ) (hi i : Nat) : Nat := if q.cap < hi + q.bk i - q.mk i then q.cap else hi + q.bk i - q.mk i
abbrev tq_em (q : TQ) (lo hi i : Nat) : Prop := hi + q.bk i < q.mk i ∨ tq_hi q hi i < tq_lo q lo i
def tq_fd (f : Nat → TBt → TBt) : Nat → Nat → TBt → TBt
  | 0, _, b => b
  | k + 1, i, b => tq_fd f k (i + 1) (f i b)
def tq_ch (q : TQ) (g : List Nat → Nat → Nat → Nat → Nat → Nat → TBt → TBt) (P : List Nat) (pl V m lo hi : Nat) (i : Nat) (b : TBt) : TBt :=
  if V.testBit i = true then b else if tq_em q lo hi i then b else g (P ++ [i]) i (V ||| 2 ^ i) (m + tq_tm q P.length pl i) (tq_lo q lo i) (tq_hi q hi i) b
def tq_d (q : TQ) : Nat → List Nat → Nat → Nat → Nat → Nat → Nat → TBt → TBt
  | 0, _, _, _, _, _, _, b => b
  | n + 1, P, pl, V, m, lo, hi, b => if tq_wo b m P.length then b else if tq_evn q V then some (m, P) else tq_fd (tq_ch q (tq_d q n) P pl V m lo hi) q.ns 0 b
def tq_sm (f : Nat → Nat) : Nat → Nat
  | 0 => 0
  | k + 1 => tq_sm f k + f k
def tq_re (V : Nat) (f : Nat → Nat) (i : Nat) : Nat := if V.testBit i = true then 0 else f i
def tq_bd (q : TQ) (V m : Nat) : Nat := m + tq_sm (tq_re V q.lw) q.ns
def tq_cn (q : TQ) (V : Nat) : Nat := tq_sm (tq_re V (fun i => if tq_un q i then 1 else 0)) q.ns
def tq_pc (q : TQ) (V : Nat) : Nat := tq_sm (fun i => if V.testBit i = true then 1 else 0) q.ns
def tq_mb (q : TQ) (b : TBt) (s V m : Nat) : Prop := match b with | none => True | some x => m < x.1 ∨ (m = x.1 ∧ s + tq_cn q V < x.2.length)
def tq_fe (q : TQ) : Nat → Nat → Nat → Prop
  | 0, _, _ => False
  | n + 1, V, l => tq_evn q V ∨ ∃ i, i < q.ns ∧ ¬ V.testBit i = true ∧ ∃ l', l + q.mk i ≤ l' + q.fr i ∧ l' + q.mk i ≤ l + q.bk i ∧ l' ≤ q.cap ∧ tq_fe q n (V ||| 2 ^ i) l'
/-- what a query keeps to -/
def tq_ok (q : TQ) : Prop := q.ns ≤ 8 ∧ q.cap ≤ 20 ∧ (∀ i, i < q.ns → 2 * q.mk i ≤ q.fr i + q.bk i ∧ q.fr i ≤ 20 ∧ q.bk i ≤ 20) ∧ (∀ i j, i < q.ns → j < q.ns → 1 ≤ q.dr i j ∧ q.dr i j < 8000) ∧ (∀ i j, i < q.ns → j < q.ns → i ≠ j → q.lw j ≤ q.dr i j) ∧ (∀ i, i < q.ns → ¬ tq_un q i → q.lw i = 0) ∧ (∀ i, i < q.ns → q.lw i < 8000)
variable {q : TQ} {V i j k n m lo hi pl s l : Nat} {P : List Nat} {b : TBt} {f g : Nat → Nat} {h : Nat → TBt → TBt}
theorem tq_bit (V i j : Nat) : (V ||| 2 ^ i).testBit j = (V.testBit j || decide (i = j)) := by
  rw [Nat.testBit_or, Nat.testBit_two_pow]
theorem tq_bs (V i : Nat) : (V ||| 2 ^ i).testBit i = true := by rw [tq_bit]; simp
theorem tq_bn (hij : i ≠ j) : (V ||| 2 ^ i).testBit j = V.testBit j := by rw [tq_bit]; simp [hij]
theorem tq_sm_eq (e : ∀ i, i < k → f i = g i) : tq_sm f k = tq_sm g k := by
  induction k with
  | zero => rfl
  | succ k ih =>
    show tq_sm f k + f k = tq_sm g k + g k
    rw [ih (fun i hi => e i (by omega)), e k (by omega)]
theorem tq_sm_0 (e : ∀ i, i < k → f i = 0) : tq_sm f k = 0 := by
  induction k with
  | zero => rfl
  | succ k ih =>
    show tq_sm f k + f k = 0
    rw [ih (fun i hi => e i (by omega)), e k (by omega)]
theorem tq_sm_le {c : Nat} (e : ∀ i, i < k → f i ≤ c) : tq_sm f k ≤ k * c := by
  induction k with
  | zero => exact Nat.zero_le _
  | succ k ih =>
    have h1 := ih (fun i hi => e i (by omega))
    have h2 := e k (by omega)
    have h3 : (k + 1) * c = k * c + c := Nat.succ_mul k c
    show tq_sm f k + f k ≤ (k + 1) * c
    omega
/-- one place more -/
theorem tq_sm_one (hi : i < k) (e : ∀ j, j < k → j ≠ i → f j = g j) : tq_sm f k + g i = tq_sm g k + f i := by
  induction k with
  | zero => omega
  | succ k ih =>
    show tq_sm f k + f k + g i = tq_sm g k + g k + f i
    by_cases h1 : i = k
    · subst h1
      rw [tq_sm_eq (f := f) (g := g) (fun j hj => e j (by omega) (by omega))]
      omega
    · have h2 := ih (by omega) (fun j hj hn => e j (by omega) hn)
      have h3 := e k (by omega) (by omega)
      omega
theorem tq_re_add (f : Nat → Nat) (hi : i < k) (hV : ¬ V.testBit i = true) : tq_sm (tq_re (V ||| 2 ^ i) f) k + f i = tq_sm (tq_re V f) k := by
  have h1 := tq_sm_one (f := tq_re (V ||| 2 ^ i) f) (g := tq_re V f) hi (fun j _ hn => by unfold tq_re; rw [tq_bn (Ne.symm hn)])
  have h2 : tq_re V f i = f i := if_neg hV
  have h3 : tq_re (V ||| 2 ^ i) f i = 0 := if_pos (tq_bs V i)
  omega
theorem tq_pc_add (hi : i < q.ns) (hV : ¬ V.testBit i = true) : tq_pc q (V ||| 2 ^ i) = tq_pc q V + 1 := by
  have h1 := tq_sm_one (f := fun j => if (V ||| 2 ^ i).testBit j = true then 1 else 0) (g := fun j => if V.testBit j = true then 1 else 0) hi (fun j _ hn => by rw [tq_bn (Ne.symm hn)])
  have h2 : (if (V ||| 2 ^ i).testBit i = true then (1 : Nat) else 0) = 1 := if_pos (tq_bs V i)
  have h3 : (if V.testBit i = true then (1 : Nat) else 0) = 0 := if_neg hV
  unfold tq_pc
  omega
theorem tq_pc_lt (hi : i < q.ns) (hV : ¬ V.testBit i = true) : tq_pc q V < q.ns := by
  have h1 := tq_pc_add hi hV
  have h2 : tq_pc q (V ||| 2 ^ i) ≤ q.ns * 1 := tq_sm_le (fun j _ => by split <;> omega)
  omega
theorem tq_bd_add (hi : i < q.ns) (hV : ¬ V.testBit i = true) (x : Nat) : tq_bd q (V ||| 2 ^ i) (m + x) + q.lw i = tq_bd q V m + x := by
  have h1 := tq_re_add q.lw hi hV
  unfold tq_bd
  omega
theorem tq_cn_add (hi : i < q.ns) (hV : ¬ V.testBit i = true) : tq_cn q V ≤ tq_cn q (V ||| 2 ^ i) + 1 := by
  have h1 := tq_re_add (fun i => if tq_un q i then 1 else 0) hi hV
  have h2 : (if tq_un q i then (1 : Nat) else 0) ≤ 1 := by split <;> omega
  unfold tq_cn
  omega
theorem tq_bd_evn (hq : tq_ok q) (h : tq_evn q V) : tq_bd q V m = m := by
  unfold tq_bd
  rw [tq_sm_0 (fun i hi => ?_)]
  · rfl
  · unfold tq_re
    split
    · rfl
    · next hn => exact hq.2.2.2.2.2.1 i hi (fun hu => hn (h i hi hu))
theorem tq_cn_evn (h : tq_evn q V) : tq_cn q V = 0 := by
  unfold tq_cn
  refine tq_sm_0 (fun i hi => ?_)
  unfold tq_re
  split
  · rfl
  · next hn => exact if_neg (fun hu => hn (h i hi hu))
theorem tq_fd_id (e : ∀ i, j ≤ i → i < j + k → h i b = b) : tq_fd h k j b = b := by
  induction k generalizing j with
  | zero => rfl
  | succ k ih =>
    show tq_fd h k (j + 1) (h j b) = b
    rw [e j (by omega) (by omega)]
    exact ih (fun i h1 h2 => e i (by omega) (by omega))
/-- what may not be best changes nothing -/
theorem tq_bound (hq : tq_ok q) : ∀ n P pl V m lo hi, 1 ≤ P.length → V.testBit pl = true → pl < q.ns → ¬ tq_mb q b P.length V (tq_bd q V m) → tq_d q n P pl V m lo hi b = b := by
  intro n
  induction n with
  | zero => intros; rfl
  | succ n ih =>
    intro P pl V m lo hi hP hp hpl hm
    show (if tq_wo b m P.length then b else if tq_evn q V then some (m, P) else tq_fd (tq_ch q (tq_d q n) P pl V m lo hi) q.ns 0 b) = b
    by_cases h1 : tq_wo b m P.length
    · rw [if_pos h1]
    rw [if_neg h1]
    by_cases h2 : tq_evn q V
    · rw [tq_bd_evn hq h2] at hm
      exfalso
      cases b with
      | none => exact hm trivial
      | some x =>
        have h3 : ¬ (m < x.1 ∨ (m = x.1 ∧ P.length + tq_cn q V < x.2.length)) := hm
        have h4 : ¬ (x.1 < m ∨ (m = x.1 ∧ x.2.length ≤ P.length)) := fun h => h1 (tq_wo_s.mpr h)
        rw [tq_cn_evn h2] at h3
        omega
    rw [if_neg h2]
    refine tq_fd_id (fun i _ hi' => ?_)
    unfold tq_ch
    by_cases h3 : V.testBit i = true
    · rw [if_pos h3]
    rw [if_neg h3]
    by_cases h4 : tq_em q lo hi i
    · rw [if_pos h4]
    rw [if_neg h4]
    have hin : i < q.ns := by omega
    have hne : pl ≠ i := fun e => h3 (e ▸ hp)
    have et : tq_tm q P.length pl i = q.dr pl i := if_neg (by omega)
    rw [et]
    refine ih _ _ _ _ _ _ (by simp) (tq_bs V i) hin ?_
    have h5 := tq_bd_add (m := m) hin h3 (q.dr pl i)
    have h6 := hq.2.2.2.2.1 pl i hpl hin hne
    have h7 := tq_cn_add hin h3
    cases b with
    | none => exact fun _ => hm trivial
    | some x =>
      have h8 : ¬ (tq_bd q V m < x.1 ∨ (tq_bd q V m = x.1 ∧ P.length + tq_cn q V < x.2.length)) := hm
      show ¬ (tq_bd q (V ||| 2 ^ i) (m + q.dr pl i) < x.1 ∨ (tq_bd q (V ||| 2 ^ i) (m + q.dr pl i) = x.1 ∧ (P ++ [i]).length + tq_cn q (V ||| 2 ^ i) < x.2.length))
      have h9 : (P ++ [i]).length = P.length + 1 := by simp
      omega
theorem tq_some : ∀ n P pl V m lo hi x, tq_d q n P pl V m lo hi (some x) ≠ none := by
  intro n
  induction n with
  | zero => intros; exact Option.some_ne_none _
  | succ n ih =>
    intro P pl V m lo hi x
    show (if tq_wo (some x) m P.length then some x else if tq_evn q V then some (m, P) else tq_fd (tq_ch q (tq_d q n) P pl V m lo hi) q.ns 0 (some x)) ≠ none
    have hf : ∀ k j y, tq_fd (tq_ch q (tq_d q n) P pl V m lo hi) k j (some y) ≠ none := by
      intro k
      induction k with
      | zero => intros; exact Option.some_ne_none _
      | succ k ik =>
        intro j y
        show tq_fd (tq_ch q (tq_d q n) P pl V m lo hi) k (j + 1) (tq_ch q (tq_d q n) P pl V m lo hi j (some y)) ≠ none
        have hc : tq_ch q (tq_d q n) P pl V m lo hi j (some y) ≠ none := by
          unfold tq_ch
          split
          · exact Option.some_ne_none _
          · split
            · exact Option.some_ne_none _
            · exact ih _ _ _ _ _ _ _
        revert hc
        cases tq_ch q (tq_d q n) P pl V m lo hi j (some y) with
        | none => intro hc; exact absurd rfl hc
        | some z => intro _; exact ik _ _
    split
    · exact Option.some_ne_none _
    · split
      · exact Option.some_ne_none _
      · exact hf _ _ _
/-- a load of the stop behind comes from a load before -/
theorem tq_back (h2 : 2 * q.mk i ≤ q.fr i + q.bk i) (hlh : lo ≤ hi) (hem : ¬ tq_em q lo hi i) (h3 : tq_lo q lo i ≤ l) (h4 : l ≤ tq_hi q hi i) : l ≤ q.cap ∧ ∃ l0, lo ≤ l0 ∧ l0 ≤ hi ∧ l0 + q.mk i ≤ l + q.fr i ∧ l + q.mk i ≤ l0 + q.bk i := by
  unfold tq_em tq_hi tq_lo at hem
  unfold tq_lo at h3
  unfold tq_hi at h4
  by_cases hc : q.cap < hi + q.bk i - q.mk i
  · rw [if_pos hc] at h4 hem
    refine ⟨h4, ?_⟩
    by_cases h5 : lo + q.bk i ≤ l + q.mk i
    · exact ⟨l + q.mk i - q.bk i, by omega, by omega, by omega, by omega⟩
    · exact ⟨lo, by omega, by omega, by omega, by omega⟩
  · rw [if_neg hc] at h4 hem
    refine ⟨by omega, ?_⟩
    by_cases h5 : lo + q.bk i ≤ l + q.mk i
    · exact ⟨l + q.mk i - q.bk i, by omega, by omega, by omega, by omega⟩
    · exact ⟨lo, by omega, by omega, by omega, by omega⟩
theorem tq_forth (h1 : lo ≤ l) (h2 : l ≤ hi) {l' : Nat} (h3 : l + q.mk i ≤ l' + q.fr i) (h4 : l' + q.mk i ≤ l + q.bk i) (h5 : l' ≤ q.cap) : ¬ tq_em q lo hi i ∧ tq_lo q lo i ≤ l' ∧ l' ≤ tq_hi q hi i := by
  unfold tq_em tq_hi tq_lo
  split <;> omega
theorem tq_li (hlh : lo ≤ hi) (hem : ¬ tq_em q lo hi i) : tq_lo q lo i ≤ tq_hi q hi i ∧ tq_hi q hi i ≤ q.cap := by
  unfold tq_em at hem
  refine ⟨by omega, ?_⟩
  unfold tq_hi
  split <;> omega
/-- where no load leads to a tour nothing changes -/
theorem tq_hopeless (hq : tq_ok q) : ∀ n P pl V m lo hi b, lo ≤ hi → (∀ l, lo ≤ l → l ≤ hi → ¬ tq_fe q n V l) → tq_d q n P pl V m lo hi b = b := by
  intro n
  induction n with
  | zero => intros; rfl
  | succ n ih =>
    intro P pl V m lo hi b hlh hf
    show (if tq_wo b m P.length then b else if tq_evn q V then some (m, P) else tq_fd (tq_ch q (tq_d q n) P pl V m lo hi) q.ns 0 b) = b
    split
    · rfl
    · rw [if_neg (fun h => hf lo (Nat.le_refl _) hlh (Or.inl h))]
      refine tq_fd_id (fun i _ hi' => ?_)
      unfold tq_ch
      split
      · rfl
      · next h3 =>
        split
        · rfl
        · next h4 =>
          have hin : i < q.ns := by omega
          refine ih _ _ _ _ _ _ _ (tq_li hlh h4).1 (fun l h5 h6 h7 => ?_)
          obtain ⟨h8, l0, a1, a2, a3, a4⟩ := tq_back (hq.2.2.1 i hin).1 hlh h4 h5 h6
          exact hf l0 a1 a2 (Or.inr ⟨i, hin, h3, l, a3, a4, h8, h7⟩)
theorem tq_none (hq : tq_ok q) : ∀ n P pl V m lo hi, lo ≤ hi → tq_d q n P pl V m lo hi none = none → 1 ≤ n → ∀ l, lo ≤ l → l ≤ hi → ¬ tq_fe q n V l := by
  intro n
  induction n with
  | zero => intro P pl V m lo hi _ _ h; omega
  | succ n ih =>
    intro P pl V m lo hi hlh he _ l h1 h2 hf
    have he' : (if tq_wo none m P.length then none else if tq_evn q V then some (m, P) else tq_fd (tq_ch q (tq_d q n) P pl V m lo hi) q.ns 0 none) = none := he
    rw [if_neg (tq_wo_n (m := m) (s := P.length))] at he'
    by_cases h3 : tq_evn q V
    · rw [if_pos h3] at he'
      cases he'
    rw [if_neg h3] at he'
    obtain ⟨i, hi', hV, l', b1, b2, b3, b4⟩ := hf.resolve_left h3
    cases n with
    | zero => exact b4
    | succ n =>
      have hall : ∀ k j, tq_fd (tq_ch q (tq_d q (n + 1)) P pl V m lo hi) k j none = none → ∀ i, j ≤ i → i < j + k → tq_ch q (tq_d q (n + 1)) P pl V m lo hi i none = none := by
        intro k
        induction k with
        | zero => intro j _ i h4 h5; omega
        | succ k ik =>
          intro j hk i h4 h5
          have hk' : tq_fd (tq_ch q (tq_d q (n + 1)) P pl V m lo hi) k (j + 1) (tq_ch q (tq_d q (n + 1)) P pl V m lo hi j none) = none := hk
          have hj : tq_ch q (tq_d q (n + 1)) P pl V m lo hi j none = none := by
            revert hk'
            cases tq_ch q (tq_d q (n + 1)) P pl V m lo hi j none with
            | none => intro _; rfl
            | some y =>
              intro hk'
              exfalso
              have hs : ∀ k j y, tq_fd (tq_ch q (tq_d q (n + 1)) P pl V m lo hi) k j (some y) ≠ none := by
                intro k
                induction k with
                | zero => intros; exact Option.some_ne_none _
                | succ k ik2 =>
                  intro j y
                  show tq_fd (tq_ch q (tq_d q (n + 1)) P pl V m lo hi) k (j + 1) (tq_ch q (tq_d q (n + 1)) P pl V m lo hi j (some y)) ≠ none
                  have hc : tq_ch q (tq_d q (n + 1)) P pl V m lo hi j (some y) ≠ none := by
                    unfold tq_ch
                    split
                    · exact Option.some_ne_none _
                    · split
                      · exact Option.some_ne_none _
                      · exact tq_some _ _ _ _ _ _ _ _
                  revert hc
                  cases tq_ch q (tq_d q (n + 1)) P pl V m lo hi j (some y) with
                  | none => intro hc; exact absurd rfl hc
                  | some z => intro _; exact ik2 _ _
              exact hs _ _ _ hk'
          by_cases h6 : i = j
          · rw [h6]; exact hj
          · rw [hj] at hk'
            exact ik (j + 1) hk' i (by omega) (by omega)
      have h7 := hall q.ns 0 he' i (by omega) (by omega)
      obtain ⟨c1, c2, c3⟩ := tq_forth h1 h2 b1 b2 b3
      unfold tq_ch at h7
      rw [if_neg hV, if_neg c1] at h7
      exact ih _ _ _ _ _ _ (tq_li hlh c1).1 h7 (by omega) l' c2 c3 b4
end PA31
