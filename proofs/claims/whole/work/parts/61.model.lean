/-! ===== PHASE 2: the model in the memory (object 75, rows 76 to 94) ===== -/
theorem oL (n : Nat) : (OfNat.ofNat n : Int32) = nI n := rfl
theorem oL_add (n k : Nat) : (no_index (OfNat.ofNat n : Int32)) + nI k = nI (n + k) := nI_add n k
theorem oL_addr (n k : Nat) : nI k + (no_index (OfNat.ofNat n : Int32)) = nI (k + n) := nI_add k n
theorem nI_mul (a b : Nat) : nI a * nI b = nI (a * b) := by
  unfold nI
  exact (Int32.ofNat_mul a b).symm
theorem oL_mul (n k : Nat) : (no_index (OfNat.ofNat n : Int32)) * nI k = nI (n * k) := nI_mul n k
def t9 : List (Nat × Nat × Nat × Nat) := [(76, 10, 700, 1), (77, 11, 138, 10), (78, 11, 138, 11), (79, 11, 700, 12), (80, 11, 700, 13), (81, 11, 700, 15), (82, 11, 700, 18), (83, 11, 3277, 19), (84, 11, 32770, 20), (85, 11, 6554, 22), (86, 12, 2, 23), (87, 11, 3277, 24), (88, 11, 8, 25), (89, 11, 8, 26), (90, 11, 9, 29), (91, 11, 9, 30), (92, 11, 9, 31), (93, 11, 9, 32), (94, 11, 9, 33)]
def L9 (M : zM) : Prop := 95 ≤ z_nx M ∧ z_kd M 75 = 9 ∧ ∀ p ∈ t9, z_kd M p.1 = p.2.1 ∧ z_ln M p.1 = p.2.2.1 ∧ z_r M 75 p.2.2.2 = some p.1
theorem L9_wi (M : zM) (a k : Nat) (v : Int32) : L9 (z_wi M a k v) = L9 M := rfl
theorem L9_wI (M : zM) (a : Nat) (g : Nat → Int32) : L9 (z_wI M a g) = L9 M := rfl
section P9
variable {β : Type} {M : zM} {k : Nat} {v : Int32}
theorem q9_is (h : L9 M) : z_is 9 75 M := ⟨Nat.lt_of_lt_of_le (by decide) h.1, h.2.1⟩
theorem q9_gI {n : Nat} {f : Int32 → zP β} (h : L9 M) : (z_bd (z_gI 9 75 n) f).1 M = (f (z_i M 75 n)).1 M := e_gI (q9_is h)
theorem q9_pI {n : Nat} {f : Unit → zP β} (h : L9 M) : (z_bd (z_pI 9 75 n v) f).1 M = (f ()).1 (z_wi M 75 n v) := e_pI (q9_is h)
theorem q9_cv {α : Type} {p : zP α} {f : α → zP β} (h : L9 M) : (z_bd (z_cv 9 75 p) f).1 M = (z_bd p f).1 M := e_cv (q9_is h)
theorem q9_m76 (h : L9 M) : z_kd M 76 = 10 ∧ z_ln M 76 = 700 ∧ z_r M 75 1 = some 76 := h.2.2 (76, 10, 700, 1) (by decide)
theorem q9_is76 (h : L9 M) : z_is 10 76 M := ⟨Nat.lt_of_lt_of_le (by decide) h.1, (q9_m76 h).1⟩
theorem q9_g76 {f : Nat → zP β} (h : L9 M) : (z_bd (z_gA 9 75 1) f).1 M = (f 76).1 M := e_gA (q9_is h) (q9_m76 h).2.2
theorem q9_in76 (h : L9 M) (hk : k < 700) : z_in 10 76 (nI k) M := n_in (q9_is76 h) (q9_m76 h).2.1 hk (by decide)
theorem q9_a76 {f : Int32 → zP β} (h : L9 M) (hk : k < 700) : (z_bd (z_aI 10 76 (nI k)) f).1 M = (f (z_i M 76 k)).1 M := by
  refine (e_aI (q9_in76 h hk)).trans ?_
  rw [nI_clamp (by omega)]
theorem q9_s76 {f : Unit → zP β} (h : L9 M) (hk : k < 700) : (z_bd (z_sB 76 (nI k) v) f).1 M = (f ()).1 (z_wi M 76 k v.toInt8.toInt32) := by
  refine (e_sB (q9_in76 h hk)).trans ?_
  rw [nI_clamp (by omega)]
theorem q9_m77 (h : L9 M) : z_kd M 77 = 11 ∧ z_ln M 77 = 138 ∧ z_r M 75 10 = some 77 := h.2.2 (77, 11, 138, 10) (by decide)
theorem q9_is77 (h : L9 M) : z_is 11 77 M := ⟨Nat.lt_of_lt_of_le (by decide) h.1, (q9_m77 h).1⟩
theorem q9_g77 {f : Nat → zP β} (h : L9 M) : (z_bd (z_gA 9 75 10) f).1 M = (f 77).1 M := e_gA (q9_is h) (q9_m77 h).2.2
theorem q9_in77 (h : L9 M) (hk : k < 138) : z_in 11 77 (nI k) M := n_in (q9_is77 h) (q9_m77 h).2.1 hk (by decide)
theorem q9_a77 {f : Int32 → zP β} (h : L9 M) (hk : k < 138) : (z_bd (z_aI 11 77 (nI k)) f).1 M = (f (z_i M 77 k)).1 M := by
  refine (e_aI (q9_in77 h hk)).trans ?_
  rw [nI_clamp (by omega)]
theorem q9_s77 {f : Unit → zP β} (h : L9 M) (hk : k < 138) : (z_bd (z_sI 11 77 (nI k) v) f).1 M = (f ()).1 (z_wi M 77 k v) := by
  refine (e_sI (q9_in77 h hk)).trans ?_
  rw [nI_clamp (by omega)]
theorem q9_l77_0 {f : Int32 → zP β} (h : L9 M) : (z_bd (z_aI 11 77 0) f).1 M = (f (z_i M 77 0)).1 M := q9_a77 (k := 0) h (by decide)
theorem q9_t77_0 {f : Unit → zP β} (h : L9 M) : (z_bd (z_sI 11 77 0 v) f).1 M = (f ()).1 (z_wi M 77 0 v) := q9_s77 (k := 0) h (by decide)
theorem q9_l77_1 {f : Int32 → zP β} (h : L9 M) : (z_bd (z_aI 11 77 1) f).1 M = (f (z_i M 77 1)).1 M := q9_a77 (k := 1) h (by decide)
theorem q9_t77_1 {f : Unit → zP β} (h : L9 M) : (z_bd (z_sI 11 77 1 v) f).1 M = (f ()).1 (z_wi M 77 1 v) := q9_s77 (k := 1) h (by decide)
theorem q9_l77_2 {f : Int32 → zP β} (h : L9 M) : (z_bd (z_aI 11 77 2) f).1 M = (f (z_i M 77 2)).1 M := q9_a77 (k := 2) h (by decide)
theorem q9_t77_2 {f : Unit → zP β} (h : L9 M) : (z_bd (z_sI 11 77 2 v) f).1 M = (f ()).1 (z_wi M 77 2 v) := q9_s77 (k := 2) h (by decide)
theorem q9_l77_3 {f : Int32 → zP β} (h : L9 M) : (z_bd (z_aI 11 77 3) f).1 M = (f (z_i M 77 3)).1 M := q9_a77 (k := 3) h (by decide)
theorem q9_t77_3 {f : Unit → zP β} (h : L9 M) : (z_bd (z_sI 11 77 3 v) f).1 M = (f ()).1 (z_wi M 77 3 v) := q9_s77 (k := 3) h (by decide)
theorem q9_l77_4 {f : Int32 → zP β} (h : L9 M) : (z_bd (z_aI 11 77 4) f).1 M = (f (z_i M 77 4)).1 M := q9_a77 (k := 4) h (by decide)
theorem q9_t77_4 {f : Unit → zP β} (h : L9 M) : (z_bd (z_sI 11 77 4 v) f).1 M = (f ()).1 (z_wi M 77 4 v) := q9_s77 (k := 4) h (by decide)
theorem q9_l77_5 {f : Int32 → zP β} (h : L9 M) : (z_bd (z_aI 11 77 5) f).1 M = (f (z_i M 77 5)).1 M := q9_a77 (k := 5) h (by decide)
theorem q9_t77_5 {f : Unit → zP β} (h : L9 M) : (z_bd (z_sI 11 77 5 v) f).1 M = (f ()).1 (z_wi M 77 5 v) := q9_s77 (k := 5) h (by decide)
theorem q9_l77_6 {f : Int32 → zP β} (h : L9 M) : (z_bd (z_aI 11 77 6) f).1 M = (f (z_i M 77 6)).1 M := q9_a77 (k := 6) h (by decide)
theorem q9_t77_6 {f : Unit → zP β} (h : L9 M) : (z_bd (z_sI 11 77 6 v) f).1 M = (f ()).1 (z_wi M 77 6 v) := q9_s77 (k := 6) h (by decide)
theorem q9_l77_7 {f : Int32 → zP β} (h : L9 M) : (z_bd (z_aI 11 77 7) f).1 M = (f (z_i M 77 7)).1 M := q9_a77 (k := 7) h (by decide)
theorem q9_t77_7 {f : Unit → zP β} (h : L9 M) : (z_bd (z_sI 11 77 7 v) f).1 M = (f ()).1 (z_wi M 77 7 v) := q9_s77 (k := 7) h (by decide)
theorem q9_l77_8 {f : Int32 → zP β} (h : L9 M) : (z_bd (z_aI 11 77 8) f).1 M = (f (z_i M 77 8)).1 M := q9_a77 (k := 8) h (by decide)
theorem q9_t77_8 {f : Unit → zP β} (h : L9 M) : (z_bd (z_sI 11 77 8 v) f).1 M = (f ()).1 (z_wi M 77 8 v) := q9_s77 (k := 8) h (by decide)
theorem q9_m78 (h : L9 M) : z_kd M 78 = 11 ∧ z_ln M 78 = 138 ∧ z_r M 75 11 = some 78 := h.2.2 (78, 11, 138, 11) (by decide)
theorem q9_is78 (h : L9 M) : z_is 11 78 M := ⟨Nat.lt_of_lt_of_le (by decide) h.1, (q9_m78 h).1⟩
theorem q9_g78 {f : Nat → zP β} (h : L9 M) : (z_bd (z_gA 9 75 11) f).1 M = (f 78).1 M := e_gA (q9_is h) (q9_m78 h).2.2
theorem q9_in78 (h : L9 M) (hk : k < 138) : z_in 11 78 (nI k) M := n_in (q9_is78 h) (q9_m78 h).2.1 hk (by decide)
theorem q9_a78 {f : Int32 → zP β} (h : L9 M) (hk : k < 138) : (z_bd (z_aI 11 78 (nI k)) f).1 M = (f (z_i M 78 k)).1 M := by
  refine (e_aI (q9_in78 h hk)).trans ?_
  rw [nI_clamp (by omega)]
theorem q9_s78 {f : Unit → zP β} (h : L9 M) (hk : k < 138) : (z_bd (z_sI 11 78 (nI k) v) f).1 M = (f ()).1 (z_wi M 78 k v) := by
  refine (e_sI (q9_in78 h hk)).trans ?_
  rw [nI_clamp (by omega)]
theorem q9_l78_0 {f : Int32 → zP β} (h : L9 M) : (z_bd (z_aI 11 78 0) f).1 M = (f (z_i M 78 0)).1 M := q9_a78 (k := 0) h (by decide)
theorem q9_t78_0 {f : Unit → zP β} (h : L9 M) : (z_bd (z_sI 11 78 0 v) f).1 M = (f ()).1 (z_wi M 78 0 v) := q9_s78 (k := 0) h (by decide)
theorem q9_l78_1 {f : Int32 → zP β} (h : L9 M) : (z_bd (z_aI 11 78 1) f).1 M = (f (z_i M 78 1)).1 M := q9_a78 (k := 1) h (by decide)
theorem q9_t78_1 {f : Unit → zP β} (h : L9 M) : (z_bd (z_sI 11 78 1 v) f).1 M = (f ()).1 (z_wi M 78 1 v) := q9_s78 (k := 1) h (by decide)
theorem q9_l78_2 {f : Int32 → zP β} (h : L9 M) : (z_bd (z_aI 11 78 2) f).1 M = (f (z_i M 78 2)).1 M := q9_a78 (k := 2) h (by decide)
theorem q9_t78_2 {f : Unit → zP β} (h : L9 M) : (z_bd (z_sI 11 78 2 v) f).1 M = (f ()).1 (z_wi M 78 2 v) := q9_s78 (k := 2) h (by decide)
theorem q9_l78_3 {f : Int32 → zP β} (h : L9 M) : (z_bd (z_aI 11 78 3) f).1 M = (f (z_i M 78 3)).1 M := q9_a78 (k := 3) h (by decide)
theorem q9_t78_3 {f : Unit → zP β} (h : L9 M) : (z_bd (z_sI 11 78 3 v) f).1 M = (f ()).1 (z_wi M 78 3 v) := q9_s78 (k := 3) h (by decide)
theorem q9_l78_4 {f : Int32 → zP β} (h : L9 M) : (z_bd (z_aI 11 78 4) f).1 M = (f (z_i M 78 4)).1 M := q9_a78 (k := 4) h (by decide)
theorem q9_t78_4 {f : Unit → zP β} (h : L9 M) : (z_bd (z_sI 11 78 4 v) f).1 M = (f ()).1 (z_wi M 78 4 v) := q9_s78 (k := 4) h (by decide)
theorem q9_l78_5 {f : Int32 → zP β} (h : L9 M) : (z_bd (z_aI 11 78 5) f).1 M = (f (z_i M 78 5)).1 M := q9_a78 (k := 5) h (by decide)
theorem q9_t78_5 {f : Unit → zP β} (h : L9 M) : (z_bd (z_sI 11 78 5 v) f).1 M = (f ()).1 (z_wi M 78 5 v) := q9_s78 (k := 5) h (by decide)
theorem q9_l78_6 {f : Int32 → zP β} (h : L9 M) : (z_bd (z_aI 11 78 6) f).1 M = (f (z_i M 78 6)).1 M := q9_a78 (k := 6) h (by decide)
theorem q9_t78_6 {f : Unit → zP β} (h : L9 M) : (z_bd (z_sI 11 78 6 v) f).1 M = (f ()).1 (z_wi M 78 6 v) := q9_s78 (k := 6) h (by decide)
theorem q9_l78_7 {f : Int32 → zP β} (h : L9 M) : (z_bd (z_aI 11 78 7) f).1 M = (f (z_i M 78 7)).1 M := q9_a78 (k := 7) h (by decide)
theorem q9_t78_7 {f : Unit → zP β} (h : L9 M) : (z_bd (z_sI 11 78 7 v) f).1 M = (f ()).1 (z_wi M 78 7 v) := q9_s78 (k := 7) h (by decide)
theorem q9_l78_8 {f : Int32 → zP β} (h : L9 M) : (z_bd (z_aI 11 78 8) f).1 M = (f (z_i M 78 8)).1 M := q9_a78 (k := 8) h (by decide)
theorem q9_t78_8 {f : Unit → zP β} (h : L9 M) : (z_bd (z_sI 11 78 8 v) f).1 M = (f ()).1 (z_wi M 78 8 v) := q9_s78 (k := 8) h (by decide)
theorem q9_m79 (h : L9 M) : z_kd M 79 = 11 ∧ z_ln M 79 = 700 ∧ z_r M 75 12 = some 79 := h.2.2 (79, 11, 700, 12) (by decide)
theorem q9_is79 (h : L9 M) : z_is 11 79 M := ⟨Nat.lt_of_lt_of_le (by decide) h.1, (q9_m79 h).1⟩
theorem q9_g79 {f : Nat → zP β} (h : L9 M) : (z_bd (z_gA 9 75 12) f).1 M = (f 79).1 M := e_gA (q9_is h) (q9_m79 h).2.2
theorem q9_in79 (h : L9 M) (hk : k < 700) : z_in 11 79 (nI k) M := n_in (q9_is79 h) (q9_m79 h).2.1 hk (by decide)
theorem q9_a79 {f : Int32 → zP β} (h : L9 M) (hk : k < 700) : (z_bd (z_aI 11 79 (nI k)) f).1 M = (f (z_i M 79 k)).1 M := by
  refine (e_aI (q9_in79 h hk)).trans ?_
  rw [nI_clamp (by omega)]
theorem q9_s79 {f : Unit → zP β} (h : L9 M) (hk : k < 700) : (z_bd (z_sI 11 79 (nI k) v) f).1 M = (f ()).1 (z_wi M 79 k v) := by
  refine (e_sI (q9_in79 h hk)).trans ?_
  rw [nI_clamp (by omega)]
theorem q9_l79_0 {f : Int32 → zP β} (h : L9 M) : (z_bd (z_aI 11 79 0) f).1 M = (f (z_i M 79 0)).1 M := q9_a79 (k := 0) h (by decide)
theorem q9_t79_0 {f : Unit → zP β} (h : L9 M) : (z_bd (z_sI 11 79 0 v) f).1 M = (f ()).1 (z_wi M 79 0 v) := q9_s79 (k := 0) h (by decide)
theorem q9_m80 (h : L9 M) : z_kd M 80 = 11 ∧ z_ln M 80 = 700 ∧ z_r M 75 13 = some 80 := h.2.2 (80, 11, 700, 13) (by decide)
theorem q9_is80 (h : L9 M) : z_is 11 80 M := ⟨Nat.lt_of_lt_of_le (by decide) h.1, (q9_m80 h).1⟩
theorem q9_g80 {f : Nat → zP β} (h : L9 M) : (z_bd (z_gA 9 75 13) f).1 M = (f 80).1 M := e_gA (q9_is h) (q9_m80 h).2.2
theorem q9_in80 (h : L9 M) (hk : k < 700) : z_in 11 80 (nI k) M := n_in (q9_is80 h) (q9_m80 h).2.1 hk (by decide)
theorem q9_a80 {f : Int32 → zP β} (h : L9 M) (hk : k < 700) : (z_bd (z_aI 11 80 (nI k)) f).1 M = (f (z_i M 80 k)).1 M := by
  refine (e_aI (q9_in80 h hk)).trans ?_
  rw [nI_clamp (by omega)]
theorem q9_s80 {f : Unit → zP β} (h : L9 M) (hk : k < 700) : (z_bd (z_sI 11 80 (nI k) v) f).1 M = (f ()).1 (z_wi M 80 k v) := by
  refine (e_sI (q9_in80 h hk)).trans ?_
  rw [nI_clamp (by omega)]
theorem q9_m81 (h : L9 M) : z_kd M 81 = 11 ∧ z_ln M 81 = 700 ∧ z_r M 75 15 = some 81 := h.2.2 (81, 11, 700, 15) (by decide)
theorem q9_is81 (h : L9 M) : z_is 11 81 M := ⟨Nat.lt_of_lt_of_le (by decide) h.1, (q9_m81 h).1⟩
theorem q9_g81 {f : Nat → zP β} (h : L9 M) : (z_bd (z_gA 9 75 15) f).1 M = (f 81).1 M := e_gA (q9_is h) (q9_m81 h).2.2
theorem q9_in81 (h : L9 M) (hk : k < 700) : z_in 11 81 (nI k) M := n_in (q9_is81 h) (q9_m81 h).2.1 hk (by decide)
theorem q9_a81 {f : Int32 → zP β} (h : L9 M) (hk : k < 700) : (z_bd (z_aI 11 81 (nI k)) f).1 M = (f (z_i M 81 k)).1 M := by
  refine (e_aI (q9_in81 h hk)).trans ?_
  rw [nI_clamp (by omega)]
theorem q9_s81 {f : Unit → zP β} (h : L9 M) (hk : k < 700) : (z_bd (z_sI 11 81 (nI k) v) f).1 M = (f ()).1 (z_wi M 81 k v) := by
  refine (e_sI (q9_in81 h hk)).trans ?_
  rw [nI_clamp (by omega)]
theorem q9_m82 (h : L9 M) : z_kd M 82 = 11 ∧ z_ln M 82 = 700 ∧ z_r M 75 18 = some 82 := h.2.2 (82, 11, 700, 18) (by decide)
theorem q9_is82 (h : L9 M) : z_is 11 82 M := ⟨Nat.lt_of_lt_of_le (by decide) h.1, (q9_m82 h).1⟩
theorem q9_g82 {f : Nat → zP β} (h : L9 M) : (z_bd (z_gA 9 75 18) f).1 M = (f 82).1 M := e_gA (q9_is h) (q9_m82 h).2.2
theorem q9_in82 (h : L9 M) (hk : k < 700) : z_in 11 82 (nI k) M := n_in (q9_is82 h) (q9_m82 h).2.1 hk (by decide)
theorem q9_a82 {f : Int32 → zP β} (h : L9 M) (hk : k < 700) : (z_bd (z_aI 11 82 (nI k)) f).1 M = (f (z_i M 82 k)).1 M := by
  refine (e_aI (q9_in82 h hk)).trans ?_
  rw [nI_clamp (by omega)]
theorem q9_s82 {f : Unit → zP β} (h : L9 M) (hk : k < 700) : (z_bd (z_sI 11 82 (nI k) v) f).1 M = (f ()).1 (z_wi M 82 k v) := by
  refine (e_sI (q9_in82 h hk)).trans ?_
  rw [nI_clamp (by omega)]
theorem q9_l82_0 {f : Int32 → zP β} (h : L9 M) : (z_bd (z_aI 11 82 0) f).1 M = (f (z_i M 82 0)).1 M := q9_a82 (k := 0) h (by decide)
theorem q9_t82_0 {f : Unit → zP β} (h : L9 M) : (z_bd (z_sI 11 82 0 v) f).1 M = (f ()).1 (z_wi M 82 0 v) := q9_s82 (k := 0) h (by decide)
theorem q9_m83 (h : L9 M) : z_kd M 83 = 11 ∧ z_ln M 83 = 3277 ∧ z_r M 75 19 = some 83 := h.2.2 (83, 11, 3277, 19) (by decide)
theorem q9_is83 (h : L9 M) : z_is 11 83 M := ⟨Nat.lt_of_lt_of_le (by decide) h.1, (q9_m83 h).1⟩
theorem q9_g83 {f : Nat → zP β} (h : L9 M) : (z_bd (z_gA 9 75 19) f).1 M = (f 83).1 M := e_gA (q9_is h) (q9_m83 h).2.2
theorem q9_in83 (h : L9 M) (hk : k < 3277) : z_in 11 83 (nI k) M := n_in (q9_is83 h) (q9_m83 h).2.1 hk (by decide)
theorem q9_a83 {f : Int32 → zP β} (h : L9 M) (hk : k < 3277) : (z_bd (z_aI 11 83 (nI k)) f).1 M = (f (z_i M 83 k)).1 M := by
  refine (e_aI (q9_in83 h hk)).trans ?_
  rw [nI_clamp (by omega)]
theorem q9_s83 {f : Unit → zP β} (h : L9 M) (hk : k < 3277) : (z_bd (z_sI 11 83 (nI k) v) f).1 M = (f ()).1 (z_wi M 83 k v) := by
  refine (e_sI (q9_in83 h hk)).trans ?_
  rw [nI_clamp (by omega)]
theorem q9_l83_0 {f : Int32 → zP β} (h : L9 M) : (z_bd (z_aI 11 83 0) f).1 M = (f (z_i M 83 0)).1 M := q9_a83 (k := 0) h (by decide)
theorem q9_t83_0 {f : Unit → zP β} (h : L9 M) : (z_bd (z_sI 11 83 0 v) f).1 M = (f ()).1 (z_wi M 83 0 v) := q9_s83 (k := 0) h (by decide)
theorem q9_l83_1 {f : Int32 → zP β} (h : L9 M) : (z_bd (z_aI 11 83 1) f).1 M = (f (z_i M 83 1)).1 M := q9_a83 (k := 1) h (by decide)
theorem q9_t83_1 {f : Unit → zP β} (h : L9 M) : (z_bd (z_sI 11 83 1 v) f).1 M = (f ()).1 (z_wi M 83 1 v) := q9_s83 (k := 1) h (by decide)
theorem q9_l83_2 {f : Int32 → zP β} (h : L9 M) : (z_bd (z_aI 11 83 2) f).1 M = (f (z_i M 83 2)).1 M := q9_a83 (k := 2) h (by decide)
theorem q9_t83_2 {f : Unit → zP β} (h : L9 M) : (z_bd (z_sI 11 83 2 v) f).1 M = (f ()).1 (z_wi M 83 2 v) := q9_s83 (k := 2) h (by decide)
theorem q9_l83_3 {f : Int32 → zP β} (h : L9 M) : (z_bd (z_aI 11 83 3) f).1 M = (f (z_i M 83 3)).1 M := q9_a83 (k := 3) h (by decide)
theorem q9_t83_3 {f : Unit → zP β} (h : L9 M) : (z_bd (z_sI 11 83 3 v) f).1 M = (f ()).1 (z_wi M 83 3 v) := q9_s83 (k := 3) h (by decide)
theorem q9_l83_4 {f : Int32 → zP β} (h : L9 M) : (z_bd (z_aI 11 83 4) f).1 M = (f (z_i M 83 4)).1 M := q9_a83 (k := 4) h (by decide)
theorem q9_t83_4 {f : Unit → zP β} (h : L9 M) : (z_bd (z_sI 11 83 4 v) f).1 M = (f ()).1 (z_wi M 83 4 v) := q9_s83 (k := 4) h (by decide)
theorem q9_l83_5 {f : Int32 → zP β} (h : L9 M) : (z_bd (z_aI 11 83 5) f).1 M = (f (z_i M 83 5)).1 M := q9_a83 (k := 5) h (by decide)
theorem q9_t83_5 {f : Unit → zP β} (h : L9 M) : (z_bd (z_sI 11 83 5 v) f).1 M = (f ()).1 (z_wi M 83 5 v) := q9_s83 (k := 5) h (by decide)
theorem q9_l83_204 {f : Int32 → zP β} (h : L9 M) : (z_bd (z_aI 11 83 204) f).1 M = (f (z_i M 83 204)).1 M := q9_a83 (k := 204) h (by decide)
theorem q9_t83_204 {f : Unit → zP β} (h : L9 M) : (z_bd (z_sI 11 83 204 v) f).1 M = (f ()).1 (z_wi M 83 204 v) := q9_s83 (k := 204) h (by decide)
theorem q9_m84 (h : L9 M) : z_kd M 84 = 11 ∧ z_ln M 84 = 32770 ∧ z_r M 75 20 = some 84 := h.2.2 (84, 11, 32770, 20) (by decide)
theorem q9_is84 (h : L9 M) : z_is 11 84 M := ⟨Nat.lt_of_lt_of_le (by decide) h.1, (q9_m84 h).1⟩
theorem q9_g84 {f : Nat → zP β} (h : L9 M) : (z_bd (z_gA 9 75 20) f).1 M = (f 84).1 M := e_gA (q9_is h) (q9_m84 h).2.2
theorem q9_in84 (h : L9 M) (hk : k < 32770) : z_in 11 84 (nI k) M := n_in (q9_is84 h) (q9_m84 h).2.1 hk (by decide)
theorem q9_a84 {f : Int32 → zP β} (h : L9 M) (hk : k < 32770) : (z_bd (z_aI 11 84 (nI k)) f).1 M = (f (z_i M 84 k)).1 M := by
  refine (e_aI (q9_in84 h hk)).trans ?_
  rw [nI_clamp (by omega)]
theorem q9_s84 {f : Unit → zP β} (h : L9 M) (hk : k < 32770) : (z_bd (z_sI 11 84 (nI k) v) f).1 M = (f ()).1 (z_wi M 84 k v) := by
  refine (e_sI (q9_in84 h hk)).trans ?_
  rw [nI_clamp (by omega)]
theorem q9_m85 (h : L9 M) : z_kd M 85 = 11 ∧ z_ln M 85 = 6554 ∧ z_r M 75 22 = some 85 := h.2.2 (85, 11, 6554, 22) (by decide)
theorem q9_is85 (h : L9 M) : z_is 11 85 M := ⟨Nat.lt_of_lt_of_le (by decide) h.1, (q9_m85 h).1⟩
theorem q9_g85 {f : Nat → zP β} (h : L9 M) : (z_bd (z_gA 9 75 22) f).1 M = (f 85).1 M := e_gA (q9_is h) (q9_m85 h).2.2
theorem q9_in85 (h : L9 M) (hk : k < 6554) : z_in 11 85 (nI k) M := n_in (q9_is85 h) (q9_m85 h).2.1 hk (by decide)
theorem q9_a85 {f : Int32 → zP β} (h : L9 M) (hk : k < 6554) : (z_bd (z_aI 11 85 (nI k)) f).1 M = (f (z_i M 85 k)).1 M := by
  refine (e_aI (q9_in85 h hk)).trans ?_
  rw [nI_clamp (by omega)]
theorem q9_s85 {f : Unit → zP β} (h : L9 M) (hk : k < 6554) : (z_bd (z_sI 11 85 (nI k) v) f).1 M = (f ()).1 (z_wi M 85 k v) := by
  refine (e_sI (q9_in85 h hk)).trans ?_
  rw [nI_clamp (by omega)]
theorem q9_m86 (h : L9 M) : z_kd M 86 = 12 ∧ z_ln M 86 = 2 ∧ z_r M 75 23 = some 86 := h.2.2 (86, 12, 2, 23) (by decide)
theorem q9_is86 (h : L9 M) : z_is 12 86 M := ⟨Nat.lt_of_lt_of_le (by decide) h.1, (q9_m86 h).1⟩
theorem q9_g86 {f : Nat → zP β} (h : L9 M) : (z_bd (z_gA 9 75 23) f).1 M = (f 86).1 M := e_gA (q9_is h) (q9_m86 h).2.2
theorem q9_in86 (h : L9 M) (hk : k < 2) : z_in 12 86 (nI k) M := n_in (q9_is86 h) (q9_m86 h).2.1 hk (by decide)
theorem q9_a86 {f : Int32 → zP β} (h : L9 M) (hk : k < 2) : (z_bd (z_aI 12 86 (nI k)) f).1 M = (f (z_i M 86 k)).1 M := by
  refine (e_aI (q9_in86 h hk)).trans ?_
  rw [nI_clamp (by omega)]
theorem q9_s86 {f : Unit → zP β} (h : L9 M) (hk : k < 2) (hv : v = 0 ∨ v = 1) : (z_bd (z_sZ 86 (nI k) v) f).1 M = (f ()).1 (z_wi M 86 k v) := by
  refine (e_sZ (q9_in86 h hk) hv).trans ?_
  rw [nI_clamp (by omega)]
theorem q9_l86_0 {f : Int32 → zP β} (h : L9 M) : (z_bd (z_aI 12 86 0) f).1 M = (f (z_i M 86 0)).1 M := q9_a86 (k := 0) h (by decide)
theorem q9_t86_0 {f : Unit → zP β} (h : L9 M) (hv : v = 0 ∨ v = 1) : (z_bd (z_sZ 86 0 v) f).1 M = (f ()).1 (z_wi M 86 0 v) := q9_s86 (k := 0) h (by decide) hv
theorem q9_l86_1 {f : Int32 → zP β} (h : L9 M) : (z_bd (z_aI 12 86 1) f).1 M = (f (z_i M 86 1)).1 M := q9_a86 (k := 1) h (by decide)
theorem q9_t86_1 {f : Unit → zP β} (h : L9 M) (hv : v = 0 ∨ v = 1) : (z_bd (z_sZ 86 1 v) f).1 M = (f ()).1 (z_wi M 86 1 v) := q9_s86 (k := 1) h (by decide) hv
theorem q9_m87 (h : L9 M) : z_kd M 87 = 11 ∧ z_ln M 87 = 3277 ∧ z_r M 75 24 = some 87 := h.2.2 (87, 11, 3277, 24) (by decide)
theorem q9_is87 (h : L9 M) : z_is 11 87 M := ⟨Nat.lt_of_lt_of_le (by decide) h.1, (q9_m87 h).1⟩
theorem q9_g87 {f : Nat → zP β} (h : L9 M) : (z_bd (z_gA 9 75 24) f).1 M = (f 87).1 M := e_gA (q9_is h) (q9_m87 h).2.2
theorem q9_in87 (h : L9 M) (hk : k < 3277) : z_in 11 87 (nI k) M := n_in (q9_is87 h) (q9_m87 h).2.1 hk (by decide)
theorem q9_a87 {f : Int32 → zP β} (h : L9 M) (hk : k < 3277) : (z_bd (z_aI 11 87 (nI k)) f).1 M = (f (z_i M 87 k)).1 M := by
  refine (e_aI (q9_in87 h hk)).trans ?_
  rw [nI_clamp (by omega)]
theorem q9_s87 {f : Unit → zP β} (h : L9 M) (hk : k < 3277) : (z_bd (z_sI 11 87 (nI k) v) f).1 M = (f ()).1 (z_wi M 87 k v) := by
  refine (e_sI (q9_in87 h hk)).trans ?_
  rw [nI_clamp (by omega)]
theorem q9_m88 (h : L9 M) : z_kd M 88 = 11 ∧ z_ln M 88 = 8 ∧ z_r M 75 25 = some 88 := h.2.2 (88, 11, 8, 25) (by decide)
theorem q9_is88 (h : L9 M) : z_is 11 88 M := ⟨Nat.lt_of_lt_of_le (by decide) h.1, (q9_m88 h).1⟩
theorem q9_g88 {f : Nat → zP β} (h : L9 M) : (z_bd (z_gA 9 75 25) f).1 M = (f 88).1 M := e_gA (q9_is h) (q9_m88 h).2.2
theorem q9_in88 (h : L9 M) (hk : k < 8) : z_in 11 88 (nI k) M := n_in (q9_is88 h) (q9_m88 h).2.1 hk (by decide)
theorem q9_a88 {f : Int32 → zP β} (h : L9 M) (hk : k < 8) : (z_bd (z_aI 11 88 (nI k)) f).1 M = (f (z_i M 88 k)).1 M := by
  refine (e_aI (q9_in88 h hk)).trans ?_
  rw [nI_clamp (by omega)]
theorem q9_s88 {f : Unit → zP β} (h : L9 M) (hk : k < 8) : (z_bd (z_sI 11 88 (nI k) v) f).1 M = (f ()).1 (z_wi M 88 k v) := by
  refine (e_sI (q9_in88 h hk)).trans ?_
  rw [nI_clamp (by omega)]
theorem q9_m89 (h : L9 M) : z_kd M 89 = 11 ∧ z_ln M 89 = 8 ∧ z_r M 75 26 = some 89 := h.2.2 (89, 11, 8, 26) (by decide)
theorem q9_is89 (h : L9 M) : z_is 11 89 M := ⟨Nat.lt_of_lt_of_le (by decide) h.1, (q9_m89 h).1⟩
theorem q9_g89 {f : Nat → zP β} (h : L9 M) : (z_bd (z_gA 9 75 26) f).1 M = (f 89).1 M := e_gA (q9_is h) (q9_m89 h).2.2
theorem q9_in89 (h : L9 M) (hk : k < 8) : z_in 11 89 (nI k) M := n_in (q9_is89 h) (q9_m89 h).2.1 hk (by decide)
theorem q9_a89 {f : Int32 → zP β} (h : L9 M) (hk : k < 8) : (z_bd (z_aI 11 89 (nI k)) f).1 M = (f (z_i M 89 k)).1 M := by
  refine (e_aI (q9_in89 h hk)).trans ?_
  rw [nI_clamp (by omega)]
theorem q9_s89 {f : Unit → zP β} (h : L9 M) (hk : k < 8) : (z_bd (z_sI 11 89 (nI k) v) f).1 M = (f ()).1 (z_wi M 89 k v) := by
  refine (e_sI (q9_in89 h hk)).trans ?_
  rw [nI_clamp (by omega)]
theorem q9_m90 (h : L9 M) : z_kd M 90 = 11 ∧ z_ln M 90 = 9 ∧ z_r M 75 29 = some 90 := h.2.2 (90, 11, 9, 29) (by decide)
theorem q9_is90 (h : L9 M) : z_is 11 90 M := ⟨Nat.lt_of_lt_of_le (by decide) h.1, (q9_m90 h).1⟩
theorem q9_g90 {f : Nat → zP β} (h : L9 M) : (z_bd (z_gA 9 75 29) f).1 M = (f 90).1 M := e_gA (q9_is h) (q9_m90 h).2.2
theorem q9_in90 (h : L9 M) (hk : k < 9) : z_in 11 90 (nI k) M := n_in (q9_is90 h) (q9_m90 h).2.1 hk (by decide)
theorem q9_a90 {f : Int32 → zP β} (h : L9 M) (hk : k < 9) : (z_bd (z_aI 11 90 (nI k)) f).1 M = (f (z_i M 90 k)).1 M := by
  refine (e_aI (q9_in90 h hk)).trans ?_
  rw [nI_clamp (by omega)]
theorem q9_s90 {f : Unit → zP β} (h : L9 M) (hk : k < 9) : (z_bd (z_sI 11 90 (nI k) v) f).1 M = (f ()).1 (z_wi M 90 k v) := by
  refine (e_sI (q9_in90 h hk)).trans ?_
  rw [nI_clamp (by omega)]
theorem q9_l90_0 {f : Int32 → zP β} (h : L9 M) : (z_bd (z_aI 11 90 0) f).1 M = (f (z_i M 90 0)).1 M := q9_a90 (k := 0) h (by decide)
theorem q9_t90_0 {f : Unit → zP β} (h : L9 M) : (z_bd (z_sI 11 90 0 v) f).1 M = (f ()).1 (z_wi M 90 0 v) := q9_s90 (k := 0) h (by decide)
theorem q9_m91 (h : L9 M) : z_kd M 91 = 11 ∧ z_ln M 91 = 9 ∧ z_r M 75 30 = some 91 := h.2.2 (91, 11, 9, 30) (by decide)
theorem q9_is91 (h : L9 M) : z_is 11 91 M := ⟨Nat.lt_of_lt_of_le (by decide) h.1, (q9_m91 h).1⟩
theorem q9_g91 {f : Nat → zP β} (h : L9 M) : (z_bd (z_gA 9 75 30) f).1 M = (f 91).1 M := e_gA (q9_is h) (q9_m91 h).2.2
theorem q9_in91 (h : L9 M) (hk : k < 9) : z_in 11 91 (nI k) M := n_in (q9_is91 h) (q9_m91 h).2.1 hk (by decide)
theorem q9_a91 {f : Int32 → zP β} (h : L9 M) (hk : k < 9) : (z_bd (z_aI 11 91 (nI k)) f).1 M = (f (z_i M 91 k)).1 M := by
  refine (e_aI (q9_in91 h hk)).trans ?_
  rw [nI_clamp (by omega)]
theorem q9_s91 {f : Unit → zP β} (h : L9 M) (hk : k < 9) : (z_bd (z_sI 11 91 (nI k) v) f).1 M = (f ()).1 (z_wi M 91 k v) := by
  refine (e_sI (q9_in91 h hk)).trans ?_
  rw [nI_clamp (by omega)]
theorem q9_m92 (h : L9 M) : z_kd M 92 = 11 ∧ z_ln M 92 = 9 ∧ z_r M 75 31 = some 92 := h.2.2 (92, 11, 9, 31) (by decide)
theorem q9_is92 (h : L9 M) : z_is 11 92 M := ⟨Nat.lt_of_lt_of_le (by decide) h.1, (q9_m92 h).1⟩
theorem q9_g92 {f : Nat → zP β} (h : L9 M) : (z_bd (z_gA 9 75 31) f).1 M = (f 92).1 M := e_gA (q9_is h) (q9_m92 h).2.2
theorem q9_in92 (h : L9 M) (hk : k < 9) : z_in 11 92 (nI k) M := n_in (q9_is92 h) (q9_m92 h).2.1 hk (by decide)
theorem q9_a92 {f : Int32 → zP β} (h : L9 M) (hk : k < 9) : (z_bd (z_aI 11 92 (nI k)) f).1 M = (f (z_i M 92 k)).1 M := by
  refine (e_aI (q9_in92 h hk)).trans ?_
  rw [nI_clamp (by omega)]
theorem q9_s92 {f : Unit → zP β} (h : L9 M) (hk : k < 9) : (z_bd (z_sI 11 92 (nI k) v) f).1 M = (f ()).1 (z_wi M 92 k v) := by
  refine (e_sI (q9_in92 h hk)).trans ?_
  rw [nI_clamp (by omega)]
theorem q9_m93 (h : L9 M) : z_kd M 93 = 11 ∧ z_ln M 93 = 9 ∧ z_r M 75 32 = some 93 := h.2.2 (93, 11, 9, 32) (by decide)
theorem q9_is93 (h : L9 M) : z_is 11 93 M := ⟨Nat.lt_of_lt_of_le (by decide) h.1, (q9_m93 h).1⟩
theorem q9_g93 {f : Nat → zP β} (h : L9 M) : (z_bd (z_gA 9 75 32) f).1 M = (f 93).1 M := e_gA (q9_is h) (q9_m93 h).2.2
theorem q9_in93 (h : L9 M) (hk : k < 9) : z_in 11 93 (nI k) M := n_in (q9_is93 h) (q9_m93 h).2.1 hk (by decide)
theorem q9_a93 {f : Int32 → zP β} (h : L9 M) (hk : k < 9) : (z_bd (z_aI 11 93 (nI k)) f).1 M = (f (z_i M 93 k)).1 M := by
  refine (e_aI (q9_in93 h hk)).trans ?_
  rw [nI_clamp (by omega)]
theorem q9_s93 {f : Unit → zP β} (h : L9 M) (hk : k < 9) : (z_bd (z_sI 11 93 (nI k) v) f).1 M = (f ()).1 (z_wi M 93 k v) := by
  refine (e_sI (q9_in93 h hk)).trans ?_
  rw [nI_clamp (by omega)]
theorem q9_m94 (h : L9 M) : z_kd M 94 = 11 ∧ z_ln M 94 = 9 ∧ z_r M 75 33 = some 94 := h.2.2 (94, 11, 9, 33) (by decide)
theorem q9_is94 (h : L9 M) : z_is 11 94 M := ⟨Nat.lt_of_lt_of_le (by decide) h.1, (q9_m94 h).1⟩
theorem q9_g94 {f : Nat → zP β} (h : L9 M) : (z_bd (z_gA 9 75 33) f).1 M = (f 94).1 M := e_gA (q9_is h) (q9_m94 h).2.2
theorem q9_in94 (h : L9 M) (hk : k < 9) : z_in 11 94 (nI k) M := n_in (q9_is94 h) (q9_m94 h).2.1 hk (by decide)
theorem q9_a94 {f : Int32 → zP β} (h : L9 M) (hk : k < 9) : (z_bd (z_aI 11 94 (nI k)) f).1 M = (f (z_i M 94 k)).1 M := by
  refine (e_aI (q9_in94 h hk)).trans ?_
  rw [nI_clamp (by omega)]
theorem q9_s94 {f : Unit → zP β} (h : L9 M) (hk : k < 9) : (z_bd (z_sI 11 94 (nI k) v) f).1 M = (f ()).1 (z_wi M 94 k v) := by
  refine (e_sI (q9_in94 h hk)).trans ?_
  rw [nI_clamp (by omega)]
end P9
