/-! ===== PHASE 2: sets of bits ===== -/
def bt (x : Int32) (l : Nat) : Bool := x.toBitVec.getLsbD l
/-- the numbers lo to hi, a bit each -/
def BI (x : Int32) (lo hi : Nat) : Prop := ∀ l, l < 32 → bt x l = (decide (lo ≤ l) && decide (l ≤ hi))
section PA32
variable {x y : Int32} {a b i j k l lo hi n U V : Nat}
theorem bt_ext (h : ∀ l, l < 32 → bt x l = bt y l) : x = y := by
  apply Int32.toBitVec_inj.mp
  exact BitVec.eq_of_getLsbD_eq (fun i hi => h i hi)
theorem bt_nI (n : Nat) (hl : l < 32) : bt (nI n) l = n.testBit l := by
  show (BitVec.ofNat 32 n).getLsbD l = _
  rw [BitVec.getLsbD_ofNat]
  simp [hl]
theorem bt_toN (x : Int32) (l : Nat) : bt x l = x.toBitVec.toNat.testBit l := (BitVec.testBit_toNat _).symm
theorem bt_and (x y : Int32) (l : Nat) : bt (x &&& y) l = (bt x l && bt y l) := by
  unfold bt
  rw [Int32.toBitVec_and, BitVec.getLsbD_and]
theorem bt_or (x y : Int32) (l : Nat) : bt (x ||| y) l = (bt x l || bt y l) := by
  unfold bt
  rw [Int32.toBitVec_or, BitVec.getLsbD_or]
theorem bt_not (x : Int32) (hl : l < 32) : bt (x ^^^ (-1)) l = !bt x l := by
  have e : ∀ l : Fin 32, bt (-1) l.1 = true := by decide
  have e1 := e ⟨l, hl⟩
  unfold bt at *
  rw [Int32.toBitVec_xor, BitVec.getLsbD_xor, e1]
  simp
theorem bt_0 (l : Nat) : bt 0 l = false := by
  show (0#32).getLsbD l = false
  simp
theorem bt_sub : (x &&& (y ^^^ (-1))) = 0 ↔ ∀ l, l < 32 → bt x l = true → bt y l = true := by
  constructor
  · intro h l hl hx
    have h1 : bt (x &&& (y ^^^ (-1))) l = false := by rw [h]; exact bt_0 l
    rw [bt_and, bt_not y hl, hx] at h1
    simpa using h1
  · intro h
    apply bt_ext
    intro l hl
    rw [bt_and, bt_not y hl, bt_0]
    cases hx : bt x l with
    | false => rfl
    | true => rw [h l hl hx]; rfl
theorem nI_or (a b : Nat) : nI a ||| nI b = nI (a ||| b) := by
  apply bt_ext
  intro l hl
  rw [bt_or, bt_nI a hl, bt_nI b hl, bt_nI _ hl, Nat.testBit_or]
theorem sm5 : ∀ k : Fin 32, ((nI k.1 &&& 31).toBitVec.smod 32).toNat = k.1 := by decide
theorem one_shl (hk : k < 31) : (1 : Int32) <<< (nI k &&& 31) = nI (2 ^ k) := by
  have h2 : 2 ^ k < 2 ^ 31 := Nat.pow_lt_pow_right (by decide) hk
  have h := pk_shlN (n := 1) (nI k &&& 31) k (sm5 ⟨k, by omega⟩) (by omega)
  rw [show (1 : Int32) = nI 1 from rfl, h, Nat.one_mul]
theorem two_shl (hk : k < 30) : (2 : Int32) <<< (nI k &&& 31) = nI (2 ^ (k + 1)) := by
  have h2 : 2 ^ (k + 1) < 2 ^ 31 := Nat.pow_lt_pow_right (by decide) (by omega)
  have h3 : 2 ^ (k + 1) = 2 ^ k * 2 := Nat.pow_succ 2 k
  have h := pk_shlN (n := 2) (nI k &&& 31) k (sm5 ⟨k, by omega⟩) (by omega)
  rw [show (2 : Int32) = nI 2 from rfl, h, h3, Nat.mul_comm]
theorem li_bit (h : lo ≤ hi) : (2 ^ (hi + 1) - 2 ^ lo).testBit l = (decide (lo ≤ l) && decide (l ≤ hi)) := by
  have e : 2 ^ (hi + 1) - 2 ^ lo = (2 ^ (hi + 1 - lo) - 1) <<< lo := by
    rw [Nat.shiftLeft_eq, Nat.sub_mul, ← Nat.pow_add, Nat.one_mul, Nat.sub_add_cancel (by omega)]
  rw [e, Nat.testBit_shiftLeft, Nat.testBit_two_pow_sub_one]
  by_cases h1 : lo ≤ l
  · have e2 : decide (l - lo < hi + 1 - lo) = decide (l ≤ hi) := by
      apply decide_eq_decide.mpr
      omega
    rw [e2]
  · simp [h1]
theorem li_eq (h : lo ≤ hi) (hh : hi < 30) : (2 : Int32) <<< (nI hi &&& 31) - (1 : Int32) <<< (nI lo &&& 31) = nI (2 ^ (hi + 1) - 2 ^ lo) := by
  rw [two_shl hh, one_shl (by omega), nI_sub]
  exact Nat.pow_le_pow_right (by decide) (by omega)
theorem li_BI (h : lo ≤ hi) (hh : hi < 30) : BI ((2 : Int32) <<< (nI hi &&& 31) - (1 : Int32) <<< (nI lo &&& 31)) lo hi := by
  intro l hl
  rw [li_eq h hh, bt_nI _ hl, li_bit h]
theorem BI_1 (hk : k < 30) : BI ((1 : Int32) <<< (nI k &&& 31)) k k := by
  intro l hl
  rw [one_shl (by omega), bt_nI _ hl, Nat.testBit_two_pow]
  by_cases h : k = l
  · subst h; simp
  · have : ¬ (k ≤ l ∧ l ≤ k) := by omega
    simp only [h, decide_false]
    by_cases h1 : k ≤ l
    · have h2 : ¬ l ≤ k := by omega
      simp [h2]
    · simp [h1]
theorem BI_0 (h : BI x lo hi) (h1 : lo ≤ hi) (h2 : hi < 32) : ¬ x = 0 := by
  intro e
  have h3 := h lo (by omega)
  rw [e, bt_0] at h3
  simp [h1] at h3
/-- the shifts, a bit at a time -/
theorem bt_shl (x : Int32) (hk : k < 32) (hl : l < 32) : bt (x <<< (nI k &&& 31)) l = (decide (k ≤ l) && bt x (l - k)) := by
  rw [bt_toN, pk_shl x (nI k &&& 31) k (sm5 ⟨k, hk⟩), ← Nat.shiftLeft_eq, Nat.testBit_mod_two_pow, Nat.testBit_shiftLeft, bt_toN]
  simp [hl]
theorem bt_shr (hn : n < 2 ^ 31) (hk : k < 32) (hl : l < 32) : bt (nI n >>> (nI k &&& 31)) l = n.testBit (k + l) := by
  rw [pk_shrN hn (nI k &&& 31) k (sm5 ⟨k, hk⟩), bt_nI _ hl, ← Nat.shiftRight_eq_div_pow, Nat.testBit_shiftRight]
/-- a bit of a set, as the programs ask for it -/
theorem bit_ask (hV : V < 2 ^ 31) (hk : k < 31) : ((nI V >>> (nI k &&& 31)) &&& 1) = if V.testBit k = true then 1 else 0 := by
  apply bt_ext
  intro l hl
  have e1 : bt 1 l = decide (l = 0) := by
    rw [show (1 : Int32) = nI 1 from rfl, bt_nI 1 hl]
    cases l with
    | zero => rfl
    | succ l => simp [Nat.testBit_succ]
  rw [bt_and, bt_shr hV (by omega) hl, e1]
  by_cases h0 : l = 0
  · subst h0
    cases hb : V.testBit k with
    | false => rfl
    | true => rfl
  · have e2 : bt (if V.testBit k = true then (1 : Int32) else 0) l = false := by
      split
      · rw [e1]; simp [h0]
      · exact bt_0 l
    rw [e2]
    simp [h0]
theorem in_ask (hV : V < 2 ^ 31) (hk : k < 31) : (nI (V ||| 2 ^ k) = nI V) ↔ V.testBit k = true := by
  constructor
  · intro h
    have h1 : bt (nI (V ||| 2 ^ k)) k = bt (nI V) k := by rw [h]
    rw [bt_nI _ (by omega), bt_nI _ (by omega), tq_bs] at h1
    exact h1.symm
  · intro h
    apply bt_ext
    intro l hl
    rw [bt_nI _ hl, bt_nI _ hl, tq_bit]
    by_cases e : k = l
    · subst e; simp [h]
    · simp [e]
theorem or_lt (hV : V < 2 ^ 8) (hk : k < 8) : V ||| 2 ^ k < 2 ^ 8 := Nat.or_lt_two_pow hV (Nat.pow_lt_pow_right (by decide) hk)
/-! the bits of a small number, counted -/
set_option maxRecDepth 100000 in
theorem bitcount8 : ∀ w : Fin 256, (p_J6_bitCount_0f7a4 (nI w.1)) = z_pu (nI (tq_sm (fun i => if w.1.testBit i = true then 1 else 0) 8)) := by
  intro w
  unfold p_J6_bitCount_0f7a4
  simp only [b_pu]
  congr 1
  revert w
  decide
end PA32
