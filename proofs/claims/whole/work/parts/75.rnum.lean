/-! ===== PHASE 2: riders' numbers ===== -/
def cN (A R O T : Nat) : Nat := A * 65536 + R * 64 + O * 8 + T
theorem nx_or (a b : Nat) : nI a ||| nI b = nI (a ||| b) := by
  apply Int32.toBitVec_inj.mp
  show BitVec.ofNat 32 a ||| BitVec.ofNat 32 b = BitVec.ofNat 32 (a ||| b)
  apply BitVec.eq_of_getLsbD_eq
  intro i hi
  simp [BitVec.getLsbD_or, BitVec.getLsbD_ofNat, hi]
theorem nz_and (a b : Nat) : nI a &&& nI b = nI (a &&& b) := by
  apply Int32.toBitVec_inj.mp
  show BitVec.ofNat 32 a &&& BitVec.ofNat 32 b = BitVec.ofNat 32 (a &&& b)
  apply BitVec.eq_of_getLsbD_eq
  intro i hi
  simp [BitVec.getLsbD_and, BitVec.getLsbD_ofNat, hi]
theorem or_add {a b i : Nat} (h : b < 2 ^ i) : 2 ^ i * a ||| b = 2 ^ i * a + b := (Nat.two_pow_add_eq_or_of_lt h a).symm
theorem cN_code {A R O T : Nat} (hA : A < 32768) (hR : R < 1024) (hO : O < 8) (hT : T < 8) : ((nI A <<< ((16 : Int32) &&& 31)) ||| (nI R <<< ((6 : Int32) &&& 31))) ||| (nI O <<< ((3 : Int32) &&& 31)) ||| nI T = nI (cN A R O T) := by
  rw [pk_shlN _ 16 (by decide) (by omega), pk_shlN _ 6 (by decide) (by omega), pk_shlN _ 3 (by decide) (by omega), nx_or, nx_or, nx_or]
  congr 1
  rw [show A * 2 ^ 16 = 2 ^ 16 * A by omega, or_add (by omega), show 2 ^ 16 * A + R * 2 ^ 6 = 2 ^ 6 * (A * 1024 + R) by omega, or_add (by omega), show 2 ^ 6 * (A * 1024 + R) + O * 2 ^ 3 = 2 ^ 3 * (A * 8192 + R * 8 + O) by omega, or_add (by omega)]
  unfold cN
  omega
theorem cN_lt {A R O T : Nat} (hA : A < 32768) (hR : R < 1024) (hO : O < 8) (hT : T < 8) : cN A R O T < 2 ^ 31 := by
  unfold cN
  omega
theorem cN_arr {A R O T : Nat} (hA : A < 32768) (hR : R < 1024) (hO : O < 8) (hT : T < 8) : nI (cN A R O T) >>> ((16 : Int32) &&& 31) = nI A := by
  rw [pk_shrN (cN_lt hA hR hO hT) _ 16 (by decide)]
  congr 1
  unfold cN
  omega
theorem cN_to {A R O T : Nat} (hA : A < 32768) (hR : R < 1024) (hO : O < 8) (hT : T < 8) : nI (cN A R O T) &&& 7 = nI T := by
  rw [pk_andN (Nat.lt_trans (cN_lt hA hR hO hT) (by decide)) 3 (by decide)]
  congr 1
  unfold cN
  omega
theorem cN_from {A R O T : Nat} (hA : A < 32768) (hR : R < 1024) (hO : O < 8) (hT : T < 8) : (nI (cN A R O T) >>> ((3 : Int32) &&& 31)) &&& 7 = nI O := by
  rw [pk_shrN (cN_lt hA hR hO hT) _ 3 (by decide), pk_andN (by unfold cN; omega) 3 (by decide)]
  congr 1
  unfold cN
  omega
theorem and_fff8 (n : Nat) : n &&& 65528 = 2 ^ 3 * (n / 2 ^ 3 % 2 ^ 13) := by
  apply Nat.eq_of_testBit_eq
  intro i
  rw [Nat.testBit_and, show (65528 : Nat) = 2 ^ 3 * (2 ^ 13 - 1) from rfl, Nat.testBit_two_pow_mul, Nat.testBit_two_pow_mul, Nat.testBit_mod_two_pow, Nat.testBit_two_pow_sub_one, Nat.testBit_div_two_pow]
  by_cases h : 3 ≤ i
  · rw [show i - 3 + 3 = i by omega]
    simp [h, Bool.and_comm]
  · simp [h]
theorem cN_red {A R O T B S : Nat} (hA : A < 32768) (hR : R < 1024) (hO : O < 8) (hT : T < 8) (hB : B < 32768) (hS : S < 8) : ((nI B <<< ((16 : Int32) &&& 31)) ||| (nI (cN A R O T) &&& 65528)) ||| nI S = nI (cN B R O S) := by
  rw [pk_shlN _ 16 (by decide) (by omega), show (65528 : Int32) = nI 65528 from rfl, nz_and, nx_or, nx_or]
  congr 1
  rw [and_fff8, show B * 2 ^ 16 = 2 ^ 16 * B by omega, or_add (by omega), show 2 ^ 3 * (cN A R O T / 2 ^ 3 % 2 ^ 13) = 2 ^ 3 * (R * 8 + O) by unfold cN; omega, show 2 ^ 16 * B + 2 ^ 3 * (R * 8 + O) = 2 ^ 3 * (B * 8192 + R * 8 + O) by omega, or_add (by omega)]
  unfold cN
  omega

