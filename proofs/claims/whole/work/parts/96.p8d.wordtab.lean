/-! ===== PHASE 2: the words of the language ===== -/
section PA58
variable {p : Nat → Bool} {n i : Nat}
/-- what a run takes -/
theorem tz_all : ∀ j, i ≤ j → j < tz_to p n i → p j = true := by
  obtain ⟨f, hf⟩ : ∃ f, f = n - i := ⟨_, rfl⟩
  induction f generalizing i with
  | zero =>
    intro j h1 h2
    rw [tz_x (by omega)] at h2
    omega
  | succ f ih =>
    intro j h1 h2
    by_cases hp : p i = true
    · rw [tz_s (by omega) hp] at h2
      by_cases c : j = i
      · rw [c]; exact hp
      · exact ih (i := i + 1) (by omega) j (by omega) h2
    · rw [tz_n hp] at h2
      omega
theorem wl_1 : z_strlen 1 = z_pu (nI 7) := if_pos (by decide)
theorem wc_1 {t : Nat} (ht : t < 7) : z_charAt 1 (nI t) = z_pu (nI (([115, 116, 97, 116, 105, 111, 110] : List Nat).getD t 0)) := by
  have c : ∀ t : Fin 7, 1 < z_ks.length ∧ ¬ nI t.1 < 0 ∧ nI t.1 < nI (z_slen.getD 1 0) := by decide
  have v : ∀ t : Fin 7, (((z_sbyt.getD 1 []).getD (nI t.1).toNatClampNeg 0 &&& 255).toUInt32 % 65536).toInt32 = nI (([115, 116, 97, 116, 105, 111, 110] : List Nat).getD t.1 0) := by decide
  unfold z_charAt
  rw [if_pos (c ⟨t, ht⟩), v ⟨t, ht⟩]
theorem wl_2 : z_strlen 2 = z_pu (nI 5) := if_pos (by decide)
theorem wc_2 {t : Nat} (ht : t < 5) : z_charAt 2 (nI t) = z_pu (nI (([116, 114, 117, 99, 107] : List Nat).getD t 0)) := by
  have c : ∀ t : Fin 5, 2 < z_ks.length ∧ ¬ nI t.1 < 0 ∧ nI t.1 < nI (z_slen.getD 2 0) := by decide
  have v : ∀ t : Fin 5, (((z_sbyt.getD 2 []).getD (nI t.1).toNatClampNeg 0 &&& 255).toUInt32 % 65536).toInt32 = nI (([116, 114, 117, 99, 107] : List Nat).getD t.1 0) := by decide
  unfold z_charAt
  rw [if_pos (c ⟨t, ht⟩), v ⟨t, ht⟩]
theorem wl_3 : z_strlen 3 = z_pu (nI 4) := if_pos (by decide)
theorem wc_3 {t : Nat} (ht : t < 4) : z_charAt 3 (nI t) = z_pu (nI (([116, 114, 105, 112] : List Nat).getD t 0)) := by
  have c : ∀ t : Fin 4, 3 < z_ks.length ∧ ¬ nI t.1 < 0 ∧ nI t.1 < nI (z_slen.getD 3 0) := by decide
  have v : ∀ t : Fin 4, (((z_sbyt.getD 3 []).getD (nI t.1).toNatClampNeg 0 &&& 255).toUInt32 % 65536).toInt32 = nI (([116, 114, 105, 112] : List Nat).getD t.1 0) := by decide
  unfold z_charAt
  rw [if_pos (c ⟨t, ht⟩), v ⟨t, ht⟩]
theorem wl_4 : z_strlen 4 = z_pu (nI 4) := if_pos (by decide)
theorem wc_4 {t : Nat} (ht : t < 4) : z_charAt 4 (nI t) = z_pu (nI (([112, 97, 99, 101] : List Nat).getD t 0)) := by
  have c : ∀ t : Fin 4, 4 < z_ks.length ∧ ¬ nI t.1 < 0 ∧ nI t.1 < nI (z_slen.getD 4 0) := by decide
  have v : ∀ t : Fin 4, (((z_sbyt.getD 4 []).getD (nI t.1).toNatClampNeg 0 &&& 255).toUInt32 % 65536).toInt32 = nI (([112, 97, 99, 101] : List Nat).getD t.1 0) := by decide
  unfold z_charAt
  rw [if_pos (c ⟨t, ht⟩), v ⟨t, ht⟩]
theorem wl_5 : z_strlen 5 = z_pu (nI 7) := if_pos (by decide)
theorem wc_5 {t : Nat} (ht : t < 7) : z_charAt 5 (nI t) = z_pu (nI (([98, 97, 108, 97, 110, 99, 101] : List Nat).getD t 0)) := by
  have c : ∀ t : Fin 7, 5 < z_ks.length ∧ ¬ nI t.1 < 0 ∧ nI t.1 < nI (z_slen.getD 5 0) := by decide
  have v : ∀ t : Fin 7, (((z_sbyt.getD 5 []).getD (nI t.1).toNatClampNeg 0 &&& 255).toUInt32 % 65536).toInt32 = nI (([98, 97, 108, 97, 110, 99, 101] : List Nat).getD t.1 0) := by decide
  unfold z_charAt
  rw [if_pos (c ⟨t, ht⟩), v ⟨t, ht⟩]
theorem wl_6 : z_strlen 6 = z_pu (nI 5) := if_pos (by decide)
theorem wc_6 {t : Nat} (ht : t < 5) : z_charAt 6 (nI t) = z_pu (nI (([98, 111, 110, 117, 115] : List Nat).getD t 0)) := by
  have c : ∀ t : Fin 5, 6 < z_ks.length ∧ ¬ nI t.1 < 0 ∧ nI t.1 < nI (z_slen.getD 6 0) := by decide
  have v : ∀ t : Fin 5, (((z_sbyt.getD 6 []).getD (nI t.1).toNatClampNeg 0 &&& 255).toUInt32 % 65536).toInt32 = nI (([98, 111, 110, 117, 115] : List Nat).getD t.1 0) := by decide
  unfold z_charAt
  rw [if_pos (c ⟨t, ht⟩), v ⟨t, ht⟩]
theorem wl_7 : z_strlen 7 = z_pu (nI 4) := if_pos (by decide)
theorem wc_7 {t : Nat} (ht : t < 4) : z_charAt 7 (nI t) = z_pu (nI (([102, 97, 114, 101] : List Nat).getD t 0)) := by
  have c : ∀ t : Fin 4, 7 < z_ks.length ∧ ¬ nI t.1 < 0 ∧ nI t.1 < nI (z_slen.getD 7 0) := by decide
  have v : ∀ t : Fin 4, (((z_sbyt.getD 7 []).getD (nI t.1).toNatClampNeg 0 &&& 255).toUInt32 % 65536).toInt32 = nI (([102, 97, 114, 101] : List Nat).getD t.1 0) := by decide
  unfold z_charAt
  rw [if_pos (c ⟨t, ht⟩), v ⟨t, ht⟩]
theorem wl_8 : z_strlen 8 = z_pu (nI 7) := if_pos (by decide)
theorem wc_8 {t : Nat} (ht : t < 7) : z_charAt 8 (nI t) = z_pu (nI (([109, 105, 110, 117, 116, 101, 115] : List Nat).getD t 0)) := by
  have c : ∀ t : Fin 7, 8 < z_ks.length ∧ ¬ nI t.1 < 0 ∧ nI t.1 < nI (z_slen.getD 8 0) := by decide
  have v : ∀ t : Fin 7, (((z_sbyt.getD 8 []).getD (nI t.1).toNatClampNeg 0 &&& 255).toUInt32 % 65536).toInt32 = nI (([109, 105, 110, 117, 116, 101, 115] : List Nat).getD t.1 0) := by decide
  unfold z_charAt
  rw [if_pos (c ⟨t, ht⟩), v ⟨t, ht⟩]
theorem wl_9 : z_strlen 9 = z_pu (nI 5) := if_pos (by decide)
theorem wc_9 {t : Nat} (ht : t < 5) : z_charAt 9 (nI t) = z_pu (nI (([98, 105, 107, 101, 115] : List Nat).getD t 0)) := by
  have c : ∀ t : Fin 5, 9 < z_ks.length ∧ ¬ nI t.1 < 0 ∧ nI t.1 < nI (z_slen.getD 9 0) := by decide
  have v : ∀ t : Fin 5, (((z_sbyt.getD 9 []).getD (nI t.1).toNatClampNeg 0 &&& 255).toUInt32 % 65536).toInt32 = nI (([98, 105, 107, 101, 115] : List Nat).getD t.1 0) := by decide
  unfold z_charAt
  rw [if_pos (c ⟨t, ht⟩), v ⟨t, ht⟩]
theorem wl_10 : z_strlen 10 = z_pu (nI 5) := if_pos (by decide)
theorem wc_10 {t : Nat} (ht : t < 5) : z_charAt 10 (nI t) = z_pu (nI (([100, 111, 99, 107, 115] : List Nat).getD t 0)) := by
  have c : ∀ t : Fin 5, 10 < z_ks.length ∧ ¬ nI t.1 < 0 ∧ nI t.1 < nI (z_slen.getD 10 0) := by decide
  have v : ∀ t : Fin 5, (((z_sbyt.getD 10 []).getD (nI t.1).toNatClampNeg 0 &&& 255).toUInt32 % 65536).toInt32 = nI (([100, 111, 99, 107, 115] : List Nat).getD t.1 0) := by decide
  unfold z_charAt
  rw [if_pos (c ⟨t, ht⟩), v ⟨t, ht⟩]
theorem wl_11 : z_strlen 11 = z_pu (nI 4) := if_pos (by decide)
theorem wc_11 {t : Nat} (ht : t < 4) : z_charAt 11 (nI t) = z_pu (nI (([104, 111, 117, 114] : List Nat).getD t 0)) := by
  have c : ∀ t : Fin 4, 11 < z_ks.length ∧ ¬ nI t.1 < 0 ∧ nI t.1 < nI (z_slen.getD 11 0) := by decide
  have v : ∀ t : Fin 4, (((z_sbyt.getD 11 []).getD (nI t.1).toNatClampNeg 0 &&& 255).toUInt32 % 65536).toInt32 = nI (([104, 111, 117, 114] : List Nat).getD t.1 0) := by decide
  unfold z_charAt
  rw [if_pos (c ⟨t, ht⟩), v ⟨t, ht⟩]
end PA58
