/-! ===== PHASE 2: a letter more, in 64 bits ===== -/
section PA59
set_option maxRecDepth 100000 in
theorem to64 : ∀ m : Fin 256, (nI m.1).toInt64 = Int64.ofNat m.1 := by decide
theorem w64 {c m : Nat} (h : 96 ≤ m) (hm : m < 256) : (Int64.ofNat c * 32 + (nI m).toInt64) - 96 = Int64.ofNat (32 * c + (m - 96)) := by
  rw [to64 ⟨m, hm⟩, show (32 : Int64) = Int64.ofNat 32 from rfl, show (96 : Int64) = Int64.ofNat 96 from rfl, ← Int64.ofNat_mul, ← Int64.ofNat_add, show c * 32 + m = (32 * c + (m - 96)) + 96 by omega, Int64.ofNat_add, Int64.add_sub_cancel]
end PA59
