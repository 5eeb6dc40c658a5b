/-! ===== PHASE 2: the class's nextEvent ===== -/
/-- the soonest truck -/
def s_nt (st : Nat → Int32) (N : Nat) : Nat → Nat
  | 0 => N
  | t + 1 => if s_tr st t 2 = -1 then s_nt st N t else if ix (s_tr st t 2) < s_nt st N t then ix (s_tr st t 2) else s_nt st N t
/-- when trip p begins next, behind the time T -/
def s_pv (ct : Nat → Int32) (T p : Nat) : Nat := T + 1 + (if (T + 1) % 1440 ≤ ix (ct (108 + p)) then ix (ct (108 + p)) - (T + 1) % 1440 else ix (ct (108 + p)) + 1440 - (T + 1) % 1440)
def s_np (ct : Nat → Int32) (T N : Nat) : Nat → Nat
  | 0 => N
  | p + 1 => if s_pv ct T p < s_np ct T N p then s_pv ct T p else s_np ct T N p
theorem s_nt_le (st : Nat → Int32) (N : Nat) : ∀ t, s_nt st N t ≤ N ∧ ∀ i, i < t → ¬ s_tr st i 2 = -1 → s_nt st N t ≤ ix (s_tr st i 2)
  | 0 => ⟨Nat.le_refl _, fun i hi => absurd hi (Nat.not_lt_zero _)⟩
  | t + 1 => by
    obtain ⟨h1, h2⟩ := s_nt_le st N t
    unfold s_nt
    by_cases h0 : s_tr st t 2 = -1
    · rw [if_pos h0]
      refine ⟨h1, fun i hi hn => ?_⟩
      by_cases e : i = t
      · rw [e] at hn; exact absurd h0 hn
      · exact h2 i (by omega) hn
    · rw [if_neg h0]
      by_cases h3 : ix (s_tr st t 2) < s_nt st N t
      · rw [if_pos h3]
        refine ⟨by omega, fun i hi hn => ?_⟩
        by_cases e : i = t
        · rw [e]; exact Nat.le_refl _
        · have := h2 i (by omega) hn; omega
      · rw [if_neg h3]
        refine ⟨h1, fun i hi hn => ?_⟩
        by_cases e : i = t
        · rw [e]; omega
        · exact h2 i (by omega) hn
theorem s_np_le (ct : Nat → Int32) (T N : Nat) : ∀ p, s_np ct T N p ≤ N ∧ ∀ i, i < p → s_np ct T N p ≤ s_pv ct T i
  | 0 => ⟨Nat.le_refl _, fun i hi => absurd hi (Nat.not_lt_zero _)⟩
  | p + 1 => by
    obtain ⟨h1, h2⟩ := s_np_le ct T N p
    unfold s_np
    by_cases h3 : s_pv ct T p < s_np ct T N p
    · rw [if_pos h3]
      refine ⟨by omega, fun i hi => ?_⟩
      by_cases e : i = p
      · rw [e]; exact Nat.le_refl _
      · have := h2 i (by omega); omega
    · rw [if_neg h3]
      refine ⟨h1, fun i hi => ?_⟩
      by_cases e : i = p
      · rw [e]; omega
      · exact h2 i (by omega)
/-- no trip begins sooner -/
theorem s_pv_q {ct : Nat → Int32} {T p c T' : Nat} (ec : ct (108 + p) = nI c) (hc : c < 1440) (h1 : T < T') (h2 : T' < s_pv ct T p) : ¬ T' % 1440 = c := by
  unfold s_pv at h2
  rw [ec, ix_nI (by omega)] at h2
  split at h2 <;> omega
/-- where nextEvent begins: the first rider's arrival -/
def s_n0 (l : List Nat) : Nat := match l with
  | [] => 1048576
  | z :: _ => z / 65536
section PRm
variable {β : Type} {M : zM} {F : Nat → Nat → Int32} {ct cd st : Nat → Int32} {a c d ns nt np nc T : Nat} {R : List zRd} {l : List Nat}
theorem s_n0_lt (h : ∀ z ∈ l, z < 2 ^ 31) : s_n0 l < 2 ^ 21 := by
  cases l with
  | nil => decide
  | cons z l => have := h z (List.mem_cons_self ..); show z / 65536 < _; omega
theorem kx_next {f : Int32 → zP β} (hS : RS M F a c ct cd st ns nt np nc d R l) (hT : st 0 = nI T) (hT1 : T < 12000) : (z_bd (p_X5_nextEvent a) f).1 (KI M F) = (f (nI (s_np ct T (s_nt st (s_n0 l) nt) np))).1 (KI M F) := by
  obtain ⟨E, hX, hP, hTr, ⟨hr1, hr2, hr3, hr4⟩, hrr, ⟨hl1, hl2, hl3⟩, hrn, hok⟩ := hS
  have h8 := EN_ns E
  obtain ⟨⟨hL, hcy, hC, hdis⟩, ⟨rc, hcok⟩, rb, r0⟩ := id E
  have hnt := hcok.1.2.2.2.1
  have hc1 : F c 11 = nI nt := rc.1.2.1.trans hcok.1.2.2.1
  have hc2 : F c 12 = nI np := rc.1.2.2.1.trans hcok.1.2.2.2.2.1
  have hnp := hcok.1.2.2.2.2.2
  have hRd : R.length ≤ d := by
    have := len_rn (d := d) R 0 hrn (fun x hx => ⟨Nat.zero_le _, (hok x hx).2.1⟩)
    omega
  have hll : l.length = R.length := by rw [hl2.length_eq, List.length_map]
  have hl31 : ∀ z ∈ l, z < 2 ^ 31 := fun z hz => by
    obtain ⟨y, hy, ey⟩ := List.mem_map.mp (hl2.mem_iff.mp hz)
    have hy2 := hok y hy
    rw [← ey]
    exact cN_lt hy2.1 (by have := hy2.2.1; omega) (by have := hy2.2.2.1; omega) (by have := hy2.2.2.2; omega)
  have hn0 := s_n0_lt hl31
  have e7 : F a 7 = nI T := r0.trans hT
  sorry
end PRm
