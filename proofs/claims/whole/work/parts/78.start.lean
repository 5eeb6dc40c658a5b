/-! ===== PHASE 2: the state's whole relation; a ride begins ===== -/
abbrev zRd : Type := Nat × Nat × Nat × Nat
/-- a rider (arrival, ride, from, to) as a number -/
def cX (x : zRd) : Nat := cN x.1 x.2.1 x.2.2.1 x.2.2.2
def okX (ns d : Nat) (x : zRd) : Prop := x.1 < 32768 ∧ x.2.1 < d ∧ x.2.2.1 < ns ∧ x.2.2.2 < ns
/-- the riders: R in the order of their rides' beginning, l the class's numbers; d rides so far -/
def RRd (F : Nat → Nat → Int32) (a : Nat) (st : Nat → Int32) (ns d : Nat) (R : List zRd) (l : List Nat) : Prop := (F (a + 6) 1 = nI R.length ∧ st 204 = nI R.length ∧ st 3 = nI d ∧ d ≤ 768) ∧ (∀ k x, R[k]? = some x → st (205 + 3 * k) = nI x.1 ∧ st (205 + 3 * k + 1) = nI x.2.2.2 ∧ st (205 + 3 * k + 2) = nI x.2.2.1) ∧ (rw_is (F (a + 6 + 1)) l ∧ l.Perm (R.map cX) ∧ l.Pairwise (· < ·)) ∧ R.Pairwise (fun x y => x.2.1 < y.2.1) ∧ ∀ x ∈ R, okX ns d x
def RP (F : Nat → Nat → Int32) (a : Nat) (st : Nat → Int32) : Prop := ∀ p, p < 64 → F (a + 3) p = st (76 + p) ∧ (st (76 + p) ≠ 0 → F (a + 4) p + 1 = st (140 + p))
def RX (F : Nat → Nat → Int32) (a : Nat) (st : Nat → Int32) : Prop := F a 8 = st 1 ∧ F a 9 = st 2 ∧ F a 10 = st 3 ∧ F a 11 = st 4 ∧ F a 12 = st 5
def RS (M : zM) (F : Nat → Nat → Int32) (a c : Nat) (ct cd st : Nat → Int32) (ns nt np nc d : Nat) (R : List zRd) (l : List Nat) : Prop :=
  EN M F a c ct cd st ns nt np nc ∧ RX F a st ∧ RP F a st ∧ (∀ t, t < nt → ∃ q, RK F (a + 8 + 3 * t) ct st ns t q) ∧ RRd F a st ns d R l
/-- only the state's own rows and the fare's stack are new -/
def fr5 (a c : Nat) (F F' : Nat → Nat → Int32) : Prop := ∀ y, ¬ (a ≤ y ∧ y < a + 17) → y ≠ c + 10 + 2 → F' y = F y
section PR4
variable {β : Type} {M : zM} {F F' : Nat → Nat → Int32} {ct cd st st' : Nat → Int32} {a b c d i j k n p q r s t v ns nt np nc : Nat} {R : List zRd} {l : List Nat} {x : Int32}
theorem EN_gen (E : EN M F a c ct cd st ns nt np nc) (h1 : ∀ k, k < ns → F' (a + 1) k = st' (6 + k) ∧ F' (a + 2) k = st' (14 + k)) (h2 : F' a 7 = st' 0) (hF : ∀ y, c ≤ y → y < c + 12 → F' y = F y) : EN M F' a c ct cd st' ns nt np nc := by
  have h8 := EN_ns E
  have E' := E
  obtain ⟨⟨hL, hcy, hC, hdis⟩, ⟨rc, hok⟩, rb, r0⟩ := E'
  refine ⟨⟨hL, hcy, hC, hdis⟩, ⟨?_, hok⟩, h1, h2⟩
  unfold RC
  rw [hF c (by omega) (by omega), hF (c + 1) (by omega) (by omega), hF (c + 2) (by omega) (by omega), hF (c + 3) (by omega) (by omega), hF (c + 4) (by omega) (by omega), hF (c + 5) (by omega) (by omega), hF (c + 6) (by omega) (by omega), hF (c + 7) (by omega) (by omega), hF (c + 8) (by omega) (by omega), hF (c + 9) (by omega) (by omega), hF (c + 10) (by omega) (by omega), hF (c + 10 + 1) (by omega) (by omega)]
  exact rc
theorem RK_fr (hK : RK F b ct st ns t q) (h0 : F' b = F b) (h1 : F' (b + 1) = F (b + 1)) (h2 : F' (b + 2) = F (b + 2)) (hs : ∀ i, i < 18 → s_tr st' t i = s_tr st t i) : RK F' b ct st' ns t q := by
  have hq := hK.1.2.1
  unfold RK
  rw [h0, h1, h2, hs 0 (by omega), hs 1 (by omega), hs 2 (by omega), hs 3 (by omega), hs 4 (by omega)]
  refine ⟨t_ok_eq hs hK.1, hK.2.1, hK.2.2.1, hK.2.2.2.1, hK.2.2.2.2.1, hK.2.2.2.2.2.1, hK.2.2.2.2.2.2.1, fun i hi => ?_⟩
  rw [hs _ (by omega), hs _ (by omega)]
  exact hK.2.2.2.2.2.2.2 i hi
theorem cN_rn {A R O T : Nat} (hR : R < 1024) (hO : O < 8) (hT : T < 8) : cN A R O T / 64 % 1024 = R := by
  unfold cN
  omega
theorem s_beg_o (h : i ≠ 1 ∧ i ≠ 6 + j ∧ i ≠ 3 ∧ i ≠ 140 + (8 * j + k) ∧ i ≠ 76 + (8 * j + k) ∧ i ≠ 204 ∧ (i < 205 + 3 * r ∨ 205 + 3 * r + 3 ≤ i)) : s_beg ct cd st n r j k i = st i := by
  unfold s_beg
  rw [s_upn _ _ (by omega), s_upn _ _ (by omega), s_upn _ _ (by omega), s_upn _ _ (by omega), s_upn _ _ (by omega)]
  split
  · rw [s_upn _ _ (by omega), s_upn _ _ (by omega), s_upn _ _ (by omega), s_upn _ _ (by omega)]
  · rw [s_upn _ _ (by omega), s_upn _ _ (by omega), s_upn _ _ (by omega)]
theorem s_beg_v (hj : j < 8) (hk : k < 8) : s_beg ct cd st n r j k 1 = st 1 + s_fare ct cd st n j k ∧ s_beg ct cd st n r j k (6 + j) = st (6 + j) - 1 ∧ s_beg ct cd st n r j k 3 = st 3 + 1 ∧ s_beg ct cd st n r j k (76 + (8 * j + k)) = st (76 + (8 * j + k)) + 1 ∧ s_beg ct cd st n r j k (140 + (8 * j + k)) = (if st (76 + (8 * j + k)) = 0 then st 3 + 1 else st (140 + (8 * j + k))) ∧ s_beg ct cd st n r j k (205 + 3 * r) = st 0 + s_rd ct j k ∧ s_beg ct cd st n r j k (205 + 3 * r + 1) = nI k ∧ s_beg ct cd st n r j k (205 + 3 * r + 2) = nI j := by
  by_cases h0 : st (76 + (8 * j + k)) = 0
  · unfold s_beg
    simp (disch := omega) only [h0, if_true, s_upn, s_ups, and_self]
  · unfold s_beg
    simp (disch := omega) only [h0, if_false, s_upn, s_ups, and_self]
theorem g4_code {f : Int32 → zP β} {A D : Nat} (hA : A < 32768) (hD : D < 1024) (hj : j < 8) (hk : k < 8) : (z_bd (p_X4_code (nI A) (nI D) (nI j) (nI k)) f).1 M = (f (nI (cN A D j k))).1 M := by
  unfold p_X4_code
  rw [cN_code hA hD hj hk]
  rfl
theorem g4_cod2 {f : Int32 → zP β} {A D : Nat} {u v : Int32} (h1 : u = nI A) (h2 : v = nI D) (hA : A < 32768) (hD : D < 1024) (hj : j < 8) (hk : k < 8) : (z_bd (p_X4_code u v (nI j) (nI k)) f).1 M = (f (nI (cN A D j k))).1 M := by
  rw [h1, h2]
  exact g4_code hA hD hj hk
theorem kx_start {f : Unit → zP β} (hS : RS M F a c ct cd st ns nt np nc d R l) (hj : j < ns) (hk : k < ns) (hd : d < 768) (hR : R.length < 768) {A : Nat} (hA : st 0 + s_rd ct j k = nI A) (hA1 : A < 32768) :
    ∃ F' l', (z_bd (p_X5_startRide a (nI j) (nI k)) f).1 (KI M F) = (f ()).1 (KI M F') ∧ RS M F' a c ct cd (s_beg ct cd st nc R.length j k) ns nt np nc (d + 1) (R ++ [(A, d, j, k)]) l' ∧ fr5 a c F F' := by
  obtain ⟨E, hX, hP, hT, ⟨hr1, hr2, hr3, hr4⟩, hrr, ⟨hl1, hl2, hl3⟩, hrn, hok⟩ := hS
  have h8 := EN_ns E
  obtain ⟨⟨hL, hcy, hC, hdis⟩, ⟨rc, hcok⟩, rb, r0⟩ := id E
  have hp64 : 8 * j + k < 64 := by omega
  have hP0 := hP (8 * j + k) hp64
  have F1 : ∃ F1, F1 = (if st (76 + (8 * j + k)) = 0 then z_up2 F (a + 4) (8 * j + k) (st 3) else F) := ⟨_, rfl⟩
  obtain ⟨F1, eF1⟩ := F1
  have f1o : ∀ y, y ≠ a + 4 → F1 y = F y := fun y hy => by
    rw [eF1]
    split
    · exact u2_row _ _ hy
    · rfl
  have E2 : EN M (z_up2 F1 (a + 3) (8 * j + k) (st (76 + (8 * j + k)) + 1)) a c ct cd st ns nt np nc := EN_gen E (fun k hk => by rw [u2_row _ _ (by omega), u2_row _ _ (by omega), f1o _ (by omega), f1o _ (by omega)]; exact rb k hk) (by rw [u2_row _ _ (by omega), f1o _ (by omega)]; exact r0) (fun y y1 y2 => by rw [u2_row _ _ (by omega), f1o _ (by omega)])
  have F3 : ∃ F3, F3 = z_up1 (z_up2 F1 (a + 3) (8 * j + k) (st (76 + (8 * j + k)) + 1)) (c + 10 + 2) (s_fa cd (s_val ct st j k) (F (c + 10 + 2)) nc) := ⟨_, rfl⟩
  obtain ⟨F3, eF3⟩ := F3
  have F5 : ∃ F5, F5 = z_up2 (z_up2 F3 a 8 (st 1 + s_fare ct cd st nc j k)) (a + 1) j (st (6 + j) - 1) := ⟨_, rfl⟩
  obtain ⟨F5, eF5⟩ := F5
  have f3o : ∀ y, y ≠ a + 4 → y ≠ a + 3 → y ≠ c + 10 + 2 → F3 y = F y := fun y h1 h2 h3 => by rw [eF3, u1_n _ _ h3, u2_row _ _ h2, f1o _ h1]
  have f5o : ∀ y, y ≠ a + 4 → y ≠ a + 3 → y ≠ c + 10 + 2 → y ≠ a → y ≠ a + 1 → F5 y = F y := fun y h1 h2 h3 h4 h5 => by rw [eF5, u2_row _ _ h5, u2_row _ _ h4, f3o y h1 h2 h3]
  have hxl : cN A d j k ∉ l := by
    intro hm
    obtain ⟨y, hy, ey⟩ := List.mem_map.mp (hl2.mem_iff.mp hm)
    have hy2 := hok y hy
    have e1 := cN_rn (A := A) (R := d) (O := j) (T := k) (by omega) (by omega) (by omega)
    have e2 := cN_rn (A := y.1) (R := y.2.1) (O := y.2.2.1) (T := y.2.2.2) (by have := hy2.2.1; omega) (by have := hy2.2.2.1; omega) (by have := hy2.2.2.2; omega)
    unfold cX at ey
    rw [ey, e1] at e2
    have := hy2.2.1
    omega
  have hlb : ∀ z ∈ l, z < 2 ^ 31 := by
    intro z hz
    obtain ⟨y, hy, ey⟩ := List.mem_map.mp (hl2.mem_iff.mp hz)
    have hy2 := hok y hy
    rw [← ey]
    exact cN_lt hy2.1 (by have := hy2.2.1; omega) (by have := hy2.2.2.1; omega) (by have := hy2.2.2.2; omega)
  have hll : l.length = R.length := by rw [hl2.length_eq, List.length_map]
  obtain ⟨g, l', k1, k2, k3, k4⟩ := kr_add (F := F5) (f := fun _ => z_bd (z_gI 5 a 10) (fun v20 => z_bd (z_pI 5 a 10 (v20 + 1)) (fun _ => f ()))) (LZ_R hL) (by rw [f5o _ (by omega) (by omega) (by omega) (by omega) (by omega)]; exact hl1) ((congrFun (f5o (a + 6) (by omega) (by omega) (by omega) (by omega) (by omega)) 1).trans hr1) hll hR hl3 hxl hlb (cN_lt hA1 (by omega) (by omega) (by omega))
  have F6 : ∃ F6, F6 = z_up1 (z_up2 F5 (a + 6) 1 (nI (R.length + 1))) (a + 6 + 1) g := ⟨_, rfl⟩
  obtain ⟨F6, eF6⟩ := F6
  rw [← eF6] at k1
  have f6o : ∀ y, y ≠ a + 6 → y ≠ a + 6 + 1 → F6 y = F5 y := fun y h1 h2 => by rw [eF6, u1_n _ _ h2, u2_row _ _ h1]
  have f5a : ∀ z, F5 a z = if z = 8 then st 1 + s_fare ct cd st nc j k else F a z := fun z => by
    rw [eF5, u2_row _ _ (by omega)]
    by_cases hz : z = 8
    · rw [if_pos hz, hz, u2_s]
    · rw [if_neg hz, u2_n _ _ (Or.inr hz), f3o _ (by omega) (by omega) (by omega)]
  have f5b : ∀ z, F5 (a + 1) z = if z = j then st (6 + j) - 1 else F (a + 1) z := fun z => by
    rw [eF5]
    by_cases hz : z = j
    · rw [if_pos hz, hz, u2_s]
    · rw [if_neg hz, u2_n _ _ (Or.inr hz), u2_row _ _ (by omega), f3o _ (by omega) (by omega) (by omega)]
  have hsv := s_beg_v (ct := ct) (cd := cd) (st := st) (n := nc) (r := R.length) (j := j) (k := k) (by omega) (by omega)
  have f6a : F6 a 10 = st 3 := by rw [f6o _ (by omega) (by omega), f5a, if_neg (by decide)]; exact hX.2.2.1
  have hfin : (z_bd (z_gI 5 a 10) (fun v20 => z_bd (z_pI 5 a 10 (v20 + 1)) (fun _ => f ()))).1 (KI M F6) = (f ()).1 (KI M (z_up2 F6 a 10 (st 3 + 1))) := by
    simp (disch := first | assumption | omega | (apply LZ_R; assumption) | (apply LZ_T <;> first | assumption | omega) | (apply LC_F; assumption)) only [e_pu, e_ite, oL_add, oL_addr, oL_mul, nI_add, nI_1, b_pu, b_bd, b_ite, j_L, j_R, j_ite, j_bd, z_ex, ↓reduceIte, if_true, if_false, kt_gI, kt_pI, kt_cv, kt_g0, kt_g1, kt_a1, kt_s1, kt_n1, kt_z1, kt_a2, kt_s2, kt_n2, kt_z2, kr_gI, kr_pI, kr_cv, kr_g0, kr_a1, kr_s1, kr_n1, kr_z1, kf_gI, kf_pI, kf_cv, kf_g0, kf_g1, kf_a1, kf_s1, kf_n1, kf_z1, kf_a2, kf_s2, kf_n2, kf_z2, kc_gI, kc_pI, kc_cv, kc_g0, kc_g1, kc_g2, kc_g3, kc_g4, kc_g5, kc_g6, kc_g7, kc_g8, kc_g9, kc_a1, kc_s1, kc_n1, kc_z1, kc_a2, kc_s2, kc_n2, kc_z2, kc_a3, kc_s3, kc_n3, kc_z3, kc_a4, kc_s4, kc_n4, kc_z4, kc_a5, kc_s5, kc_n5, kc_z5, kc_a6, kc_s6, kc_n6, kc_z6, kc_a7, kc_s7, kc_n7, kc_z7, kc_a8, kc_s8, kc_n8, kc_z8, kc_a9, kc_s9, kc_n9, kc_z9, ks_gI, ks_pI, ks_cv, ks_g0, ks_g1, ks_g2, ks_g3, ks_g4, ks_g5, ks_a1, ks_s1, ks_n1, ks_z1, ks_a2, ks_s2, ks_n2, ks_z2, ks_a3, ks_s3, ks_n3, ks_z3, ks_a4, ks_s4, ks_n4, ks_z4, ks_tr, f6a]
  have E5 : EN M F5 a c ct cd (s_up st (6 + j) (st (6 + j) - 1)) ns nt np nc := EN_gen E (fun k hk => by
      rw [f5b, f5o _ (by omega) (by omega) (by omega) (by omega) (by omega), s_upn _ _ (show 14 + k ≠ 6 + j by omega)]
      refine ⟨?_, (rb k hk).2⟩
      by_cases hkj : k = j
      · rw [if_pos hkj, hkj, s_ups]
      · rw [if_neg hkj, s_upn _ _ (by omega)]; exact (rb k hk).1) (by rw [f5a, if_neg (by decide), s_upn _ _ (by omega)]; exact r0) (fun y y1 y2 => f5o _ (by omega) (by omega) (by omega) (by omega) (by omega))
  have f7o : ∀ y, y ≠ a → y ≠ a + 6 → y ≠ a + 6 + 1 → z_up2 F6 a 10 (st 3 + 1) y = F5 y := fun y h1 h2 h3 => by rw [u2_row _ _ h1, f6o _ h2 h3]
  have f7a : ∀ z, z_up2 F6 a 10 (st 3 + 1) a z = if z = 10 then st 3 + 1 else if z = 8 then st 1 + s_fare ct cd st nc j k else F a z := fun z => by
    by_cases hz : z = 10
    · rw [if_pos hz, hz, u2_s]
    · rw [if_neg hz, u2_n _ _ (Or.inr hz), f6o _ (by omega) (by omega), f5a]
  refine ⟨z_up2 F6 a 10 (st 3 + 1), l', ?_, ⟨?_, ?_, ?_, ?_, ?_⟩, ?_⟩
  · refine Eq.trans ?_ (k1.trans hfin)
    have hX1 := hX.1
    have hX3 := hX.2.2.1
    have b1 := (rb j hj).1
    have hj8 : j < 8 := by omega
    have hd24 : d < 1024 := by omega
    have hk8 : k < 8 := by omega
    by_cases h0 : st (76 + (8 * j + k)) = 0
    · rw [if_pos h0] at eF1
      rw [eF3, eF1] at eF5
      subst eF5
      rw [eF1] at E2
      unfold p_X5_startRide
      simp (disch := first | assumption | omega | (apply LZ_R; assumption) | (apply LZ_T <;> first | assumption | omega) | (apply LC_F; assumption)) only [e_pu, e_ite, oL_add, oL_addr, oL_mul, nI_add, nI_1, b_pu, b_bd, b_ite, j_L, j_R, j_ite, j_bd, z_ex, ↓reduceIte, if_true, if_false, kt_gI, kt_pI, kt_cv, kt_g0, kt_g1, kt_a1, kt_s1, kt_n1, kt_z1, kt_a2, kt_s2, kt_n2, kt_z2, kr_gI, kr_pI, kr_cv, kr_g0, kr_a1, kr_s1, kr_n1, kr_z1, kf_gI, kf_pI, kf_cv, kf_g0, kf_g1, kf_a1, kf_s1, kf_n1, kf_z1, kf_a2, kf_s2, kf_n2, kf_z2, kc_gI, kc_pI, kc_cv, kc_g0, kc_g1, kc_g2, kc_g3, kc_g4, kc_g5, kc_g6, kc_g7, kc_g8, kc_g9, kc_a1, kc_s1, kc_n1, kc_z1, kc_a2, kc_s2, kc_n2, kc_z2, kc_a3, kc_s3, kc_n3, kc_z3, kc_a4, kc_s4, kc_n4, kc_z4, kc_a5, kc_s5, kc_n5, kc_z5, kc_a6, kc_s6, kc_n6, kc_z6, kc_a7, kc_s7, kc_n7, kc_z7, kc_a8, kc_s8, kc_n8, kc_z8, kc_a9, kc_s9, kc_n9, kc_z9, ks_gI, ks_pI, ks_cv, ks_g0, ks_g1, ks_g2, ks_g3, ks_g4, ks_g5, ks_a1, ks_s1, ks_n1, ks_z1, ks_a2, ks_s2, ks_n2, ks_z2, ks_a3, ks_s3, ks_n3, ks_z3, ks_a4, ks_s4, ks_n4, ks_z4, ks_tr, ks_city hcy, hP0.1, hX3, u2_row, u2_n, hX1, kx_fare E2 hj hk, u1_n, b1, r0, kx_rd E5 hj hk, g4_cod2 hA hr3 hA1 hd24 hj8 hk8]
      rw [if_pos h0]
    · rw [if_neg h0] at eF1
      rw [eF3, eF1] at eF5
      subst eF5
      rw [eF1] at E2
      unfold p_X5_startRide
      simp (disch := first | assumption | omega | (apply LZ_R; assumption) | (apply LZ_T <;> first | assumption | omega) | (apply LC_F; assumption)) only [e_pu, e_ite, oL_add, oL_addr, oL_mul, nI_add, nI_1, b_pu, b_bd, b_ite, j_L, j_R, j_ite, j_bd, z_ex, ↓reduceIte, if_true, if_false, kt_gI, kt_pI, kt_cv, kt_g0, kt_g1, kt_a1, kt_s1, kt_n1, kt_z1, kt_a2, kt_s2, kt_n2, kt_z2, kr_gI, kr_pI, kr_cv, kr_g0, kr_a1, kr_s1, kr_n1, kr_z1, kf_gI, kf_pI, kf_cv, kf_g0, kf_g1, kf_a1, kf_s1, kf_n1, kf_z1, kf_a2, kf_s2, kf_n2, kf_z2, kc_gI, kc_pI, kc_cv, kc_g0, kc_g1, kc_g2, kc_g3, kc_g4, kc_g5, kc_g6, kc_g7, kc_g8, kc_g9, kc_a1, kc_s1, kc_n1, kc_z1, kc_a2, kc_s2, kc_n2, kc_z2, kc_a3, kc_s3, kc_n3, kc_z3, kc_a4, kc_s4, kc_n4, kc_z4, kc_a5, kc_s5, kc_n5, kc_z5, kc_a6, kc_s6, kc_n6, kc_z6, kc_a7, kc_s7, kc_n7, kc_z7, kc_a8, kc_s8, kc_n8, kc_z8, kc_a9, kc_s9, kc_n9, kc_z9, ks_gI, ks_pI, ks_cv, ks_g0, ks_g1, ks_g2, ks_g3, ks_g4, ks_g5, ks_a1, ks_s1, ks_n1, ks_z1, ks_a2, ks_s2, ks_n2, ks_z2, ks_a3, ks_s3, ks_n3, ks_z3, ks_a4, ks_s4, ks_n4, ks_z4, ks_tr, ks_city hcy, hP0.1, hX3, u2_row, u2_n, hX1, kx_fare E2 hj hk, u1_n, b1, r0, kx_rd E5 hj hk, g4_cod2 hA hr3 hA1 hd24 hj8 hk8]
      rw [if_neg h0]
  · refine EN_gen E (fun i hi => ?_) ?_ (fun y y1 y2 => ?_)
    · rw [f7o _ (by omega) (by omega) (by omega), f7o _ (by omega) (by omega) (by omega), f5b, f5o _ (by omega) (by omega) (by omega) (by omega) (by omega), s_beg_o (i := 14 + i) (by omega)]
      refine ⟨?_, (rb i hi).2⟩
      by_cases hij : i = j
      · rw [if_pos hij, hij]; exact hsv.2.1.symm
      · rw [if_neg hij, s_beg_o (by omega)]; exact (rb i hi).1
    · rw [f7a, if_neg (by decide), if_neg (by decide), s_beg_o (by omega)]; exact r0
    · rw [f7o _ (by omega) (by omega) (by omega), f5o _ (by omega) (by omega) (by omega) (by omega) (by omega)]
  · refine ⟨?_, ?_, ?_, ?_, ?_⟩
    · rw [f7a, if_neg (by decide), if_pos rfl]; exact hsv.1.symm
    · rw [f7a, if_neg (by decide), if_neg (by decide), s_beg_o (by omega)]; exact hX.2.1
    · rw [f7a, if_pos rfl]; exact hsv.2.2.1.symm
    · rw [f7a, if_neg (by decide), if_neg (by decide), s_beg_o (by omega)]; exact hX.2.2.2.1
    · rw [f7a, if_neg (by decide), if_neg (by decide), s_beg_o (by omega)]; exact hX.2.2.2.2
  · intro i hi
    have e5 : ∀ y, y ≠ a → y ≠ a + 1 → y ≠ c + 10 + 2 → F5 y = z_up2 F1 (a + 3) (8 * j + k) (st (76 + (8 * j + k)) + 1) y := fun y h1 h2 h3 => by rw [eF5, u2_row _ _ h2, u2_row _ _ h1, eF3, u1_n _ _ h3]
    rw [f7o _ (by omega) (by omega) (by omega), f7o _ (by omega) (by omega) (by omega), e5 _ (by omega) (by omega) (by omega), e5 _ (by omega) (by omega) (by omega), u2_row _ _ (show a + 4 ≠ a + 3 by omega)]
    by_cases hip : i = 8 * j + k
    · subst hip
      rw [u2_s, hsv.2.2.2.1, hsv.2.2.2.2.1]
      refine ⟨rfl, fun _ => ?_⟩
      by_cases h0 : st (76 + (8 * j + k)) = 0
      · rw [if_pos h0, eF1, if_pos h0, u2_s]
      · rw [if_neg h0, eF1, if_neg h0]; exact hP0.2 h0
    · rw [u2_n _ _ (Or.inr hip), f1o _ (by omega), s_beg_o (i := 76 + i) (by omega), s_beg_o (i := 140 + i) (by omega)]
      have e4 : F1 (a + 4) i = F (a + 4) i := by
        rw [eF1]
        split
        · exact u2_n _ _ (Or.inr hip)
        · rfl
      rw [e4]
      exact hP i hi
  · intro t ht
    obtain ⟨q, hq⟩ := hT t ht
    have hnt := hcok.1.2.2.2.1
    refine ⟨q, RK_fr hq ?_ ?_ ?_ (fun i hi => s_beg_o (by omega))⟩
    · rw [f7o _ (by omega) (by omega) (by omega), f5o _ (by omega) (by omega) (by omega) (by omega) (by omega)]
    · rw [f7o _ (by omega) (by omega) (by omega), f5o _ (by omega) (by omega) (by omega) (by omega) (by omega)]
    · rw [f7o _ (by omega) (by omega) (by omega), f5o _ (by omega) (by omega) (by omega) (by omega) (by omega)]
  · have hlen : (R ++ [(A, d, j, k)]).length = R.length + 1 := by rw [List.length_append]; rfl
    refine ⟨⟨?_, ?_, ?_, by omega⟩, ?_, ⟨?_, ?_, k4⟩, ?_, ?_⟩
    · rw [hlen, u2_row _ _ (by omega), eF6, u1_n _ _ (by omega), u2_s]
    · rw [hlen]; exact s_beg_204
    · rw [hsv.2.2.1, hr3, nI_1]
    · intro i y hy
      by_cases hi : i < R.length
      · rw [List.getElem?_append_left hi] at hy
        rw [s_beg_o (by omega), s_beg_o (by omega), s_beg_o (by omega)]
        exact hrr i y hy
      · rw [List.getElem?_append_right (by omega)] at hy
        by_cases hi2 : i = R.length
        · subst hi2
          rw [Nat.sub_self] at hy
          cases hy
          exact ⟨hsv.2.2.2.2.2.1.trans hA, hsv.2.2.2.2.2.2.1, hsv.2.2.2.2.2.2.2⟩
        · obtain ⟨e, he⟩ : ∃ e, i - R.length = e + 1 := ⟨i - R.length - 1, by omega⟩
          rw [he] at hy
          cases hy
    · rw [u2_row _ _ (by omega), eF6, u1_s]; exact k2
    · rw [List.map_append]
      refine k3.trans ?_
      refine ((List.Perm.cons _ hl2).trans ?_)
      exact (List.perm_append_singleton (cN A d j k) (R.map cX)).symm
    · rw [List.pairwise_append]
      refine ⟨hrn, List.pairwise_singleton _ _, fun y hy z hz => ?_⟩
      rw [List.mem_singleton] at hz
      subst hz
      exact (hok y hy).2.1
    · intro y hy
      rcases List.mem_append.mp hy with hy | hy
      · have := hok y hy
        exact ⟨this.1, by have := this.2.1; omega, this.2.2⟩
      · rw [List.mem_singleton] at hy
        subst hy
        exact ⟨hA1, by show d < d + 1; omega, hj, hk⟩
  · intro y h1 h2
    rw [f7o _ (by omega) (by omega) (by omega), f5o _ (by omega) (by omega) (by omega) (by omega) (by omega)]
end PR4
