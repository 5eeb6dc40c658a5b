/-! ===== PHASE 2: the class's visit is the search ===== -/
noncomputable def tb_body (q : TQ) (n : Nat) (P : List Nat) (pl V m lo hi : Nat) : Int32 → zP (Int32 ⊕ (Unit ⊕ Unit)) := (fun (t3 : Int32) => (z_bd (z_gA 6 6 6) (fun v4 => (z_bd (z_gI 0 v4 10) (fun v5 => (if v5 ≤ t3 then (z_pu (.inr (.inl ()))) else (if 8 ≤ (nI P.length) then (z_pu (.inr (.inl ()))) else (z_bd (z_pu (((nI V) ||| (1 <<< (t3 &&& 31))))) (fun x6 => (z_bd (z_gA 6 6 2) (fun v7 => (z_bd (z_aI 11 v7 t3) (fun v8 => (z_bd (z_pu (if (0 : Int32) < ((nI lo) + v8) then ((nI lo) + v8) else 0)) (fun x9 => (z_bd (z_gI 6 6 8) (fun v10 => (z_bd (z_gA 6 6 3) (fun v11 => (z_bd (z_aI 11 v11 t3) (fun v12 => (z_bd (z_pu (if ((nI hi) + v12) < v10 then ((nI hi) + v12) else v10)) (fun x13 => (if x6 = (nI V) then (z_pu (.inl ((t3 + 1)))) else (if x13 < x9 then (z_pu (.inl ((t3 + 1)))) else (z_bd (p_X6_loads x9 x13) (fun r14 => (z_bd (z_gA 6 6 5) (fun v15 => (z_bd (z_aI 11 v15 x6) (fun v16 => (if (r14 &&& (v16 ^^^ (-1))) = 0 then (z_pu (.inl ((t3 + 1)))) else (z_bd (z_cv 6 6 (p_X6_minutesTo 6 (nI P.length) (nI pl) t3)) (fun r17 => (z_bd (z_gA 6 6 4) (fun v18 => (z_bd (z_aI 11 v18 t3) (fun v19 => (z_bd (z_pu ((((nI (tq_bd q V m)) + r17) - v19))) (fun x20 => (z_bd (z_cv 6 6 (p_X6_mayBeBest 6 ((nI P.length) + 1) x6 x20)) (fun r21 => (if r21 = 0 then (z_pu (.inl ((t3 + 1)))) else (z_bd (z_gA 6 6 1) (fun v22 => (z_bd (z_sI 11 v22 (nI P.length) t3) (fun _ => (z_bd (z_cv 6 6 (p_X6_visitD n 6 ((nI P.length) + 1) t3 x6 x9 x13 x20)) (fun _ => (z_pu (.inl ((t3 + 1)))))))))))))))))))))))))))))))))))))))))))))))))))))
section PA34
variable {β : Type} {M : zM} {F F' F2 : Nat → Nat → Int32} {ct cd st : Nat → Int32} {c i j k n m lo hi pl s V U ns nt np nc : Nat} {q : TQ} {P : List Nat} {b : TBt} {x y : Int32}
theorem k6_cp {f : Unit → zP β} (h : L0 M) (hs : s ≤ 8) : (z_bd (z_cp 8 0 7 0 (nI s)) f).1 (KI M F) = (f ()).1 (KI M (z_up1 F 7 (va_cpy (F 8) (F 7) 0 0 s))) := ki_cp (sp := 0) (dp := 0) (m := s) (k0_ar8 h) (k0_ar7 h) (by omega) (by omega) (by decide) (by decide)
theorem k_keep (h : L0 M) (hs : s ≤ 8) : (p_X6_keepPath 6 (nI s) (nI m)).1 (KI M F) = some (.inr (), KI M (z_up1 (z_up2 (z_up2 F 6 10 (nI m)) 6 11 (nI s)) 7 (va_cpy (F 8) (F 7) 0 0 s))) := by
  unfold p_X6_keepPath
  simp (disch := first | assumption | omega | (apply LZ_R; assumption) | (apply LZ_T <;> first | assumption | omega) | (apply LC_F; assumption)) only [e_pu, e_ite, oL_add, oL_addr, oL_mul, nI_add, nI_1, b_pu, b_bd, b_ite, j_L, j_R, j_ite, j_bd, z_ex, ↓reduceIte, if_true, if_false, k0_g0_0, k0_g0_1, k0_g0_2, k0_g0_3, k0_g0_4, k0_g0_5, k0_g0_6, k0_g0_7, k0_g2_0, k0_g4_0, k0_g6_0, k0_g6_1, k0_g6_2, k0_g6_3, k0_g6_4, k0_g6_5, k0_gI0, k0_pI0, k0_cv0, k0_gI2, k0_pI2, k0_cv2, k0_gI4, k0_pI4, k0_cv4, k0_gI6, k0_pI6, k0_cv6, k6_cp h hs, u2_row]
theorem k_mt {f : Int32 → zP β} (h : TC M F c ct cd st ns nt np nc q U) (hh : q.home < 100) (hs : s ≤ 8) (hp : pl < ns) (hi : i < ns) : (z_bd (p_X6_minutesTo 6 (nI s) (nI pl) (nI i)) f).1 (KI M F) = (f (nI (tq_tm q s pl i))).1 (KI M F) := by
  obtain ⟨⟨h0, hcy, E⟩, ⟨e1, hq, hd⟩, ⟨f7, f8, f9⟩, _⟩ := h
  have h8 := EN_ns E
  have hC := E.1.2.2.1
  have hdd := hd pl i hp hi
  unfold p_X6_minutesTo tq_tm
  by_cases g1 : s = 0
  · have g1' : nI s = 0 := by rw [g1]; rfl
    by_cases g2 : i = q.home
    · have g2' : nI i = nI q.home := by rw [g2]
      simp (disch := first | assumption | omega | (apply LZ_R; assumption) | (apply LZ_T <;> first | assumption | omega) | (apply LC_F; assumption)) only [e_pu, e_ite, oL_add, oL_addr, oL_mul, nI_add, nI_1, b_pu, b_bd, b_ite, j_L, j_R, j_ite, j_bd, z_ex, ↓reduceIte, if_true, if_false, k0_g0_0, k0_g0_1, k0_g0_2, k0_g0_3, k0_g0_4, k0_g0_5, k0_g0_6, k0_g0_7, k0_g2_0, k0_g4_0, k0_g6_0, k0_g6_1, k0_g6_2, k0_g6_3, k0_g6_4, k0_g6_5, k0_gI0, k0_pI0, k0_cv0, k0_gI2, k0_pI2, k0_cv2, k0_gI4, k0_pI4, k0_cv4, k0_gI6, k0_pI6, k0_cv6, g1', f7, g2', if_pos (And.intro g1 g2)]
      rfl
    · have g2' : ¬ nI i = nI q.home := fun e => g2 (nq_inj (by omega) (by omega) e)
      have g3 : ¬ (s = 0 ∧ i = q.home) := fun e => g2 e.2
      simp (disch := first | assumption | omega | (apply LZ_R; assumption) | (apply LZ_T <;> first | assumption | omega) | (apply LC_F; assumption)) only [e_pu, e_ite, oL_add, oL_addr, oL_mul, nI_add, nI_1, b_pu, b_bd, b_ite, j_L, j_R, j_ite, j_bd, z_ex, ↓reduceIte, if_true, if_false, k0_g0_0, k0_g0_1, k0_g0_2, k0_g0_3, k0_g0_4, k0_g0_5, k0_g0_6, k0_g0_7, k0_g2_0, k0_g4_0, k0_g6_0, k0_g6_1, k0_g6_2, k0_g6_3, k0_g6_4, k0_g6_5, k0_gI0, k0_pI0, k0_cv0, k0_gI2, k0_pI2, k0_cv2, k0_gI4, k0_pI4, k0_cv4, k0_gI6, k0_pI6, k0_cv6, g1', f7, g2', if_neg g3, k6_city h0 hcy, kc_cv, kx_dr E, hdd]
  · have g1' : ¬ nI s = 0 := nI_ne0 (by omega) (by omega)
    have g3 : ¬ (s = 0 ∧ i = q.home) := fun e => g1 e.1
    simp (disch := first | assumption | omega | (apply LZ_R; assumption) | (apply LZ_T <;> first | assumption | omega) | (apply LC_F; assumption)) only [e_pu, e_ite, oL_add, oL_addr, oL_mul, nI_add, nI_1, b_pu, b_bd, b_ite, j_L, j_R, j_ite, j_bd, z_ex, ↓reduceIte, if_true, if_false, k0_g0_0, k0_g0_1, k0_g0_2, k0_g0_3, k0_g0_4, k0_g0_5, k0_g0_6, k0_g0_7, k0_g2_0, k0_g4_0, k0_g6_0, k0_g6_1, k0_g6_2, k0_g6_3, k0_g6_4, k0_g6_5, k0_gI0, k0_pI0, k0_cv0, k0_gI2, k0_pI2, k0_cv2, k0_gI4, k0_pI4, k0_cv4, k0_gI6, k0_pI6, k0_cv6, g1', if_neg g3, k6_city h0 hcy, kc_cv, kx_dr E, hdd]
theorem tq_cn8 (hq : tq_ok q) : tq_cn q V ≤ 8 := by
  have h : tq_cn q V ≤ q.ns * 1 := tq_sm_le (fun i _ => by unfold tq_re; split; exact Nat.zero_le _; show (if tq_un q i then 1 else 0) ≤ 1; split <;> omega)
  have := hq.1
  omega
theorem tq_bd8 (hq : tq_ok q) : tq_bd q V m ≤ m + 64000 := by
  have h : tq_sm (tq_re V q.lw) q.ns ≤ q.ns * 8000 := tq_sm_le (fun i hi => by
    unfold tq_re
    split
    · exact Nat.zero_le _
    · have := hq.2.2.2.2.2.2 i hi
      omega)
  have := hq.1
  have h2 : q.ns * 8000 ≤ 8 * 8000 := Nat.mul_le_mul_right _ this
  unfold tq_bd
  omega
theorem PT_up {y' : Nat} (h : PT F y' P) (hj : s = P.length) : PT (z_up2 F y' s (nI i)) y' (P ++ [i]) := by
  intro j z hz
  by_cases g : j < P.length
  · rw [List.getElem?_append_left g] at hz
    rw [u2_n _ _ (Or.inr (by omega))]
    exact h j z hz
  · rw [List.getElem?_append_right (by omega)] at hz
    by_cases g2 : j = P.length
    · rw [g2, Nat.sub_self] at hz
      cases hz
      rw [g2, hj, u2_s]
    · have : ([i] : List Nat)[j - P.length]? = none := List.getElem?_eq_none (by simp; omega)
      rw [this] at hz
      cases hz
theorem PT_pre {y' : Nat} (h : PT F y' (P ++ [i])) : PT F y' P := fun j z hz => h j z (by
  have g : j < P.length := by
    rw [List.getElem?_eq_some_iff] at hz
    exact hz.1
  rw [List.getElem?_append_left g]
  exact hz)
theorem NV_ch (hq : tq_ok q) (h : NV q P pl V m lo hi) (hi' : i < q.ns) (hV : ¬ V.testBit i = true) (he : ¬ tq_em q lo hi i) : NV q (P ++ [i]) i (V ||| 2 ^ i) (m + tq_tm q P.length pl i) (tq_lo q lo i) (tq_hi q hi i) := by
  obtain ⟨⟨a1, a2⟩, ⟨a3, a4⟩, ⟨a5, a6⟩, a7⟩ := h
  have h8 := hq.1
  have hl : (P ++ [i]).length = P.length + 1 := by simp
  have hd := (hq.2.2.2.1 pl i a5 hi').2
  have ht : tq_tm q P.length pl i < 8000 := by
    unfold tq_tm
    split <;> omega
  refine ⟨tq_li a1 he, ⟨or_lt a3 (by omega), ?_⟩, ⟨hi', fun _ => tq_bs V i⟩, ?_⟩
  · rw [tq_pc_add hi' hV, hl, a4]
  · rw [hl]
    omega
/-- one station of a visit -/
theorem k_step (ih : ∀ P pl V m lo hi b F, TC M F c ct cd st ns nt np nc q U → NV q P pl V m lo hi → n + P.length = 10 → TB (F 6 10) (F 6 11) (F 7) b → PT F 8 P → HP F q → tq_mb q b P.length V (tq_bd q V m) → ∃ F', (p_X6_visitD n 6 (nI P.length) (nI pl) (nI V) (nI lo) (nI hi) (nI (tq_bd q V m))).1 (KI M F) = some (.inr (), KI M F') ∧ tch F F' ∧ TB (F' 6 10) (F' 6 11) (F' 7) (tq_d q n P pl V m lo hi b) ∧ HP F' q ∧ PT F' 8 P)
    (hc15 : 15 ≤ c) (hh : q.home < 100) (hT : TC M F c ct cd st ns nt np nc q U) (hN : NV q P pl V m lo hi) (hn : n + 1 + P.length = 10) (hB : TB (F 6 10) (F 6 11) (F 7) b) (hP : PT F 8 P) (hH : HP F q) (hev : ¬ tq_evn q V) (hj : j < ns) :
    ∃ F', (tb_body q n P pl V m lo hi (nI j)).1 (KI M F) = some (.inr (.inl (nI (j + 1))), KI M F') ∧ tch F F' ∧ TB (F' 6 10) (F' 6 11) (F' 7) (tq_ch q (tq_d q n) P pl V m lo hi j b) ∧ HP F' q ∧ PT F' 8 P := by
  unfold tb_body
  obtain ⟨⟨h0, hcy, E⟩, ⟨en, hq, hd⟩, ⟨f7, f8, f9⟩, hU, hrow⟩ := id hT
  obtain ⟨⟨a1, a2⟩, ⟨a3, a4⟩, ⟨a5, a6⟩, a7⟩ := id hN
  have h8 := EN_ns E
  have hC := E.1.2.2.1
  have e10 := EN_s0 E
  have hcap := hq.2.1
  have hqj := hq.2.2.1 j (by omega)
  obtain ⟨rg, rm, rl⟩ := hrow j hj
  have hpc : P.length < 8 := by
    rw [← a4]
    have : ∃ i, i < q.ns ∧ ¬ V.testBit i = true := by
      by_cases g : ∃ i, i < q.ns ∧ ¬ V.testBit i = true
      · exact g
      · exact absurd (fun i hi _ => Classical.byContradiction (fun hn => g ⟨i, hi, hn⟩)) hev
    obtain ⟨i, g1, g2⟩ := this
    have := tq_pc_lt g1 g2
    have := hq.1
    omega
  have nge : ¬ nI ns ≤ nI j := nI_ge hj (by omega)
  have hP8 : ¬ (8 : Int32) ≤ nI P.length := nI_ge (b := 8) hpc (by omega)
  have e1 : (1 : Int32) <<< (nI j &&& 31) = nI (2 ^ j) := one_shl (by omega)
  have hV31 : V < 2 ^ 31 := by omega
  have eLo : (if (0 : Int32) < nI lo + (nI (q.mk j) - nI (q.fr j)) then nI lo + (nI (q.mk j) - nI (q.fr j)) else 0) = nI (tq_lo q lo j) := n_lo (by omega) (by omega) (by omega)
  by_cases hbit : V.testBit j = true
  · refine ⟨F, ?_, tch_rf, ?_, hH, hP⟩
    · have hx6 : nI (V ||| 2 ^ j) = nI V := (in_ask hV31 (by omega)).mpr hbit
      simp (disch := first | assumption | omega | (apply LZ_R; assumption) | (apply LZ_T <;> first | assumption | omega) | (apply LC_F; assumption)) only [e_pu, e_ite, oL_add, oL_addr, oL_mul, nI_add, nI_1, b_pu, b_bd, b_ite, j_L, j_R, j_ite, j_bd, z_ex, ↓reduceIte, if_true, if_false, k0_g0_0, k0_g0_1, k0_g0_2, k0_g0_3, k0_g0_4, k0_g0_5, k0_g0_6, k0_g0_7, k0_g2_0, k0_g4_0, k0_g6_0, k0_g6_1, k0_g6_2, k0_g6_3, k0_g6_4, k0_g6_5, k0_gI0, k0_pI0, k0_cv0, k0_gI2, k0_pI2, k0_cv2, k0_gI4, k0_pI4, k0_cv4, k0_gI6, k0_pI6, k0_cv6, k6_a7, k6_s7, k6_a8, k6_s8, k6_a9, k6_s9, k6_a10, k6_s10, k6_a11, k6_s11, k6_a12, k6_s12, k6_city h0 hcy, kc_gI, e10, nge, hP8, nI_or, e1, rg, rm, rl, k6_a9 h0 (show j < 8 by omega), k6_a10 h0 (show j < 8 by omega), f8, hx6]
    · unfold tq_ch
      rw [if_pos hbit]
      exact hB
  have hx6 : ¬ nI (V ||| 2 ^ j) = nI V := fun e => hbit ((in_ask hV31 (by omega)).mp e)
  have hlo : tq_lo q lo j < 1000 := by unfold tq_lo; omega
  by_cases hem : tq_em q lo hi j
  · refine ⟨F, ?_, tch_rf, ?_, hH, hP⟩
    · by_cases g : hi + q.bk j < q.mk j
      · have hlt := n_hi2 (a := hi) (b := q.bk j) (c := q.mk j) (d := q.cap) (by omega) (by omega) g (by omega) (by omega) hlo
        simp (disch := first | assumption | omega | (apply LZ_R; assumption) | (apply LZ_T <;> first | assumption | omega) | (apply LC_F; assumption)) only [e_pu, e_ite, oL_add, oL_addr, oL_mul, nI_add, nI_1, b_pu, b_bd, b_ite, j_L, j_R, j_ite, j_bd, z_ex, ↓reduceIte, if_true, if_false, k0_g0_0, k0_g0_1, k0_g0_2, k0_g0_3, k0_g0_4, k0_g0_5, k0_g0_6, k0_g0_7, k0_g2_0, k0_g4_0, k0_g6_0, k0_g6_1, k0_g6_2, k0_g6_3, k0_g6_4, k0_g6_5, k0_gI0, k0_pI0, k0_cv0, k0_gI2, k0_pI2, k0_cv2, k0_gI4, k0_pI4, k0_cv4, k0_gI6, k0_pI6, k0_cv6, k6_a7, k6_s7, k6_a8, k6_s8, k6_a9, k6_s9, k6_a10, k6_s10, k6_a11, k6_s11, k6_a12, k6_s12, k6_city h0 hcy, kc_gI, e10, nge, hP8, nI_or, e1, rg, rm, rl, f8, hx6, eLo, hlt]
      · have eHi : (if nI hi + (nI (q.bk j) - nI (q.mk j)) < nI q.cap then nI hi + (nI (q.bk j) - nI (q.mk j)) else nI q.cap) = nI (tq_hi q hi j) := n_hi (by omega) (by omega) (by omega) (by omega)
        have hlt : nI (tq_hi q hi j) < nI (tq_lo q lo j) := nI_lt (hem.resolve_left g) (by omega)
        simp (disch := first | assumption | omega | (apply LZ_R; assumption) | (apply LZ_T <;> first | assumption | omega) | (apply LC_F; assumption)) only [e_pu, e_ite, oL_add, oL_addr, oL_mul, nI_add, nI_1, b_pu, b_bd, b_ite, j_L, j_R, j_ite, j_bd, z_ex, ↓reduceIte, if_true, if_false, k0_g0_0, k0_g0_1, k0_g0_2, k0_g0_3, k0_g0_4, k0_g0_5, k0_g0_6, k0_g0_7, k0_g2_0, k0_g4_0, k0_g6_0, k0_g6_1, k0_g6_2, k0_g6_3, k0_g6_4, k0_g6_5, k0_gI0, k0_pI0, k0_cv0, k0_gI2, k0_pI2, k0_cv2, k0_gI4, k0_pI4, k0_cv4, k0_gI6, k0_pI6, k0_cv6, k6_a7, k6_s7, k6_a8, k6_s8, k6_a9, k6_s9, k6_a10, k6_s10, k6_a11, k6_s11, k6_a12, k6_s12, k6_city h0 hcy, kc_gI, e10, nge, hP8, nI_or, e1, rg, rm, rl, f8, hx6, eLo, eHi, hlt]
    · unfold tq_ch
      rw [if_neg hbit, if_pos hem]
      exact hB
  have g : ¬ hi + q.bk j < q.mk j := fun g => hem (Or.inl g)
  have eHi : (if nI hi + (nI (q.bk j) - nI (q.mk j)) < nI q.cap then nI hi + (nI (q.bk j) - nI (q.mk j)) else nI q.cap) = nI (tq_hi q hi j) := n_hi (by omega) (by omega) (by omega) (by omega)
  obtain ⟨li1, li2⟩ := tq_li a1 hem
  have hlt : ¬ nI (tq_hi q hi j) < nI (tq_lo q lo j) := nI_nlt li1 (by omega)
  have hV' : V ||| 2 ^ j < 2 ^ 8 := or_lt a3 (by omega)
  have hbi := li_BI li1 (show tq_hi q hi j < 30 by omega)
  have hNc := NV_ch hq hN (by omega) hbit hem
  have ech : tq_ch q (tq_d q n) P pl V m lo hi j b = tq_d q n (P ++ [j]) j (V ||| 2 ^ j) (m + tq_tm q P.length pl j) (tq_lo q lo j) (tq_hi q hi j) b := by
    unfold tq_ch
    rw [if_neg hbit, if_neg hem]
  have hlen : (P ++ [j]).length = P.length + 1 := by simp
  rw [ech]
  by_cases hho : (((2 : Int32) <<< (nI (tq_hi q hi j) &&& 31) - (1 : Int32) <<< (nI (tq_lo q lo j) &&& 31)) &&& (F 12 (V ||| 2 ^ j) ^^^ (-1))) = 0
  · refine ⟨F, ?_, tch_rf, ?_, hH, hP⟩
    · simp (disch := first | assumption | omega | (apply LZ_R; assumption) | (apply LZ_T <;> first | assumption | omega) | (apply LC_F; assumption)) only [e_pu, e_ite, oL_add, oL_addr, oL_mul, nI_add, nI_1, b_pu, b_bd, b_ite, j_L, j_R, j_ite, j_bd, z_ex, ↓reduceIte, if_true, if_false, k0_g0_0, k0_g0_1, k0_g0_2, k0_g0_3, k0_g0_4, k0_g0_5, k0_g0_6, k0_g0_7, k0_g2_0, k0_g4_0, k0_g6_0, k0_g6_1, k0_g6_2, k0_g6_3, k0_g6_4, k0_g6_5, k0_gI0, k0_pI0, k0_cv0, k0_gI2, k0_pI2, k0_cv2, k0_gI4, k0_pI4, k0_cv4, k0_gI6, k0_pI6, k0_cv6, k6_a7, k6_s7, k6_a8, k6_s8, k6_a9, k6_s9, k6_a10, k6_s10, k6_a11, k6_s11, k6_a12, k6_s12, k6_city h0 hcy, kc_gI, e10, nge, hP8, nI_or, e1, rg, rm, rl, f8, hx6, eLo, eHi, hlt, p_X6_loads, k6_a12 h0 (show V ||| 2 ^ j < 256 by omega), hho]
    · have hfe : ∀ l, tq_lo q lo j ≤ l → l ≤ tq_hi q hi j → ¬ tq_fe q n (V ||| 2 ^ j) l := fun l g1 g2 => by
        have g3 := (bt_sub.mp hho) l (by omega) (by rw [hbi l (by omega)]; simp [g1, g2])
        have g4 := hH (V ||| 2 ^ j) l (by omega) (by omega) g3
        rw [hNc.2.1.2, hlen, show 10 - (P.length + 1) = n by omega] at g4
        exact g4
      rw [tq_hopeless hq n _ _ _ _ _ _ b li1 hfe]
      exact hB
  have hbd := tq_bd_add (m := m) (show j < q.ns by omega) hbit (tq_tm q P.length pl j)
  have eB : nI (tq_bd q V m + tq_tm q P.length pl j) - nI (q.lw j) = nI (tq_bd q (V ||| 2 ^ j) (m + tq_tm q P.length pl j)) := by
    rw [nI_sub (by omega)]
    congr 1
    omega
  have hb8 := tq_bd8 (V := V ||| 2 ^ j) (m := m + tq_tm q P.length pl j) hq
  have hm8 := hNc.2.2.2
  rw [hlen] at hm8
  obtain ⟨r, hr1, hr2, hr3⟩ := k_mb (s := P.length + 1) (m := tq_bd q (V ||| 2 ^ j) (m + tq_tm q P.length pl j)) hT hV' (by omega) (by omega) hB (tq_cn8 hq)
  have hmr : ∀ f : Int32 → zP (Int32 ⊕ (Unit ⊕ Unit)), (z_bd (p_X6_mayBeBest 6 (nI (P.length + 1)) (nI (V ||| 2 ^ j)) (nI (tq_bd q (V ||| 2 ^ j) (m + tq_tm q P.length pl j)))) f).1 (KI M F) = (f r).1 (KI M F) := fun f => e_run hr1
  by_cases hmb : tq_mb q b (P.length + 1) (V ||| 2 ^ j) (tq_bd q (V ||| 2 ^ j) (m + tq_tm q P.length pl j))
  · have hr0 : ¬ r = 0 := fun e => (hr3.mp e) hmb
    have hch : tch F (z_up2 F 8 P.length (nI j)) := fun y z _ h2 _ _ => u2_n _ _ (Or.inl h2)
    obtain ⟨F', v1, v2, v3, v4, v5⟩ := ih (P ++ [j]) j (V ||| 2 ^ j) (m + tq_tm q P.length pl j) (tq_lo q lo j) (tq_hi q hi j) b (z_up2 F 8 P.length (nI j)) (TC_ch hT hc15 hch) hNc (by rw [hlen]; omega) (by
        rw [u2_n _ _ (Or.inl (by omega)), u2_n _ _ (Or.inl (by omega)), u2_row _ _ (by omega)]
        exact hB) (PT_up hP rfl) (by
        intro W l
        rw [u2_n _ _ (Or.inl (by omega))]
        exact hH W l) (by rw [hlen]; exact hmb)
    refine ⟨F', ?_, tch_tr hch v2, v3, v4, PT_pre v5⟩
    rw [hlen] at v1
    simp (disch := first | assumption | omega | (apply LZ_R; assumption) | (apply LZ_T <;> first | assumption | omega) | (apply LC_F; assumption)) only [e_pu, e_ite, oL_add, oL_addr, oL_mul, nI_add, nI_1, b_pu, b_bd, b_ite, j_L, j_R, j_ite, j_bd, z_ex, ↓reduceIte, if_true, if_false, k0_g0_0, k0_g0_1, k0_g0_2, k0_g0_3, k0_g0_4, k0_g0_5, k0_g0_6, k0_g0_7, k0_g2_0, k0_g4_0, k0_g6_0, k0_g6_1, k0_g6_2, k0_g6_3, k0_g6_4, k0_g6_5, k0_gI0, k0_pI0, k0_cv0, k0_gI2, k0_pI2, k0_cv2, k0_gI4, k0_pI4, k0_cv4, k0_gI6, k0_pI6, k0_cv6, k6_a7, k6_s7, k6_a8, k6_s8, k6_a9, k6_s9, k6_a10, k6_s10, k6_a11, k6_s11, k6_a12, k6_s12, k6_city h0 hcy, kc_gI, e10, nge, hP8, nI_or, e1, rg, rm, rl, f8, hx6, eLo, eHi, hlt, p_X6_loads, k6_a12 h0 (show V ||| 2 ^ j < 256 by omega), hho, k_mt hT hh (show P.length ≤ 8 by omega) (show pl < ns by omega) hj, eB, hmr, hr0]
    exact e_run v1
  · have hr0 : r = 0 := hr3.mpr hmb
    refine ⟨F, ?_, tch_rf, ?_, hH, hP⟩
    · simp (disch := first | assumption | omega | (apply LZ_R; assumption) | (apply LZ_T <;> first | assumption | omega) | (apply LC_F; assumption)) only [e_pu, e_ite, oL_add, oL_addr, oL_mul, nI_add, nI_1, b_pu, b_bd, b_ite, j_L, j_R, j_ite, j_bd, z_ex, ↓reduceIte, if_true, if_false, k0_g0_0, k0_g0_1, k0_g0_2, k0_g0_3, k0_g0_4, k0_g0_5, k0_g0_6, k0_g0_7, k0_g2_0, k0_g4_0, k0_g6_0, k0_g6_1, k0_g6_2, k0_g6_3, k0_g6_4, k0_g6_5, k0_gI0, k0_pI0, k0_cv0, k0_gI2, k0_pI2, k0_cv2, k0_gI4, k0_pI4, k0_cv4, k0_gI6, k0_pI6, k0_cv6, k6_a7, k6_s7, k6_a8, k6_s8, k6_a9, k6_s9, k6_a10, k6_s10, k6_a11, k6_s11, k6_a12, k6_s12, k6_city h0 hcy, kc_gI, e10, nge, hP8, nI_or, e1, rg, rm, rl, f8, hx6, eLo, eHi, hlt, p_X6_loads, k6_a12 h0 (show V ||| 2 ^ j < 256 by omega), hho, k_mt hT hh (show P.length ≤ 8 by omega) (show pl < ns by omega) hj, eB, hmr, hr0]
    · rw [tq_bound hq n (P ++ [j]) j (V ||| 2 ^ j) _ _ _ (by omega) (tq_bs V j) (by omega) (by rw [hlen]; exact hmb)]
      exact hB
theorem k_visit (hc15 : 15 ≤ c) (hh : q.home < 100) : ∀ n P pl V m lo hi b F, TC M F c ct cd st ns nt np nc q U → NV q P pl V m lo hi → n + P.length = 10 → TB (F 6 10) (F 6 11) (F 7) b → PT F 8 P → HP F q → tq_mb q b P.length V (tq_bd q V m) → ∃ F', (p_X6_visitD n 6 (nI P.length) (nI pl) (nI V) (nI lo) (nI hi) (nI (tq_bd q V m))).1 (KI M F) = some (.inr (), KI M F') ∧ tch F F' ∧ TB (F' 6 10) (F' 6 11) (F' 7) (tq_d q n P pl V m lo hi b) ∧ HP F' q ∧ PT F' 8 P := by
  intro n
  induction n with
  | zero =>
    intro P pl V m lo hi b F hT hN hn
    have h1 : tq_pc q V ≤ q.ns * 1 := tq_sm_le (fun j _ => by split <;> omega)
    have h2 := hN.2.1.2
    have h3 := hT.2.1.2.1.1
    omega
  | succ n ih =>
    intro P pl V m lo hi b F hT hN hn hB hP hH hM
    obtain ⟨⟨h0, hcy, E⟩, ⟨en, hq, hd⟩, ⟨f7, f8, f9⟩, hU, hrow⟩ := id hT
    obtain ⟨⟨a1, a2⟩, ⟨a3, a4⟩, ⟨a5, a6⟩, a7⟩ := id hN
    have h8 := EN_ns E
    have hC := E.1.2.2.1
    have e10 := EN_s0 E
    have hcap := hq.2.1
    have hpc8 : P.length ≤ 8 := by
      have h1 : tq_pc q V ≤ q.ns * 1 := tq_sm_le (fun j _ => by split <;> omega)
      omega
    have hwo : ¬ tq_wo b m P.length := by
      have h1 : m ≤ tq_bd q V m := by unfold tq_bd; omega
      cases b with
      | none => exact tq_wo_n
      | some x =>
        have hM' : tq_bd q V m < x.1 ∨ (tq_bd q V m = x.1 ∧ P.length + tq_cn q V < x.2.length) := hM
        rw [tq_wo_s]
        omega
    have ed : tq_d q (n + 1) P pl V m lo hi b = if tq_evn q V then some (m, P) else tq_fd (tq_ch q (tq_d q n) P pl V m lo hi) q.ns 0 b := by
      show (if tq_wo b m P.length then b else _) = _
      rw [if_neg hwo]
    rw [ed]
    show ∃ F', (p_X6_visitF (p_X6_visitD n) 6 (nI P.length) (nI pl) (nI V) (nI lo) (nI hi) (nI (tq_bd q V m))).1 (KI M F) = _ ∧ _
    unfold p_X6_visitF
    by_cases hev : tq_evn q V
    · have hev' := (U_evn hT a3).mpr hev
      rw [if_pos hev, tq_bd_evn hq hev]
      refine ⟨z_up1 (z_up2 (z_up2 F 6 10 (nI m)) 6 11 (nI P.length)) 7 (va_cpy (F 8) (F 7) 0 0 P.length), ?_, ?_, ?_, ?_, ?_⟩
      · rw [k0_gI6 h0, f9, if_pos hev', k0_cv6 h0]
        exact e_run (k_keep h0 hpc8)
      · intro y j h1 h2 h3 h4
        rw [u1_n _ _ h1, u2_n _ _ (by omega), u2_n _ _ (by omega)]
      · refine ⟨⟨by show m < 100000; omega, hpc8⟩, ?_, ?_, fun j z hz => ?_⟩
        · rw [u1_n _ _ (by omega), u2_n _ _ (by omega), u2_s]
        · rw [u1_n _ _ (by omega), u2_s]
        · have hz' : P[j]? = some z := hz
          have g : j < P.length := by
            rw [List.getElem?_eq_some_iff] at hz'
            exact hz'.1
          rw [u1_s, pk_cpy_in (by omega) (by omega), show 0 + (j - 0) = j by omega]
          exact hP j z hz'
      · intro W l
        rw [u1_n _ _ (by omega), u2_row _ _ (by omega), u2_row _ _ (by omega)]
        exact hH W l
      · intro j z hz
        rw [u1_n _ _ (by omega), u2_row _ _ (by omega), u2_row _ _ (by omega)]
        exact hP j z hz
    · have hev' : ¬ (nI U &&& (nI V ^^^ (-1))) = 0 := fun e => hev ((U_evn hT a3).mp e)
      rw [if_neg hev]
      have hloop : ∀ k j b F, j + k = ns → TC M F c ct cd st ns nt np nc q U → TB (F 6 10) (F 6 11) (F 7) b → PT F 8 P → HP F q → ∃ F', (z_lp (tb_body q n P pl V m lo hi) (nI j)).1 (KI M F) = some (.inr (.inl ()), KI M F') ∧ tch F F' ∧ TB (F' 6 10) (F' 6 11) (F' 7) (tq_fd (tq_ch q (tq_d q n) P pl V m lo hi) k j b) ∧ HP F' q ∧ PT F' 8 P := by
        intro k
        induction k with
        | zero =>
          intro j b F hj hT hB hP hH
          have E := TC_E hT
          have e10 := EN_s0 E
          have hcy := hT.1.2.1
          refine ⟨F, z_lp_end ?_, tch_rf, hB, hH, hP⟩
          have nle : nI ns ≤ nI j := nI_le (by omega) (by omega)
          unfold tb_body
          show (z_bd (z_gA 6 6 6) _).1 (KI M F) = _
          rw [k6_city h0 hcy, kc_gI hC, e10, if_pos nle]
          rfl
        | succ k ik =>
          intro j b F hj hT hB hP hH
          obtain ⟨F1, s1, s2, s3, s4, s5⟩ := k_step ih hc15 hh hT hN hn hB hP hH hev (show j < ns by omega)
          obtain ⟨F2, t1, t2, t3, t4, t5⟩ := ik (j + 1) _ F1 (by omega) (TC_ch hT hc15 s2) s3 s5 s4
          exact ⟨F2, (z_lp_step s1).trans t1, tch_tr s2 t2, t3, t4, t5⟩
      obtain ⟨F1, s1, s2, s3, s4, s5⟩ := hloop ns 0 b F (by omega) hT hB hP hH
      rw [en]
      have hV256 : V < 256 := by omega
      have hno := TB_no s3
      by_cases hb0 : F1 6 10 = -1
      · have hnone := hno.mp hb0
        have hbn : b = none := by
          cases b with
          | none => rfl
          | some x =>
            exfalso
            have h1 := tq_some (q := q) (n + 1) P pl V m lo hi x
            rw [ed, if_neg hev, en] at h1
            exact h1 hnone
        refine ⟨z_up2 F1 12 V (F1 12 V ||| ((2 : Int32) <<< (nI hi &&& 31) - (1 : Int32) <<< (nI lo &&& 31))), ?_, tch_tr s2 (fun y z _ _ h3 _ => u2_n _ _ (Or.inl h3)), ?_, ?_, ?_⟩
        · rw [k0_gI6 h0, f9, if_neg hev']
          refine (e_jL s1).trans ?_
          simp (disch := first | assumption | omega | (apply LZ_R; assumption) | (apply LZ_T <;> first | assumption | omega) | (apply LC_F; assumption)) only [e_pu, e_ite, oL_add, oL_addr, oL_mul, nI_add, nI_1, b_pu, b_bd, b_ite, j_L, j_R, j_ite, j_bd, z_ex, ↓reduceIte, if_true, if_false, k0_g0_0, k0_g0_1, k0_g0_2, k0_g0_3, k0_g0_4, k0_g0_5, k0_g0_6, k0_g0_7, k0_g2_0, k0_g4_0, k0_g6_0, k0_g6_1, k0_g6_2, k0_g6_3, k0_g6_4, k0_g6_5, k0_gI0, k0_pI0, k0_cv0, k0_gI2, k0_pI2, k0_cv2, k0_gI4, k0_pI4, k0_cv4, k0_gI6, k0_pI6, k0_cv6, hb0, k6_a12 h0 hV256, k6_s12 h0 hV256, p_X6_loads]
        · rw [u2_n _ _ (Or.inl (by omega)), u2_n _ _ (Or.inl (by omega)), u2_row _ _ (by omega)]
          exact s3
        · intro W l hW hl hbt
          by_cases g : W = V
          · subst g
            rw [u2_s, bt_or] at hbt
            by_cases g2 : bt (F1 12 W) l = true
            · exact s4 W l hW hl g2
            · have g3 : bt ((2 : Int32) <<< (nI hi &&& 31) - (1 : Int32) <<< (nI lo &&& 31)) l = true := by
                cases e : bt (F1 12 W) l with
                | true => exact absurd e g2
                | false => rw [e] at hbt; simpa using hbt
              rw [li_BI a1 (by omega) l hl] at g3
              have g4 : lo ≤ l ∧ l ≤ hi := by simpa using g3
              rw [a4, show 10 - P.length = n + 1 by omega]
              refine tq_none hq (n + 1) P pl W m lo hi a1 ?_ (by omega) l g4.1 g4.2
              subst hbn
              rw [ed, if_neg hev, en]
              exact hnone
          · rw [u2_n _ _ (Or.inr g)] at hbt
            exact s4 W l hW hl hbt
        · intro j z hz
          rw [u2_n _ _ (Or.inl (by omega))]
          exact s5 j z hz
      · refine ⟨F1, ?_, s2, s3, s4, s5⟩
        rw [k0_gI6 h0, f9, if_neg hev']
        refine (e_jL s1).trans ?_
        simp (disch := first | assumption | omega | (apply LZ_R; assumption) | (apply LZ_T <;> first | assumption | omega) | (apply LC_F; assumption)) only [e_pu, e_ite, oL_add, oL_addr, oL_mul, nI_add, nI_1, b_pu, b_bd, b_ite, j_L, j_R, j_ite, j_bd, z_ex, ↓reduceIte, if_true, if_false, k0_g0_0, k0_g0_1, k0_g0_2, k0_g0_3, k0_g0_4, k0_g0_5, k0_g0_6, k0_g0_7, k0_g2_0, k0_g4_0, k0_g6_0, k0_g6_1, k0_g6_2, k0_g6_3, k0_g6_4, k0_g6_5, k0_gI0, k0_pI0, k0_cv0, k0_gI2, k0_pI2, k0_cv2, k0_gI4, k0_pI4, k0_cv4, k0_gI6, k0_pI6, k0_cv6, hb0]
end PA34
