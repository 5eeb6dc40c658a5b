/-! ===== PHASE 2: the class's search ===== -/
/-- the fewest minutes to a station, of the first k -/
def tq_ml (dr : Nat → Nat → Nat) (s : Nat) : Nat → Nat
  | 0 => 0
  | k + 1 => if k = s then tq_ml dr s k else if tq_ml dr s k = 0 ∨ dr k s < tq_ml dr s k then dr k s else tq_ml dr s k
def tqq (ct st : Nat → Int32) (ns cap home : Nat) : TQ := ((ns, cap, home), ((fun i => ix (s_mk ct st i)), (fun i => ix (s_fr ct st i)), (fun i => ix (st (6 + i)))), (fun i j => ix (s_dr ct i j)), (fun i => if ix (st (6 + i)) < ix (s_mk ct st i) ∨ ix (s_fr ct st i) < ix (s_mk ct st i) then tq_ml (fun i j => ix (s_dr ct i j)) i ns else 0))
/-- only the tour's rows are new -/
def tcp (F F' : Nat → Nat → Int32) : Prop := ∀ y j, y ≠ 9 → y ≠ 10 → y ≠ 11 → ¬ (y = 6 ∧ j = 9) → F' y j = F y j
section PA35
variable {β : Type} {M : zM} {F F' F2 : Nat → Nat → Int32} {ct cd st : Nat → Int32} {a c i j k n m lo hi pl s V U ns nt np nc cap home t : Nat} {q : TQ} {P : List Nat} {b : TBt} {x y : Int32} {dr : Nat → Nat → Nat}
theorem tq_ml_le (h1 : ∀ i, i < k → 1 ≤ dr i s ∧ dr i s < 8000) : tq_ml dr s k < 8000 ∧ ∀ i, i < k → i ≠ s → 1 ≤ tq_ml dr s k ∧ tq_ml dr s k ≤ dr i s := by
  induction k with
  | zero => exact ⟨by show (0 : Nat) < 8000; omega, fun i h => by omega⟩
  | succ k ih =>
    obtain ⟨g1, g2⟩ := ih (fun i hi => h1 i (by omega))
    have g3 := h1 k (by omega)
    show (if k = s then tq_ml dr s k else if tq_ml dr s k = 0 ∨ dr k s < tq_ml dr s k then dr k s else tq_ml dr s k) < 8000 ∧ ∀ i, i < k + 1 → i ≠ s → 1 ≤ (if k = s then tq_ml dr s k else if tq_ml dr s k = 0 ∨ dr k s < tq_ml dr s k then dr k s else tq_ml dr s k) ∧ (if k = s then tq_ml dr s k else if tq_ml dr s k = 0 ∨ dr k s < tq_ml dr s k then dr k s else tq_ml dr s k) ≤ dr i s
    by_cases e : k = s
    · rw [if_pos e]
      exact ⟨g1, fun i hi hn => g2 i (by omega) hn⟩
    · rw [if_neg e]
      by_cases e2 : tq_ml dr s k = 0 ∨ dr k s < tq_ml dr s k
      · rw [if_pos e2]
        refine ⟨g3.2, fun i hi hn => ⟨g3.1, ?_⟩⟩
        by_cases e3 : i = k
        · rw [e3]
          exact Nat.le_refl _
        · have := g2 i (by omega) hn
          omega
      · rw [if_neg e2]
        refine ⟨g1, fun i hi hn => ?_⟩
        by_cases e3 : i = k
        · rw [e3]
          omega
        · exact g2 i (by omega) hn
theorem dr_num (hc : c_ok ct cd ns nt np nc) (hi : i < ns) (hj : j < ns) : s_dr ct i j = nI (ix (s_dr ct i j)) ∧ 1 ≤ ix (s_dr ct i j) ∧ ix (s_dr ct i j) < 8000 := by
  obtain ⟨z, hz, ez⟩ := s_ds_ok hc hi hj
  obtain ⟨_, u, _, _, _, _, hu, _, _, _, _, eu, _⟩ := hc.2.2.2.2.1
  have h1 : z * u ≤ 198 * 99 := Nat.mul_le_mul (by omega) (by omega)
  have e : s_dr ct i j = nI (1 + z * u / 10) := by
    unfold s_dr
    rw [ez, eu, nI_mul, show (10 : Int32) = nI 10 from rfl, pk_div (by omega) (by decide) (by decide), show (1 : Int32) = nI 1 from rfl, nI_add]
  have e2 : ix (s_dr ct i j) = 1 + z * u / 10 := by rw [e]; exact nI_clamp (by omega)
  rw [e2]
  exact ⟨e, by omega, by omega⟩
theorem st_ix (hc : c_ok ct cd ns nt np nc) (hn : n_ok ct st ns nt) (hj : j < ns) : st (6 + j) = nI (ix (st (6 + j))) ∧ s_fr ct st j = nI (ix (s_fr ct st j)) ∧ s_mk ct st j = nI (ix (s_mk ct st j)) ∧ s_wk ct st j = nI (ix (st (6 + j)) + ix (s_fr ct st j)) ∧ ix (st (6 + j)) + ix (s_fr ct st j) ≤ 20 ∧ ix (s_mk ct st j) * 2 ≤ ix (st (6 + j)) + ix (s_fr ct st j) := by
  obtain ⟨b, w, g, m, e1, e2, e3, e4, h1, h2, h3⟩ := st_num hc hn hj
  have i1 : ix (st (6 + j)) = b := by rw [e1]; exact nI_clamp (by omega)
  have i2 : ix (s_fr ct st j) = g := by rw [e3]; exact nI_clamp (by omega)
  have i3 : ix (s_mk ct st j) = m := by rw [e4]; exact nI_clamp (by omega)
  rw [i1, i2, i3, h1]
  exact ⟨e1, e3, e4, e2, h2, h3⟩
theorem ms_num (hc : c_ok ct cd ns nt np nc) (hn : n_ok ct st ns nt) (hj : j < ns) : s_ms ct st j = nI ((ix (s_mk ct st j) - ix (st (6 + j))) + (ix (s_mk ct st j) - ix (s_fr ct st j))) := by
  obtain ⟨e1, e2, e3, _, h1, h2⟩ := st_ix hc hn hj
  have key : ∀ x y : Nat, x < 1000 → y < 1000 → (if (0 : Int32) ≤ nI x - nI y then nI x - nI y else 0) = nI (x - y) := fun x y hx hy => by
    by_cases g : y ≤ x
    · rw [nI_sub g, if_pos (nI_pos' (by omega))]
    · rw [if_neg (fun e => by
        rw [i_le, sub_ti (by omega) (by omega)] at e
        have : (0 : Int32).toInt = 0 := rfl
        omega), show x - y = 0 by omega]
      rfl
  unfold s_ms
  rw [e1, e2, e3, key _ _ (by omega) (by omega), key _ _ (by omega) (by omega), nI_add]
  congr 1
  rw [← e1, ← e2, ← e3]
theorem tqq_ok (hc : c_ok ct cd ns nt np nc) (hn : n_ok ct st ns nt) (hcap : cap ≤ 20) : tq_ok (tqq ct st ns cap home) := by
  have hns := hc.1.2.1
  have hml : ∀ s, s < ns → _ := fun s hs => tq_ml_le (dr := fun i j => ix (s_dr ct i j)) (s := s) (k := ns) (fun i hi => (dr_num hc hi hs).2)
  refine ⟨hns, hcap, fun i hi => ?_, fun i j hi hj => (dr_num hc hi hj).2, fun i j hi hj hij => ?_, fun i hi hu => if_neg hu, fun i hi => ?_⟩
  · obtain ⟨_, _, _, _, h1, h2⟩ := st_ix hc hn (show i < ns from hi)
    show 2 * ix (s_mk ct st i) ≤ ix (s_fr ct st i) + ix (st (6 + i)) ∧ ix (s_fr ct st i) ≤ 20 ∧ ix (st (6 + i)) ≤ 20
    omega
  · show (if _ then tq_ml (fun i j => ix (s_dr ct i j)) j ns else 0) ≤ ix (s_dr ct i j)
    split
    · exact ((hml j hj).2 i hi hij).2
    · exact Nat.zero_le _
  · show (if _ then tq_ml (fun i j => ix (s_dr ct i j)) i ns else 0) < 8000
    split
    · exact (hml i hi).1
    · omega
theorem k_lm {f : Int32 → zP β} (h0 : L0 M) (hcy : z_r M 6 6 = some c) (E : EN M F 41 c ct cd st ns nt np nc) (hs : s < ns) : (z_bd (p_X6_leastMinutesTo 6 (nI s)) f).1 (KI M F) = (f (nI (tq_ml (fun i j => ix (s_dr ct i j)) s ns))).1 (KI M F) := by
  have h8 := EN_ns E
  have hC := E.1.2.2.1
  have e10 := EN_s0 E
  have hc := E.2.1.2
  refine e_run ?_
  unfold p_X6_leastMinutesTo
  have hml : ∀ k, k ≤ ns → tq_ml (fun i j => ix (s_dr ct i j)) s k < 8000 := fun k hk => (tq_ml_le (fun i hi => (dr_num hc (show i < ns by omega) hs).2)).1
  refine lp_cnt (f := ((fun (t1 : Int32 × Int32) => (z_bd (z_gA 6 6 6) (fun v2 => (z_bd (z_gI 0 v2 10) (fun v3 => (if v3 ≤ t1.2 then (z_pu (.inr t1.1)) else (if t1.2 = (nI s) then (z_pu (.inl (t1.1, (t1.2 + 1)))) else (z_jn (τ := Unit) (if t1.1 = 0 then (z_pu (.inl ())) else (z_bd (z_gA 6 6 6) (fun v5 => (z_bd (z_cv 0 v5 (p_X0_truckMinutes v5 t1.2 (nI s))) (fun r6 => (if t1.1 ≤ r6 then (z_pu (.inr (.inl (t1.1, (t1.2 + 1))))) else (z_pu (.inl ())))))))) (fun t4 => (z_bd (z_gA 6 6 6) (fun v7 => (z_bd (z_cv 0 v7 (p_X0_truckMinutes v7 t1.2 (nI s))) (fun r8 => (z_pu (.inl (r8, (t1.2 + 1))))))))))))))))) : Int32 × Int32 → zP ((Int32 × Int32) ⊕ Int32))) ns (fun k => (nI (tq_ml (fun i j => ix (s_dr ct i j)) s k), nI k)) (fun _ => KI M F) _ _ (fun k hk => ?_) ?_
  · have nge : ¬ nI ns ≤ nI k := nI_ge hk (by omega)
    obtain ⟨d1, d2, d3⟩ := dr_num hc hk hs
    have hm1 := hml k (by omega)
    show _ = some (Sum.inr (Sum.inl (nI (if k = s then tq_ml (fun i j => ix (s_dr ct i j)) s k else if tq_ml (fun i j => ix (s_dr ct i j)) s k = 0 ∨ ix (s_dr ct k s) < tq_ml (fun i j => ix (s_dr ct i j)) s k then ix (s_dr ct k s) else tq_ml (fun i j => ix (s_dr ct i j)) s k), nI (k + 1))), KI M F)
    obtain ⟨w, ew⟩ : ∃ w, w = ix (s_dr ct k s) := ⟨_, rfl⟩
    rw [← ew] at d1 d2 d3
    rw [← ew]
    have hd := d1
    revert hm1
    generalize tq_ml (fun i j => ix (s_dr ct i j)) s k = u
    intro hm1
    by_cases g1 : k = s
    · subst g1
      simp (disch := first | assumption | omega | (apply LZ_R; assumption) | (apply LZ_T <;> first | assumption | omega) | (apply LC_F; assumption)) only [e_pu, e_ite, oL_add, oL_addr, oL_mul, nI_add, nI_1, b_pu, b_bd, b_ite, j_L, j_R, j_ite, j_bd, z_ex, ↓reduceIte, if_true, if_false, k0_g0_0, k0_g0_1, k0_g0_2, k0_g0_3, k0_g0_4, k0_g0_5, k0_g0_6, k0_g0_7, k0_g2_0, k0_g4_0, k0_g6_0, k0_g6_1, k0_g6_2, k0_g6_3, k0_g6_4, k0_g6_5, k0_gI0, k0_pI0, k0_cv0, k0_gI2, k0_pI2, k0_cv2, k0_gI4, k0_pI4, k0_cv4, k0_gI6, k0_pI6, k0_cv6, k6_city h0 hcy, kc_gI, e10, nge, eq_self]
    · have g1' : ¬ nI k = nI s := fun e => g1 (nq_inj (by omega) (by omega) e)
      rw [if_neg g1]
      by_cases g2 : u = 0
      · have g2' : nI u = 0 := by rw [g2]; rfl
        rw [if_pos (Or.inl g2)]
        simp (disch := first | assumption | omega | (apply LZ_R; assumption) | (apply LZ_T <;> first | assumption | omega) | (apply LC_F; assumption)) only [e_pu, e_ite, oL_add, oL_addr, oL_mul, nI_add, nI_1, b_pu, b_bd, b_ite, j_L, j_R, j_ite, j_bd, z_ex, ↓reduceIte, if_true, if_false, k0_g0_0, k0_g0_1, k0_g0_2, k0_g0_3, k0_g0_4, k0_g0_5, k0_g0_6, k0_g0_7, k0_g2_0, k0_g4_0, k0_g6_0, k0_g6_1, k0_g6_2, k0_g6_3, k0_g6_4, k0_g6_5, k0_gI0, k0_pI0, k0_cv0, k0_gI2, k0_pI2, k0_cv2, k0_gI4, k0_pI4, k0_cv4, k0_gI6, k0_pI6, k0_cv6, k6_city h0 hcy, kc_gI, e10, nge, g1', g2', kc_cv, kx_dr E, hd]
      · have g2' : ¬ nI u = 0 := nI_ne0 (by omega) (by omega)
        by_cases g3 : w < u
        · have g3' : ¬ nI u ≤ nI w := nI_ge g3 (by omega)
          rw [if_pos (Or.inr g3)]
          simp (disch := first | assumption | omega | (apply LZ_R; assumption) | (apply LZ_T <;> first | assumption | omega) | (apply LC_F; assumption)) only [e_pu, e_ite, oL_add, oL_addr, oL_mul, nI_add, nI_1, b_pu, b_bd, b_ite, j_L, j_R, j_ite, j_bd, z_ex, ↓reduceIte, if_true, if_false, k0_g0_0, k0_g0_1, k0_g0_2, k0_g0_3, k0_g0_4, k0_g0_5, k0_g0_6, k0_g0_7, k0_g2_0, k0_g4_0, k0_g6_0, k0_g6_1, k0_g6_2, k0_g6_3, k0_g6_4, k0_g6_5, k0_gI0, k0_pI0, k0_cv0, k0_gI2, k0_pI2, k0_cv2, k0_gI4, k0_pI4, k0_cv4, k0_gI6, k0_pI6, k0_cv6, k6_city h0 hcy, kc_gI, e10, nge, g1', g2', kc_cv, kx_dr E, hd, g3']
        · have g3' : nI u ≤ nI w := nI_le (by omega) (by omega)
          rw [if_neg (show ¬ (u = 0 ∨ w < u) by omega)]
          simp (disch := first | assumption | omega | (apply LZ_R; assumption) | (apply LZ_T <;> first | assumption | omega) | (apply LC_F; assumption)) only [e_pu, e_ite, oL_add, oL_addr, oL_mul, nI_add, nI_1, b_pu, b_bd, b_ite, j_L, j_R, j_ite, j_bd, z_ex, ↓reduceIte, if_true, if_false, k0_g0_0, k0_g0_1, k0_g0_2, k0_g0_3, k0_g0_4, k0_g0_5, k0_g0_6, k0_g0_7, k0_g2_0, k0_g4_0, k0_g6_0, k0_g6_1, k0_g6_2, k0_g6_3, k0_g6_4, k0_g6_5, k0_gI0, k0_pI0, k0_cv0, k0_gI2, k0_pI2, k0_cv2, k0_gI4, k0_pI4, k0_cv4, k0_gI6, k0_pI6, k0_cv6, k6_city h0 hcy, kc_gI, e10, nge, g1', g2', kc_cv, kx_dr E, hd, g3']
  · have nle : nI ns ≤ nI ns := nI_le (Nat.le_refl _) (by omega)
    simp (disch := first | assumption | omega | (apply LZ_R; assumption) | (apply LZ_T <;> first | assumption | omega) | (apply LC_F; assumption)) only [e_pu, e_ite, oL_add, oL_addr, oL_mul, nI_add, nI_1, b_pu, b_bd, b_ite, j_L, j_R, j_ite, j_bd, z_ex, ↓reduceIte, if_true, if_false, k0_g0_0, k0_g0_1, k0_g0_2, k0_g0_3, k0_g0_4, k0_g0_5, k0_g0_6, k0_g0_7, k0_g2_0, k0_g4_0, k0_g6_0, k0_g6_1, k0_g6_2, k0_g6_3, k0_g6_4, k0_g6_5, k0_gI0, k0_pI0, k0_cv0, k0_gI2, k0_pI2, k0_cv2, k0_gI4, k0_pI4, k0_cv4, k0_gI6, k0_pI6, k0_cv6, k6_city h0 hcy, kc_gI, e10, nle]
theorem tcp_rf : tcp F F := fun _ _ _ _ _ _ => rfl
theorem tcp_tr (h : tcp F F') (g : tcp F' F2) : tcp F F2 := fun y j h1 h2 h3 h4 => (g y j h1 h2 h3 h4).trans (h y j h1 h2 h3 h4)
theorem EN_tcp (E : EN M F 41 c ct cd st ns nt np nc) (hc : 15 ≤ c) (g : tcp F F') : EN M F' 41 c ct cd st ns nt np nc := by
  refine EN_gen E (fun k hk => ?_) ?_ (fun y h1 h2 => ?_)
  · rw [g (41 + 1) k (by omega) (by omega) (by omega) (by omega), g (41 + 2) k (by omega) (by omega) (by omega) (by omega)]
    exact E.2.2.1 k hk
  · rw [g 41 7 (by omega) (by omega) (by omega) (by omega)]
    exact E.2.2.2
  · exact funext (fun j => g y j (by omega) (by omega) (by omega) (by omega))
/-- a station's rows in the search -/
def tq_row (F : Nat → Nat → Int32) (q : TQ) (i : Nat) : Prop := F 9 i = nI (q.mk i) - nI (q.fr i) ∧ F 10 i = nI (q.bk i) - nI (q.mk i) ∧ F 11 i = nI (q.lw i)
theorem k_prep (h0 : L0 M) (hcy : z_r M 6 6 = some c) (hc15 : 15 ≤ c) (E : EN M F 41 c ct cd st ns nt np nc) (hn : n_ok ct st ns nt) (hU : U < 256) (h9 : F 6 9 = nI U) (hk : k < ns) (hr : ∀ i, i < k → tq_row F (tqq ct st ns cap home) i) :
    ∃ F', (p_X6_prepare 6 41 (nI k)).1 (KI M F) = some (.inr (), KI M F') ∧ tcp F F' ∧ (F' 6 9 = nI (if tq_un (tqq ct st ns cap home) k then U ||| 2 ^ k else U)) ∧ ∀ i, i < k + 1 → tq_row F' (tqq ct st ns cap home) i := by
  have h8 := EN_ns E
  have hL := E.1.1
  have hC := E.1.2.2.1
  have hc := E.2.1.2
  obtain ⟨e1, e2, e3, _, hb1, hb2⟩ := st_ix hc hn hk
  have ems := ms_num hc hn hk
  obtain ⟨B, eB⟩ : ∃ B, B = ix (st (6 + k)) := ⟨_, rfl⟩
  obtain ⟨Kk, eK⟩ : ∃ B, B = ix (s_mk ct st k) := ⟨_, rfl⟩
  obtain ⟨G, eG⟩ : ∃ B, B = ix (s_fr ct st k) := ⟨_, rfl⟩
  rw [← eB] at e1 hb1 hb2 ems
  rw [← eK] at e3 hb2 ems
  rw [← eG] at e2 hb1 hb2 ems
  have eb : F (41 + 1) k = nI (B) := ((E.2.2.1 k hk).1).trans e1
  have hk8 : k < 8 := by omega
  have E1 : EN M (z_up2 F 9 k (nI (Kk) - nI (G))) 41 c ct cd st ns nt np nc := EN_tcp E hc15 (fun y j h1 _ _ _ => u2_n _ _ (Or.inl h1))
  have E2 : EN M (z_up2 (z_up2 F 9 k (nI (Kk) - nI (G))) 10 k (nI (B) - nI (Kk))) 41 c ct cd st ns nt np nc := EN_tcp E1 hc15 (fun y j _ h1 _ _ => u2_n _ _ (Or.inl h1))
  have E3 : EN M (z_up2 (z_up2 (z_up2 F 9 k (nI (Kk) - nI (G))) 10 k (nI (B) - nI (Kk))) 11 k 0) 41 c ct cd st ns nt np nc := EN_tcp E2 hc15 (fun y j _ _ h1 _ => u2_n _ _ (Or.inl h1))
  have eb1 : (z_up2 F 9 k (nI (Kk) - nI (G))) (41 + 1) k = nI (B) := (u2_n _ _ (Or.inl (by omega))).trans eb
  have e31 : (1 : Int32) <<< (nI k &&& 31) = nI (2 ^ k) := one_shl (by omega)
  by_cases hu : tq_un (tqq ct st ns cap home) k
  · have hu' : B < Kk ∨ G < Kk := by rw [eB, eK, eG]; exact hu
    have hms : ¬ nI ((Kk - B) + (Kk - G)) ≤ 0 := nI_ge (a := 0) (by omega) (by omega)
    have E4 : EN M (z_up2 (z_up2 (z_up2 (z_up2 F 9 k (nI (Kk) - nI (G))) 10 k (nI (B) - nI (Kk))) 11 k 0) 6 9 (nI (U ||| 2 ^ k))) 41 c ct cd st ns nt np nc := EN_tcp E3 hc15 (fun y j _ _ _ h1 => u2_n _ _ (by omega))
    have f9 : (z_up2 (z_up2 (z_up2 F 9 k (nI (Kk) - nI (G))) 10 k (nI (B) - nI (Kk))) 11 k 0) 6 9 = nI U := by
      rw [u2_n _ _ (Or.inl (by omega)), u2_n _ _ (Or.inl (by omega)), u2_n _ _ (Or.inl (by omega))]
      exact h9
    refine ⟨z_up2 (z_up2 (z_up2 (z_up2 (z_up2 F 9 k (nI (Kk) - nI (G))) 10 k (nI (B) - nI (Kk))) 11 k 0) 6 9 (nI (U ||| 2 ^ k))) 11 k (nI (tq_ml (fun i j => ix (s_dr ct i j)) k ns)), ?_, ?_, ?_, ?_⟩
    · unfold p_X6_prepare
      simp (disch := first | assumption | omega | (apply LZ_R; assumption) | (apply LZ_T <;> first | assumption | omega) | (apply LC_F; assumption)) only [e_pu, e_ite, oL_add, oL_addr, oL_mul, nI_add, nI_1, b_pu, b_bd, b_ite, j_L, j_R, j_ite, j_bd, z_ex, ↓reduceIte, if_true, if_false, k0_g0_0, k0_g0_1, k0_g0_2, k0_g0_3, k0_g0_4, k0_g0_5, k0_g0_6, k0_g0_7, k0_g2_0, k0_g4_0, k0_g6_0, k0_g6_1, k0_g6_2, k0_g6_3, k0_g6_4, k0_g6_5, k0_gI0, k0_pI0, k0_cv0, k0_gI2, k0_pI2, k0_cv2, k0_gI4, k0_pI4, k0_cv4, k0_gI6, k0_pI6, k0_cv6, k6_a7, k6_s7, k6_a8, k6_s8, k6_a9, k6_s9, k6_a10, k6_s10, k6_a11, k6_s11, k6_a12, k6_s12, ks_cv, kx_mk E, kx_fr E, e3, e2, ks_g0, ks_a1, eb1, kx_ms E3, ems, hms, f9, nI_or, e31, k_lm h0 hcy E4 hk]
    · intro y j h1 h2 h3 h4
      rw [u2_n _ _ (Or.inl h3), u2_n _ _ (by omega), u2_n _ _ (Or.inl h3), u2_n _ _ (Or.inl h2), u2_n _ _ (Or.inl h1)]
    · rw [if_pos hu, u2_n _ _ (Or.inl (by omega)), u2_s]
    · intro i hi
      unfold tq_row
      rw [u2_row _ _ (show (9 : Nat) ≠ 11 by omega), u2_row _ _ (show (9 : Nat) ≠ 6 by omega), u2_row _ _ (show (9 : Nat) ≠ 11 by omega), u2_row _ _ (show (9 : Nat) ≠ 10 by omega), u2_row _ _ (show (10 : Nat) ≠ 11 by omega), u2_row _ _ (show (10 : Nat) ≠ 6 by omega), u2_row _ _ (show (10 : Nat) ≠ 11 by omega)]
      by_cases g : i = k
      · rw [g, u2_s, u2_s, u2_s]
        refine ⟨by rw [eK, eG]; rfl, by rw [eB, eK]; rfl, ?_⟩
        show _ = nI (if _ then _ else _)
        rw [if_pos (show ix (st (6 + k)) < ix (s_mk ct st k) ∨ ix (s_fr ct st k) < ix (s_mk ct st k) from hu)]
      · rw [u2_n _ _ (Or.inr g), u2_n _ _ (Or.inr g), u2_n _ _ (Or.inr g), u2_n _ _ (Or.inr g), u2_row _ _ (show (11 : Nat) ≠ 6 by omega), u2_n _ _ (Or.inr g), u2_n _ _ (Or.inr g), u2_n _ _ (Or.inr g)]
        exact hr i (by omega)
  · have hu' : ¬ (B < Kk ∨ G < Kk) := by rw [eB, eK, eG]; exact hu
    have hms : nI ((Kk - B) + (Kk - G)) ≤ 0 := nI_le (b := 0) (by omega) (by omega)
    refine ⟨z_up2 (z_up2 (z_up2 F 9 k (nI (Kk) - nI (G))) 10 k (nI (B) - nI (Kk))) 11 k 0, ?_, ?_, ?_, ?_⟩
    · unfold p_X6_prepare
      simp (disch := first | assumption | omega | (apply LZ_R; assumption) | (apply LZ_T <;> first | assumption | omega) | (apply LC_F; assumption)) only [e_pu, e_ite, oL_add, oL_addr, oL_mul, nI_add, nI_1, b_pu, b_bd, b_ite, j_L, j_R, j_ite, j_bd, z_ex, ↓reduceIte, if_true, if_false, k0_g0_0, k0_g0_1, k0_g0_2, k0_g0_3, k0_g0_4, k0_g0_5, k0_g0_6, k0_g0_7, k0_g2_0, k0_g4_0, k0_g6_0, k0_g6_1, k0_g6_2, k0_g6_3, k0_g6_4, k0_g6_5, k0_gI0, k0_pI0, k0_cv0, k0_gI2, k0_pI2, k0_cv2, k0_gI4, k0_pI4, k0_cv4, k0_gI6, k0_pI6, k0_cv6, k6_a7, k6_s7, k6_a8, k6_s8, k6_a9, k6_s9, k6_a10, k6_s10, k6_a11, k6_s11, k6_a12, k6_s12, ks_cv, kx_mk E, kx_fr E, e3, e2, ks_g0, ks_a1, eb1, kx_ms E3, ems, hms]
    · intro y j h1 h2 h3 h4
      rw [u2_n _ _ (Or.inl h3), u2_n _ _ (Or.inl h2), u2_n _ _ (Or.inl h1)]
    · rw [if_neg hu, u2_n _ _ (Or.inl (by omega)), u2_n _ _ (Or.inl (by omega)), u2_n _ _ (Or.inl (by omega))]
      exact h9
    · intro i hi
      unfold tq_row
      rw [u2_row _ _ (show (9 : Nat) ≠ 11 by omega), u2_row _ _ (show (9 : Nat) ≠ 10 by omega), u2_row _ _ (show (10 : Nat) ≠ 11 by omega)]
      by_cases g : i = k
      · rw [g, u2_s, u2_s, u2_s]
        refine ⟨by rw [eK, eG]; rfl, by rw [eB, eK]; rfl, ?_⟩
        show _ = nI (if _ then _ else _)
        rw [if_neg (show ¬ (ix (st (6 + k)) < ix (s_mk ct st k) ∨ ix (s_fr ct st k) < ix (s_mk ct st k)) from hu)]
        rfl
      · rw [u2_n _ _ (Or.inr g), u2_n _ _ (Or.inr g), u2_n _ _ (Or.inr g), u2_n _ _ (Or.inr g), u2_n _ _ (Or.inr g), u2_n _ _ (Or.inr g)]
        exact hr i (by omega)
end PA35
