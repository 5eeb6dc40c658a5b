/-! ===== PHASE 2: the model comes to a place of its search ===== -/
/-- rows of the search from depth d on, and the best tour -/
def tmd (d : Nat) (F F' : Nat → Nat → Int32) : Prop := ∀ y j, ¬ (y = 89 ∨ (90 ≤ y ∧ y ≤ 94 ∧ d ≤ j) ∨ (y = 88 ∧ d ≤ j) ∨ (y = 75 ∧ (j = 27 ∨ j = 28))) → F' y j = F y j
/-- the rows of depth d -/
def tqd (F : Nat → Nat → Int32) (d pl V m lo hi : Nat) : Prop := F 90 d = nI pl ∧ F 91 d = nI V ∧ F 92 d = nI m ∧ F 93 d = nI (tq_set lo hi)
noncomputable def mb_body (t : Nat) : Int32 → zP (Int32 ⊕ Unit) := (fun (t4 : Int32) => (if t4 < 0 then (z_pu (.inr ())) else (z_bd (z_gA 9 75 33) (fun v5 => (z_bd (z_aI 11 v5 t4) (fun v6 => (z_bd (z_gA 9 75 33) (fun v7 => (z_bd (z_aI 11 v7 t4) (fun v8 => (z_bd (z_sI 11 v7 t4 (v8 + 1)) (fun _ => (z_bd (z_gA 9 75 11) (fun v9 => (z_bd (z_aI 11 v9 0) (fun v10 => (if v6 < v10 then (z_bd (z_gA 9 75 30) (fun v11 => (z_bd (z_aI 11 v11 t4) (fun v12 => (if ((v12 >>> (v6 &&& 31)) &&& 1) = 1 then (z_pu (.inl t4)) else (z_bd (z_gA 9 75 25) (fun v13 => (z_bd (z_sI 11 v13 t4 v6) (fun _ => (z_jn (τ := Int32) (z_jn (τ := Unit) (if t4 = 0 then (z_bd (z_gA 9 75 29) (fun v16 => (z_bd (z_aI 11 v16 0) (fun v17 => (if v6 = v17 then (z_pu (.inr (.inl 0))) else (z_pu (.inl ()))))))) else (z_pu (.inl ()))) (fun t15 => (z_bd (z_gA 9 75 29) (fun v18 => (z_bd (z_aI 11 v18 t4) (fun v19 => (z_bd (z_cv 9 75 (p_X9_drive 75 v19 v6)) (fun r20 => (z_pu (.inl r20)))))))))) (fun t14 => (z_bd (z_gA 9 75 30) (fun v21 => (z_bd (z_aI 11 v21 t4) (fun v22 => (z_bd (z_gA 9 75 31) (fun v23 => (z_bd (z_aI 11 v23 t4) (fun v24 => (z_bd (z_gA 9 75 32) (fun v25 => (z_bd (z_aI 11 v25 t4) (fun v26 => (z_bd (z_gA 9 75 11) (fun v27 => (z_bd (z_aI 11 v27 (45 + (nI t))) (fun v28 => (z_bd (z_cv 9 75 (p_X9_loadsBehind 75 v26 v6 v28)) (fun r29 => (z_bd (z_cv 9 75 (p_X9_comeTo 75 (t4 + 1) v6 (v22 ||| (1 <<< (v6 &&& 31))) (v24 + t14) r29)) (fun _ => (z_pu (.inl ((t4 + 1))))))))))))))))))))))))))))))))))) else (z_pu (.inl ((t4 + (-1))))))))))))))))))))))
section PA38
variable {β : Type} {M : zM} {F F' F2 : Nat → Nat → Int32} {ct cd st : Nat → Int32} {d i j k n m lo hi pl s V ns nt np nc cap home t : Nat} {q : TQ} {P : List Nat} {b : TBt} {x y r : Int32}
theorem tmd_rf : tmd d F F := fun _ _ _ => rfl
theorem tmd_tr (h : tmd d F F') (g : tmd d F' F2) : tmd d F F2 := fun y j hn => (g y j hn).trans (h y j hn)
theorem tmd_dn (h : tmd (d + 1) F F') : tmd d F F' := fun y j hn => h y j (by omega)
theorem tmd_u {y' j' : Nat} (h : y' = 89 ∨ (90 ≤ y' ∧ y' ≤ 94 ∧ d ≤ j') ∨ (y' = 88 ∧ d ≤ j') ∨ (y' = 75 ∧ (j' = 27 ∨ j' = 28))) : tmd d F (z_up2 F y' j' x) := fun y j hn => u2_n _ _ (by omega)
/-- the rows that comeTo writes at once -/
def f_ct (F : Nat → Nat → Int32) (d pl V m : Nat) (r : Int32) : Nat → Nat → Int32 := z_up2 (z_up2 (z_up2 (z_up2 (z_up2 F 90 d (nI pl)) 91 d (nI V)) 92 d (nI m)) 93 d r) 94 d 8
theorem f_ct_md : tmd d F (f_ct F d pl V m r) := by
  intro y j hn
  unfold f_ct
  rw [u2_n _ _ (by omega), u2_n _ _ (by omega), u2_n _ _ (by omega), u2_n _ _ (by omega), u2_n _ _ (by omega)]
theorem f_ct_0 : f_ct F d pl V m r 90 d = nI pl ∧ f_ct F d pl V m r 91 d = nI V ∧ f_ct F d pl V m r 92 d = nI m ∧ f_ct F d pl V m r 93 d = r ∧ f_ct F d pl V m r 94 d = 8 := by
  unfold f_ct
  refine ⟨?_, ?_, ?_, ?_, u2_s _ _ _ _⟩
  · rw [u2_n _ _ (Or.inl (by omega)), u2_n _ _ (Or.inl (by omega)), u2_n _ _ (Or.inl (by omega)), u2_n _ _ (Or.inl (by omega)), u2_s]
  · rw [u2_n _ _ (Or.inl (by omega)), u2_n _ _ (Or.inl (by omega)), u2_n _ _ (Or.inl (by omega)), u2_s]
  · rw [u2_n _ _ (Or.inl (by omega)), u2_n _ _ (Or.inl (by omega)), u2_s]
  · rw [u2_n _ _ (Or.inl (by omega)), u2_s]
theorem f_ct_75 : f_ct F d pl V m r 75 = F 75 ∧ f_ct F d pl V m r 78 = F 78 ∧ f_ct F d pl V m r 83 = F 83 ∧ f_ct F d pl V m r 88 = F 88 ∧ f_ct F d pl V m r 89 = F 89 := by
  unfold f_ct
  refine ⟨?_, ?_, ?_, ?_, ?_⟩ <;> rw [u2_row _ _ (by omega), u2_row _ _ (by omega), u2_row _ _ (by omega), u2_row _ _ (by omega), u2_row _ _ (by omega)]
/-- no load is left -/
theorem m_ct0 {f : Unit → zP β} (h : L9 M) (hd : d < 9) : (z_bd (p_X9_comeTo 75 (nI d) (nI pl) (nI V) (nI m) 0) f).1 (KI M F) = (f ()).1 (KI M (f_ct F d pl V m 0)) := by
  unfold p_X9_comeTo f_ct
  simp (disch := first | assumption | omega) only [e_pu, e_ite, oL_add, oL_addr, oL_mul, nI_add, nI_1, b_pu, b_bd, b_ite, j_L, j_R, j_ite, j_bd, z_ex, ↓reduceIte, if_true, if_false, kn_gI, kn_pI, kn_cv, kn_g76, kn_a76, kn_s76, kn_g77, kn_a77, kn_s77, kn_g78, kn_a78, kn_s78, kn_g79, kn_a79, kn_s79, kn_g80, kn_a80, kn_s80, kn_g81, kn_a81, kn_s81, kn_g82, kn_a82, kn_s82, kn_g83, kn_a83, kn_s83, kn_g84, kn_a84, kn_s84, kn_g85, kn_a85, kn_s85, kn_g86, kn_g87, kn_a87, kn_s87, kn_g88, kn_a88, kn_s88, kn_g89, kn_a89, kn_s89, kn_g90, kn_a90, kn_s90, kn_g91, kn_a91, kn_s91, kn_g92, kn_a92, kn_s92, kn_g93, kn_a93, kn_s93, kn_g94, kn_a94, kn_s94, kn_l77_0, kn_t77_0, kn_l77_1, kn_t77_1, kn_l77_2, kn_t77_2, kn_l77_3, kn_t77_3, kn_l77_4, kn_t77_4, kn_l77_5, kn_t77_5, kn_l77_6, kn_t77_6, kn_l77_7, kn_t77_7, kn_l77_8, kn_t77_8, kn_l78_0, kn_t78_0, kn_l78_1, kn_t78_1, kn_l78_2, kn_t78_2, kn_l78_3, kn_t78_3, kn_l78_4, kn_t78_4, kn_l78_5, kn_t78_5, kn_l78_6, kn_t78_6, kn_l78_7, kn_t78_7, kn_l78_8, kn_t78_8, kn_l79_0, kn_t79_0, kn_l82_0, kn_t82_0, kn_l83_0, kn_t83_0, kn_l83_1, kn_t83_1, kn_l83_2, kn_t83_2, kn_l83_3, kn_t83_3, kn_l83_4, kn_t83_4, kn_l83_5, kn_t83_5, kn_l83_204, kn_t83_204, kn_wk, kn_fr, kn_mk, kn_ev, kn_bn, kn_ds, kn_rd, kn_dr, kn_of, kn_of0, kn_of1, kn_of2, kn_of3, kn_of4, kn_of5, kn_of6, kn_near, kn_loads, kn_all, kn_fare, kn_fail, kn_told, g9_wi, g9_at]
/-- a place with loads: settled (nothing to try), or open -/
theorem m_ct {f : Unit → zP β} (h : L9 M) (e78 : F 78 = ct) (e83 : F 83 = st) (hc : c_ok ct cd ns nt np nc) (hn : n_ok ct st ns nt) (hr : ¬ r = 0) (hV : V < 2 ^ 8) (hd : P.length ≤ 8) (hm : m < 100000) (hB : TB (F 75 27) (F 75 28) (F 89) b) (hP : PT F 88 P) :
    ∃ F', (z_bd (p_X9_comeTo 75 (nI P.length) (nI pl) (nI V) (nI m) r) f).1 (KI M F) = (f ()).1 (KI M F') ∧ tmd P.length F F' ∧ (F' 90 P.length = nI pl ∧ F' 91 P.length = nI V ∧ F' 92 P.length = nI m ∧ F' 93 P.length = r) ∧ F' 88 = F 88
      ∧ ((tq_wo b m P.length ∧ F' 94 P.length = 8 ∧ TB (F' 75 27) (F' 75 28) (F' 89) b) ∨ (¬ tq_wo b m P.length ∧ tq_evn (tqq ct st ns cap home) V ∧ F' 94 P.length = 8 ∧ TB (F' 75 27) (F' 75 28) (F' 89) (some (m, P))) ∨ (¬ tq_wo b m P.length ∧ ¬ tq_evn (tqq ct st ns cap home) V ∧ F' 94 P.length = 0 ∧ TB (F' 75 27) (F' 75 28) (F' 89) b)) := by
  obtain ⟨d, ed⟩ : ∃ d, d = P.length := ⟨_, rfl⟩
  rw [← ed] at hd ⊢
  have hd9 : d < 9 := by omega
  obtain ⟨c1, c2, c3, c4, c5⟩ := f_ct_75 (F := F) (d := d) (pl := pl) (V := V) (m := m) (r := r)
  obtain ⟨a1, a2, a3, a4, a5⟩ := f_ct_0 (F := F) (d := d) (pl := pl) (V := V) (m := m) (r := r)
  obtain ⟨F1, eF1⟩ : ∃ F1, F1 = f_ct F d pl V m r := ⟨_, rfl⟩
  have hmd : tmd d F F1 := by rw [eF1]; exact f_ct_md
  rw [← eF1] at c1 c2 c3 c4 c5 a1 a2 a3 a4 a5
  have hB1 : TB (F1 75 27) (F1 75 28) (F1 89) b := by rw [c1, c5]; exact hB
  have hP1 : PT F1 88 P := fun j z hz => by rw [c4]; exact hP j z hz
  have hae : ∀ {γ : Type} (g : Int32 → zP γ), (z_bd (p_X9_isAllEven 75 (nI V)) g).1 (KI M F1) = (g (if tq_evn (tqq ct st ns cap home) V then 1 else 0)).1 (KI M F1) := fun g => m_ae h (c2.trans e78) (c3.trans e83) hc hn hV
  have start : (z_bd (p_X9_comeTo 75 (nI d) (nI pl) (nI V) (nI m) r) f).1 (KI M F) = (z_bd ((z_bd (z_gI 9 75 27) (fun v6 => (z_jn (τ := Unit) (if v6 < 0 then (z_pu (.inl ())) else (z_bd (z_gI 9 75 27) (fun v8 => (if v8 < (nI m) then (z_pu (.inr ())) else (z_bd (z_gI 9 75 27) (fun v9 => (if (nI m) = v9 then (z_bd (z_gI 9 75 28) (fun v10 => (if (nI d) < v10 then (z_pu (.inl ())) else (z_pu (.inr ()))))) else (z_pu (.inl ()))))))))) (fun t7 => (z_bd (z_cv 9 75 (p_X9_isAllEven 75 (nI V))) (fun r11 => (if r11 = 0 then (z_bd (z_gA 9 75 33) (fun v16 => (z_bd (z_sI 11 v16 (nI d) 0) (fun _ => (z_pu ()))))) else (z_bd (z_pI 9 75 27 (nI m)) (fun _ => (z_bd (z_pI 9 75 28 (nI d)) (fun _ => (z_lp (fun (t12 : Int32) => (if (nI d) ≤ t12 then (z_pu (.inr ())) else (z_bd (z_gA 9 75 26) (fun v13 => (z_bd (z_gA 9 75 25) (fun v14 => (z_bd (z_aI 11 v14 t12) (fun v15 => (z_bd (z_sI 11 v13 t12 v15) (fun _ => (z_pu (.inl ((t12 + 1)))))))))))))) 0))))))))))))) f).1 (KI M F1) := by
    rw [eF1]
    unfold p_X9_comeTo f_ct
    simp (disch := first | assumption | omega) only [b_bd, kn_g90, kn_s90, kn_g91, kn_s91, kn_g92, kn_s92, kn_g93, kn_s93, kn_g94, kn_s94, if_neg hr]
  have tail : ¬ tq_wo b m d → (z_bd ((z_bd (z_cv 9 75 (p_X9_isAllEven 75 (nI V))) (fun r11 => (if r11 = 0 then (z_bd (z_gA 9 75 33) (fun v16 => (z_bd (z_sI 11 v16 (nI d) 0) (fun _ => (z_pu ()))))) else (z_bd (z_pI 9 75 27 (nI m)) (fun _ => (z_bd (z_pI 9 75 28 (nI d)) (fun _ => (z_lp (fun (t12 : Int32) => (if (nI d) ≤ t12 then (z_pu (.inr ())) else (z_bd (z_gA 9 75 26) (fun v13 => (z_bd (z_gA 9 75 25) (fun v14 => (z_bd (z_aI 11 v14 t12) (fun v15 => (z_bd (z_sI 11 v13 t12 v15) (fun _ => (z_pu (.inl ((t12 + 1)))))))))))))) 0))))))))) f).1 (KI M F1) = (f ()).1 (KI M (if tq_evn (tqq ct st ns cap home) V then z_up1 (z_up2 (z_up2 F1 75 27 (nI m)) 75 28 (nI d)) 89 (va_cpy (F1 88) (F1 89) 0 0 d) else z_up2 F1 94 d 0)) := fun _ => by
    rw [b_bd, kn_cv h, hae]
    by_cases hev : tq_evn (tqq ct st ns cap home) V
    · rw [if_pos hev, if_pos hev, if_neg (show ¬ (1 : Int32) = 0 by decide), b_bd, kn_pI h, b_bd, kn_pI h]
      refine e_run ?_
      have e88 : z_up2 (z_up2 F1 75 27 (nI m)) 75 28 (nI d) 88 = F1 88 := by rw [u2_row _ _ (by omega), u2_row _ _ (by omega)]
      have e89 : z_up2 (z_up2 F1 75 27 (nI m)) 75 28 (nI d) 89 = F1 89 := by rw [u2_row _ _ (by omega), u2_row _ _ (by omega)]
      rw [← e88, ← e89]
      refine cp_loop (f := ((fun (t12 : Int32) => (if (nI d) ≤ t12 then (z_pu (.inr ())) else (z_bd (z_gA 9 75 26) (fun v13 => (z_bd (z_gA 9 75 25) (fun v14 => (z_bd (z_aI 11 v14 t12) (fun v15 => (z_bd (z_sI 11 v13 t12 v15) (fun _ => (z_pu (.inl ((t12 + 1)))))))))))))) : Int32 → zP (Int32 ⊕ Unit))) d 0 0 88 89 (by omega) (fun t g ht => ?_) (fun g => ?_)
      · have h3 : ¬ nI d ≤ nI t := nI_ge ht (by omega)
        have ht8 : t < 8 := by omega
        simp (disch := first | assumption | omega) only [e_pu, e_ite, oL_add, oL_addr, oL_mul, nI_add, nI_1, b_pu, b_bd, b_ite, j_L, j_R, j_ite, j_bd, z_ex, ↓reduceIte, if_true, if_false, kn_g89, kn_g88, kn_a88, kn_s89, h3, u1_n]
        rw [Nat.zero_add]
      · have h3 : nI d ≤ nI d := nI_le (Nat.le_refl _) (by omega)
        simp (disch := first | assumption | omega) only [e_pu, e_ite, oL_add, oL_addr, oL_mul, nI_add, nI_1, b_pu, b_bd, b_ite, j_L, j_R, j_ite, j_bd, z_ex, ↓reduceIte, if_true, if_false, h3]
    · rw [if_neg hev, if_neg hev, if_pos rfl, b_bd, kn_g94 h, b_bd, kn_s94 h hd9]
      rfl
  have fin : ¬ tq_wo b m d → ∃ F', (z_bd ((z_bd (z_cv 9 75 (p_X9_isAllEven 75 (nI V))) (fun r11 => (if r11 = 0 then (z_bd (z_gA 9 75 33) (fun v16 => (z_bd (z_sI 11 v16 (nI d) 0) (fun _ => (z_pu ()))))) else (z_bd (z_pI 9 75 27 (nI m)) (fun _ => (z_bd (z_pI 9 75 28 (nI d)) (fun _ => (z_lp (fun (t12 : Int32) => (if (nI d) ≤ t12 then (z_pu (.inr ())) else (z_bd (z_gA 9 75 26) (fun v13 => (z_bd (z_gA 9 75 25) (fun v14 => (z_bd (z_aI 11 v14 t12) (fun v15 => (z_bd (z_sI 11 v13 t12 v15) (fun _ => (z_pu (.inl ((t12 + 1)))))))))))))) 0))))))))) f).1 (KI M F1) = (f ()).1 (KI M F') ∧ tmd d F F' ∧ (F' 90 d = nI pl ∧ F' 91 d = nI V ∧ F' 92 d = nI m ∧ F' 93 d = r) ∧ F' 88 = F 88
      ∧ ((tq_wo b m d ∧ F' 94 d = 8 ∧ TB (F' 75 27) (F' 75 28) (F' 89) b) ∨ (¬ tq_wo b m d ∧ tq_evn (tqq ct st ns cap home) V ∧ F' 94 d = 8 ∧ TB (F' 75 27) (F' 75 28) (F' 89) (some (m, P))) ∨ (¬ tq_wo b m d ∧ ¬ tq_evn (tqq ct st ns cap home) V ∧ F' 94 d = 0 ∧ TB (F' 75 27) (F' 75 28) (F' 89) b)) := fun hw => by
    refine ⟨_, tail hw, ?_⟩
    by_cases hev : tq_evn (tqq ct st ns cap home) V
    · rw [if_pos hev]
      have row : ∀ y, y ≠ 75 → y ≠ 89 → z_up1 (z_up2 (z_up2 F1 75 27 (nI m)) 75 28 (nI d)) 89 (va_cpy (F1 88) (F1 89) 0 0 d) y = F1 y := fun y h1 h2 => by rw [u1_n _ _ h2, u2_row _ _ h1, u2_row _ _ h1]
      refine ⟨fun y j hn => ?_, ?_, ?_, Or.inr (Or.inl ⟨hw, hev, ?_, ?_⟩)⟩
      · rw [u1_n _ _ (by omega), u2_n _ _ (by omega), u2_n _ _ (by omega)]
        exact hmd y j hn
      · rw [row 90 (by omega) (by omega), row 91 (by omega) (by omega), row 92 (by omega) (by omega), row 93 (by omega) (by omega)]
        exact ⟨a1, a2, a3, a4⟩
      · rw [row 88 (by omega) (by omega)]
        exact c4
      · rw [row 94 (by omega) (by omega)]
        exact a5
      · refine ⟨⟨hm, by show P.length ≤ 8; omega⟩, ?_, ?_, fun j z hz => ?_⟩
        · rw [u1_n _ _ (by omega), u2_n _ _ (by omega), u2_s]
        · rw [u1_n _ _ (by omega), u2_s, ed]
        · have hz' : P[j]? = some z := hz
          have g : j < P.length := by
            rw [List.getElem?_eq_some_iff] at hz'
            exact hz'.1
          rw [u1_s, pk_cpy_in (by omega) (by omega), show 0 + (j - 0) = j by omega]
          exact hP1 j z hz'
    · rw [if_neg hev]
      refine ⟨tmd_tr hmd (tmd_u (by omega)), ?_, ?_, Or.inr (Or.inr ⟨hw, hev, u2_s _ _ _ _, ?_⟩)⟩
      · rw [u2_n _ _ (Or.inl (by omega)), u2_n _ _ (Or.inl (by omega)), u2_n _ _ (Or.inl (by omega)), u2_n _ _ (Or.inl (by omega))]
        exact ⟨a1, a2, a3, a4⟩
      · rw [u2_row _ _ (by omega)]
        exact c4
      · rw [u2_row _ _ (by omega), u2_row _ _ (by omega)]
        exact hB1
  rw [start]
  cases b with
  | none =>
    have e27 : F1 75 27 = -1 := hB1.1
    have hneg : (-1 : Int32) < 0 := by decide
    obtain ⟨F', k1, k2⟩ := fin (ed ▸ tq_wo_n)
    refine ⟨F', Eq.trans ?_ k1, k2⟩
    rw [b_bd, kn_gI h, e27, if_pos hneg]
    rfl
  | some p =>
    obtain ⟨⟨b1, b2⟩, b3, b4, b5⟩ := id hB1
    have hnn : ¬ nI p.1 < 0 := nI_pos (by omega)
    by_cases g1 : p.1 < m
    · refine ⟨F1, ?_, hmd, ⟨a1, a2, a3, a4⟩, c4, Or.inl ⟨tq_wo_s.mpr (Or.inl g1), a5, hB1⟩⟩
      rw [b_bd, kn_gI h, b3, if_neg hnn, j_bd, b_bd, kn_gI h, b3, if_pos (nI_lt g1 (by omega))]
      rfl
    · by_cases g2 : m = p.1
      · by_cases g3 : p.2.length ≤ d
        · refine ⟨F1, ?_, hmd, ⟨a1, a2, a3, a4⟩, c4, Or.inl ⟨tq_wo_s.mpr (Or.inr ⟨g2, g3⟩), a5, hB1⟩⟩
          rw [b_bd, kn_gI h, b3, if_neg hnn, j_bd, b_bd, kn_gI h, b3, if_neg (nI_nlt (by omega) (by omega)), j_bd, b_bd, kn_gI h, b3, if_pos (show nI m = nI p.1 by rw [g2]), j_bd, b_bd, kn_gI h, b4, if_neg (nI_nlt g3 (by omega))]
          rfl
        · have hw : ¬ tq_wo (some p) m d := fun e => by
            have := tq_wo_s.mp e
            omega
          obtain ⟨F', k1, k2⟩ := fin hw
          refine ⟨F', Eq.trans ?_ k1, k2⟩
          rw [b_bd, kn_gI h, b3, if_neg hnn, j_bd, b_bd, kn_gI h, b3, if_neg (nI_nlt (by omega) (by omega)), j_bd, b_bd, kn_gI h, b3, if_pos (show nI m = nI p.1 by rw [g2]), j_bd, b_bd, kn_gI h, b4, if_pos (nI_lt (by omega) (by omega))]
          rfl
      · have hw : ¬ tq_wo (some p) m d := fun e => by
          have := tq_wo_s.mp e
          omega
        obtain ⟨F', k1, k2⟩ := fin hw
        refine ⟨F', Eq.trans ?_ k1, k2⟩
        rw [b_bd, kn_gI h, b3, if_neg hnn, j_bd, b_bd, kn_gI h, b3, if_neg (nI_nlt (by omega) (by omega)), j_bd, b_bd, kn_gI h, b3, if_neg (fun e => g2 (nq_inj (by omega) (by omega) e))]
        rfl
end PA38
