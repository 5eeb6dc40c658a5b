/-! ===== PHASE 2: the model's search, its parts ===== -/
def tq_set (lo hi : Nat) : Nat := 2 ^ (hi + 1) - 2 ^ lo
def tq_ac (w bk mk : Nat) : Nat → Int32
  | 0 => 0
  | k + 1 => tq_ac w bk mk k ||| (if bk < mk + k then nI w >>> (nI (mk + k - bk) &&& 31) else nI w <<< (nI (bk - (mk + k)) &&& 31))
section PA37
variable {β : Type} {M : zM} {F F' F2 : Nat → Nat → Int32} {ct cd st : Nat → Int32} {c i j k n m lo hi pl s V ns nt np nc cap home bk mk w : Nat} {q : TQ} {P : List Nat} {b : TBt} {x y : Int32}
theorem li_lt (h : hi ≤ 20) : tq_set lo hi < 2 ^ 31 := by
  unfold tq_set
  exact Nat.lt_of_le_of_lt (Nat.sub_le _ _) (Nat.pow_lt_pow_right (by decide) (by omega))
theorem li_bt (h : lo ≤ hi) (hl : k < 32) : bt (nI (tq_set lo hi)) k = (decide (lo ≤ k) && decide (k ≤ hi)) := by
  rw [bt_nI _ hl]
  exact li_bit h
theorem ac_bit (h : lo ≤ hi) (hh : hi ≤ 20) (hb : bk ≤ 20) : ∀ k, mk + k ≤ 21 → ∀ l, l < 32 → (bt (tq_ac (tq_set lo hi) bk mk k) l = true ↔ ∃ s, s < k ∧ lo + bk ≤ l + (mk + s) ∧ l + (mk + s) ≤ hi + bk) := by
  intro k
  induction k with
  | zero =>
    intro _ l _
    show bt 0 l = true ↔ _
    rw [bt_0]
    constructor
    · intro h; cases h
    · intro ⟨s, hs, _⟩; omega
  | succ k ih =>
    intro hk l hl
    show bt (tq_ac (tq_set lo hi) bk mk k ||| (if bk < mk + k then nI (tq_set lo hi) >>> (nI (mk + k - bk) &&& 31) else nI (tq_set lo hi) <<< (nI (bk - (mk + k)) &&& 31))) l = true ↔ _
    have hone : bt (if bk < mk + k then nI (tq_set lo hi) >>> (nI (mk + k - bk) &&& 31) else nI (tq_set lo hi) <<< (nI (bk - (mk + k)) &&& 31)) l = true ↔ lo + bk ≤ l + (mk + k) ∧ l + (mk + k) ≤ hi + bk := by
      split
      · rw [bt_shr (li_lt hh) (by omega) hl]
        unfold tq_set
        rw [li_bit h]
        simp only [Bool.and_eq_true, decide_eq_true_eq]
        omega
      · rw [bt_shl _ (by omega) hl]
        by_cases g : bk - (mk + k) ≤ l
        · rw [li_bt h (by omega)]
          simp only [Bool.and_eq_true, decide_eq_true_eq]
          omega
        · simp only [g, decide_false, Bool.false_and]
          constructor
          · intro h; cases h
          · intro h; omega
    rw [bt_or, Bool.or_eq_true, ih (by omega) l hl, hone]
    constructor
    · rintro (⟨s, h1, h2⟩ | h2)
      · exact ⟨s, by omega, h2⟩
      · exact ⟨k, by omega, h2⟩
    · rintro ⟨s, h1, h2⟩
      by_cases e : s = k
      · subst e; exact Or.inr h2
      · exact Or.inl ⟨s, by omega, h2⟩
theorem mask_bt (hc : cap ≤ 20) {l : Nat} (hl : l < 32) : bt ((1 : Int32) <<< (nI (cap + 1) &&& 31) - 1) l = decide (l ≤ cap) := by
  have e : (1 : Int32) <<< (nI (cap + 1) &&& 31) - 1 = nI (2 ^ (cap + 1) - 1) := by
    rw [one_shl (by omega), show (1 : Int32) = nI 1 from rfl, nI_sub]
    exact Nat.one_le_two_pow
  rw [e, bt_nI _ hl, Nat.testBit_two_pow_sub_one]
  apply decide_eq_decide.mpr
  omega
/-- the loads behind a stop -/
theorem ac_end (hq : tq_ok q) (h20 : q.bk i + q.fr i ≤ 20) (hi' : i < q.ns) (h : lo ≤ hi) (hh : hi ≤ q.cap) : (tq_ac (tq_set lo hi) (q.bk i) (q.mk i) (q.bk i + q.fr i - q.mk i + 1 - q.mk i)) &&& ((1 : Int32) <<< (nI (q.cap + 1) &&& 31) - 1) = if tq_em q lo hi i then 0 else nI (tq_set (tq_lo q lo i) (tq_hi q hi i)) := by
  have hc := hq.2.1
  obtain ⟨g1, g2, g3⟩ := hq.2.2.1 i hi'
  have hb := ac_bit (bk := q.bk i) (mk := q.mk i) h (by omega) g3 (q.bk i + q.fr i - q.mk i + 1 - q.mk i) (by omega)
  apply bt_ext
  intro l hl
  have key : bt ((tq_ac (tq_set lo hi) (q.bk i) (q.mk i) (q.bk i + q.fr i - q.mk i + 1 - q.mk i)) &&& ((1 : Int32) <<< (nI (q.cap + 1) &&& 31) - 1)) l = true ↔ (lo + q.mk i ≤ l + q.fr i ∧ l + q.mk i ≤ hi + q.bk i ∧ l ≤ q.cap) := by
    rw [bt_and, mask_bt hc hl, Bool.and_eq_true, hb l hl, decide_eq_true_eq]
    constructor
    · rintro ⟨⟨s, h1, h2, h3⟩, h4⟩
      omega
    · rintro ⟨h1, h2, h3⟩
      refine ⟨?_, h3⟩
      by_cases e : lo + q.bk i ≤ l + q.mk i
      · exact ⟨0, by omega, by omega, by omega⟩
      · exact ⟨lo + q.bk i - l - q.mk i, by omega, by omega, by omega⟩
  by_cases hem : tq_em q lo hi i
  · rw [if_pos hem, bt_0]
    cases e : bt ((tq_ac (tq_set lo hi) (q.bk i) (q.mk i) (q.bk i + q.fr i - q.mk i + 1 - q.mk i)) &&& ((1 : Int32) <<< (nI (q.cap + 1) &&& 31) - 1)) l with
    | false => rfl
    | true =>
      exfalso
      obtain ⟨h1, h2, h3⟩ := key.mp e
      unfold tq_em tq_hi tq_lo at hem
      split at hem <;> omega
  · rw [if_neg hem]
    obtain ⟨li1, li2⟩ := tq_li h hem
    rw [li_bt li1 hl]
    apply Bool.eq_iff_iff.mpr
    rw [key]
    simp only [Bool.and_eq_true, decide_eq_true_eq]
    unfold tq_em tq_hi tq_lo at hem
    unfold tq_hi tq_lo
    split at hem
    · next g => rw [if_pos g]; omega
    · next g => rw [if_neg g]; omega
theorem m_lb {f : Int32 → zP β} (h : L9 M) (e78 : F 78 = ct) (e83 : F 83 = st) (hc : c_ok ct cd ns nt np nc) (hn : n_ok ct st ns nt) (hcap : cap ≤ 20) (hi' : i < ns) (hl : lo ≤ hi) (hh : hi ≤ cap) : (z_bd (p_X9_loadsBehind 75 (nI (tq_set lo hi)) (nI i) (nI cap)) f).1 (KI M F) = (f (if tq_em (tqq ct st ns cap home) lo hi i then 0 else nI (tq_set (tq_lo (tqq ct st ns cap home) lo i) (tq_hi (tqq ct st ns cap home) hi i)))).1 (KI M F) := by
  have hns := hc.1.2.1
  have hq := tqq_ok (home := home) hc hn hcap
  obtain ⟨e1, e2, e3, e4, b1, b2⟩ := st_ix hc hn hi'
  refine e_run ?_
  unfold p_X9_loadsBehind
  have hae := ac_end (q := tqq ct st ns cap home) (i := i) (lo := lo) (hi := hi) hq b1 hi' hl hh
  have hae' : tq_ac (tq_set lo hi) (ix (st (6 + i))) (ix (s_mk ct st i)) (ix (st (6 + i)) + ix (s_fr ct st i) - ix (s_mk ct st i) + 1 - ix (s_mk ct st i)) &&& ((1 : Int32) <<< (nI (cap + 1) &&& 31) - 1) = if tq_em (tqq ct st ns cap home) lo hi i then 0 else nI (tq_set (tq_lo (tqq ct st ns cap home) lo i) (tq_hi (tqq ct st ns cap home) hi i)) := hae
  rw [← hae']
  obtain ⟨B, eB⟩ : ∃ B, B = ix (st (6 + i)) := ⟨_, rfl⟩
  obtain ⟨Kk, eK⟩ : ∃ B, B = ix (s_mk ct st i) := ⟨_, rfl⟩
  obtain ⟨G, eG⟩ : ∃ B, B = ix (s_fr ct st i) := ⟨_, rfl⟩
  rw [← eB, ← eK, ← eG]
  rw [← eB] at e1 e4 b1 b2
  rw [← eK] at e3 b2
  rw [← eG] at e4 b1 b2
  have hwk : s_wk ct st i - s_mk ct st i = nI (B + G - Kk) := by rw [e4, e3, nI_sub (by omega)]
  rw [kn_cv h, kn_mk h (show i < 8 by omega), e78, e83, e3]
  refine (e_jL (t := tq_ac (tq_set lo hi) B Kk (B + G - Kk + 1 - Kk)) (M1 := KI M F) ?_).trans ?_
  · refine lp_cnt (f := ((fun (t3 : Int32 × Int32) => (z_bd (z_cv 9 75 (p_X9_working 75 (nI i))) (fun r4 => (z_bd (z_cv 9 75 (p_X9_mark 75 (nI i))) (fun r5 => (if (r4 - r5) < t3.2 then (z_pu (.inr (.inl t3.1))) else (z_bd (z_gA 9 75 19) (fun v6 => (z_bd (z_aI 11 v6 (6 + (nI i))) (fun v7 => (z_bd (z_pu ((v7 - t3.2))) (fun x8 => (z_jn (τ := Int32) (if x8 < 0 then (z_pu (.inl (((nI (tq_set lo hi)) >>> ((-x8) &&& 31))))) else (z_pu (.inl (((nI (tq_set lo hi)) <<< (x8 &&& 31)))))) (fun t9 => (z_bd (z_pu ((t3.1 ||| t9))) (fun x10 => (z_pu (.inl (x10, (t3.2 + 1)))))))))))))))))))) : Int32 × Int32 → zP ((Int32 × Int32) ⊕ (Int32 ⊕ Int32)))) (B + G - Kk + 1 - Kk) (fun k => (tq_ac (tq_set lo hi) B Kk k, nI (Kk + k))) (fun _ => KI M F) _ _ (fun k hk => ?_) ?_
    · have g1 : ¬ nI (B + G - Kk) < nI (Kk + k) := nI_nlt (by omega) (by omega)
      have h6 : 6 + i < 3277 := by omega
      show _ = some (Sum.inr (Sum.inl (tq_ac (tq_set lo hi) B Kk k ||| (if B < Kk + k then nI (tq_set lo hi) >>> (nI (Kk + k - B) &&& 31) else nI (tq_set lo hi) <<< (nI (B - (Kk + k)) &&& 31)), nI (Kk + (k + 1)))), KI M F)
      have z : (0 : Int32).toInt = 0 := rfl
      by_cases g : B < Kk + k
      · have g2 : nI B - nI (Kk + k) < 0 := by
          rw [i_lt, sub_ti (by omega) (by omega)]
          omega
        have g3 : -(nI B - nI (Kk + k)) = nI (Kk + k - B) := nI_neg_sub (by omega)
        rw [if_pos g]
        simp (disch := first | assumption | omega) only [e_pu, e_ite, oL_add, oL_addr, oL_mul, nI_add, nI_1, b_pu, b_bd, b_ite, j_L, j_R, j_ite, j_bd, z_ex, ↓reduceIte, if_true, if_false, kn_cv, kn_mk, kn_wk, kn_g83, kn_a83, e78, e83, hwk, g1, e1, g2, g3]
        rfl
      · have g2 : ¬ nI B - nI (Kk + k) < 0 := by
          rw [i_lt, sub_ti (by omega) (by omega)]
          omega
        have g3 : nI B - nI (Kk + k) = nI (B - (Kk + k)) := nI_sub (by omega)
        rw [if_neg g]
        rw [g3] at g2
        simp (disch := first | assumption | omega) only [e_pu, e_ite, oL_add, oL_addr, oL_mul, nI_add, nI_1, b_pu, b_bd, b_ite, j_L, j_R, j_ite, j_bd, z_ex, ↓reduceIte, if_true, if_false, kn_cv, kn_mk, kn_wk, kn_g83, kn_a83, e78, e83, hwk, g1, e1, g3, g2]
        rfl
    · have g1 : nI (B + G - Kk) < nI (Kk + (B + G - Kk + 1 - Kk)) := nI_lt (by omega) (by omega)
      simp (disch := first | assumption | omega) only [e_pu, e_ite, oL_add, oL_addr, oL_mul, nI_add, nI_1, b_pu, b_bd, b_ite, j_L, j_R, j_ite, j_bd, z_ex, ↓reduceIte, if_true, if_false, kn_cv, kn_mk, kn_wk, e78, e83, hwk, g1]
  · rw [nI_1 cap]
    rfl
/-- are all stations not visited balanced? -/
theorem m_ae {f : Int32 → zP β} (h : L9 M) (e78 : F 78 = ct) (e83 : F 83 = st) (hc : c_ok ct cd ns nt np nc) (hn : n_ok ct st ns nt) (hV : V < 2 ^ 8) : (z_bd (p_X9_isAllEven 75 (nI V)) f).1 (KI M F) = (f (if tq_evn (tqq ct st ns cap home) V then 1 else 0)).1 (KI M F) := by
  have hns := hc.1.2.1
  refine e_run ?_
  unfold p_X9_isAllEven
  have e0 : ct 0 = nI ns := hc.1.1
  have hev : ∀ i, i < ns → s_ev ct st i = if tq_un (tqq ct st ns cap home) i then 0 else 1 := fun i hi => by
    obtain ⟨e1, e2, e3, _, b1, b2⟩ := st_ix hc hn hi
    unfold s_ev
    have hun : tq_un (tqq ct st ns cap home) i ↔ (ix (st (6 + i)) < ix (s_mk ct st i) ∨ ix (s_fr ct st i) < ix (s_mk ct st i)) := Iff.rfl
    have a1 : st (6 + i) < s_mk ct st i ↔ ix (st (6 + i)) < ix (s_mk ct st i) := by
      rw [e1, e3, i_lt, nI_toInt (by omega), nI_toInt (by omega), ← e1, ← e3]
      omega
    have a2 : s_fr ct st i < s_mk ct st i ↔ ix (s_fr ct st i) < ix (s_mk ct st i) := by
      rw [e2, e3, i_lt, nI_toInt (by omega), nI_toInt (by omega), ← e2, ← e3]
      omega
    by_cases g1 : ix (st (6 + i)) < ix (s_mk ct st i)
    · rw [if_pos (a1.mpr g1), if_pos (hun.mpr (Or.inl g1))]
    · rw [if_neg (fun e => g1 (a1.mp e))]
      by_cases g2 : ix (s_fr ct st i) < ix (s_mk ct st i)
      · rw [if_pos (a2.mpr g2), if_pos (hun.mpr (Or.inr g2))]
      · rw [if_neg (fun e => g2 (a2.mp e)), if_neg (fun e => (hun.mp e).elim g1 g2)]
  have key : ∀ k j, j + k = ns → (∀ i, i < j → tq_un (tqq ct st ns cap home) i → V.testBit i = true) → (z_lp ((fun (t1 : Int32) => (z_bd (z_gA 9 75 11) (fun v2 => (z_bd (z_aI 11 v2 0) (fun v3 => (if v3 ≤ t1 then (z_pu (.inr 1)) else (if (((nI V) >>> (t1 &&& 31)) &&& 1) = 0 then (z_bd (z_cv 9 75 (p_X9_isEven 75 t1)) (fun r4 => (if r4 = 0 then (z_pu (.inr 0)) else (z_pu (.inl ((t1 + 1))))))) else (z_pu (.inl ((t1 + 1))))))))))) : Int32 → zP (Int32 ⊕ Int32)) (nI j)).1 (KI M F) = some (.inr (if tq_evn (tqq ct st ns cap home) V then 1 else 0), KI M F) := by
    intro k
    induction k with
    | zero =>
      intro j hj hall
      have he : tq_evn (tqq ct st ns cap home) V := fun i hi hu => hall i (by have : i < ns := hi; omega) hu
      rw [if_pos he]
      refine z_lp_end ?_
      have nle : nI ns ≤ nI j := nI_le (by omega) (by omega)
      simp (disch := first | assumption | omega) only [e_pu, e_ite, oL_add, oL_addr, oL_mul, nI_add, nI_1, b_pu, b_bd, b_ite, j_L, j_R, j_ite, j_bd, z_ex, ↓reduceIte, if_true, if_false, kn_g78, kn_l78_0, e78, e0, nle]
    | succ k ik =>
      intro j hj hall
      have hjn : j < ns := by omega
      have nge : ¬ nI ns ≤ nI j := nI_ge hjn (by omega)
      have hask := bit_ask (V := V) (k := j) (by omega) (by omega)
      by_cases g : V.testBit j = true
      · refine (z_lp_step (s' := nI (j + 1)) (M1 := KI M F) ?_).trans (ik (j + 1) (by omega) (fun i hi hu => ?_))
        · rw [if_pos g] at hask
          have h10 : ¬ (1 : Int32) = 0 := by decide
          simp (disch := first | assumption | omega) only [e_pu, e_ite, oL_add, oL_addr, oL_mul, nI_add, nI_1, b_pu, b_bd, b_ite, j_L, j_R, j_ite, j_bd, z_ex, ↓reduceIte, if_true, if_false, kn_g78, kn_l78_0, e78, e0, nge, hask, h10]
        · by_cases e : i = j
          · rw [e]; exact g
          · exact hall i (by omega) hu
      · rw [if_neg g] at hask
        have hevj := hev j hjn
        by_cases gu : tq_un (tqq ct st ns cap home) j
        · rw [if_neg (fun he : tq_evn (tqq ct st ns cap home) V => g (he j hjn gu))]
          rw [if_pos gu] at hevj
          refine z_lp_end ?_
          simp (disch := first | assumption | omega) only [e_pu, e_ite, oL_add, oL_addr, oL_mul, nI_add, nI_1, b_pu, b_bd, b_ite, j_L, j_R, j_ite, j_bd, z_ex, ↓reduceIte, if_true, if_false, kn_g78, kn_l78_0, e78, e83, e0, nge, hask, kn_cv, kn_ev, hevj]
        · rw [if_neg gu] at hevj
          have h10 : ¬ (1 : Int32) = 0 := by decide
          refine (z_lp_step (s' := nI (j + 1)) (M1 := KI M F) ?_).trans (ik (j + 1) (by omega) (fun i hi hu => ?_))
          · simp (disch := first | assumption | omega) only [e_pu, e_ite, oL_add, oL_addr, oL_mul, nI_add, nI_1, b_pu, b_bd, b_ite, j_L, j_R, j_ite, j_bd, z_ex, ↓reduceIte, if_true, if_false, kn_g78, kn_l78_0, e78, e83, e0, nge, hask, kn_cv, kn_ev, hevj, h10]
          · by_cases e : i = j
            · subst e; exact absurd hu gu
            · exact hall i (by omega) hu
  exact key ns 0 (by omega) (fun i hi => by omega)
end PA37
