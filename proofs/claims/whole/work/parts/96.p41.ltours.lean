/-! ===== PHASE 2: tourMinutes and tourStop ===== -/
def tv (b : TBt) : Int32 := match b with | none => -1 | some p => nI p.1
def ts (b : TBt) (x : Int32) : Int32 := match b with | none => -1 | some p => if x < 0 then -1 else if x < nI p.2.length then nI (p.2[ix x]?.getD 0) else -1
section PA41
variable {β : Type} {M : zM} {F : Nat → Nat → Int32} {ct cd st bf : Nat → Int32} {i j k q c sp n ns nt np nc L : Nat} {H : List (Nat → Int32)} {S : Nat → Option (Nat → Int32)} {v w x y code : Int32} {xs : Nat → Int32} {f : Unit → zP β}
variable {F' : Nat → Nat → Int32} {cap t p ld : Nat} {b : TBt}
theorem TB_v {x y : Int32} {r : Nat → Int32} (h : TB x y r b) : x = tv b := by
  cases b with
  | none => exact h.1
  | some p => exact h.2.1
theorem c_pk {f : Unit → zP β} {qq : Nat} (h : CI k M c sp ct cd ns nt np nc st H S n bf) (ht : t < nt) (hK : RK (z_i M) (41 + 8 + 3 * t) ct st ns t qq) (h2 : s_tr st t 2 = -1) : (z_bd (z_cv 8 0 (p_X8_checkParked 0 (nI t))) f).1 M = (f ()).1 M := by
  obtain ⟨h0, hc9, hC, _⟩ := CI_un h
  have E := CI_E h
  have hL41 := E.1.1
  have hnt := (CI_c h).1.2.2.2.1
  have ht3 : t < 3 := by omega
  have hLT := LZ_T hL41 ht3
  have e6 : z_i M (41 + 8 + 3 * t) 6 = -1 := hK.2.2.2.2.1.trans h2
  show (z_bd (z_cv 8 0 (p_X8_checkParked 0 (nI t))) f).1 (KI M (z_i M)) = (f ()).1 (KI M (z_i M))
  unfold p_X8_checkParked
  rw [k0_cv0 h0, b_bd, k0_g0_6 h0, b_bd]
  simp only [b_bd]
  rw [kx_trk hL41 ht3, kt_cv hLT, kt_dr hLT, e6, if_pos rfl, if_pos rfl]
  rfl
theorem c_pkb {f : Unit → zP β} {qq : Nat} (h : CI k M c sp ct cd ns nt np nc st H S n bf) (ht : t < nt) (hK : RK (z_i M) (41 + 8 + 3 * t) ct st ns t qq) (h2 : ¬ s_tr st t 2 = -1) : (z_bd (z_cv 8 0 (p_X8_checkParked 0 (nI t))) f).1 M = some (.inl "java/lang/IllegalStateException", z_mk M 99 0 6) := by
  obtain ⟨h0, hc9, hC, _⟩ := CI_un h
  have E := CI_E h
  have hL41 := E.1.1
  have hnt := (CI_c h).1.2.2.2.1
  have ht3 : t < 3 := by omega
  have hLT := LZ_T hL41 ht3
  have e6 : ¬ z_i M (41 + 8 + 3 * t) 6 = -1 := by rw [hK.2.2.2.2.1]; exact h2
  show (z_bd (z_cv 8 0 (p_X8_checkParked 0 (nI t))) f).1 (KI M (z_i M)) = some (.inl "java/lang/IllegalStateException", z_mk (KI M (z_i M)) 99 0 6)
  unfold p_X8_checkParked
  rw [k0_cv0 h0, b_bd, k0_g0_6 h0, b_bd]
  simp only [b_bd]
  rw [kx_trk hL41 ht3, kt_cv hLT, kt_dr hLT, if_neg e6, if_neg (show ¬ (1 : Int32) = 0 by decide)]
  rfl
theorem c_tourMinutes {qq : Nat} (hI : CI k M c sp ct cd ns nt np nc st H S n bf) (ht : t < nt) (hK : RK (z_i M) (41 + 8 + 3 * t) ct st ns t qq) (h2 : s_tr st t 2 = -1) (k1 : (p_X6_search 6 41 (41 + 8 + 3 * t)).1 M = some (.inr (), KI (z_wr M 6 6 (some c)) F')) (k3 : TB (F' 6 10) (F' 6 11) (F' 7) b) : (p_X8_tourMinutes 0 (nI t)).1 M = some (.inr (tv b), KI (z_wr M 6 6 (some c)) F') := by
  obtain ⟨h0, hc9, hC, _⟩ := CI_un hI
  have E := CI_E hI
  have hL41 := E.1.1
  have hnt := (CI_c hI).1.2.2.2.1
  have ht3 : t < 3 := by omega
  have h0' : L0 (z_wr M 6 6 (some c)) := L0_loc h0 (loc_wr (c := c) (sp := sp) (by omega))
  unfold p_X8_tourMinutes
  rw [c_tk hI ht, c_pk hI ht hK h2]
  show (z_bd (z_gA 8 0 3) _).1 (KI M (z_i M)) = _
  rw [k0_g0_3 h0, k0_g0_6 h0, k0_g0_6 h0, kx_trk hL41 ht3, k0_cv6 h0]
  refine (e_run k1).trans ?_
  rw [k0_g0_3 h0', k0_gI6 h0', TB_v k3]
  rfl
theorem c_tourStop {qq : Nat} (hI : CI k M c sp ct cd ns nt np nc st H S n bf) (ht : t < nt) (hK : RK (z_i M) (41 + 8 + 3 * t) ct st ns t qq) (h2 : s_tr st t 2 = -1) (k1 : (p_X6_search 6 41 (41 + 8 + 3 * t)).1 M = some (.inr (), KI (z_wr M 6 6 (some c)) F')) (k3 : TB (F' 6 10) (F' 6 11) (F' 7) b) : (p_X8_tourStop 0 (nI t) x).1 M = some (.inr (ts b x), KI (z_wr M 6 6 (some c)) F') := by
  obtain ⟨h0, hc9, hC, _⟩ := CI_un hI
  have E := CI_E hI
  have hL41 := E.1.1
  have hnt := (CI_c hI).1.2.2.2.1
  have ht3 : t < 3 := by omega
  have h0' : L0 (z_wr M 6 6 (some c)) := L0_loc h0 (loc_wr (c := c) (sp := sp) (by omega))
  unfold p_X8_tourStop
  rw [c_tk hI ht, c_pk hI ht hK h2]
  show (z_bd (z_gA 8 0 3) _).1 (KI M (z_i M)) = _
  rw [k0_g0_3 h0, k0_g0_6 h0, k0_g0_6 h0, kx_trk hL41 ht3, k0_cv6 h0]
  refine (e_run k1).trans ?_
  by_cases g1 : x < 0
  · rw [if_pos g1]
    cases b with
    | none => rfl
    | some p =>
      show _ = some (Sum.inr (if x < 0 then (-1 : Int32) else _), _)
      rw [if_pos g1]
      rfl
  · rw [if_neg g1, k0_g0_3 h0', k0_gI6 h0']
    cases b with
    | none =>
      have e11 : F' 6 11 = 0 := k3.2
      rw [e11, if_neg g1]
      rfl
    | some p =>
      obtain ⟨⟨b1, b2⟩, b3, b4, b5⟩ := k3
      rw [b4]
      show _ = some (Sum.inr (if x < 0 then (-1 : Int32) else if x < nI p.2.length then nI (p.2[ix x]?.getD 0) else -1), _)
      rw [if_neg g1]
      by_cases g2 : x < nI p.2.length
      · obtain ⟨j, hj, ej⟩ : ∃ j, j < p.2.length ∧ x = nI j := by
          rcases pk_ix x (n := p.2.length) (by omega) with h | h | ⟨j, hj, e⟩
          · exact absurd h g1
          · exfalso
            rw [i_le] at h
            rw [i_lt] at g2
            omega
          · exact ⟨j, hj, e⟩
        rw [if_pos g2, if_pos g2, k0_g0_3 h0', k0_g6_0 h0', ej, k6_a7 h0' (by omega)]
        have ex : ix (nI j) = j := nI_clamp (by omega)
        rw [ex, b5 j (p.2[j]) (List.getElem?_eq_getElem hj), List.getElem?_eq_getElem hj]
        rfl
      · rw [if_neg g2, if_neg g2]
        rfl
/-! the model -/
theorem m_ftb {f : Int32 → zP β} (h : L9 M) (hs : F 78 1 = nI nt) (hnt : nt ≤ 3) (hx : x < 0 ∨ nI nt ≤ x) : (z_bd (p_X9_failsTour 75 x) f).1 (KI M F) = (f 1).1 (KI M (z_up2 F 75 0 1)) := by
  have h1 : ¬ (1 : Int32) ≤ 0 := by decide
  unfold p_X9_failsTour
  simp (disch := first | assumption | omega) only [e_pu, e_ite, oL_add, oL_addr, oL_mul, nI_add, nI_1, b_pu, b_bd, b_ite, j_L, j_R, j_ite, j_bd, z_ex, ↓reduceIte, if_true, if_false, kn_cv, kn_tkb h hs hnt hx, kn_pI, kn_gI, u2_s, h1]
theorem m_ftd {f : Int32 → zP β} (h : L9 M) (hs : F 78 1 = nI nt) (hnt : nt ≤ 3) (ht : t < nt) (h5 : s_tr (F 83) t 0 = -1) : (z_bd (p_X9_failsTour 75 (nI t)) f).1 (KI M F) = (f 1).1 (KI M (z_up2 F 75 0 2)) := by
  have h1 : ¬ (1 : Int32) = 0 := by decide
  have h2 : ¬ (2 : Int32) ≤ 0 := by decide
  have h3 : ¬ (0 : Int32) ≤ -1 := by decide
  have ht3 : t < 3 := by omega
  unfold p_X9_failsTour
  simp (disch := first | assumption | omega) only [e_pu, e_ite, oL_add, oL_addr, oL_mul, nI_add, nI_1, b_pu, b_bd, b_ite, j_L, j_R, j_ite, j_bd, z_ex, ↓reduceIte, if_true, if_false, kn_cv, kn_tk h hs hnt ht, kn_of0, h5, kn_pI, kn_gI, u2_s, h1, h2, h3]
theorem m_ft0 {f : Int32 → zP β} (h : L9 M) (hs : F 78 1 = nI nt) (hnt : nt ≤ 3) (ht : t < nt) (hp : p < 100) (h5 : s_tr (F 83) t 0 = nI p) : (z_bd (p_X9_failsTour 75 (nI t)) f).1 (KI M F) = (f 0).1 (KI M (z_up2 F 75 0 0)) := by
  have h1 : ¬ (1 : Int32) = 0 := by decide
  have h2 : (0 : Int32) ≤ 0 := by decide
  have h3 : (0 : Int32) ≤ nI p := nI_pos' (by omega)
  have ht3 : t < 3 := by omega
  unfold p_X9_failsTour
  simp (disch := first | assumption | omega) only [e_pu, e_ite, oL_add, oL_addr, oL_mul, nI_add, nI_1, b_pu, b_bd, b_ite, j_L, j_R, j_ite, j_bd, z_ex, ↓reduceIte, if_true, if_false, kn_cv, kn_tk h hs hnt ht, kn_of0, h5, kn_pI, kn_gI, u2_s, h1, h2, h3]
theorem m_tourMinutesb (h : MI M ct cd st H S n bf) (hc : c_ok ct cd ns nt np nc) (hx : x < 0 ∨ nI nt ≤ x) : (p_X9_tourMinutes 75 x).1 M = some (.inr 0, KI M (z_up2 (z_i M) 75 0 1)) := by
  obtain ⟨h9, e78, e80, e83⟩ := MI_0 h
  unfold p_X9_tourMinutes
  show (z_bd (z_cv 9 75 _) _).1 (KI M (z_i M)) = _
  rw [kn_cv h9, m_ftb h9 (by rw [e78]; exact hc.1.2.2.1) hc.1.2.2.2.1 hx, if_neg (by decide)]
  rfl
theorem m_tourStopb (h : MI M ct cd st H S n bf) (hc : c_ok ct cd ns nt np nc) (hx : x < 0 ∨ nI nt ≤ x) : (p_X9_tourStop 75 x y).1 M = some (.inr 0, KI M (z_up2 (z_i M) 75 0 1)) := by
  obtain ⟨h9, e78, e80, e83⟩ := MI_0 h
  unfold p_X9_tourStop
  show (z_bd (z_cv 9 75 _) _).1 (KI M (z_i M)) = _
  rw [kn_cv h9, m_ftb h9 (by rw [e78]; exact hc.1.2.2.1) hc.1.2.2.2.1 hx, if_neg (by decide)]
  rfl
theorem m_tourMinutesd (h : MI M ct cd st H S n bf) (hc : c_ok ct cd ns nt np nc) (ht : t < nt) (h5 : s_tr st t 0 = -1) : (p_X9_tourMinutes 75 (nI t)).1 M = some (.inr 0, KI M (z_up2 (z_i M) 75 0 2)) := by
  obtain ⟨h9, e78, e80, e83⟩ := MI_0 h
  unfold p_X9_tourMinutes
  show (z_bd (z_cv 9 75 _) _).1 (KI M (z_i M)) = _
  rw [kn_cv h9, m_ftd h9 (by rw [e78]; exact hc.1.2.2.1) hc.1.2.2.2.1 ht (by rw [e83]; exact h5), if_neg (by decide)]
  rfl
theorem m_tourStopd (h : MI M ct cd st H S n bf) (hc : c_ok ct cd ns nt np nc) (ht : t < nt) (h5 : s_tr st t 0 = -1) : (p_X9_tourStop 75 (nI t) y).1 M = some (.inr 0, KI M (z_up2 (z_i M) 75 0 2)) := by
  obtain ⟨h9, e78, e80, e83⟩ := MI_0 h
  unfold p_X9_tourStop
  show (z_bd (z_cv 9 75 _) _).1 (KI M (z_i M)) = _
  rw [kn_cv h9, m_ftd h9 (by rw [e78]; exact hc.1.2.2.1) hc.1.2.2.2.1 ht (by rw [e83]; exact h5), if_neg (by decide)]
  rfl
theorem m_tourMinutes (h : MI M ct cd st H S n bf) (hc : c_ok ct cd ns nt np nc) (hn : n_ok ct st ns nt) (hc20 : cap ≤ 20) (ht : t < nt) (ht3 : t < 3) (hcap : ct (45 + t) = nI cap) (hp : p < ns) (h5 : s_tr st t 0 = nI p) (hld : s_tr st t 4 = nI ld) (hlc : ld ≤ cap) : mres (p_X9_tourMinutes 75 (nI t)) M (tv (tq_d (tqq ct st ns cap p) 10 [] p 0 0 ld ld none)) 0 ct cd st H S n bf := by
  obtain ⟨h9, e78, e80, e83⟩ := MI_0 h
  have hns := hc.1.2.1
  obtain ⟨F2, k1, k2, k3⟩ := m_find (F := z_up2 (z_i M) 75 0 0) h9 (by rw [F0_78]; exact e78) (by rw [F0_83]; exact e83) hc hn hc20 ht3 hcap hp h5 hld hlc
  have ko : ∀ y j, ¬ (88 ≤ y ∧ y ≤ 94) → ¬ (y = 75 ∧ (j = 0 ∨ j = 27 ∨ j = 28)) → F2 y j = z_i M y j := fun y j g1 g2 => by rw [k2 y j (by omega), u2_n _ _ (by omega)]
  refine mres_rd (F := F2) h ?_ ?_ (fun y hy => funext (fun j => ko y j (by omega) (by omega))) (ko 75 2 (by omega) (by omega)) (ko 75 21 (by omega) (by omega))
  · unfold p_X9_tourMinutes
    show (z_bd (z_cv 9 75 _) _).1 (KI M (z_i M)) = _
    rw [kn_cv h9, m_ft0 (p := p) h9 (by rw [e78]; exact hc.1.2.2.1) hc.1.2.2.2.1 ht (by omega) (by rw [e83]; exact h5), if_pos rfl, kn_cv h9]
    refine (e_run k1).trans ?_
    rw [kn_gI h9, TB_v k3]
    rfl
  · rw [k2 75 0 (by omega), u2_s]
theorem m_tourStop (h : MI M ct cd st H S n bf) (hc : c_ok ct cd ns nt np nc) (hn : n_ok ct st ns nt) (hc20 : cap ≤ 20) (ht : t < nt) (ht3 : t < 3) (hcap : ct (45 + t) = nI cap) (hp : p < ns) (h5 : s_tr st t 0 = nI p) (hld : s_tr st t 4 = nI ld) (hlc : ld ≤ cap) : mres (p_X9_tourStop 75 (nI t) x) M (ts (tq_d (tqq ct st ns cap p) 10 [] p 0 0 ld ld none) x) 0 ct cd st H S n bf := by
  obtain ⟨h9, e78, e80, e83⟩ := MI_0 h
  have hns := hc.1.2.1
  obtain ⟨F2, k1, k2, k3⟩ := m_find (F := z_up2 (z_i M) 75 0 0) h9 (by rw [F0_78]; exact e78) (by rw [F0_83]; exact e83) hc hn hc20 ht3 hcap hp h5 hld hlc
  have ko : ∀ y j, ¬ (88 ≤ y ∧ y ≤ 94) → ¬ (y = 75 ∧ (j = 0 ∨ j = 27 ∨ j = 28)) → F2 y j = z_i M y j := fun y j g1 g2 => by rw [k2 y j (by omega), u2_n _ _ (by omega)]
  refine mres_rd (F := F2) h ?_ ?_ (fun y hy => funext (fun j => ko y j (by omega) (by omega))) (ko 75 2 (by omega) (by omega)) (ko 75 21 (by omega) (by omega))
  · unfold p_X9_tourStop
    show (z_bd (z_cv 9 75 _) _).1 (KI M (z_i M)) = _
    rw [kn_cv h9, m_ft0 (p := p) h9 (by rw [e78]; exact hc.1.2.2.1) hc.1.2.2.2.1 ht (by omega) (by rw [e83]; exact h5), if_pos rfl, kn_cv h9]
    refine (e_run k1).trans ?_
    rw [kn_gI h9]
    revert k3
    generalize tq_d (tqq ct st ns cap p) 10 [] p 0 0 ld ld none = bb
    intro k3
    cases bb with
    | none =>
      have e27 : F2 75 27 = -1 := k3.1
      rw [e27, if_pos (by decide)]
      rfl
    | some w =>
      obtain ⟨⟨b1, b2⟩, b3, b4, b5⟩ := k3
      rw [b3, if_neg (nI_pos (by omega)), kn_gI h9, b4, g9_wi]
      show _ = some (Sum.inr (if x < 0 then (-1 : Int32) else if x < nI w.2.length then nI (w.2[ix x]?.getD 0) else -1), _)
      by_cases g1 : x < 0
      · rw [wr_bad (Or.inl g1), if_pos rfl, if_pos g1]
        rfl
      · rw [if_neg g1]
        by_cases g2 : x < nI w.2.length
        · obtain ⟨j, hj, ej⟩ : ∃ j, j < w.2.length ∧ x = nI j := by
            rcases pk_ix x (n := w.2.length) (by omega) with h | h | ⟨j, hj, e⟩
            · exact absurd h g1
            · exfalso
              rw [i_le] at h
              rw [i_lt] at g2
              omega
            · exact ⟨j, hj, e⟩
          have hd : nI w.2.length - 1 = nI (w.2.length - 1) := nI_dec' (by omega)
          have hlt : ¬ nI (w.2.length - 1) < x := by
            rw [ej]
            exact nI_nlt (by omega) (by omega)
          rw [hd, if_neg hlt, if_neg (show ¬ (1 : Int32) = 0 by decide), if_neg g1, if_pos g2, kn_g89 h9, ej, kn_a89 h9 (by omega)]
          have ex : ix (nI j) = j := nI_clamp (by omega)
          rw [ex, b5 j (w.2[j]) (List.getElem?_eq_getElem hj), List.getElem?_eq_getElem hj]
          rfl
        · have hb : nI w.2.length - 1 < x := by
            have g3 : ¬ x.toInt < 0 := fun e => g1 (by rw [i_lt]; exact e)
            have g4 : ¬ x.toInt < (w.2.length : Int) := fun e => g2 (by rw [i_lt, nI_toInt (by omega)]; exact e)
            by_cases g5 : w.2.length = 0
            · rw [g5, i_lt, show (nI 0 - 1 : Int32).toInt = -1 from by decide]
              omega
            · rw [nI_dec' (by omega), i_lt, nI_toInt (by omega)]
              omega
          rw [if_pos hb, if_pos rfl, if_neg g1, if_neg g2]
          rfl
  · rw [k2 75 0 (by omega), u2_s]
theorem L_c20 (hI : CI k M c sp ct cd ns nt np nc st H S n bf) (hm : MI M ct cd st H S n bf) (hi : i + 6 ≤ L) (hL : L ≤ 3072) : STEP (p_L_c20 xs L 0 75 95 (nI i)) k M i := by
  have hc := CI_c hI
  have hns := hc.1.2.1
  have hnt := hc.1.2.2.2.1
  obtain ⟨h0, hcy, hC, T, d, R, l, hT, hS, hn, hst0, hg, hd⟩ := CI_un hI
  have E := CI_E hI
  have hL41 := E.1.1
  unfold p_L_c20 p_L_tourMinutes
  rw [show nI i + 1 = nI (i + 1) from oL_addr 1 i]
  simp only [z_xs_ok (xs := xs) (show i + 1 < L by omega) hL, b_pu]
  rcases pk_ix (xs (i + 1)) (n := nt) (by omega) with h | h | ⟨t, ht, e⟩
  · exact glue_t hI hm (c_tkb hI (Or.inl h)) (if_pos rfl) (by decide) (fun M1 h1 => mres_th h1 (m_tourMinutesb h1 hc (Or.inl h)))
  · exact glue_t hI hm (c_tkb hI (Or.inr h)) (if_pos rfl) (by decide) (fun M1 h1 => mres_th h1 (m_tourMinutesb h1 hc (Or.inr h)))
  · rw [e]
    obtain ⟨qq, hK⟩ := hS.2.2.2.1 t ht
    obtain ⟨ld, cap, hld, hcap, hlc, hc20⟩ := hn.1.2.1 t ht
    rcases hK.1.1 with ⟨p, hp, h5, _, h2⟩ | ⟨h5, _, b, hb, h2⟩
    · obtain ⟨F', k1, k2, k3⟩ := k_search hI ht hp h5 hld hcap hlc hc20
      refine glue_r hI hm (v := tv (tq_d (tqq ct st ns cap p) 10 [] p 0 0 ld ld none)) (cres_loc (M1 := KI (z_wr M 6 6 (some c)) F') hI ?_ (loc_tr (loc_wr (by omega)) (M1 := z_wr M 6 6 (some c)) ⟨Nat.le_refl _, fun _ _ => ⟨rfl, rfl⟩, fun _ _ _ _ => rfl, fun y _ hn => k2 y (by unfold scr at hn; omega)⟩) (fun h => L9_wr h (by decide)) (fun y y1 y2 => k2 y (by omega)) (by show z_nx M ≤ _; omega) (by show z_sl M ≤ _; omega)) (fun M1 h1 => ?_)
      · exact c_tourMinutes hI ht hK h2 k1 k3
      · exact m_tourMinutes h1 hc hn.1 hc20 ht (by omega) hcap hp h5 hld hlc
    · refine glue_t hI hm (E := "java/lang/IllegalStateException") ?_ (by rw [if_neg (by decide), if_pos rfl]) (show ¬ (2 : Int32) = 0 by decide) (fun M1 h1 => mres_th h1 (m_tourMinutesd h1 hc ht h5))
      unfold p_X8_tourMinutes
      rw [c_tk hI ht]
      exact c_pkb hI ht hK (by rw [h2]; exact nI_nm1 (by omega))

theorem L_c21 (hI : CI k M c sp ct cd ns nt np nc st H S n bf) (hm : MI M ct cd st H S n bf) (hi : i + 6 ≤ L) (hL : L ≤ 3072) : STEP (p_L_c21 xs L 0 75 95 (nI i)) k M i := by
  have hc := CI_c hI
  have hns := hc.1.2.1
  have hnt := hc.1.2.2.2.1
  obtain ⟨h0, hcy, hC, T, d, R, l, hT, hS, hn, hst0, hg, hd⟩ := CI_un hI
  have E := CI_E hI
  have hL41 := E.1.1
  unfold p_L_c21 p_L_tourStop
  rw [show nI i + 1 = nI (i + 1) from oL_addr 1 i, show nI i + 2 = nI (i + 2) from oL_addr 2 i]
  simp only [z_xs_ok (xs := xs) (show i + 1 < L by omega) hL, z_xs_ok (xs := xs) (show i + 2 < L by omega) hL, b_pu]
  rcases pk_ix (xs (i + 1)) (n := nt) (by omega) with h | h | ⟨t, ht, e⟩
  · exact glue_t hI hm (c_tkb hI (Or.inl h)) (if_pos rfl) (by decide) (fun M1 h1 => mres_th h1 (m_tourStopb h1 hc (Or.inl h)))
  · exact glue_t hI hm (c_tkb hI (Or.inr h)) (if_pos rfl) (by decide) (fun M1 h1 => mres_th h1 (m_tourStopb h1 hc (Or.inr h)))
  · rw [e]
    obtain ⟨qq, hK⟩ := hS.2.2.2.1 t ht
    obtain ⟨ld, cap, hld, hcap, hlc, hc20⟩ := hn.1.2.1 t ht
    rcases hK.1.1 with ⟨p, hp, h5, _, h2⟩ | ⟨h5, _, b, hb, h2⟩
    · obtain ⟨F', k1, k2, k3⟩ := k_search hI ht hp h5 hld hcap hlc hc20
      refine glue_r hI hm (v := ts (tq_d (tqq ct st ns cap p) 10 [] p 0 0 ld ld none) (xs (i + 2))) (cres_loc (M1 := KI (z_wr M 6 6 (some c)) F') hI ?_ (loc_tr (loc_wr (by omega)) (M1 := z_wr M 6 6 (some c)) ⟨Nat.le_refl _, fun _ _ => ⟨rfl, rfl⟩, fun _ _ _ _ => rfl, fun y _ hn => k2 y (by unfold scr at hn; omega)⟩) (fun h => L9_wr h (by decide)) (fun y y1 y2 => k2 y (by omega)) (by show z_nx M ≤ _; omega) (by show z_sl M ≤ _; omega)) (fun M1 h1 => ?_)
      · exact c_tourStop hI ht hK h2 k1 k3
      · exact m_tourStop h1 hc hn.1 hc20 ht (by omega) hcap hp h5 hld hlc
    · refine glue_t hI hm (E := "java/lang/IllegalStateException") ?_ (by rw [if_neg (by decide), if_pos rfl]) (show ¬ (2 : Int32) = 0 by decide) (fun M1 h1 => mres_th h1 (m_tourStopd h1 hc ht h5))
      unfold p_X8_tourStop
      rw [c_tk hI ht]
      exact c_pkb hI ht hK (by rw [h2]; exact nI_nm1 (by omega))

end PA41
