/-! ===== PHASE 2: the model's search ===== -/
section PA39
variable {β : Type} {M : zM} {F F' F2 : Nat → Nat → Int32} {ct cd st : Nat → Int32} {d i j k n m lo hi pl s V ns nt np nc cap home t p ld : Nat} {q : TQ} {P : List Nat} {b : TBt} {x y r : Int32}
theorem m_pop (h : L9 M) (e0 : F 78 0 = nI ns) (hns : ns ≤ 8) (hd : d < 9) {v : Nat} (hv : ns ≤ v) (hv2 : v < 100) (h94 : F 94 d = nI v) : (z_lp (mb_body t) (nI d)).1 (KI M F) = (z_lp (mb_body t) (nI d + (-1))).1 (KI M (z_up2 F 94 d (nI (v + 1)))) := by
  refine z_lp_step ?_
  unfold mb_body
  have hd0 : ¬ nI d < 0 := nI_pos (by omega)
  have e0' : z_up2 F 94 d (nI (v + 1)) 78 0 = nI ns := (u2_n _ _ (Or.inl (by omega))).trans e0
  have hlt : ¬ nI v < nI ns := nI_nlt hv (by omega)
  show (if nI d < 0 then _ else _ : zP (Int32 ⊕ Unit)).1 _ = _
  rw [if_neg hd0, kn_g94 h, kn_a94 h hd, h94, kn_g94 h, kn_a94 h hd, h94, nI_1, kn_s94 h hd, kn_g78 h, kn_l78_0 h, e0', if_neg hlt]
  rfl
/-- a station that is visited already -/
theorem m_skip (h : L9 M) (e0 : F 78 0 = nI ns) (hns : ns ≤ 8) (hd : d < 9) (hj : j < ns) (h94 : F 94 d = nI j) (h91 : F 91 d = nI V) (hV : V < 2 ^ 8) (hb : V.testBit j = true) : (z_lp (mb_body t) (nI d)).1 (KI M F) = (z_lp (mb_body t) (nI d)).1 (KI M (z_up2 F 94 d (nI (j + 1)))) := by
  refine z_lp_step ?_
  unfold mb_body
  have hd0 : ¬ nI d < 0 := nI_pos (by omega)
  have e0' : z_up2 F 94 d (nI (j + 1)) 78 0 = nI ns := (u2_n _ _ (Or.inl (by omega))).trans e0
  have e91 : z_up2 F 94 d (nI (j + 1)) 91 d = nI V := (u2_n _ _ (Or.inl (by omega))).trans h91
  have hlt : nI j < nI ns := nI_lt hj (by omega)
  have hask := bit_ask (V := V) (k := j) (by omega) (by omega)
  rw [if_pos hb] at hask
  show (if nI d < 0 then _ else _ : zP (Int32 ⊕ Unit)).1 _ = _
  rw [if_neg hd0, kn_g94 h, kn_a94 h hd, h94, kn_g94 h, kn_a94 h hd, h94, nI_1, kn_s94 h hd, kn_g78 h, kn_l78_0 h, e0', if_pos hlt, kn_g91 h, kn_a91 h hd, e91, if_pos hask]
  rfl
theorem m_pre (h : L9 M) (e78 : F 78 = ct) (hc : c_ok ct cd ns nt np nc) (ht : t < 3) (hcap : ct (45 + t) = nI cap) (hd : d < 8) (hj : j < ns) (hpl : pl < ns) (h0 : d = 0 → pl = home) (h94 : F 94 d = nI j) (hr : tqd F d pl V m lo hi) (hV : V < 2 ^ 8) (hb : ¬ V.testBit j = true) :
    (mb_body t (nI d)).1 (KI M F) = (z_bd (p_X9_loadsBehind 75 (nI (tq_set lo hi)) (nI j) (nI cap)) (fun r29 => (z_bd (z_cv 9 75 (p_X9_comeTo 75 (nI (d + 1)) (nI j) (nI (V ||| 2 ^ j)) (nI (m + tq_tm (tqq ct st ns cap home) d pl j)) r29)) (fun _ => (z_pu (.inl (nI (d + 1))))))) : zP (Int32 ⊕ Unit)).1 (KI M (z_up2 (z_up2 F 94 d (nI (j + 1))) 88 d (nI j))) := by
  have hns := hc.1.2.1
  obtain ⟨r90, r91, r92, r93⟩ := hr
  have e0 : ct 0 = nI ns := hc.1.1
  obtain ⟨F1, eF1⟩ : ∃ F1, F1 = z_up2 F 94 d (nI (j + 1)) := ⟨_, rfl⟩
  obtain ⟨F2, eF2⟩ : ∃ F2, F2 = z_up2 F1 88 d (nI j) := ⟨_, rfl⟩
  rw [← eF1, ← eF2]
  have f78 : F1 78 = ct := by rw [eF1, u2_row _ _ (by omega)]; exact e78
  have f91 : F1 91 d = nI V := by rw [eF1, u2_n _ _ (Or.inl (by omega))]; exact r91
  have g78 : F2 78 = ct := by rw [eF2, u2_row _ _ (by omega)]; exact f78
  have g90 : F2 90 d = nI pl := by rw [eF2, u2_n _ _ (Or.inl (by omega)), eF1, u2_n _ _ (Or.inl (by omega))]; exact r90
  have g91 : F2 91 d = nI V := by rw [eF2, u2_n _ _ (Or.inl (by omega))]; exact f91
  have g92 : F2 92 d = nI m := by rw [eF2, u2_n _ _ (Or.inl (by omega)), eF1, u2_n _ _ (Or.inl (by omega))]; exact r92
  have g93 : F2 93 d = nI (tq_set lo hi) := by rw [eF2, u2_n _ _ (Or.inl (by omega)), eF1, u2_n _ _ (Or.inl (by omega))]; exact r93
  have hd9 : d < 9 := by omega
  have hj8 : j < 8 := by omega
  have hpl8 : pl < 8 := by omega
  have ht138 : 45 + t < 138 := by omega
  have hd0 : ¬ nI d < 0 := nI_pos (by omega)
  have hlt : nI j < nI ns := nI_lt hj (by omega)
  have hask := bit_ask (V := V) (k := j) (by omega) (by omega)
  rw [if_neg hb] at hask
  have h01 : ¬ (0 : Int32) = 1 := by decide
  have e1 : (1 : Int32) <<< (nI j &&& 31) = nI (2 ^ j) := one_shl (by omega)
  have hdr := (dr_num hc hpl hj).1
  have s94 : ∀ {γ : Type} (g : Unit → zP γ), (z_bd (z_sI 11 94 (nI d) (nI (j + 1))) g).1 (KI M F) = (g ()).1 (KI M F1) := fun g => by rw [eF1]; exact kn_s94 h hd9
  have s88 : ∀ {γ : Type} (g : Unit → zP γ), (z_bd (z_sI 11 88 (nI d) (nI j)) g).1 (KI M F1) = (g ()).1 (KI M F2) := fun g => by rw [eF2]; exact kn_s88 h hd
  unfold mb_body
  show (if nI d < 0 then _ else _ : zP (Int32 ⊕ Unit)).1 _ = _
  rw [if_neg hd0, kn_g94 h, kn_a94 h hd9, h94, kn_g94 h, kn_a94 h hd9, h94, nI_1, s94, kn_g78 h, kn_l78_0 h, f78, e0, if_pos hlt, kn_g91 h, kn_a91 h hd9, f91, hask, if_neg h01, kn_g88 h, s88]
  unfold tq_tm
  by_cases g1 : d = 0
  · have hp := h0 g1
    have g1' : nI d = 0 := by rw [g1]; rfl
    have l90 : ∀ {γ : Type} (g : Int32 → zP γ), (z_bd (z_aI 11 90 0) g).1 (KI M F2) = (g (nI pl)).1 (KI M F2) := fun g => (kn_a90 (k := 0) h (by decide)).trans (by rw [← g1, g90])
    by_cases g2 : j = pl
    · have g2' : nI j = nI pl := by rw [g2]
      have g3 : d = 0 ∧ j = (tqq ct st ns cap home).home := ⟨g1, g2.trans hp⟩
      rw [if_pos g3]
      simp (disch := first | assumption | omega) only [e_pu, e_ite, oL_add, oL_addr, oL_mul, nI_add, nI_1, b_pu, b_bd, b_ite, j_L, j_R, j_ite, j_bd, z_ex, ↓reduceIte, if_true, if_false, kn_cv, kn_g90, kn_g91, kn_a91, kn_g92, kn_a92, kn_g93, kn_a93, kn_g78, kn_a78, g78, g91, g92, g93, hcap, nI_or, e1, if_pos g1', l90, if_pos g2']
    · have g2' : ¬ nI j = nI pl := fun e => g2 (nq_inj (by omega) (by omega) e)
      have g3 : ¬ (d = 0 ∧ j = (tqq ct st ns cap home).home) := fun e => g2 (e.2.trans hp.symm)
      rw [if_neg g3]
      simp (disch := first | assumption | omega) only [e_pu, e_ite, oL_add, oL_addr, oL_mul, nI_add, nI_1, b_pu, b_bd, b_ite, j_L, j_R, j_ite, j_bd, z_ex, ↓reduceIte, if_true, if_false, kn_cv, kn_dr, kn_g90, kn_a90, kn_g91, kn_a91, kn_g92, kn_a92, kn_g93, kn_a93, kn_g78, kn_a78, g78, g90, g91, g92, g93, hcap, nI_or, e1, if_pos g1', l90, if_neg g2']
      rw [hdr]
      simp only [nI_add]
      rfl
  · have g1' : ¬ nI d = 0 := nI_ne0 (by omega) (by omega)
    have g3 : ¬ (d = 0 ∧ j = (tqq ct st ns cap home).home) := fun e => g1 e.1
    rw [if_neg g3]
    simp (disch := first | assumption | omega) only [e_pu, e_ite, oL_add, oL_addr, oL_mul, nI_add, nI_1, b_pu, b_bd, b_ite, j_L, j_R, j_ite, j_bd, z_ex, ↓reduceIte, if_true, if_false, kn_cv, kn_dr, kn_g90, kn_a90, kn_g91, kn_a91, kn_g92, kn_a92, kn_g93, kn_a93, kn_g78, kn_a78, g78, g90, g91, g92, g93, hcap, nI_or, e1, if_neg g1']
    rw [hdr]
    simp only [nI_add]
    rfl
theorem m_node (h : L9 M) (hc : c_ok ct cd ns nt np nc) (hn : n_ok ct st ns nt) (hc20 : cap ≤ 20) (ht : t < 3) (hcap : ct (45 + t) = nI cap) :
    ∀ n P pl V m lo hi, n + 1 + P.length = 10 → NV (tqq ct st ns cap home) P pl V m lo hi → (P.length = 0 → pl = home) → ¬ tq_evn (tqq ct st ns cap home) V → ∀ k j F b, j + k = ns → F 78 = ct → F 83 = st → tqd F P.length pl V m lo hi → PT F 88 P → TB (F 75 27) (F 75 28) (F 89) b → F 94 P.length = nI j →
    ∃ F', (z_lp (mb_body t) (nI P.length)).1 (KI M F) = (z_lp (mb_body t) (nI P.length + (-1))).1 (KI M F') ∧ tmd P.length F F' ∧ TB (F' 75 27) (F' 75 28) (F' 89) (tq_fd (tq_ch (tqq ct st ns cap home) (tq_d (tqq ct st ns cap home) n) P pl V m lo hi) k j b) := by
  have hns := hc.1.2.1
  have hq := tqq_ok (home := home) hc hn hc20
  have e0 : ct 0 = nI ns := hc.1.1
  intro n
  induction n with
  | zero =>
    intro P pl V m lo hi hP hN
    have h1 : tq_pc (tqq ct st ns cap home) V ≤ (tqq ct st ns cap home).ns * 1 := tq_sm_le (fun j _ => by split <;> omega)
    have h2 := hN.2.1.2
    have h3 := hq.1
    omega
  | succ n ih =>
    intro P pl V m lo hi hP hN h0 hev k
    obtain ⟨⟨a1, a2⟩, ⟨a3, a4⟩, ⟨a5, a6⟩, a7⟩ := id hN
    have hpl : pl < ns := a5
    have hhc : hi ≤ cap := a2
    have hd : P.length < 8 := by
      rw [← a4]
      have : ∃ i, i < (tqq ct st ns cap home).ns ∧ ¬ V.testBit i = true := by
        by_cases g : ∃ i, i < (tqq ct st ns cap home).ns ∧ ¬ V.testBit i = true
        · exact g
        · exact absurd (fun i hi _ => Classical.byContradiction (fun hn => g ⟨i, hi, hn⟩)) hev
      obtain ⟨i, g1, g2⟩ := this
      have := tq_pc_lt g1 g2
      have := hq.1
      omega
    induction k with
    | zero =>
      intro j F b hj e78 e83 hr hPT hB h94
      refine ⟨_, m_pop (ns := ns) h (by rw [e78]; exact e0) hns (by omega) (v := j) (by omega) (by omega) h94, tmd_u (by omega), ?_⟩
      rw [u2_row _ _ (by omega), u2_row _ _ (by omega)]
      exact hB
    | succ k ik =>
      intro j F b hj e78 e83 hr hPT hB h94
      have hjn : j < ns := by omega
      obtain ⟨r90, r91, r92, r93⟩ := id hr
      by_cases hb : V.testBit j = true
      · obtain ⟨F', w1, w2, w3⟩ := ik (j + 1) (z_up2 F 94 P.length (nI (j + 1))) b (by omega) (by rw [u2_row _ _ (by omega)]; exact e78) (by rw [u2_row _ _ (by omega)]; exact e83) ⟨by rw [u2_n _ _ (Or.inl (by omega))]; exact r90, by rw [u2_n _ _ (Or.inl (by omega))]; exact r91, by rw [u2_n _ _ (Or.inl (by omega))]; exact r92, by rw [u2_n _ _ (Or.inl (by omega))]; exact r93⟩ (fun i z hz => by rw [u2_n _ _ (Or.inl (by omega))]; exact hPT i z hz) (by rw [u2_row _ _ (by omega), u2_row _ _ (by omega)]; exact hB) (u2_s _ _ _ _)
        refine ⟨F', (m_skip (ns := ns) h (by rw [e78]; exact e0) hns (by omega) hjn h94 r91 a3 hb).trans w1, tmd_tr (tmd_u (by omega)) w2, ?_⟩
        have ech : tq_ch (tqq ct st ns cap home) (tq_d (tqq ct st ns cap home) (n + 1)) P pl V m lo hi j b = b := by
          unfold tq_ch
          rw [if_pos hb]
        show TB _ _ _ (tq_fd _ k (j + 1) (tq_ch (tqq ct st ns cap home) (tq_d (tqq ct st ns cap home) (n + 1)) P pl V m lo hi j b))
        rw [ech]
        exact w3
      · have pre := m_pre (t := t) (home := home) (st := st) h e78 hc ht hcap hd hjn hpl h0 h94 hr a3 hb
        obtain ⟨F2, eF2⟩ : ∃ F2, F2 = z_up2 (z_up2 F 94 P.length (nI (j + 1))) 88 P.length (nI j) := ⟨_, rfl⟩
        rw [← eF2] at pre
        have md2 : tmd P.length F F2 := by
          rw [eF2]
          exact tmd_tr (tmd_u (by omega)) (tmd_u (by omega))
        have f78 : F2 78 = ct := by rw [eF2, u2_row _ _ (by omega), u2_row _ _ (by omega)]; exact e78
        have f83 : F2 83 = st := by rw [eF2, u2_row _ _ (by omega), u2_row _ _ (by omega)]; exact e83
        have hr2 : tqd F2 P.length pl V m lo hi := by
          rw [eF2]
          exact ⟨by rw [u2_n _ _ (Or.inl (by omega)), u2_n _ _ (Or.inl (by omega))]; exact r90, by rw [u2_n _ _ (Or.inl (by omega)), u2_n _ _ (Or.inl (by omega))]; exact r91, by rw [u2_n _ _ (Or.inl (by omega)), u2_n _ _ (Or.inl (by omega))]; exact r92, by rw [u2_n _ _ (Or.inl (by omega)), u2_n _ _ (Or.inl (by omega))]; exact r93⟩
        have f94 : F2 94 P.length = nI (j + 1) := by rw [eF2, u2_n _ _ (Or.inl (by omega)), u2_s]
        have hPT2 : PT F2 88 (P ++ [j]) := by
          rw [eF2]
          exact PT_up (fun i z hz => by rw [u2_n _ _ (Or.inl (by omega))]; exact hPT i z hz) rfl
        have hB2 : TB (F2 75 27) (F2 75 28) (F2 89) b := by
          rw [eF2, u2_row _ _ (by omega), u2_row _ _ (by omega), u2_row _ _ (by omega), u2_row _ _ (by omega)]
          exact hB
        -- what is left once the child is done
        have back : ∀ F4 b4, tmd (P.length + 1) F2 F4 → TB (F4 75 27) (F4 75 28) (F4 89) b4 → b4 = tq_ch (tqq ct st ns cap home) (tq_d (tqq ct st ns cap home) (n + 1)) P pl V m lo hi j b → (z_lp (mb_body t) (nI P.length)).1 (KI M F) = (z_lp (mb_body t) (nI P.length)).1 (KI M F4) → ∃ F', (z_lp (mb_body t) (nI P.length)).1 (KI M F) = (z_lp (mb_body t) (nI P.length + (-1))).1 (KI M F') ∧ tmd P.length F F' ∧ TB (F' 75 27) (F' 75 28) (F' 89) (tq_fd (tq_ch (tqq ct st ns cap home) (tq_d (tqq ct st ns cap home) (n + 1)) P pl V m lo hi) (k + 1) j b) := by
          intro F4 b4 md hB4 eb4 hrun
          obtain ⟨F', w1, w2, w3⟩ := ik (j + 1) F4 b4 (by omega) (funext (fun z => (md 78 z (by omega)).trans (congrFun f78 z))) (funext (fun z => (md 83 z (by omega)).trans (congrFun f83 z))) ⟨(md 90 _ (by omega)).trans hr2.1, (md 91 _ (by omega)).trans hr2.2.1, (md 92 _ (by omega)).trans hr2.2.2.1, (md 93 _ (by omega)).trans hr2.2.2.2⟩ (fun i z hz => by
              have g : i < P.length := by
                rw [List.getElem?_eq_some_iff] at hz
                exact hz.1
              rw [md 88 i (by omega)]
              exact PT_pre hPT2 i z hz) hB4 ((md 94 _ (by omega)).trans f94)
          refine ⟨F', hrun.trans w1, tmd_tr md2 (tmd_tr (tmd_dn md) w2), ?_⟩
          rw [eb4] at w3
          exact w3
        have e1 : nI (P.length + 1) + (-1) = nI P.length := by rw [nI_dec (by omega)]; rfl
        have hlb := m_lb (F := F2) (home := home) (β := Int32 ⊕ Unit) (f := fun r29 => (z_bd (z_cv 9 75 (p_X9_comeTo 75 (nI (P.length + 1)) (nI j) (nI (V ||| 2 ^ j)) (nI (m + tq_tm (tqq ct st ns cap home) P.length pl j)) r29)) (fun _ => (z_pu (.inl (nI (P.length + 1))))))) h f78 f83 hc hn hc20 hjn a1 hhc
        by_cases hem : tq_em (tqq ct st ns cap home) lo hi j
        · rw [if_pos hem] at hlb
          have hrun := pre.trans hlb
          rw [kn_cv h, m_ct0 h (by omega)] at hrun
          have md3 : tmd (P.length + 1) F2 (f_ct F2 (P.length + 1) j (V ||| 2 ^ j) (m + tq_tm (tqq ct st ns cap home) P.length pl j) 0) := f_ct_md
          obtain ⟨c1, c2, c3, c4, c5⟩ := f_ct_75 (F := F2) (d := P.length + 1) (pl := j) (V := V ||| 2 ^ j) (m := m + tq_tm (tqq ct st ns cap home) P.length pl j) (r := 0)
          have c94 := (f_ct_0 (F := F2) (d := P.length + 1) (pl := j) (V := V ||| 2 ^ j) (m := m + tq_tm (tqq ct st ns cap home) P.length pl j) (r := 0)).2.2.2.2
          obtain ⟨F3, eF3⟩ : ∃ F3, F3 = f_ct F2 (P.length + 1) j (V ||| 2 ^ j) (m + tq_tm (tqq ct st ns cap home) P.length pl j) 0 := ⟨_, rfl⟩
          rw [← eF3] at hrun md3 c1 c2 c3 c4 c5 c94
          have hpop := m_pop (t := t) (ns := ns) (F := F3) (d := P.length + 1) (v := 8) h (by rw [c2, f78]; exact e0) hns (by omega) (by omega) (by omega) c94
          rw [e1] at hpop
          refine back (z_up2 F3 94 (P.length + 1) (nI (8 + 1))) b (tmd_tr md3 (tmd_u (by omega))) ?_ ?_ ((z_lp_step hrun).trans hpop)
          · rw [u2_row _ _ (by omega), u2_row _ _ (by omega), c1, c5]
            exact hB2
          · unfold tq_ch
            rw [if_neg hb, if_pos hem]
        · rw [if_neg hem] at hlb
          have hNc := NV_ch hq hN hjn hb hem
          obtain ⟨li1, li2⟩ := tq_li a1 hem
          have hlen : (P ++ [j]).length = P.length + 1 := by simp
          have hm8 := hNc.2.2.2
          rw [hlen] at hm8
          have hr0 : ¬ nI (tq_set (tq_lo (tqq ct st ns cap home) lo j) (tq_hi (tqq ct st ns cap home) hi j)) = 0 := by
            intro e
            have g1 := li_bt (k := tq_lo (tqq ct st ns cap home) lo j) li1 (by have := hq.2.1; omega)
            rw [e, bt_0] at g1
            simp [li1] at g1
          obtain ⟨F3, k1, k2, k3, k4, k5⟩ := m_ct (cap := cap) (home := home) (f := fun _ => (z_pu (.inl (nI (P.length + 1))) : zP (Int32 ⊕ Unit))) (pl := j) (P := P ++ [j]) (b := b) (m := m + tq_tm (tqq ct st ns cap home) P.length pl j) h f78 f83 hc hn hr0 (or_lt a3 (show j < 8 by omega)) (by rw [hlen]; omega) (by omega) hB2 hPT2
          rw [hlen] at k1 k2 k3 k5
          have hrun := pre.trans hlb
          rw [kn_cv h, k1] at hrun
          have hrun' := z_lp_step hrun
          have ech : tq_ch (tqq ct st ns cap home) (tq_d (tqq ct st ns cap home) (n + 1)) P pl V m lo hi j b = if tq_wo b (m + tq_tm (tqq ct st ns cap home) P.length pl j) (P.length + 1) then b else if tq_evn (tqq ct st ns cap home) (V ||| 2 ^ j) then some (m + tq_tm (tqq ct st ns cap home) P.length pl j, P ++ [j]) else tq_fd (tq_ch (tqq ct st ns cap home) (tq_d (tqq ct st ns cap home) n) (P ++ [j]) j (V ||| 2 ^ j) (m + tq_tm (tqq ct st ns cap home) P.length pl j) (tq_lo (tqq ct st ns cap home) lo j) (tq_hi (tqq ct st ns cap home) hi j)) ns 0 b := by
            unfold tq_ch
            rw [if_neg hb, if_neg hem, ← hlen]
            rfl
          have pop : F3 94 (P.length + 1) = 8 → (z_lp (mb_body t) (nI P.length)).1 (KI M F) = (z_lp (mb_body t) (nI P.length)).1 (KI M (z_up2 F3 94 (P.length + 1) (nI (8 + 1)))) := fun c94 => by
            have hpop := m_pop (t := t) (ns := ns) (F := F3) (d := P.length + 1) (v := 8) h (by rw [k2 78 0 (by omega), f78]; exact e0) hns (by omega) (by omega) (by omega) c94
            rw [e1] at hpop
            exact hrun'.trans hpop
          rcases k5 with ⟨w1, w2, w3⟩ | ⟨w1, w2, w3, w4⟩ | ⟨w1, w2, w3, w4⟩
          · refine back _ b (tmd_tr k2 (tmd_u (by omega))) ?_ (by rw [ech, if_pos w1]) (pop w2)
            rw [u2_row _ _ (by omega), u2_row _ _ (by omega)]
            exact w3
          · refine back _ _ (tmd_tr k2 (tmd_u (by omega))) ?_ (by rw [ech, if_neg w1, if_pos w2]) (pop w3)
            rw [u2_row _ _ (by omega), u2_row _ _ (by omega)]
            exact w4
          · obtain ⟨F4, v1, v2, v3⟩ := ih (P ++ [j]) j (V ||| 2 ^ j) (m + tq_tm (tqq ct st ns cap home) P.length pl j) (tq_lo (tqq ct st ns cap home) lo j) (tq_hi (tqq ct st ns cap home) hi j) (by rw [hlen]; omega) hNc (fun e => by rw [hlen] at e; omega) w2 ns 0 F3 b (by omega) (funext (fun z => (k2 78 z (by omega)).trans (congrFun f78 z))) (funext (fun z => (k2 83 z (by omega)).trans (congrFun f83 z))) (by rw [hlen]; exact k3) (fun i z hz => by rw [k4]; exact hPT2 i z hz) w4 (by rw [hlen]; exact w3)
            rw [hlen, e1] at v1
            rw [hlen] at v2
            exact back F4 _ (tmd_tr k2 v2) v3 (by rw [ech, if_neg w1, if_neg w2]) (hrun'.trans v1)
end PA39
