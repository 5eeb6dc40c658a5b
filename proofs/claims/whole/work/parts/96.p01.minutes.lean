/-! ===== PHASE 2: minutes ===== -/
/-- how many trips begin up to the time T -/
def s_W (ct : Nat → Int32) (np : Nat) : Nat → Nat
  | 0 => 0
  | T + 1 => s_W ct np T + s_cnt ct (nI ((T + 1) % 1440)) np
def s_V (ct : Nat → Int32) (T : Nat) : Nat → Nat
  | 0 => 0
  | p + 1 => s_V ct T p + (T + 1440 - ix (ct (108 + p))) / 1440
theorem s_V_up {ct : Nat → Int32} {np : Nat} (h : ∀ p, p < np → ∃ c, c < 1440 ∧ ct (108 + p) = nI c) (T : Nat) : ∀ p, p ≤ np → s_V ct (T + 1) p = s_V ct T p + s_cnt ct (nI ((T + 1) % 1440)) p
  | 0, _ => rfl
  | p + 1, hp => by
    obtain ⟨c, hc, ec⟩ := h p (by omega)
    rw [s_V, s_V, s_cnt, s_V_up h T p (by omega), ec, ix_nI (by omega)]
    have hm : (T + 1) % 1440 < 1440 := Nat.mod_lt _ (by decide)
    by_cases e : c = (T + 1) % 1440
    · rw [if_pos (by rw [e])]
      omega
    · rw [if_neg (fun q => e ((nI_eq (by omega) (by omega)).mp q))]
      omega
theorem s_W_V {ct : Nat → Int32} {np : Nat} (h : ∀ p, p < np → ∃ c, c < 1440 ∧ ct (108 + p) = nI c) : ∀ T, s_W ct np T ≤ s_V ct T np
  | 0 => Nat.zero_le _
  | T + 1 => by
    rw [s_W, s_V_up h T np (Nat.le_refl _)]
    have := s_W_V h T
    omega
theorem s_V_le {ct : Nat → Int32} {T : Nat} (hT : T < 11520) : ∀ p, s_V ct T p ≤ 8 * p
  | 0 => Nat.le_refl _
  | p + 1 => by
    rw [s_V]
    have := s_V_le (ct := ct) hT p
    omega
theorem s_W_le {ct cd : Nat → Int32} {ns nt np nc T : Nat} (h : c_ok ct cd ns nt np nc) (hT : T < 11520) : s_W ct np T ≤ 240 := by
  have h1 := s_W_V (ct := ct) (np := np) (fun p hp => by obtain ⟨_, _, c, _, _, hc, _, _, ec⟩ := h.2.2.1 p hp; exact ⟨c, hc, ec⟩) T
  have h2 := s_V_le (ct := ct) hT np
  have := h.1.2.2.2.2.2
  omega
/-- minutes, one behind another: the state, and how many rides end -/
def s_its (ct cd : Nat → Int32) (ns nt np nc : Nat) : Nat → (Nat → Int32) → Nat → Int32
  | 0, st => st
  | m + 1, st => s_its ct cd ns nt np nc m (s_min ct cd ns nt np nc st)
def s_e1 (ct : Nat → Int32) (ns nt : Nat) (st : Nat → Int32) : Int32 := st 204 - nI (s_m2 ct ns nt st).1
def s_en (ct cd : Nat → Int32) (ns nt np nc : Nat) : Nat → (Nat → Int32) → Int32
  | 0, _ => 0
  | m + 1, st => s_e1 ct ns nt st + s_en ct cd ns nt np nc m (s_min ct cd ns nt np nc st)
theorem s_its_add (ct cd : Nat → Int32) (ns nt np nc : Nat) : ∀ m st, s_its ct cd ns nt np nc (m + 1) st = s_min ct cd ns nt np nc (s_its ct cd ns nt np nc m st)
  | 0, _ => rfl
  | m + 1, st => s_its_add ct cd ns nt np nc m (s_min ct cd ns nt np nc st)
/-- a state at the time T, behind at most kk rents -/
def p_ok (st : Nat → Int32) (d : Nat) : Prop := ∀ p, p < 64 → (∃ b, b ≤ d ∧ st (76 + p) = nI b) ∧ (¬ st (76 + p) = 0 → ∃ e, e < d ∧ st (140 + p) = nI (e + 1))
def AV (M : zM) (F : Nat → Nat → Int32) (a c : Nat) (ct cd st : Nat → Int32) (ns nt np nc kk T : Nat) : Prop := ∃ d R l, RS M F a c ct cd st ns nt np nc d R l ∧ (n_ok ct st ns nt ∧ p_ok st d) ∧ st 0 = nI T ∧ (∀ x ∈ R, T < x.1) ∧ d ≤ kk + s_W ct np T
/-- nothing happens ahead of the time N -/
def NX (ct st : Nat → Int32) (nt np T N : Nat) : Prop := (∀ t, t < nt → ¬ s_tr st t 2 = -1 → N ≤ ix (s_tr st t 2)) ∧ (∀ r, r < 1024 → st 204 = nI r → ∀ k, k < r → N ≤ ix (st (205 + 3 * k))) ∧ (∀ p, p < np → ∀ T', T < T' → T' < N → ¬ ct (108 + p) = nI (T' % 1440))
/-- what the model's minute needs -/
def PV (st : Nat → Int32) (ns nt T : Nat) : Prop := (∀ t, t < nt → ∃ q, t_ok st ns t q) ∧ st 0 = nI T ∧ ∃ r, r < 800 ∧ r_ok st ns r
section PA1
variable {β : Type} {M : zM} {F : Nat → Nat → Int32} {ct cd st : Nat → Int32} {a c d ns nt np nc kk T N : Nat} {R : List zRd} {l : List Nat}
theorem RS_len (hS : RS M F a c ct cd st ns nt np nc d R l) : R.length ≤ d ∧ d ≤ 768 := by
  obtain ⟨E, hX, hP, hTr, ⟨hr1, hr2, hr3, hr4⟩, hrr, ⟨hl1, hl2, hl3⟩, hrn, hok⟩ := hS
  have := len_rn (d := d) R 0 hrn (fun x hx => ⟨Nat.zero_le _, (hok x hx).2.1⟩)
  omega
theorem AV_PV (h : AV M F a c ct cd st ns nt np nc kk T) : PV st ns nt T := by
  obtain ⟨d, R, l, hS, hn, hT, hg, hd⟩ := h
  have hl := RS_len hS
  obtain ⟨E, hX, hP, hTr, ⟨hr1, hr2, hr3, hr4⟩, hrr, ⟨hl1, hl2, hl3⟩, hrn, hok⟩ := hS
  refine ⟨fun t ht => ?_, hT, R.length, by omega, hr2, fun k hk => ?_⟩
  · obtain ⟨q, hq⟩ := hTr t ht
    exact ⟨q, hq.1⟩
  · have e : R[k]? = some R[k] := List.getElem?_eq_getElem hk
    have h1 := hrr k _ e
    have h2 := hok _ (List.getElem_mem hk)
    exact ⟨_, _, h2.2.2.2, h2.2.2.1, h1.2.1, h1.2.2⟩
theorem kx_nextN (h : AV M F a c ct cd st ns nt np nc kk T) (hT1 : T < 12000) : ∃ N, N < 2 ^ 31 ∧ NX ct st nt np T N ∧ ∀ f : Int32 → zP β, (z_bd (p_X5_nextEvent a) f).1 (KI M F) = (f (nI N)).1 (KI M F) := by
  obtain ⟨d, R, l, hS, hn, hT, hg, hd⟩ := h
  have hk := fun f : Int32 → zP β => kx_next (f := f) hS hT hT1
  have hlen := RS_len hS
  obtain ⟨E, hX, hP, hTr, ⟨hr1, hr2, hr3, hr4⟩, hrr, ⟨hl1, hl2, hl3⟩, hrn, hok⟩ := hS
  obtain ⟨⟨hL, hcy, hC, hdis⟩, ⟨rc, hcok⟩, rb, r0⟩ := id E
  have h8 := EN_ns E
  have hcl : ∀ y ∈ R, cX y < 2 ^ 31 := fun y hy => by
    have hy2 := hok y hy
    exact cN_lt hy2.1 (by have := hy2.2.1; omega) (by have := hy2.2.2.1; omega) (by have := hy2.2.2.2; omega)
  have hl31 : ∀ z ∈ l, z < 2 ^ 31 := fun z hz => by
    obtain ⟨y, hy, ey⟩ := List.mem_map.mp (hl2.mem_iff.mp hz)
    rw [← ey]
    exact hcl y hy
  have h1 := s_nt_le st (s_n0 l) nt
  have h2 := s_np_le ct T (s_nt st (s_n0 l) nt) np
  have h0 := s_n0_lt hl31
  have hn0 : ∀ y ∈ R, s_n0 l ≤ y.1 := fun y hy => by
    have hm : cX y ∈ l := hl2.mem_iff.mpr (List.mem_map.mpr ⟨y, hy, rfl⟩)
    have hy2 := hok y hy
    have hdiv : cX y / 65536 = y.1 := by
      have h1 := hy2.2.1
      have h2 := hy2.2.2.1
      have h3 := hy2.2.2.2
      show cN y.1 y.2.1 y.2.2.1 y.2.2.2 / 65536 = y.1
      unfold cN
      omega
    cases l with
    | nil => cases hm
    | cons z l =>
      show z / 65536 ≤ y.1
      rw [← hdiv]
      rcases List.mem_cons.mp hm with e | e
      · rw [e]; exact Nat.le_refl _
      · have := (List.pairwise_cons.mp hl3).1 _ e
        exact Nat.div_le_div_right (by omega)
  refine ⟨_, ?_, ⟨?_, ?_, ?_⟩, hk⟩
  · have := h2.1; have := h1.1; omega
  · intro t ht hne
    have := h1.2 t ht hne
    have := h2.1
    omega
  · intro r hr er k hkr
    have e : r = R.length := (nI_eq (by omega) (by omega)).mp (er.symm.trans hr2)
    subst e
    have e : R[k]? = some R[k] := List.getElem?_eq_getElem hkr
    have h3 := hrr k _ e
    have h4 := hok _ (List.getElem_mem hkr)
    have h5 := hn0 _ (List.getElem_mem hkr)
    rw [h3.1, ix_nI (by have := h4.1; omega)]
    have := h2.1; have := h1.1; omega
  · intro p hp T' ha hb e
    obtain ⟨_, _, m, _, _, hm, _, _, em⟩ := hcok.2.2.1 p hp
    have hq := s_pv_q em hm ha (by have := h2.2 p hp; omega)
    rw [em] at e
    exact hq ((nI_eq (by omega) (by have := Nat.mod_lt T' (show 0 < 1440 by decide); omega)).mp e).symm
theorem NX_tick (h : NX ct st nt np T N) (v : Int32) (hnt : nt ≤ 3) : NX ct (s_up st 0 v) nt np (T + 1) N := by
  refine ⟨fun t ht => ?_, fun r hr e k hk => ?_, fun p hp T' h1 h2 => h.2.2 p hp T' (by omega) h2⟩
  · rw [show s_tr (s_up st 0 v) t 2 = s_tr st t 2 from s_upn _ _ (by omega)]
    exact h.1 t ht
  · rw [s_upn _ _ (by omega)] at e ⊢
    exact h.2.1 r hr e k hk
/-- a quiet minute -/
theorem min_q (h : PV st ns nt T) (hN : NX ct st nt np T N) (hT : T < 12000) (hlt : T + 1 < N) (hnt : nt ≤ 3) (hns : ns ≤ 8) : s_min ct cd ns nt np nc st = s_up st 0 (nI (T + 1)) ∧ s_e1 ct ns nt st = 0 := by
  obtain ⟨hv, h0, r, hr, hrr⟩ := h
  have e0 : st 0 + 1 = nI (T + 1) := by rw [h0, nI_1]
  have hu0 : s_up st 0 (nI (T + 1)) 0 = nI (T + 1) := s_ups _ _ _
  have htl : s_tl ct (s_up st 0 (nI (T + 1))) nt = s_up st 0 (nI (T + 1)) := s_tl_q (fun t ht => by
    obtain ⟨q, hq⟩ := hv t ht
    rcases hq.1 with ⟨p, hp, e1, _, _⟩ | ⟨e1, _, b, hb, e2⟩
    · refine Or.inl ?_
      rw [show s_tr (s_up st 0 (nI (T + 1))) t 0 = s_tr st t 0 from s_upn _ _ (by omega), e1]
      exact nI_pos' (by omega)
    · refine Or.inr ?_
      rw [hu0, show s_tr (s_up st 0 (nI (T + 1))) t 2 = s_tr st t 2 from s_upn _ _ (by omega), e2]
      have hne : ¬ s_tr st t 2 = -1 := by rw [e2]; exact nI_nm1 (by omega)
      have := hN.1 t ht hne
      rw [e2, ix_nI (by omega)] at this
      exact fun e => by have := (nI_eq (by omega) (by omega)).mp e; omega) nt (Nat.le_refl _)
  have hq : ∀ k, k < r → ¬ s_up st 0 (nI (T + 1)) (205 + 3 * k) = s_up st 0 (nI (T + 1)) 0 := fun k hk => by
    rw [hu0, s_upn _ _ (by omega)]
    have := hN.2.1 r (by omega) hrr.1 k hk
    intro e
    rw [e, ix_nI (by omega)] at this
    omega
  have hr2 : s_up st 0 (nI (T + 1)) 204 = nI r := (s_upn _ _ (by omega)).trans hrr.1
  refine ⟨?_, ?_⟩
  · rw [s_min_eq hrr.1 (by omega), e0, htl, s_rd2_q hq hr2]
    refine s_tp_q (fun p hp => ?_) np (Nat.le_refl _)
    rw [hu0, show (1440 : Int32) = nI 1440 from rfl, pk_rem (by omega) (by decide) (by decide)]
    exact hN.2.2 p hp (T + 1) (by omega) hlt
  · unfold s_e1
    rw [s_m2_eq hrr.1 (by omega), e0, htl, s_rl_q hq r (Nat.le_refl _), hrr.1, Int32.sub_self]
theorem p_ok_fr {st' : Nat → Int32} (h : p_ok st d) (he : ∀ j, 76 ≤ j → j < 204 → st' j = st j) : p_ok st' d := fun p hp => by
  rw [he _ (by omega) (by omega), he _ (by omega) (by omega)]
  exact h p hp
theorem p_ok_beg {j k n r : Nat} (h : p_ok st d) (h3 : st 3 = nI d) (hd : d < 2000) (hj : j < 8) (hk : k < 8) : p_ok (s_beg ct cd st n r j k) (d + 1) := fun p hp => by
  have hsv := s_beg_v (ct := ct) (cd := cd) (st := st) (n := n) (r := r) hj hk
  obtain ⟨⟨b, hb, eb⟩, he⟩ := h p hp
  by_cases e : p = 8 * j + k
  · subst e
    refine ⟨⟨b + 1, by omega, by rw [hsv.2.2.2.1, eb, nI_1]⟩, fun _ => ?_⟩
    rw [hsv.2.2.2.2.1]
    by_cases h0 : st (76 + (8 * j + k)) = 0
    · rw [if_pos h0]
      exact ⟨d, by omega, by rw [h3, nI_1]⟩
    · rw [if_neg h0]
      obtain ⟨e, h1, h2⟩ := he h0
      exact ⟨e, by omega, h2⟩
  · rw [s_beg_o (by omega), s_beg_o (by omega)]
    refine ⟨⟨b, by omega, eb⟩, fun h0 => ?_⟩
    obtain ⟨e, h1, h2⟩ := he h0
    exact ⟨e, by omega, h2⟩
theorem p_ok_tp (hc : c_ok ct cd ns nt np nc) (h : p_ok st d) (h3 : st 3 = nI d) (hd : d ≤ 900) : ∀ p, p ≤ np → ∃ d2, d2 ≤ d + p ∧ s_tp ct cd nc st p 3 = nI d2 ∧ p_ok (s_tp ct cd nc st p) d2
  | 0, _ => ⟨d, Nat.le_refl _, h3, h⟩
  | p + 1, hp => by
    obtain ⟨d2, h1, h2, h4⟩ := p_ok_tp hc h h3 hd p (by omega)
    have hnp := hc.1.2.2.2.2.2
    have hns := hc.1.2.1
    obtain ⟨x, y, _, hx, hy, _, ex, ey, _⟩ := hc.2.2.1 p (by omega)
    rw [s_tp]
    split
    · split
      · exact ⟨d2, by omega, (s_upn _ _ (by decide)).trans h2, p_ok_fr h4 (fun j _ _ => s_upn _ _ (by omega))⟩
      · rw [ex, ey, ix_nI (by omega), ix_nI (by omega)]
        refine ⟨d2 + 1, by omega, ?_, p_ok_beg h4 h2 (by omega) (by omega) (by omega)⟩
        rw [(s_beg_v (by omega) (by omega)).2.2.1, h2, nI_1]
    · exact ⟨d2, by omega, h2, h4⟩
theorem p_ok_min (hP : PV st ns nt T) (hc : c_ok ct cd ns nt np nc) (hT : T < 11998) (h : p_ok st d) (h3 : st 3 = nI d) (hd : d ≤ 900) : ∃ d2, d2 ≤ d + np ∧ s_min ct cd ns nt np nc st 3 = nI d2 ∧ p_ok (s_min ct cd ns nt np nc st) d2 := by
  obtain ⟨hv, h0, r, hr, hrr⟩ := hP
  have hns := hc.1.2.1
  have hnt := hc.1.2.2.2.1
  have hv1 : ∀ t, t < nt → ∃ q, t_ok (s_up st 0 (st 0 + 1)) ns t q := fun t ht => by
    obtain ⟨q, hq⟩ := hv t ht
    exact ⟨q, t_ok_eq (fun i hi => s_upn _ _ (by omega)) hq⟩
  have hb1 : ∃ b, b < 12000 ∧ (s_up st 0 (st 0 + 1)) 0 = nI b := ⟨T + 1, by omega, by rw [s_ups, h0, nI_1]⟩
  have hT1 := (s_tl_ok (ct := ct) hns hv1 hb1 (dr_ok hc) nt (Nat.le_refl _)).1
  have hv2 : ∀ k, k < r → ∃ s, s < ns ∧ s_m1 ct nt st (205 + 3 * k + 1) = nI s := fun k hk => by
    obtain ⟨a, b, ha, _, h1, _⟩ := hrr.2 k hk
    refine ⟨a, ha, ?_⟩
    unfold s_m1
    rw [hT1 _ (by omega), s_upn _ _ (by omega)]
    exact h1
  have hR := s_rl_o (ct := ct) hns hv2 r (Nat.le_refl _)
  have ho : ∀ j, (j = 3 ∨ (76 ≤ j ∧ j < 204)) → (s_up (s_m2 ct ns nt st).2 204 (nI (s_m2 ct ns nt st).1)) j = st j := fun j hj => by
    rw [s_upn _ _ (by omega)]
    unfold s_m2
    rw [hrr.1, ix_nI (by omega), hR j (by omega)]
    unfold s_m1
    rw [hT1 _ (by omega), s_upn _ _ (by omega)]
  exact p_ok_tp hc (p_ok_fr h (fun j h1 h2 => ho j (Or.inr ⟨h1, h2⟩))) ((ho 3 (Or.inl rfl)).trans h3) hd np (Nat.le_refl _)
theorem AV_c (h : AV M F a c ct cd st ns nt np nc kk T) : c_ok ct cd ns nt np nc ∧ LZ a M := by
  obtain ⟨d, R, l, hS, _⟩ := h
  exact ⟨hS.1.2.1.2, hS.1.1.1⟩
theorem fr5_up {v : Int32} {k y0 : Nat} (h : a ≤ y0 ∧ y0 < a + 17) : fr5 a c F (z_up2 F y0 k v) := fun y y1 _ => u2_row _ _ (by omega)
theorem fr5_tr {F1 F2 : Nat → Nat → Int32} (h : fr5 a c F F1) (k : fr5 a c F1 F2) : fr5 a c F F2 := fun y y1 y2 => (k y y1 y2).trans (h y y1 y2)
theorem fr5_rf : fr5 a c F F := fun _ _ _ => rfl
/-- the clock of a quiet minute -/
theorem AV_q (h : AV M F a c ct cd st ns nt np nc kk T) (hN : NX ct st nt np T N) (hT : T < 12000) (hlt : T + 1 < N) : AV M (z_up2 F a 7 (nI (T + 1))) a c ct cd (s_min ct cd ns nt np nc st) ns nt np nc kk (T + 1) := by
  have hP := AV_PV h
  have hc := (AV_c h).1
  rw [(min_q hP hN hT hlt hc.1.2.2.2.1 hc.1.2.1).1]
  obtain ⟨d, R, l, hS, hn, h0, hg, hd⟩ := h
  have e0 : st 0 + 1 = nI (T + 1) := by rw [h0, nI_1]
  have hS2 := RS_tick hS
  have hn2 := n_ok_tick hn.1 hc.1.2.1
  have hlen := RS_len hS
  rw [e0] at hS2 hn2
  refine ⟨d, R, l, hS2, ⟨hn2, p_ok_fr hn.2 (fun j _ _ => s_upn _ _ (by omega))⟩, s_ups _ _ _, fun x hx => ?_, ?_⟩
  · obtain ⟨k, hk, ek⟩ := List.getElem_of_mem hx
    have h1 := hS.2.2.2.2.2.1 k x (by rw [List.getElem?_eq_getElem hk, ek])
    have h2 := hN.2.1 R.length (by omega) hS.2.2.2.2.1.2.1 k hk
    have h3 := (hS.2.2.2.2.2.2.2.2 x hx).1
    rw [h1.1, ix_nI (by omega)] at h2
    omega
  · rw [s_W]
    omega
/-- a minute in which something may happen -/
theorem AV_hap (h : AV M F a c ct cd st ns nt np nc kk T) (hk : kk ≤ 512) (hT : T < 11510) : ∃ G, (p_X5_happen a).1 (KI M (z_up2 F a 7 (nI (T + 1)))) = some (.inr (s_e1 ct ns nt st), KI M G) ∧ AV M G a c ct cd (s_min ct cd ns nt np nc st) ns nt np nc kk (T + 1) ∧ fr5 a c F G := by
  have hPV := AV_PV h
  have hc := (AV_c h).1
  obtain ⟨d, R, l, hS, hn, h0, hg, hd⟩ := h
  have e0 : st 0 + 1 = nI (T + 1) := by rw [h0, nI_1]
  have hlen := RS_len hS
  have hS2 := RS_tick hS
  have hn2 := n_ok_tick hn.1 hc.1.2.1
  rw [e0] at hS2 hn2
  have hu0 : s_up st 0 (nI (T + 1)) 0 = nI (T + 1) := s_ups _ _ _
  have hm : nI (T + 1) - nI (T + 1) / 1440 * 1440 = nI ((T + 1) % 1440) := pk_rem (d := 1440) (by omega) (by decide) (by decide)
  have hW := s_W_le (T := T + 1) hc (by omega)
  rw [s_W] at hW
  obtain ⟨G, R', l', d', k1, S1, n1, c1, t1, g1, f1⟩ := kx_hap hS2 hn2 (rd_ok hc) (dr_ok hc) (T := T + 1) (by omega) hu0 (fun x hx => hg x hx) (by rw [hu0, hm]; omega)
  rw [hu0, hm] at c1
  rw [← e0, ← s_min_eq hS.2.2.2.2.1.2.1 (by omega)] at S1 n1 t1
  rw [← e0, ← s_m2_eq hS.2.2.2.2.1.2.1 (by omega), ← hS.2.2.2.2.1.2.1] at k1
  rw [e0] at k1
  have hlen1 := RS_len S1
  obtain ⟨d2, q1, q2, q3⟩ := p_ok_min hPV hc (by omega) hn.2 hS.2.2.2.2.1.2.2.1 (by omega)
  have hnp := hc.1.2.2.2.2.2
  have hdd : d' = d2 := (nI_eq (by omega) (by omega)).mp (S1.2.2.2.2.1.2.2.1.symm.trans q2)
  subst hdd
  refine ⟨G, k1, ⟨d', R', l', S1, ⟨n1, q3⟩, ?_, g1, ?_⟩, fr5_tr (fr5_up (by omega)) f1⟩
  · rw [t1, s_ups, e0]
  · rw [s_W]
    omega
theorem AV_step (h : AV M F a c ct cd st ns nt np nc kk T) (hk : kk ≤ 512) (hT : T < 11510) : ∃ G, AV M G a c ct cd (s_min ct cd ns nt np nc st) ns nt np nc kk (T + 1) := by
  obtain ⟨G, _, h2, _⟩ := AV_hap h hk hT
  exact ⟨G, h2⟩
theorem AV_its (hk : kk ≤ 512) : ∀ m F st T, AV M F a c ct cd st ns nt np nc kk T → T + m ≤ 11510 → ∃ G, AV M G a c ct cd (s_its ct cd ns nt np nc m st) ns nt np nc kk (T + m)
  | 0, F, st, T, h, _ => ⟨F, h⟩
  | m + 1, F, st, T, h, hT => by
    obtain ⟨G, h2⟩ := AV_step h hk (by omega)
    obtain ⟨G2, h3⟩ := AV_its hk m G _ (T + 1) h2 (by omega)
    refine ⟨G2, ?_⟩
    rw [show T + (m + 1) = T + 1 + m by omega]
    exact h3
end PA1
