/-! ===== PHASE 2: append ===== -/
def w_b (w t : Int32) : Int32 := ((w >>> (t &&& 31)) : Int32).toInt8.toInt32.toInt8.toInt32
def w_sh : Nat → Int32
  | 0 => 24
  | 1 => 16
  | 2 => 8
  | 3 => 0
  | _ => -8
def f_apk (g : Nat → Int32) (n : Nat) (w : Int32) : Nat → Nat → Int32
  | 0 => g
  | k + 1 => s_up (f_apk g n w k) (n + k) (w_b w (w_sh k))
def f_ap5 (g : Nat → Int32) (n : Nat) (a b c d e : Int32) : Nat → Int32 := f_apk (f_apk (f_apk (f_apk (f_apk g n a 4) (n + 4) b 4) (n + 8) c 4) (n + 12) d 4) (n + 16) e 4
section PA26
variable {β : Type} {M : zM} {F : Nat → Nat → Int32} {ct cd st bf : Nat → Int32} {i j k q c sp n ns nt np nc L : Nat} {H : List (Nat → Int32)} {S : Nat → Option (Nat → Int32)} {v w x y code : Int32} {xs : Nat → Int32} {f : Unit → zP β}
variable {G : Nat → Nat → Int32} {g h : Nat → Int32} {m : Nat} {c' : Int32} {n' : Nat} {bf' : Nat → Int32}
theorem f_apk_eq {w : Int32} (he : ∀ q, q < m → g q = h q) : ∀ k q, q < m + k → f_apk g m w k q = f_apk h m w k q
  | 0, q, hq => he q hq
  | k + 1, q, hq => by
    show s_up (f_apk g m w k) (m + k) (w_b w (w_sh k)) q = s_up (f_apk h m w k) (m + k) (w_b w (w_sh k)) q
    by_cases e : q = m + k
    · rw [e, s_ups, s_ups]
    · rw [s_upn _ _ e, s_upn _ _ e]
      exact f_apk_eq he k q (by omega)
theorem f_apk_rg {w : Int32} (he : ∀ q, q < m → ∃ b : Int8, g q = b.toInt32) : ∀ k q, q < m + k → ∃ b : Int8, f_apk g m w k q = b.toInt32
  | 0, q, hq => he q hq
  | k + 1, q, hq => by
    show ∃ b : Int8, s_up (f_apk g m w k) (m + k) (w_b w (w_sh k)) q = b.toInt32
    by_cases e : q = m + k
    · rw [e, s_ups]
      exact ⟨_, rfl⟩
    · rw [s_upn _ _ e]
      exact f_apk_rg he k q (by omega)
theorem f_ap5_eq {a b c d e : Int32} (he : ∀ q, q < n → g q = h q) : ∀ q, q < n + 20 → f_ap5 g n a b c d e q = f_ap5 h n a b c d e q := fun q hq => f_apk_eq (f_apk_eq (f_apk_eq (f_apk_eq (f_apk_eq he 4) 4) 4) 4) 4 q (by omega)
theorem f_ap5_rg {a b c d e : Int32} (he : ∀ q, q < n → ∃ b : Int8, g q = b.toInt32) : ∀ q, q < n + 20 → ∃ x : Int8, f_ap5 g n a b c d e q = x.toInt32 := fun q hq => f_apk_rg (f_apk_rg (f_apk_rg (f_apk_rg (f_apk_rg he 4) 4) 4) 4) 4 q (by omega)
theorem up2_id (F : Nat → Nat → Int32) (a k : Nat) : z_up2 F a k (F a k) = F := by
  funext y j
  unfold z_up2
  split
  · rename_i e; rw [e.1, e.2]
  · rfl
theorem k0_s1 {f : Unit → zP β} (h : L0 M) (hm : m < 700) : (z_bd (z_sB 1 (nI m) v) f).1 (KI M F) = (f ()).1 (KI M (z_up2 F 1 m v.toInt8.toInt32)) := by
  refine (e_sB (n_in (M := KI M F) (k0_ar1 h).1 (k0_ar1 h).2 hm (by decide))).trans ?_
  rw [nI_clamp (by omega)]
  rfl
theorem w_step {u o fl : Nat} (huo : u ≠ o) {x y : Int32} : z_up2 (z_up2 (z_up2 (z_up1 F u g) o fl x) u m v) o fl y = z_up2 (z_up1 F u (s_up g m v)) o fl y := by
  funext z j
  by_cases e : z = o ∧ j = fl
  · rw [e.1, e.2, u2_s, u2_s]
  · have e' : z ≠ o ∨ j ≠ fl := by omega
    rw [u2_n _ _ e', u2_n _ _ e']
    by_cases e2 : z = u
    · subst e2
      rw [u1_s]
      by_cases e3 : j = m
      · rw [e3, u2_s, s_ups]
      · rw [u2_n _ _ (Or.inr e3), u2_n _ _ e', u1_s, s_upn _ _ e3]
    · rw [u2_n _ _ (Or.inl e2), u2_n _ _ e', u1_n _ _ e2, u1_n _ _ e2]
theorem c_word {f : Unit → zP β} {w : Int32} (h0 : L0 M) (hm : m + 4 ≤ 700) : (z_bd (p_X8_appendWord 0 w) f).1 (KI M (z_up2 (z_up1 F 1 g) 0 8 (nI m))) = (f ()).1 (KI M (z_up2 (z_up1 F 1 (f_apk g m w 4)) 0 8 (nI (m + 4)))) := by
  refine e_run ?_
  unfold p_X8_appendWord
  refine lp_cnt 4 w_sh (fun k => KI M (z_up2 (z_up1 F 1 (f_apk g m w k)) 0 8 (nI (m + k)))) _ _ ?_ ?_
  · intro k hk
    have hs : ¬ w_sh k < 0 ∧ w_sh k + (-8) = w_sh (k + 1) := by
      obtain rfl | rfl | rfl | rfl : k = 0 ∨ k = 1 ∨ k = 2 ∨ k = 3 := by omega
      all_goals decide
    have h7 : ¬ (700 : Int32) ≤ nI (m + k) := nI_ge (b := 700) (by omega) (by omega)
    have hm7 : m + k < 700 := by omega
    rw [if_neg hs.1, k0_gI0 h0, u2_s, if_neg h7, k0_g0_0 h0, k0_gI0 h0, u2_s, k0_s1 h0 hm7, k0_gI0 h0, u2_n _ _ (by omega), u2_s, nI_1, k0_pI0 h0, hs.2, w_step (by omega)]
    rfl
  · rfl
theorem m_word {f : Unit → zP β} {w : Int32} (h9 : L9 M) (hm : m + 4 ≤ 700) : (z_bd (p_X9_appendInt 75 w) f).1 (KI M (z_up2 (z_up1 F 76 g) 75 2 (nI m))) = (f ()).1 (KI M (z_up2 (z_up1 F 76 (f_apk g m w 4)) 75 2 (nI (m + 4)))) := by
  refine e_run ?_
  unfold p_X9_appendInt
  refine lp_cnt 4 w_sh (fun k => KI M (z_up2 (z_up1 F 76 (f_apk g m w k)) 75 2 (nI (m + k)))) _ _ ?_ ?_
  · intro k hk
    have hs : ¬ w_sh k < 0 ∧ w_sh k + (-8) = w_sh (k + 1) := by
      obtain rfl | rfl | rfl | rfl : k = 0 ∨ k = 1 ∨ k = 2 ∨ k = 3 := by omega
      all_goals decide
    have hm7 : m + k < 700 := by omega
    rw [if_neg hs.1, kn_g76 h9, kn_gI h9, u2_s, kn_s76 h9 hm7, kn_gI h9, u2_n _ _ (by omega), u2_s, nI_1, kn_pI h9, hs.2, w_step (by omega)]
    rfl
  · rfl
theorem CI_buf (h : CI k M c sp ct cd ns nt np nc st H S n bf) (hF : ∀ y, y ≠ 0 → y ≠ 1 → G y = z_i M y) (h8 : G 0 8 = nI n') (hn : n' ≤ 700) (hb : ∀ i, i < n' → G 1 i = bf' i) : CI k (KI M G) c sp ct cd ns nt np nc st H S n' bf' := by
  obtain ⟨⟨h0, hz, hc, hr, hs⟩, ⟨T, hT, hA⟩, ⟨fs, f1, f2, f3, f4, f5⟩, hS, b1, b2, b3⟩ := h
  have up : ∀ {b T2 : Nat} {s : Nat → Int32}, 41 ≤ b → AV M (z_i M) b c ct cd s ns nt np nc k T2 → AV (KI M G) G b c ct cd s ns nt np nc k T2 := fun hb h => AV_F h (fun y y1 y2 => hF y (by omega) (by omega)) (fun y y1 y2 => hF y (by omega) (by omega))
  refine ⟨⟨h0, hz, hc, hr, hs⟩, ⟨T, hT, up (by omega) hA⟩, ⟨fs, f1, f2, ?_, ?_, fun i s hi => ?_⟩, fun i hi => ⟨fun e => ?_, fun s e => ?_⟩, h8, hn, hb⟩
  · show G 4 1 = _
    rw [hF 4 (by omega) (by omega)]; exact f3
  · show G 4 2 = _
    rw [hF 4 (by omega) (by omega)]; exact f4
  · obtain ⟨x, T2, x1, x2, x3⟩ := f5 i s hi
    have hm : (fs + i) % 10 < 10 := Nat.mod_lt _ (by decide)
    have h1 := (hs.1 ((fs + i) % 10) x (by omega) (by rw [sref_h hm]; exact x1)).1
    exact ⟨x, T2, x1, x2, up (by omega) x3⟩
  · show G 14 i = 0
    rw [hF 14 (by omega) (by omega)]; exact (hS i hi).1 e
  · obtain ⟨e1, x, T2, x1, x2, x3⟩ := (hS i hi).2 s e
    have h1 := (hs.1 (10 + i) x (by omega) (by rw [sref_s]; exact x1)).1
    refine ⟨?_, x, T2, x1, x2, up (by omega) x3⟩
    show G 14 i = 1
    rw [hF 14 (by omega) (by omega)]; exact e1
theorem cres_buf {α : Type} {pc : zP α} {a : α} (h : CI k M c sp ct cd ns nt np nc st H S n bf) (hp : pc.1 M = some (.inr a, KI M G)) (hF : ∀ y, y ≠ 0 → y ≠ 1 → G y = z_i M y) (h8 : G 0 8 = nI n') (hn : n' ≤ 700) (hb : ∀ i, i < n' → G 1 i = bf' i) : cres pc k M a c sp ct cd ns nt np nc st H S n' bf' := ⟨KI M G, hp, CI_kk (CI_buf h hF h8 hn hb) (by omega), id, fun y y1 y2 => hF y (by omega) (by omega), by show z_nx M ≤ _; omega, by show z_sl M ≤ _; omega⟩
theorem mres_buf {pm : zP Int32} (h : MI M ct cd st H S n bf) (hp : pm.1 M = some (.inr v, KI M G)) (h0 : G 75 0 = code) (hF : ∀ y, y ≠ 75 → y ≠ 76 → G y = z_i M y) (h21 : G 75 21 = z_i M 75 21) (h2 : G 75 2 = nI n') (hb : ∀ i, i < n' → G 76 i = bf' i ∧ ∃ b : Int8, bf' i = b.toInt32) : mres pm M v code ct cd st H S n' bf' := by
  refine ⟨G, hp, h0, fun y hy => hF y (by omega) (by omega), ?_⟩
  show L9 M ∧ (G 78 = ct ∧ G 80 = cd ∧ G 83 = st) ∧ (G 75 21 = nI H.length ∧ ∀ i s, H[i]? = some s → ∀ j, j < 3277 → G 84 (3277 * i + j) = s j) ∧ (∀ i, i < 2 → (S i = none → G 86 i = 0) ∧ ∀ s, S i = some s → G 86 i = 1 ∧ ∀ j, j < 3277 → G 85 (3277 * i + j) = s j) ∧ (G 75 2 = nI n' ∧ ∀ i, i < n' → G 76 i = bf' i ∧ ∃ b : Int8, bf' i = b.toInt32)
  rw [hF 78 (by omega) (by omega), hF 80 (by omega) (by omega), hF 83 (by omega) (by omega), hF 84 (by omega) (by omega), hF 86 (by omega) (by omega), hF 85 (by omega) (by omega), h21]
  exact ⟨h.1, h.2.1, h.2.2.1, h.2.2.2.1, h2, hb⟩
theorem L_c0 (hI : CI k M c sp ct cd ns nt np nc st H S n bf) (hm : MI M ct cd st H S n bf) (hi : i + 6 ≤ L) (hL : L ≤ 3072) : STEP (p_L_c0 xs L 0 75 95 (nI i)) k M i := by
  have hc := CI_c hI
  have hns := hc.1.2.1
  have hnt := hc.1.2.2.2.1
  obtain ⟨h0, hcy, hC, T, d, R, l, hT, hS, hn, hst0, hg, hd⟩ := CI_un hI
  have E := CI_E hI
  have hL41 := E.1.1
  unfold p_L_c0
  rw [show nI i + 1 = nI (i + 1) from oL_addr 1 i, show nI i + 2 = nI (i + 2) from oL_addr 2 i, show nI i + 3 = nI (i + 3) from oL_addr 3 i, show nI i + 4 = nI (i + 4) from oL_addr 4 i, show nI i + 5 = nI (i + 5) from oL_addr 5 i]
  simp only [z_xs_ok (xs := xs) (show i + 1 < L by omega) hL, z_xs_ok (xs := xs) (show i + 2 < L by omega) hL, z_xs_ok (xs := xs) (show i + 3 < L by omega) hL, z_xs_ok (xs := xs) (show i + 4 < L by omega) hL, z_xs_ok (xs := xs) (show i + 5 < L by omega) hL, b_pu]
  obtain ⟨hb1, hb2, hb3⟩ := hI.2.2.2.2
  obtain ⟨_, _, _, _, hm2, hmb⟩ := id hm
  by_cases hn2 : n + 20 ≤ 700
  case neg =>
    have hne : ¬ nI n + 20 ≤ 700 := by rw [show nI n + 20 = nI (n + 20) from oL_addr 20 n]; exact nI_ge (a := 700) (by omega) (by omega)
    refine glue_p hI hm (v := -1) (cres_of hI ?_) (fun M1 h1 => mres_th h1 ?_)
    · unfold p_X8_append
      show (z_bd (z_gI 8 0 8) _).1 (KI M (z_i M)) = _
      rw [k0_gI0 h0, hb1, if_neg hne]
      rfl
    · have h9 := h1.1
      have e2 := h1.2.2.2.2.1
      unfold p_X9_append
      show (z_bd (z_pI 9 75 0 0) _).1 (KI M1 (z_i M1)) = _
      rw [kn_pI h9, kn_gI h9, u2_n _ _ (by omega), e2, if_neg hne]
      rfl
  have hle : nI n + 20 ≤ 700 := by rw [show nI n + 20 = nI (n + 20) from oL_addr 20 n]; exact nI_le (b := 700) (by omega) (by omega)
  obtain ⟨g5, eg5⟩ : ∃ g5, g5 = f_ap5 bf n (xs (i + 1)) (xs (i + 2)) (xs (i + 3)) (xs (i + 4)) (xs (i + 5)) := ⟨_, rfl⟩
  refine glue_p hI hm (v := nI (n + 20)) (n' := n + 20) (bf' := g5) (cres_buf hI (G := z_up2 (z_up1 (z_i M) 1 (f_ap5 (z_i M 1) n (xs (i + 1)) (xs (i + 2)) (xs (i + 3)) (xs (i + 4)) (xs (i + 5)))) 0 8 (nI (n + 20))) ?_ ?_ ?_ hn2 ?_) (fun M1 h1 => mres_buf h1 (G := z_up2 (z_up1 (z_up2 (z_i M1) 75 0 0) 76 (f_ap5 (z_i M1 76) n (xs (i + 1)) (xs (i + 2)) (xs (i + 3)) (xs (i + 4)) (xs (i + 5)))) 75 2 (nI (n + 20))) ?_ ?_ ?_ ?_ ?_ ?_)
  · unfold p_X8_append
    show (z_bd (z_gI 8 0 8) _).1 (KI M (z_i M)) = _
    rw [k0_gI0 h0, hb1, if_pos hle]
    have hI0 : KI M (z_i M) = KI M (z_up2 (z_up1 (z_i M) 1 (z_i M 1)) 0 8 (nI n)) := by
      congr 1
      rw [up1_id, ← hb1, up2_id]
    rw [hI0, k0_cv0 h0, c_word h0 (by omega), k0_cv0 h0, c_word h0 (by omega), k0_cv0 h0, c_word h0 (by omega), k0_cv0 h0, c_word h0 (by omega), k0_cv0 h0, c_word h0 (by omega), k0_gI0 h0, u2_s]
    rfl
  · intro y y1 y2
    rw [u2_row _ _ y1, u1_n _ _ y2]
  · rw [u2_s]
  · intro q hq
    rw [u2_n _ _ (by omega), u1_s, eg5]
    exact f_ap5_eq (fun q hq => hb3 q hq) q hq
  · obtain ⟨h9, e78, e80, e83⟩ := MI_0 h1
    have e2 := h1.2.2.2.2.1
    unfold p_X9_append
    show (z_bd (z_pI 9 75 0 0) _).1 (KI M1 (z_i M1)) = _
    rw [kn_pI h9, kn_gI h9, u2_n _ _ (by omega), e2, if_pos hle]
    have hI0 : KI M1 (z_up2 (z_i M1) 75 0 0) = KI M1 (z_up2 (z_up1 (z_up2 (z_i M1) 75 0 0) 76 (z_i M1 76)) 75 2 (nI n)) := by
      congr 1
      have h1 : z_up1 (z_up2 (z_i M1) 75 0 0) 76 (z_i M1 76) = z_up2 (z_i M1) 75 0 0 := by
        have := up1_id (z_up2 (z_i M1) 75 0 0) 76
        rw [u2_row _ _ (by omega)] at this
        exact this
      rw [h1]
      have h2 := up2_id (z_up2 (z_i M1) 75 0 0) 75 2
      rw [u2_n _ _ (by omega), e2] at h2
      exact h2.symm
    rw [hI0, kn_cv h9, m_word h9 (by omega), kn_cv h9, m_word h9 (by omega), kn_cv h9, m_word h9 (by omega), kn_cv h9, m_word h9 (by omega), kn_cv h9, m_word h9 (by omega), kn_gI h9, u2_s]
    rfl
  · rw [u2_n _ _ (by omega), u1_n _ _ (by omega), u2_s]
  · intro y y1 y2
    rw [u2_row _ _ y1, u1_n _ _ y2, u2_row _ _ y1]
  · rw [u2_n _ _ (by omega), u1_n _ _ (by omega), u2_n _ _ (by omega)]
  · rw [u2_s]
  · intro q hq
    rw [u2_n _ _ (by omega), u1_s, eg5]
    exact ⟨f_ap5_eq (fun q hq => (h1.2.2.2.2.2 q hq).1) q hq, f_ap5_rg (fun q hq => (h1.2.2.2.2.2 q hq).2) q hq⟩
end PA26
