/-! ===== PHASE 2: the model with stack row g and state row st over a base memory ===== -/
def K9 (M : zM) (g st : Nat → Int32) : zM := z_wI (z_wI M 82 g) 83 st
theorem K9_eta (M : zM) : M = K9 M (z_i M 82) (z_i M 83) := by
  unfold K9
  rw [m_wI_id, m_wI_id]
theorem s_ups (f : Nat → Int32) (k : Nat) (v : Int32) : s_up f k v k = v := if_pos rfl
theorem s_upn (f : Nat → Int32) {k j : Nat} (v : Int32) (h : j ≠ k) : s_up f k v j = f j := if_neg h
section PK
variable {β : Type} {M : zM} {g st : Nat → Int32} {i j k n m t q : Nat} {v : Int32}
theorem K9_L (h : L9 M) : L9 (K9 M g st) := h
theorem K9_83 : z_i (K9 M g st) 83 = st := m_iW _ _ _
theorem K9_82 : z_i (K9 M g st) 82 = g := (m_iWn _ _ (by decide)).trans (m_iW _ _ _)
theorem K9_o (h1 : i ≠ 82) (h2 : i ≠ 83) : z_i (K9 M g st) i = z_i M i := (m_iWn _ _ h2).trans (m_iWn _ _ h1)
theorem K9_w82 (g' : Nat → Int32) : z_wI (K9 M g st) 82 g' = K9 M g' st := by
  unfold K9
  rw [m_wI_com _ _ _ (by decide), m_wI_wI]
theorem K9_w83 : z_wi (K9 M g st) 83 k v = K9 M g (s_up st k v) := by
  unfold K9
  rw [m_wi_wI]
theorem kk_cv {α : Type} {p : zP α} {f : α → zP β} (h : L9 M) : (z_bd (z_cv 9 75 p) f).1 (K9 M g st) = (z_bd p f).1 (K9 M g st) := q9_cv (K9_L h)
theorem kk_a83 {f : Int32 → zP β} (h : L9 M) (hk : k < 3277) : (z_bd (z_aI 11 83 (nI k)) f).1 (K9 M g st) = (f (st k)).1 (K9 M g st) := (q9_a83 (K9_L h) hk).trans (by rw [K9_83])
theorem kk_s83 {f : Unit → zP β} (h : L9 M) (hk : k < 3277) : (z_bd (z_sI 11 83 (nI k) v) f).1 (K9 M g st) = (f ()).1 (K9 M g (s_up st k v)) := (q9_s83 (K9_L h) hk).trans (by rw [K9_w83])
theorem kk_a78 {f : Int32 → zP β} (h : L9 M) (hk : k < 138) : (z_bd (z_aI 11 78 (nI k)) f).1 (K9 M g st) = (f (z_i M 78 k)).1 (K9 M g st) := (q9_a78 (K9_L h) hk).trans (by rw [K9_o (by decide) (by decide)])
theorem kk_g78 {f : Nat → zP β} (h : L9 M) : (z_bd (z_gA 9 75 11) f).1 (K9 M g st) = (f 78).1 (K9 M g st) := q9_g78 (K9_L h)
theorem kk_g80 {f : Nat → zP β} (h : L9 M) : (z_bd (z_gA 9 75 13) f).1 (K9 M g st) = (f 80).1 (K9 M g st) := q9_g80 (K9_L h)
theorem kk_g82 {f : Nat → zP β} (h : L9 M) : (z_bd (z_gA 9 75 18) f).1 (K9 M g st) = (f 82).1 (K9 M g st) := q9_g82 (K9_L h)
theorem kk_g83 {f : Nat → zP β} (h : L9 M) : (z_bd (z_gA 9 75 19) f).1 (K9 M g st) = (f 83).1 (K9 M g st) := q9_g83 (K9_L h)
theorem kk_l78_0 {f : Int32 → zP β} (h : L9 M) : (z_bd (z_aI 11 78 0) f).1 (K9 M g st) = (f (z_i M 78 0)).1 (K9 M g st) := kk_a78 (k := 0) h (by decide)
theorem kk_l78_1 {f : Int32 → zP β} (h : L9 M) : (z_bd (z_aI 11 78 1) f).1 (K9 M g st) = (f (z_i M 78 1)).1 (K9 M g st) := kk_a78 (k := 1) h (by decide)
theorem kk_l78_2 {f : Int32 → zP β} (h : L9 M) : (z_bd (z_aI 11 78 2) f).1 (K9 M g st) = (f (z_i M 78 2)).1 (K9 M g st) := kk_a78 (k := 2) h (by decide)
theorem kk_l78_3 {f : Int32 → zP β} (h : L9 M) : (z_bd (z_aI 11 78 3) f).1 (K9 M g st) = (f (z_i M 78 3)).1 (K9 M g st) := kk_a78 (k := 3) h (by decide)
theorem kk_l78_4 {f : Int32 → zP β} (h : L9 M) : (z_bd (z_aI 11 78 4) f).1 (K9 M g st) = (f (z_i M 78 4)).1 (K9 M g st) := kk_a78 (k := 4) h (by decide)
theorem kk_l78_5 {f : Int32 → zP β} (h : L9 M) : (z_bd (z_aI 11 78 5) f).1 (K9 M g st) = (f (z_i M 78 5)).1 (K9 M g st) := kk_a78 (k := 5) h (by decide)
theorem kk_l78_6 {f : Int32 → zP β} (h : L9 M) : (z_bd (z_aI 11 78 6) f).1 (K9 M g st) = (f (z_i M 78 6)).1 (K9 M g st) := kk_a78 (k := 6) h (by decide)
theorem kk_l78_7 {f : Int32 → zP β} (h : L9 M) : (z_bd (z_aI 11 78 7) f).1 (K9 M g st) = (f (z_i M 78 7)).1 (K9 M g st) := kk_a78 (k := 7) h (by decide)
theorem kk_l78_8 {f : Int32 → zP β} (h : L9 M) : (z_bd (z_aI 11 78 8) f).1 (K9 M g st) = (f (z_i M 78 8)).1 (K9 M g st) := kk_a78 (k := 8) h (by decide)
theorem kk_l83_0 {f : Int32 → zP β} (h : L9 M) : (z_bd (z_aI 11 83 0) f).1 (K9 M g st) = (f (st 0)).1 (K9 M g st) := kk_a83 (k := 0) h (by decide)
theorem kk_t83_0 {f : Unit → zP β} (h : L9 M) : (z_bd (z_sI 11 83 0 v) f).1 (K9 M g st) = (f ()).1 (K9 M g (s_up st 0 v)) := kk_s83 (k := 0) h (by decide)
theorem kk_l83_1 {f : Int32 → zP β} (h : L9 M) : (z_bd (z_aI 11 83 1) f).1 (K9 M g st) = (f (st 1)).1 (K9 M g st) := kk_a83 (k := 1) h (by decide)
theorem kk_t83_1 {f : Unit → zP β} (h : L9 M) : (z_bd (z_sI 11 83 1 v) f).1 (K9 M g st) = (f ()).1 (K9 M g (s_up st 1 v)) := kk_s83 (k := 1) h (by decide)
theorem kk_l83_2 {f : Int32 → zP β} (h : L9 M) : (z_bd (z_aI 11 83 2) f).1 (K9 M g st) = (f (st 2)).1 (K9 M g st) := kk_a83 (k := 2) h (by decide)
theorem kk_t83_2 {f : Unit → zP β} (h : L9 M) : (z_bd (z_sI 11 83 2 v) f).1 (K9 M g st) = (f ()).1 (K9 M g (s_up st 2 v)) := kk_s83 (k := 2) h (by decide)
theorem kk_l83_3 {f : Int32 → zP β} (h : L9 M) : (z_bd (z_aI 11 83 3) f).1 (K9 M g st) = (f (st 3)).1 (K9 M g st) := kk_a83 (k := 3) h (by decide)
theorem kk_t83_3 {f : Unit → zP β} (h : L9 M) : (z_bd (z_sI 11 83 3 v) f).1 (K9 M g st) = (f ()).1 (K9 M g (s_up st 3 v)) := kk_s83 (k := 3) h (by decide)
theorem kk_l83_4 {f : Int32 → zP β} (h : L9 M) : (z_bd (z_aI 11 83 4) f).1 (K9 M g st) = (f (st 4)).1 (K9 M g st) := kk_a83 (k := 4) h (by decide)
theorem kk_t83_4 {f : Unit → zP β} (h : L9 M) : (z_bd (z_sI 11 83 4 v) f).1 (K9 M g st) = (f ()).1 (K9 M g (s_up st 4 v)) := kk_s83 (k := 4) h (by decide)
theorem kk_l83_5 {f : Int32 → zP β} (h : L9 M) : (z_bd (z_aI 11 83 5) f).1 (K9 M g st) = (f (st 5)).1 (K9 M g st) := kk_a83 (k := 5) h (by decide)
theorem kk_t83_5 {f : Unit → zP β} (h : L9 M) : (z_bd (z_sI 11 83 5 v) f).1 (K9 M g st) = (f ()).1 (K9 M g (s_up st 5 v)) := kk_s83 (k := 5) h (by decide)
theorem kk_l83_204 {f : Int32 → zP β} (h : L9 M) : (z_bd (z_aI 11 83 204) f).1 (K9 M g st) = (f (st 204)).1 (K9 M g st) := kk_a83 (k := 204) h (by decide)
theorem kk_t83_204 {f : Unit → zP β} (h : L9 M) : (z_bd (z_sI 11 83 204 v) f).1 (K9 M g st) = (f ()).1 (K9 M g (s_up st 204 v)) := kk_s83 (k := 204) h (by decide)
theorem kk_wk {f : Int32 → zP β} (h : L9 M) (hk : k < 8) : (z_bd (p_X9_working 75 (nI k)) f).1 (K9 M g st) = (f (s_wk (z_i M 78) st k)).1 (K9 M g st) := (g9_wk (K9_L h) hk).trans (by simp only [K9_83, K9_o (show 78 ≠ 82 by decide) (show 78 ≠ 83 by decide)])
theorem kk_fr {f : Int32 → zP β} (h : L9 M) (hk : k < 8) : (z_bd (p_X9_free 75 (nI k)) f).1 (K9 M g st) = (f (s_fr (z_i M 78) st k)).1 (K9 M g st) := (g9_fr (K9_L h) hk).trans (by simp only [K9_83, K9_o (show 78 ≠ 82 by decide) (show 78 ≠ 83 by decide)])
theorem kk_mk {f : Int32 → zP β} (h : L9 M) (hk : k < 8) : (z_bd (p_X9_mark 75 (nI k)) f).1 (K9 M g st) = (f (s_mk (z_i M 78) st k)).1 (K9 M g st) := (g9_mk (K9_L h) hk).trans (by simp only [K9_83, K9_o (show 78 ≠ 82 by decide) (show 78 ≠ 83 by decide)])
theorem kk_ev {f : Int32 → zP β} (h : L9 M) (hk : k < 8) : (z_bd (p_X9_isEven 75 (nI k)) f).1 (K9 M g st) = (f (s_ev (z_i M 78) st k)).1 (K9 M g st) := (g9_ev (K9_L h) hk).trans (by simp only [K9_83, K9_o (show 78 ≠ 82 by decide) (show 78 ≠ 83 by decide)])
theorem kk_bn {f : Int32 → zP β} (h : L9 M) (hk : k < 8) : (z_bd (p_X9_bonus 75 (nI k)) f).1 (K9 M g st) = (f (s_bn (z_i M 78) st k)).1 (K9 M g st) := (g9_bn (K9_L h) hk).trans (by simp only [K9_83, K9_o (show 78 ≠ 82 by decide) (show 78 ≠ 83 by decide)])
theorem kk_ds {f : Int32 → zP β} (h : L9 M) (hj : j < 8) (hk : k < 8) : (z_bd (p_X9_distance 75 (nI j) (nI k)) f).1 (K9 M g st) = (f (s_ds (z_i M 78) j k)).1 (K9 M g st) := (g9_ds (K9_L h) hj hk).trans (by simp only [K9_83, K9_o (show 78 ≠ 82 by decide) (show 78 ≠ 83 by decide)])
theorem kk_rd {f : Int32 → zP β} (h : L9 M) (hj : j < 8) (hk : k < 8) : (z_bd (p_X9_ride 75 (nI j) (nI k)) f).1 (K9 M g st) = (f (s_rd (z_i M 78) j k)).1 (K9 M g st) := (g9_rd (K9_L h) hj hk).trans (by simp only [K9_83, K9_o (show 78 ≠ 82 by decide) (show 78 ≠ 83 by decide)])
theorem kk_dr {f : Int32 → zP β} (h : L9 M) (hj : j < 8) (hk : k < 8) : (z_bd (p_X9_drive 75 (nI j) (nI k)) f).1 (K9 M g st) = (f (s_dr (z_i M 78) j k)).1 (K9 M g st) := (g9_dr (K9_L h) hj hk).trans (by simp only [K9_83, K9_o (show 78 ≠ 82 by decide) (show 78 ≠ 83 by decide)])
theorem kk_of {f : Int32 → zP β} (h : L9 M) (ht : t < 3) (hq : q < 18) : (z_bd (p_X9_of 75 (nI t) (nI q)) f).1 (K9 M g st) = (f (s_tr st t q)).1 (K9 M g st) := (g9_of (K9_L h) ht hq).trans (by simp only [K9_83, K9_o (show 78 ≠ 82 by decide) (show 78 ≠ 83 by decide)])
theorem kk_of0 {f : Int32 → zP β} (h : L9 M) (ht : t < 3) : (z_bd (p_X9_of 75 (nI t) 0) f).1 (K9 M g st) = (f (s_tr st t 0)).1 (K9 M g st) := kk_of (q := 0) h ht (by decide)
theorem kk_of1 {f : Int32 → zP β} (h : L9 M) (ht : t < 3) : (z_bd (p_X9_of 75 (nI t) 1) f).1 (K9 M g st) = (f (s_tr st t 1)).1 (K9 M g st) := kk_of (q := 1) h ht (by decide)
theorem kk_of2 {f : Int32 → zP β} (h : L9 M) (ht : t < 3) : (z_bd (p_X9_of 75 (nI t) 2) f).1 (K9 M g st) = (f (s_tr st t 2)).1 (K9 M g st) := kk_of (q := 2) h ht (by decide)
theorem kk_of3 {f : Int32 → zP β} (h : L9 M) (ht : t < 3) : (z_bd (p_X9_of 75 (nI t) 3) f).1 (K9 M g st) = (f (s_tr st t 3)).1 (K9 M g st) := kk_of (q := 3) h ht (by decide)
theorem kk_of4 {f : Int32 → zP β} (h : L9 M) (ht : t < 3) : (z_bd (p_X9_of 75 (nI t) 4) f).1 (K9 M g st) = (f (s_tr st t 4)).1 (K9 M g st) := kk_of (q := 4) h ht (by decide)
theorem kk_of5 {f : Int32 → zP β} (h : L9 M) (ht : t < 3) : (z_bd (p_X9_of 75 (nI t) 5) f).1 (K9 M g st) = (f (s_tr st t 5)).1 (K9 M g st) := kk_of (q := 5) h ht (by decide)
theorem kk_of6 {f : Int32 → zP β} (h : L9 M) (ht : t < 3) : (z_bd (p_X9_of 75 (nI t) 6) f).1 (K9 M g st) = (f (s_tr st t 6)).1 (K9 M g st) := kk_of (q := 6) h ht (by decide)
theorem kk_of7 {f : Int32 → zP β} (h : L9 M) (ht : t < 3) : (z_bd (p_X9_of 75 (nI t) 7) f).1 (K9 M g st) = (f (s_tr st t 7)).1 (K9 M g st) := kk_of (q := 7) h ht (by decide)
theorem kk_near {f : Int32 → zP β} (h : L9 M) (hs : z_i M 78 0 = nI n) (hn : n ≤ 8) (hk : k < 8) (d : Int32) : (z_bd (p_X9_nearestTo 75 (nI k) d) f).1 (K9 M g st) = (f (iO (s_near (z_i M 78) st k d n))).1 (K9 M g st) := (g9_near (n := n) (K9_L h) (by rw [K9_o (by decide) (by decide)]; exact hs) hn hk d).trans (by simp only [K9_83, K9_o (show 78 ≠ 82 by decide) (show 78 ≠ 83 by decide)])
theorem kk_loads {f : Int32 → zP β} (h : L9 M) (hs : z_i M 78 1 = nI n) (hn : n ≤ 3) : (z_bd (p_X9_loads 75) f).1 (K9 M g st) = (f (s_sum 0 (fun t => s_tr st t 4) n)).1 (K9 M g st) := (g9_loads (n := n) (K9_L h) (by rw [K9_o (by decide) (by decide)]; exact hs) hn).trans (by simp only [K9_83])
theorem kk_all {f : Int32 → zP β} (h : L9 M) (hs : z_i M 78 1 = nI m) (hn : m ≤ 3) (hs0 : z_i M 78 0 = nI n) (hn0 : n ≤ 8) : (z_bd (p_X9_all 75) f).1 (K9 M g st) = (f (s_sum (s_sum 0 (fun t => s_tr st t 4) m + st 204) (fun k => st (6 + k)) n)).1 (K9 M g st) := (e_run (f9_all (n := n) (m := m) (K9_L h) (by rw [K9_o (by decide) (by decide)]; exact hs) hn (by rw [K9_o (by decide) (by decide)]; exact hs0) hn0)).trans (by simp only [K9_83])
theorem kk_fare {f : Int32 → zP β} (h : L9 M) (hc : z_i M 78 8 = nI n) (hn : n ≤ 700) (hn1 : 1 ≤ n) (hw : s_cw (z_i M 80) n) (hj : j < 8) (hk : k < 8) : (z_bd (p_X9_fareOf 75 (nI j) (nI k)) f).1 (K9 M g st) = (f (s_fare (z_i M 78) (z_i M 80) st n j k)).1 (K9 M (s_fa (z_i M 80) (s_val (z_i M 78) st j k) g n) st) := by
  have e := e_run (k := f) (f9_fare (M := K9 M g st) (n := n) (j := j) (k := k) (K9_L h) (by rw [K9_o (by decide) (by decide)]; exact hc) hn hn1 (by rw [K9_o (by decide) (by decide)]; exact hw) hj hk)
  rw [e, K9_83, K9_82, K9_w82, K9_o (by decide) (by decide), K9_o (by decide) (by decide)]

theorem kk_put {f : Unit → zP β} (h : L9 M) (ht : t < 3) (hq : q < 18) : (z_bd (p_X9_put 75 (nI t) (nI q) v) f).1 (K9 M g st) = (f ()).1 (K9 M g (s_up st (22 + 18 * t + q) v)) := by
  unfold p_X9_put
  simp (disch := first | assumption | omega) only [e_pu, e_ite, oL_add, oL_addr, oL_mul, nI_add, nI_1, b_pu, b_bd, b_ite, j_L, j_R, j_ite, j_bd, z_ex, ↓reduceIte, if_true, if_false, kk_cv, kk_a83, kk_s83, kk_a78, kk_g78, kk_g80, kk_g82, kk_g83, kk_l78_0, kk_l78_1, kk_l78_2, kk_l78_3, kk_l78_4, kk_l78_5, kk_l78_6, kk_l78_7, kk_l78_8, kk_l83_0, kk_t83_0, kk_l83_1, kk_t83_1, kk_l83_2, kk_t83_2, kk_l83_3, kk_t83_3, kk_l83_4, kk_t83_4, kk_l83_5, kk_t83_5, kk_l83_204, kk_t83_204, kk_wk, kk_fr, kk_mk, kk_ev, kk_bn, kk_ds, kk_rd, kk_dr, kk_of, kk_of0, kk_of1, kk_of2, kk_of3, kk_of4, kk_of5, kk_of6, kk_of7, kk_near, kk_loads, kk_all, kk_fare, g9_at, g9_ap]
theorem kk_put0 {f : Unit → zP β} (h : L9 M) (ht : t < 3) : (z_bd (p_X9_put 75 (nI t) 0 v) f).1 (K9 M g st) = (f ()).1 (K9 M g (s_up st (22 + 18 * t + 0) v)) := kk_put (q := 0) h ht (by decide)
theorem kk_put1 {f : Unit → zP β} (h : L9 M) (ht : t < 3) : (z_bd (p_X9_put 75 (nI t) 1 v) f).1 (K9 M g st) = (f ()).1 (K9 M g (s_up st (22 + 18 * t + 1) v)) := kk_put (q := 1) h ht (by decide)
theorem kk_put2 {f : Unit → zP β} (h : L9 M) (ht : t < 3) : (z_bd (p_X9_put 75 (nI t) 2 v) f).1 (K9 M g st) = (f ()).1 (K9 M g (s_up st (22 + 18 * t + 2) v)) := kk_put (q := 2) h ht (by decide)
theorem kk_put3 {f : Unit → zP β} (h : L9 M) (ht : t < 3) : (z_bd (p_X9_put 75 (nI t) 3 v) f).1 (K9 M g st) = (f ()).1 (K9 M g (s_up st (22 + 18 * t + 3) v)) := kk_put (q := 3) h ht (by decide)
theorem kk_put4 {f : Unit → zP β} (h : L9 M) (ht : t < 3) : (z_bd (p_X9_put 75 (nI t) 4 v) f).1 (K9 M g st) = (f ()).1 (K9 M g (s_up st (22 + 18 * t + 4) v)) := kk_put (q := 4) h ht (by decide)
theorem kk_put5 {f : Unit → zP β} (h : L9 M) (ht : t < 3) : (z_bd (p_X9_put 75 (nI t) 5 v) f).1 (K9 M g st) = (f ()).1 (K9 M g (s_up st (22 + 18 * t + 5) v)) := kk_put (q := 5) h ht (by decide)
theorem kk_put6 {f : Unit → zP β} (h : L9 M) (ht : t < 3) : (z_bd (p_X9_put 75 (nI t) 6 v) f).1 (K9 M g st) = (f ()).1 (K9 M g (s_up st (22 + 18 * t + 6) v)) := kk_put (q := 6) h ht (by decide)
theorem kk_put7 {f : Unit → zP β} (h : L9 M) (ht : t < 3) : (z_bd (p_X9_put 75 (nI t) 7 v) f).1 (K9 M g st) = (f ()).1 (K9 M g (s_up st (22 + 18 * t + 7) v)) := kk_put (q := 7) h ht (by decide)
theorem kk_ra {f : Int32 → zP β} (h : L9 M) (hk : k < 1024) (hq : q < 3) : (z_bd (p_X9_riderAt 75 (nI k) (nI q)) f).1 (K9 M g st) = (f (st (205 + 3 * k + q))).1 (K9 M g st) := by
  unfold p_X9_riderAt
  simp (disch := first | assumption | omega) only [e_pu, e_ite, oL_add, oL_addr, oL_mul, nI_add, nI_1, b_pu, b_bd, b_ite, j_L, j_R, j_ite, j_bd, z_ex, ↓reduceIte, if_true, if_false, kk_cv, kk_a83, kk_s83, kk_a78, kk_g78, kk_g80, kk_g82, kk_g83, kk_l78_0, kk_l78_1, kk_l78_2, kk_l78_3, kk_l78_4, kk_l78_5, kk_l78_6, kk_l78_7, kk_l78_8, kk_l83_0, kk_t83_0, kk_l83_1, kk_t83_1, kk_l83_2, kk_t83_2, kk_l83_3, kk_t83_3, kk_l83_4, kk_t83_4, kk_l83_5, kk_t83_5, kk_l83_204, kk_t83_204, kk_wk, kk_fr, kk_mk, kk_ev, kk_bn, kk_ds, kk_rd, kk_dr, kk_of, kk_of0, kk_of1, kk_of2, kk_of3, kk_of4, kk_of5, kk_of6, kk_of7, kk_near, kk_loads, kk_all, kk_fare, g9_at, g9_ap, kk_put0, kk_put1, kk_put2, kk_put3, kk_put4, kk_put5, kk_put6, kk_put7, kk_put]
theorem kk_ra0 {f : Int32 → zP β} (h : L9 M) (hk : k < 1024) : (z_bd (p_X9_riderAt 75 (nI k) 0) f).1 (K9 M g st) = (f (st (205 + 3 * k + 0))).1 (K9 M g st) := kk_ra (q := 0) h hk (by decide)
theorem kk_ra1 {f : Int32 → zP β} (h : L9 M) (hk : k < 1024) : (z_bd (p_X9_riderAt 75 (nI k) 1) f).1 (K9 M g st) = (f (st (205 + 3 * k + 1))).1 (K9 M g st) := kk_ra (q := 1) h hk (by decide)
theorem kk_ra2 {f : Int32 → zP β} (h : L9 M) (hk : k < 1024) : (z_bd (p_X9_riderAt 75 (nI k) 2) f).1 (K9 M g st) = (f (st (205 + 3 * k + 2))).1 (K9 M g st) := kk_ra (q := 2) h hk (by decide)
/-! a ride begins -/
def s_beg (ct cd st : Nat → Int32) (n r j k : Nat) : Nat → Int32 :=
  let s3 := s_up (s_up (s_up st 1 (st 1 + s_fare ct cd st n j k)) (6 + j) (st (6 + j) - 1)) 3 (st 3 + 1)
  let s4 := if st (76 + (8 * j + k)) = 0 then s_up s3 (140 + (8 * j + k)) (st 3 + 1) else s3
  s_up (s_up (s_up (s_up (s_up s4 (76 + (8 * j + k)) (st (76 + (8 * j + k)) + 1)) (205 + 3 * r) (st 0 + s_rd ct j k)) (205 + 3 * r + 1) (nI k)) (205 + 3 * r + 2) (nI j)) 204 (nI (r + 1))
theorem kk_beg {r : Nat} {f : Int32 → zP β} (h : L9 M) (hc : z_i M 78 8 = nI n) (hn : n ≤ 700) (hn1 : 1 ≤ n) (hw : s_cw (z_i M 80) n) (hj : j < 8) (hk : k < 8) (hr : st 204 = nI r) (hr1 : r < 1024) :
    (z_bd (p_X9_begin 75 (nI j) (nI k)) f).1 (K9 M g st) = (f (st 0 + s_rd (z_i M 78) j k)).1 (K9 M (s_fa (z_i M 80) (s_val (z_i M 78) st j k) g n) (s_beg (z_i M 78) (z_i M 80) st n r j k)) := by
  unfold p_X9_begin s_beg
  by_cases h0 : st (76 + (8 * j + k)) = 0
  · simp (disch := first | assumption | omega) only [e_pu, e_ite, oL_add, oL_addr, oL_mul, nI_add, nI_1, b_pu, b_bd, b_ite, j_L, j_R, j_ite, j_bd, z_ex, ↓reduceIte, if_true, if_false, kk_cv, kk_a83, kk_s83, kk_a78, kk_g78, kk_g80, kk_g82, kk_g83, kk_l78_0, kk_l78_1, kk_l78_2, kk_l78_3, kk_l78_4, kk_l78_5, kk_l78_6, kk_l78_7, kk_l78_8, kk_l83_0, kk_t83_0, kk_l83_1, kk_t83_1, kk_l83_2, kk_t83_2, kk_l83_3, kk_t83_3, kk_l83_4, kk_t83_4, kk_l83_5, kk_t83_5, kk_l83_204, kk_t83_204, kk_wk, kk_fr, kk_mk, kk_ev, kk_bn, kk_ds, kk_rd, kk_dr, kk_of, kk_of0, kk_of1, kk_of2, kk_of3, kk_of4, kk_of5, kk_of6, kk_of7, kk_near, kk_loads, kk_all, kk_fare, g9_at, g9_ap, kk_put0, kk_put1, kk_put2, kk_put3, kk_put4, kk_put5, kk_put6, kk_put7, kk_put, kk_ra0, kk_ra1, kk_ra2, kk_ra, s_upn, s_ups, h0, hr]
  · simp (disch := first | assumption | omega) only [e_pu, e_ite, oL_add, oL_addr, oL_mul, nI_add, nI_1, b_pu, b_bd, b_ite, j_L, j_R, j_ite, j_bd, z_ex, ↓reduceIte, if_true, if_false, kk_cv, kk_a83, kk_s83, kk_a78, kk_g78, kk_g80, kk_g82, kk_g83, kk_l78_0, kk_l78_1, kk_l78_2, kk_l78_3, kk_l78_4, kk_l78_5, kk_l78_6, kk_l78_7, kk_l78_8, kk_l83_0, kk_t83_0, kk_l83_1, kk_t83_1, kk_l83_2, kk_t83_2, kk_l83_3, kk_t83_3, kk_l83_4, kk_t83_4, kk_l83_5, kk_t83_5, kk_l83_204, kk_t83_204, kk_wk, kk_fr, kk_mk, kk_ev, kk_bn, kk_ds, kk_rd, kk_dr, kk_of, kk_of0, kk_of1, kk_of2, kk_of3, kk_of4, kk_of5, kk_of6, kk_of7, kk_near, kk_loads, kk_all, kk_fare, g9_at, g9_ap, kk_put0, kk_put1, kk_put2, kk_put3, kk_put4, kk_put5, kk_put6, kk_put7, kk_put, kk_ra0, kk_ra1, kk_ra2, kk_ra, s_upn, s_ups, h0, hr]

end PK
