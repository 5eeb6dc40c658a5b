/-! ===== PHASE 2: the class's search for a tour ===== -/
def TB (x y : Int32) (r : Nat → Int32) (b : TBt) : Prop := match b with | none => x = -1 ∧ y = 0 | some p => (p.1 < 100000 ∧ p.2.length ≤ 8) ∧ x = nI p.1 ∧ y = nI p.2.length ∧ ∀ j z, p.2[j]? = some z → r j = nI z
/-- what a search finds in place -/
def TC (M : zM) (F : Nat → Nat → Int32) (c : Nat) (ct cd st : Nat → Int32) (ns nt np nc : Nat) (q : TQ) (U : Nat) : Prop :=
  (L0 M ∧ z_r M 6 6 = some c ∧ EN M F 41 c ct cd st ns nt np nc) ∧ (q.ns = ns ∧ tq_ok q ∧ ∀ i j, i < ns → j < ns → s_dr ct i j = nI (q.dr i j)) ∧ (F 6 7 = nI q.home ∧ F 6 8 = nI q.cap ∧ F 6 9 = nI U) ∧ (U < 256 ∧ ∀ i, U.testBit i = true ↔ i < ns ∧ tq_un q i) ∧ ∀ i, i < ns → F 9 i = nI (q.mk i) - nI (q.fr i) ∧ F 10 i = nI (q.bk i) - nI (q.mk i) ∧ F 11 i = nI (q.lw i)
def PT (F : Nat → Nat → Int32) (y : Nat) (P : List Nat) : Prop := ∀ j z, P[j]? = some z → F y j = nI z
def HP (F : Nat → Nat → Int32) (q : TQ) : Prop := ∀ V l, V < 256 → l < 32 → bt (F 12 V) l = true → ¬ tq_fe q (10 - tq_pc q V) V l
/-- a place in the search -/
def NV (q : TQ) (P : List Nat) (pl V m lo hi : Nat) : Prop := (lo ≤ hi ∧ hi ≤ q.cap) ∧ (V < 2 ^ 8 ∧ tq_pc q V = P.length) ∧ (pl < q.ns ∧ (1 ≤ P.length → V.testBit pl = true)) ∧ m ≤ 8000 * P.length
def tch (F F' : Nat → Nat → Int32) : Prop := ∀ y j, y ≠ 7 → y ≠ 8 → y ≠ 12 → ¬ (y = 6 ∧ (j = 10 ∨ j = 11)) → F' y j = F y j
section PA33
variable {β : Type} {M : zM} {F F' F2 : Nat → Nat → Int32} {ct cd st : Nat → Int32} {c i j k n m lo hi pl s V U ns nt np nc : Nat} {q : TQ} {P : List Nat} {b : TBt} {x y : Int32}
theorem k6_a7 {f : Int32 → zP β} (h : L0 M) (hk : k < 8) : (z_bd (z_aI 11 7 (nI k)) f).1 (KI M F) = (f (F 7 k)).1 (KI M F) := ki_aI (k0_ar7 h) hk (by decide)
theorem k6_s7 {f : Unit → zP β} (h : L0 M) (hk : k < 8) : (z_bd (z_sI 11 7 (nI k) x) f).1 (KI M F) = (f ()).1 (KI M (z_up2 F 7 k x)) := ki_sI (k0_ar7 h) hk (by decide)
theorem k6_a8 {f : Int32 → zP β} (h : L0 M) (hk : k < 8) : (z_bd (z_aI 11 8 (nI k)) f).1 (KI M F) = (f (F 8 k)).1 (KI M F) := ki_aI (k0_ar8 h) hk (by decide)
theorem k6_s8 {f : Unit → zP β} (h : L0 M) (hk : k < 8) : (z_bd (z_sI 11 8 (nI k) x) f).1 (KI M F) = (f ()).1 (KI M (z_up2 F 8 k x)) := ki_sI (k0_ar8 h) hk (by decide)
theorem k6_a9 {f : Int32 → zP β} (h : L0 M) (hk : k < 8) : (z_bd (z_aI 11 9 (nI k)) f).1 (KI M F) = (f (F 9 k)).1 (KI M F) := ki_aI (k0_ar9 h) hk (by decide)
theorem k6_s9 {f : Unit → zP β} (h : L0 M) (hk : k < 8) : (z_bd (z_sI 11 9 (nI k) x) f).1 (KI M F) = (f ()).1 (KI M (z_up2 F 9 k x)) := ki_sI (k0_ar9 h) hk (by decide)
theorem k6_a10 {f : Int32 → zP β} (h : L0 M) (hk : k < 8) : (z_bd (z_aI 11 10 (nI k)) f).1 (KI M F) = (f (F 10 k)).1 (KI M F) := ki_aI (k0_ar10 h) hk (by decide)
theorem k6_s10 {f : Unit → zP β} (h : L0 M) (hk : k < 8) : (z_bd (z_sI 11 10 (nI k) x) f).1 (KI M F) = (f ()).1 (KI M (z_up2 F 10 k x)) := ki_sI (k0_ar10 h) hk (by decide)
theorem k6_a11 {f : Int32 → zP β} (h : L0 M) (hk : k < 8) : (z_bd (z_aI 11 11 (nI k)) f).1 (KI M F) = (f (F 11 k)).1 (KI M F) := ki_aI (k0_ar11 h) hk (by decide)
theorem k6_s11 {f : Unit → zP β} (h : L0 M) (hk : k < 8) : (z_bd (z_sI 11 11 (nI k) x) f).1 (KI M F) = (f ()).1 (KI M (z_up2 F 11 k x)) := ki_sI (k0_ar11 h) hk (by decide)
theorem k6_a12 {f : Int32 → zP β} (h : L0 M) (hk : k < 256) : (z_bd (z_aI 11 12 (nI k)) f).1 (KI M F) = (f (F 12 k)).1 (KI M F) := ki_aI (k0_ar12 h) hk (by decide)
theorem k6_s12 {f : Unit → zP β} (h : L0 M) (hk : k < 256) : (z_bd (z_sI 11 12 (nI k) x) f).1 (KI M F) = (f ()).1 (KI M (z_up2 F 12 k x)) := ki_sI (k0_ar12 h) hk (by decide)
theorem k6_city {f : Nat → zP β} (h : L0 M) (hc : z_r M 6 6 = some c) : (z_bd (z_gA 6 6 6) f).1 (KI M F) = (f c).1 (KI M F) := ki_gA (k0_is6 h) hc
theorem nq_inj {a b : Nat} (ha : a < 2 ^ 31) (hb : b < 2 ^ 31) (e : nI a = nI b) : a = b := by
  have h := congrArg Int32.toInt e
  rw [nI_toInt ha, nI_toInt hb] at h
  omega
theorem sub_ti {x y : Nat} (hx : x < 2 ^ 30) (hy : y < 2 ^ 30) : (nI x - nI y).toInt = (x : Int) - y := by
  by_cases h : y ≤ x
  · rw [nI_sub h, nI_toInt (by omega)]
    omega
  · have e : nI x - nI y = - nI (y - x) := by rw [← nI_neg_sub (x := x) (y := y) (by omega), Int32.neg_neg]
    rw [e, Int32.toInt_neg, nI_toInt (by omega)]
    rw [show ((-((y - x : Nat) : Int)).bmod (2 ^ 32)) = -((y - x : Nat) : Int) from Int.bmod_eq_of_le (by omega) (by omega)]
    omega
theorem n_abc (a b c : Nat) : nI a + (nI b - nI c) = nI (a + b) - nI c := by
  rw [Int32.sub_eq_add_neg, ← Int32.add_assoc, nI_add, ← Int32.sub_eq_add_neg]
theorem n_lo {a b c : Nat} (ha : a < 1000) (hb : b < 1000) (hc : c < 1000) : (if (0 : Int32) < nI a + (nI b - nI c) then nI a + (nI b - nI c) else 0) = nI (a + b - c) := by
  rw [n_abc]
  have z : (0 : Int32).toInt = 0 := rfl
  have t := sub_ti (x := a + b) (y := c) (by omega) (by omega)
  by_cases h : c < a + b
  · rw [if_pos (by rw [i_lt, t, z]; omega), nI_sub (by omega)]
  · rw [if_neg (by rw [i_lt, t, z]; omega), show a + b - c = 0 by omega]
    rfl
theorem n_hi {a b c d : Nat} (ha : a < 1000) (hb : b < 1000) (hc : c ≤ a + b) (hd : d < 1000) : (if nI a + (nI b - nI c) < nI d then nI a + (nI b - nI c) else nI d) = nI (if d < a + b - c then d else a + b - c) := by
  rw [n_abc, nI_sub hc]
  by_cases h : d < a + b - c
  · rw [if_pos h, if_neg (fun e => by rw [i_lt, nI_toInt (by omega), nI_toInt (by omega)] at e; omega)]
  · rw [if_neg h]
    by_cases h2 : a + b - c = d
    · rw [h2]; simp
    · rw [if_pos (by rw [i_lt, nI_toInt (by omega), nI_toInt (by omega)]; omega)]
theorem n_hi2 {a b c d : Nat} (ha : a < 1000) (hb : b < 1000) (hc : a + b < c) (hc2 : c < 1000) (hd : d < 1000) {e : Nat} (he : e < 1000) : (if nI a + (nI b - nI c) < nI d then nI a + (nI b - nI c) else nI d) < nI e := by
  rw [n_abc]
  have t := sub_ti (x := a + b) (y := c) (by omega) (by omega)
  rw [if_pos (by rw [i_lt, t, nI_toInt (by omega)]; omega), i_lt, t, nI_toInt (by omega)]
  omega
theorem tq_sm_more {f : Nat → Nat} {K : Nat} (hk : k ≤ K) (h : ∀ i, k ≤ i → i < K → f i = 0) : tq_sm f K = tq_sm f k := by
  induction K with
  | zero => rw [show k = 0 by omega]
  | succ K ih =>
    by_cases e : k = K + 1
    · rw [e]
    · show tq_sm f K + f K = _
      rw [h K (by omega) (by omega), ih (by omega) (fun i h1 h2 => h i h1 (by omega))]
      rfl
theorem TC_E (h : TC M F c ct cd st ns nt np nc q U) : EN M F 41 c ct cd st ns nt np nc := h.1.2.2
theorem tch_rf : tch F F := fun _ _ _ _ _ _ => rfl
theorem tch_tr (h : tch F F') (g : tch F' F2) : tch F F2 := fun y j h1 h2 h3 h4 => (g y j h1 h2 h3 h4).trans (h y j h1 h2 h3 h4)
theorem TC_ch (h : TC M F c ct cd st ns nt np nc q U) (hc : 15 ≤ c) (g : tch F F') : TC M F' c ct cd st ns nt np nc q U := by
  obtain ⟨⟨a1, a2, a3⟩, a4, ⟨b1, b2, b3⟩, b4, b5⟩ := h
  refine ⟨⟨a1, a2, EN_gen a3 (fun k hk => ?_) ?_ (fun y h1 h2 => ?_)⟩, a4, ⟨?_, ?_, ?_⟩, b4, fun i hi => ?_⟩
  · rw [g (41 + 1) k (by omega) (by omega) (by omega) (by omega), g (41 + 2) k (by omega) (by omega) (by omega) (by omega)]
    exact a3.2.2.1 k hk
  · rw [g 41 7 (by omega) (by omega) (by omega) (by omega)]
    exact a3.2.2.2
  · exact funext (fun j => g y j (by omega) (by omega) (by omega) (by omega))
  · rw [g 6 7 (by omega) (by omega) (by omega) (by omega)]; exact b1
  · rw [g 6 8 (by omega) (by omega) (by omega) (by omega)]; exact b2
  · rw [g 6 9 (by omega) (by omega) (by omega) (by omega)]; exact b3
  · rw [g 9 i (by omega) (by omega) (by omega) (by omega), g 10 i (by omega) (by omega) (by omega) (by omega), g 11 i (by omega) (by omega) (by omega) (by omega)]
    exact b5 i hi
/-- the stations that must still be visited -/
theorem U_evn (h : TC M F c ct cd st ns nt np nc q U) (hV : V < 2 ^ 8) : (nI U &&& (nI V ^^^ (-1))) = 0 ↔ tq_evn q V := by
  obtain ⟨_, ⟨e1, _, _⟩, _, ⟨u1, u2⟩, _⟩ := h
  have h8 : ns ≤ 8 := e1 ▸ (by assumption : tq_ok q).1
  rw [bt_sub]
  constructor
  · intro h i hi hu
    have h1 := h i (by omega) (by rw [bt_nI _ (by omega)]; exact (u2 i).mpr ⟨by omega, hu⟩)
    rw [bt_nI _ (by omega)] at h1
    exact h1
  · intro h l hl hx
    rw [bt_nI _ hl] at hx ⊢
    obtain ⟨g1, g2⟩ := (u2 l).mp hx
    exact h l (by omega) g2
theorem U_cnt (h : TC M F c ct cd st ns nt np nc q U) (hV : V < 2 ^ 8) : p_J6_bitCount_0f7a4 (nI U &&& (nI V ^^^ (-1))) = z_pu (nI (tq_cn q V)) := by
  obtain ⟨_, ⟨e1, hq, _⟩, _, ⟨u1, u2⟩, _⟩ := h
  have h8 : q.ns ≤ 8 := hq.1
  have hb : ∀ l, l < 32 → bt (nI U &&& (nI V ^^^ (-1))) l = (U.testBit l && !V.testBit l) := fun l hl => by
    rw [bt_and, bt_not _ hl, bt_nI _ hl, bt_nI _ hl]
  have hw : U &&& (V ^^^ 255) < 2 ^ 8 := Nat.and_lt_two_pow U (Nat.xor_lt_two_pow hV (by decide))
  have h255 : ∀ l, l < 8 → (255 : Nat).testBit l = true := by
    have : ∀ l : Fin 8, (255 : Nat).testBit l.1 = true := by decide
    exact fun l hl => this ⟨l, hl⟩
  have hUb : ∀ l, 8 ≤ l → U.testBit l = false := fun l hl => by
    cases e : U.testBit l with
    | false => rfl
    | true => have := ((u2 l).mp e).1; omega
  have ew : nI U &&& (nI V ^^^ (-1)) = nI (U &&& (V ^^^ 255)) := by
    apply bt_ext
    intro l hl
    rw [hb l hl, bt_nI _ hl, Nat.testBit_and, Nat.testBit_xor]
    by_cases h1 : l < 8
    · rw [h255 l h1]
      simp
    · rw [hUb l (by omega)]
      rfl
  have hbc := bitcount8 ⟨U &&& (V ^^^ 255), hw⟩
  rw [ew]
  refine hbc.trans ?_
  congr 2
  show tq_sm (fun i => if (U &&& (V ^^^ 255)).testBit i = true then 1 else 0) 8 = tq_cn q V
  have hb2 : ∀ l, l < 8 → (U &&& (V ^^^ 255)).testBit l = (U.testBit l && !V.testBit l) := fun l hl => by
    rw [← hb l (by omega), ew, bt_nI _ (by omega)]
  rw [tq_sm_more (k := q.ns) h8 (fun i h1 h2 => ?_)]
  · unfold tq_cn
    refine tq_sm_eq (fun i hi => ?_)
    rw [hb2 i (by omega)]
    unfold tq_re
    by_cases e : V.testBit i = true
    · rw [if_pos e, e]
      simp
    · rw [if_neg e]
      have e' : V.testBit i = false := by simpa using e
      rw [e']
      show _ = (if tq_un q i then 1 else 0)
      by_cases e2 : tq_un q i
      · rw [if_pos e2, (u2 i).mpr ⟨by omega, e2⟩]
        rfl
      · rw [if_neg e2]
        have : U.testBit i = false := by
          cases e3 : U.testBit i with
          | false => rfl
          | true => exact absurd ((u2 i).mp e3).2 e2
        rw [this]
        rfl
  · rw [hb2 i h2]
    have : U.testBit i = false := by
      cases e3 : U.testBit i with
      | false => rfl
      | true => have := ((u2 i).mp e3).1; omega
    rw [this]
    rfl
/-- no best yet, or one -/
theorem TB_no {r : Nat → Int32} (h : TB x y r b) : x = -1 ↔ b = none := by
  cases b with
  | none => exact ⟨fun _ => rfl, fun _ => h.1⟩
  | some p =>
    refine ⟨fun e => ?_, fun e => by cases e⟩
    have h1 : x = nI p.1 := h.2.1
    have h2 : p.1 < 100000 := h.1.1
    exact absurd (h1.symm.trans e) (nI_nm1 (by omega))
theorem k_mb (h : TC M F c ct cd st ns nt np nc q U) (hV : V < 2 ^ 8) (hs : s ≤ 8) (hm : m < 1000000) (hb : TB (F 6 10) (F 6 11) (F 7) b) (hc : tq_cn q V ≤ 8) : ∃ r : Int32, (p_X6_mayBeBest 6 (nI s) (nI V) (nI m)).1 (KI M F) = some (.inr r, KI M F) ∧ (r = 0 ∨ r = 1) ∧ (r = 0 ↔ ¬ tq_mb q b s V m) := by
  have h0 := h.1.1
  have e9 := h.2.2.1.2.2
  unfold p_X6_mayBeBest
  simp (disch := first | assumption | omega | (apply LZ_R; assumption) | (apply LZ_T <;> first | assumption | omega) | (apply LC_F; assumption)) only [e_pu, e_ite, oL_add, oL_addr, oL_mul, nI_add, nI_1, b_pu, b_bd, b_ite, j_L, j_R, j_ite, j_bd, z_ex, ↓reduceIte, if_true, if_false, k0_g0_0, k0_g0_1, k0_g0_2, k0_g0_3, k0_g0_4, k0_g0_5, k0_g0_6, k0_g0_7, k0_g2_0, k0_g4_0, k0_g6_0, k0_g6_1, k0_g6_2, k0_g6_3, k0_g6_4, k0_g6_5, k0_gI0, k0_pI0, k0_cv0, k0_gI2, k0_pI2, k0_cv2, k0_gI4, k0_pI4, k0_cv4, k0_gI6, k0_pI6, k0_cv6, e9, U_cnt h hV]
  cases b with
  | none =>
    have e10 : F 6 10 = -1 := hb.1
    refine ⟨1, ?_, Or.inr rfl, by simp [tq_mb]⟩
    rw [if_pos e10]
  | some p =>
    obtain ⟨⟨b1, b2⟩, b3, b4, b5⟩ := hb
    have hn : ¬ nI p.1 = -1 := nI_nm1 (by omega)
    rw [b3, b4, if_neg hn]
    by_cases g1 : m < p.1
    · refine ⟨1, ?_, Or.inr rfl, ?_⟩
      · rw [if_pos (by rw [i_lt, nI_toInt (by omega), nI_toInt (by omega)]; omega)]
      · have : tq_mb q (some p) s V m := Or.inl g1
        simp [this]
    · rw [if_neg (fun e => by rw [i_lt, nI_toInt (by omega), nI_toInt (by omega)] at e; omega)]
      by_cases g2 : m = p.1
      · rw [if_pos (by rw [g2])]
        by_cases g3 : p.2.length ≤ s + tq_cn q V
        · refine ⟨0, ?_, Or.inl rfl, ?_⟩
          · rw [if_pos (by rw [i_le, nI_toInt (by omega), nI_toInt (by omega)]; omega)]
          · have : ¬ tq_mb q (some p) s V m := by
              show ¬ (m < p.1 ∨ (m = p.1 ∧ s + tq_cn q V < p.2.length))
              omega
            simp [this]
        · refine ⟨1, ?_, Or.inr rfl, ?_⟩
          · rw [if_neg (fun e => by rw [i_le, nI_toInt (by omega), nI_toInt (by omega)] at e; omega)]
          · have : tq_mb q (some p) s V m := Or.inr ⟨g2, by omega⟩
            simp [this]
      · refine ⟨0, ?_, Or.inl rfl, ?_⟩
        · rw [if_neg (fun e => g2 (nq_inj (by omega) (by omega) e))]
        · have : ¬ tq_mb q (some p) s V m := by
            show ¬ (m < p.1 ∨ (m = p.1 ∧ s + tq_cn q V < p.2.length))
            omega
          simp [this]
end PA33
