/-! ===== PHASE 2: what holds between two calls ===== -/
def to0 : List (Nat × Nat) := [(0, 8), (2, 1), (4, 3), (6, 6)]
def ta0 : List (Nat × Nat × Nat) := [(1, 10, 700), (3, 11, 24), (5, 13, 10), (7, 11, 8), (8, 11, 8), (9, 11, 8), (10, 11, 8), (11, 11, 8), (12, 11, 256), (13, 13, 2), (14, 12, 2), (95, 15, 1)]
def tr0 : List (Nat × Nat × Nat) := [(0, 0, 1), (0, 1, 2), (0, 2, 4), (0, 3, 6), (0, 4, 13), (0, 5, 14), (0, 6, 41), (0, 7, 58), (2, 0, 3), (4, 0, 5), (6, 0, 7), (6, 1, 8), (6, 2, 9), (6, 3, 10), (6, 4, 11), (6, 5, 12)]
/-- the class's fixed cells -/
def L0 (M : zM) : Prop := 96 ≤ z_nx M ∧ (∀ p ∈ to0, z_kd M p.1 = p.2) ∧ (∀ p ∈ ta0, z_kd M p.1 = p.2.1 ∧ z_ln M p.1 = p.2.2) ∧ ∀ p ∈ tr0, z_r M p.1 p.2.1 = some p.2.2
/-- the states kept aside: ten of the history, two slots -/
def sref (M : zM) (i : Nat) : Option Nat := if i < 10 then z_r M 5 i else z_r M 13 (i - 10)
def HS (M : zM) : Prop := (∀ i h, i < 12 → sref M i = some h → 96 ≤ h ∧ LZ h M) ∧ ∀ i j h h', i < 12 → j < 12 → i ≠ j → sref M i = some h → sref M j = some h' → h + 17 ≤ h' ∨ h' + 17 ≤ h
def CI (k : Nat) (M : zM) (c sp : Nat) (ct cd : Nat → Int32) (ns nt np nc : Nat) (st : Nat → Int32) (H : List (Nat → Int32)) (S : Nat → Option (Nat → Int32)) (n : Nat) (bf : Nat → Int32) : Prop :=
  (L0 M ∧ (LZ 41 M ∧ LZ 58 M ∧ LC 15 M ∧ LC 28 M) ∧ ((c = 15 ∧ sp = 28) ∨ (c = 28 ∧ sp = 15)) ∧ (z_r M 0 9 = some c ∧ z_r M 0 10 = some sp) ∧ HS M)
  ∧ (∃ T, T ≤ 9999 ∧ AV M (z_i M) 41 c ct cd st ns nt np nc k T)
  ∧ (∃ fs, fs < 10 ∧ H.length ≤ 10 ∧ z_i M 4 1 = nI fs ∧ z_i M 4 2 = nI H.length ∧ ∀ i s, H[i]? = some s → ∃ h T, z_r M 5 ((fs + i) % 10) = some h ∧ T ≤ 9999 ∧ AV M (z_i M) h c ct cd s ns nt np nc k T)
  ∧ (∀ i, i < 2 → (S i = none → z_i M 14 i = 0) ∧ ∀ s, S i = some s → z_i M 14 i = 1 ∧ ∃ h T, z_r M 13 i = some h ∧ T ≤ 9999 ∧ AV M (z_i M) h c ct cd s ns nt np nc k T)
  ∧ (z_i M 0 8 = nI n ∧ n ≤ 700 ∧ ∀ i, i < n → z_i M 1 i = bf i)
def MI (M : zM) (ct cd st : Nat → Int32) (H : List (Nat → Int32)) (S : Nat → Option (Nat → Int32)) (n : Nat) (bf : Nat → Int32) : Prop :=
  L9 M ∧ (z_i M 78 = ct ∧ z_i M 80 = cd ∧ z_i M 83 = st) ∧ (z_i M 75 21 = nI H.length ∧ ∀ i s, H[i]? = some s → ∀ j, j < 3277 → z_i M 84 (3277 * i + j) = s j)
  ∧ (∀ i, i < 2 → (S i = none → z_i M 86 i = 0) ∧ ∀ s, S i = some s → z_i M 86 i = 1 ∧ ∀ j, j < 3277 → z_i M 85 (3277 * i + j) = s j)
  ∧ (z_i M 75 2 = nI n ∧ ∀ i, i < n → z_i M 76 i = bf i ∧ ∃ b : Int8, bf i = b.toInt32)
/-- rows in which nothing is kept between two calls, and the model's -/
def scr (c sp y : Nat) : Prop := y = 2 ∨ y = 3 ∨ (6 ≤ y ∧ y ≤ 12) ∨ y = c + 12 ∨ (sp ≤ y ∧ y < sp + 13) ∨ (58 ≤ y ∧ y < 95)
def loc (c sp : Nat) (M M' : zM) : Prop := z_nx M ≤ z_nx M' ∧ (∀ y, y < z_nx M → z_kd M' y = z_kd M y ∧ z_ln M' y = z_ln M y) ∧ (∀ y j, y < z_nx M → ¬ (((y = 58 ∨ y = 6) ∧ j = 6) ∨ (y = 2 ∧ (j = 2 ∨ j = 3))) → z_r M' y j = z_r M y j) ∧ ∀ y, y < z_nx M → ¬ scr c sp y → z_i M' y = z_i M y
section PA9
variable {β : Type} {M M' M1 : zM} {F F' G : Nat → Nat → Int32} {ct cd st st' bf : Nat → Int32} {a b c sp d k n ns nt np nc kk T r t y : Nat} {v : Option Nat} {x : Int32} {H : List (Nat → Int32)} {S : Nat → Option (Nat → Int32)}
theorem k0_is0 (h : L0 M) : z_is 8 0 M := ⟨Nat.lt_of_lt_of_le (by decide) h.1, h.2.1 (0, 8) (by decide)⟩
theorem k0_is2 (h : L0 M) : z_is 1 2 M := ⟨Nat.lt_of_lt_of_le (by decide) h.1, h.2.1 (2, 1) (by decide)⟩
theorem k0_is4 (h : L0 M) : z_is 3 4 M := ⟨Nat.lt_of_lt_of_le (by decide) h.1, h.2.1 (4, 3) (by decide)⟩
theorem k0_is6 (h : L0 M) : z_is 6 6 M := ⟨Nat.lt_of_lt_of_le (by decide) h.1, h.2.1 (6, 6) (by decide)⟩
theorem k0_ar1 (h : L0 M) : z_is 10 1 M ∧ z_ln M 1 = 700 := ⟨⟨Nat.lt_of_lt_of_le (by decide) h.1, (h.2.2.1 (1, 10, 700) (by decide)).1⟩, (h.2.2.1 (1, 10, 700) (by decide)).2⟩
theorem k0_ar3 (h : L0 M) : z_is 11 3 M ∧ z_ln M 3 = 24 := ⟨⟨Nat.lt_of_lt_of_le (by decide) h.1, (h.2.2.1 (3, 11, 24) (by decide)).1⟩, (h.2.2.1 (3, 11, 24) (by decide)).2⟩
theorem k0_ar5 (h : L0 M) : z_is 13 5 M ∧ z_ln M 5 = 10 := ⟨⟨Nat.lt_of_lt_of_le (by decide) h.1, (h.2.2.1 (5, 13, 10) (by decide)).1⟩, (h.2.2.1 (5, 13, 10) (by decide)).2⟩
theorem k0_ar7 (h : L0 M) : z_is 11 7 M ∧ z_ln M 7 = 8 := ⟨⟨Nat.lt_of_lt_of_le (by decide) h.1, (h.2.2.1 (7, 11, 8) (by decide)).1⟩, (h.2.2.1 (7, 11, 8) (by decide)).2⟩
theorem k0_ar8 (h : L0 M) : z_is 11 8 M ∧ z_ln M 8 = 8 := ⟨⟨Nat.lt_of_lt_of_le (by decide) h.1, (h.2.2.1 (8, 11, 8) (by decide)).1⟩, (h.2.2.1 (8, 11, 8) (by decide)).2⟩
theorem k0_ar9 (h : L0 M) : z_is 11 9 M ∧ z_ln M 9 = 8 := ⟨⟨Nat.lt_of_lt_of_le (by decide) h.1, (h.2.2.1 (9, 11, 8) (by decide)).1⟩, (h.2.2.1 (9, 11, 8) (by decide)).2⟩
theorem k0_ar10 (h : L0 M) : z_is 11 10 M ∧ z_ln M 10 = 8 := ⟨⟨Nat.lt_of_lt_of_le (by decide) h.1, (h.2.2.1 (10, 11, 8) (by decide)).1⟩, (h.2.2.1 (10, 11, 8) (by decide)).2⟩
theorem k0_ar11 (h : L0 M) : z_is 11 11 M ∧ z_ln M 11 = 8 := ⟨⟨Nat.lt_of_lt_of_le (by decide) h.1, (h.2.2.1 (11, 11, 8) (by decide)).1⟩, (h.2.2.1 (11, 11, 8) (by decide)).2⟩
theorem k0_ar12 (h : L0 M) : z_is 11 12 M ∧ z_ln M 12 = 256 := ⟨⟨Nat.lt_of_lt_of_le (by decide) h.1, (h.2.2.1 (12, 11, 256) (by decide)).1⟩, (h.2.2.1 (12, 11, 256) (by decide)).2⟩
theorem k0_ar13 (h : L0 M) : z_is 13 13 M ∧ z_ln M 13 = 2 := ⟨⟨Nat.lt_of_lt_of_le (by decide) h.1, (h.2.2.1 (13, 13, 2) (by decide)).1⟩, (h.2.2.1 (13, 13, 2) (by decide)).2⟩
theorem k0_ar14 (h : L0 M) : z_is 12 14 M ∧ z_ln M 14 = 2 := ⟨⟨Nat.lt_of_lt_of_le (by decide) h.1, (h.2.2.1 (14, 12, 2) (by decide)).1⟩, (h.2.2.1 (14, 12, 2) (by decide)).2⟩
theorem k0_ar95 (h : L0 M) : z_is 15 95 M ∧ z_ln M 95 = 1 := ⟨⟨Nat.lt_of_lt_of_le (by decide) h.1, (h.2.2.1 (95, 15, 1) (by decide)).1⟩, (h.2.2.1 (95, 15, 1) (by decide)).2⟩
theorem k0_g0_0 {f : Nat → zP β} (h : L0 M) : (z_bd (z_gA 8 0 0) f).1 (KI M F) = (f 1).1 (KI M F) := ki_gA (k0_is0 h) (h.2.2.2 (0, 0, 1) (by decide))
theorem k0_g0_1 {f : Nat → zP β} (h : L0 M) : (z_bd (z_gA 8 0 1) f).1 (KI M F) = (f 2).1 (KI M F) := ki_gA (k0_is0 h) (h.2.2.2 (0, 1, 2) (by decide))
theorem k0_g0_2 {f : Nat → zP β} (h : L0 M) : (z_bd (z_gA 8 0 2) f).1 (KI M F) = (f 4).1 (KI M F) := ki_gA (k0_is0 h) (h.2.2.2 (0, 2, 4) (by decide))
theorem k0_g0_3 {f : Nat → zP β} (h : L0 M) : (z_bd (z_gA 8 0 3) f).1 (KI M F) = (f 6).1 (KI M F) := ki_gA (k0_is0 h) (h.2.2.2 (0, 3, 6) (by decide))
theorem k0_g0_4 {f : Nat → zP β} (h : L0 M) : (z_bd (z_gA 8 0 4) f).1 (KI M F) = (f 13).1 (KI M F) := ki_gA (k0_is0 h) (h.2.2.2 (0, 4, 13) (by decide))
theorem k0_g0_5 {f : Nat → zP β} (h : L0 M) : (z_bd (z_gA 8 0 5) f).1 (KI M F) = (f 14).1 (KI M F) := ki_gA (k0_is0 h) (h.2.2.2 (0, 5, 14) (by decide))
theorem k0_g0_6 {f : Nat → zP β} (h : L0 M) : (z_bd (z_gA 8 0 6) f).1 (KI M F) = (f 41).1 (KI M F) := ki_gA (k0_is0 h) (h.2.2.2 (0, 6, 41) (by decide))
theorem k0_g0_7 {f : Nat → zP β} (h : L0 M) : (z_bd (z_gA 8 0 7) f).1 (KI M F) = (f 58).1 (KI M F) := ki_gA (k0_is0 h) (h.2.2.2 (0, 7, 58) (by decide))
theorem k0_g2_0 {f : Nat → zP β} (h : L0 M) : (z_bd (z_gA 1 2 0) f).1 (KI M F) = (f 3).1 (KI M F) := ki_gA (k0_is2 h) (h.2.2.2 (2, 0, 3) (by decide))
theorem k0_g4_0 {f : Nat → zP β} (h : L0 M) : (z_bd (z_gA 3 4 0) f).1 (KI M F) = (f 5).1 (KI M F) := ki_gA (k0_is4 h) (h.2.2.2 (4, 0, 5) (by decide))
theorem k0_g6_0 {f : Nat → zP β} (h : L0 M) : (z_bd (z_gA 6 6 0) f).1 (KI M F) = (f 7).1 (KI M F) := ki_gA (k0_is6 h) (h.2.2.2 (6, 0, 7) (by decide))
theorem k0_g6_1 {f : Nat → zP β} (h : L0 M) : (z_bd (z_gA 6 6 1) f).1 (KI M F) = (f 8).1 (KI M F) := ki_gA (k0_is6 h) (h.2.2.2 (6, 1, 8) (by decide))
theorem k0_g6_2 {f : Nat → zP β} (h : L0 M) : (z_bd (z_gA 6 6 2) f).1 (KI M F) = (f 9).1 (KI M F) := ki_gA (k0_is6 h) (h.2.2.2 (6, 2, 9) (by decide))
theorem k0_g6_3 {f : Nat → zP β} (h : L0 M) : (z_bd (z_gA 6 6 3) f).1 (KI M F) = (f 10).1 (KI M F) := ki_gA (k0_is6 h) (h.2.2.2 (6, 3, 10) (by decide))
theorem k0_g6_4 {f : Nat → zP β} (h : L0 M) : (z_bd (z_gA 6 6 4) f).1 (KI M F) = (f 11).1 (KI M F) := ki_gA (k0_is6 h) (h.2.2.2 (6, 4, 11) (by decide))
theorem k0_g6_5 {f : Nat → zP β} (h : L0 M) : (z_bd (z_gA 6 6 5) f).1 (KI M F) = (f 12).1 (KI M F) := ki_gA (k0_is6 h) (h.2.2.2 (6, 5, 12) (by decide))
theorem k0_gI0 {f : Int32 → zP β} (h : L0 M) : (z_bd (z_gI 8 0 k) f).1 (KI M F) = (f (F 0 k)).1 (KI M F) := ki_gI (k0_is0 h)
theorem k0_pI0 {f : Unit → zP β} (h : L0 M) : (z_bd (z_pI 8 0 k x) f).1 (KI M F) = (f ()).1 (KI M (z_up2 F 0 k x)) := ki_pI (k0_is0 h)
theorem k0_cv0 {α : Type} {p : zP α} {f : α → zP β} (h : L0 M) : (z_bd (z_cv 8 0 p) f).1 (KI M F) = (z_bd p f).1 (KI M F) := ki_cv (k0_is0 h)
theorem k0_gI2 {f : Int32 → zP β} (h : L0 M) : (z_bd (z_gI 1 2 k) f).1 (KI M F) = (f (F 2 k)).1 (KI M F) := ki_gI (k0_is2 h)
theorem k0_pI2 {f : Unit → zP β} (h : L0 M) : (z_bd (z_pI 1 2 k x) f).1 (KI M F) = (f ()).1 (KI M (z_up2 F 2 k x)) := ki_pI (k0_is2 h)
theorem k0_cv2 {α : Type} {p : zP α} {f : α → zP β} (h : L0 M) : (z_bd (z_cv 1 2 p) f).1 (KI M F) = (z_bd p f).1 (KI M F) := ki_cv (k0_is2 h)
theorem k0_gI4 {f : Int32 → zP β} (h : L0 M) : (z_bd (z_gI 3 4 k) f).1 (KI M F) = (f (F 4 k)).1 (KI M F) := ki_gI (k0_is4 h)
theorem k0_pI4 {f : Unit → zP β} (h : L0 M) : (z_bd (z_pI 3 4 k x) f).1 (KI M F) = (f ()).1 (KI M (z_up2 F 4 k x)) := ki_pI (k0_is4 h)
theorem k0_cv4 {α : Type} {p : zP α} {f : α → zP β} (h : L0 M) : (z_bd (z_cv 3 4 p) f).1 (KI M F) = (z_bd p f).1 (KI M F) := ki_cv (k0_is4 h)
theorem k0_gI6 {f : Int32 → zP β} (h : L0 M) : (z_bd (z_gI 6 6 k) f).1 (KI M F) = (f (F 6 k)).1 (KI M F) := ki_gI (k0_is6 h)
theorem k0_pI6 {f : Unit → zP β} (h : L0 M) : (z_bd (z_pI 6 6 k x) f).1 (KI M F) = (f ()).1 (KI M (z_up2 F 6 k x)) := ki_pI (k0_is6 h)
theorem k0_cv6 {α : Type} {p : zP α} {f : α → zP β} (h : L0 M) : (z_bd (z_cv 6 6 p) f).1 (KI M F) = (z_bd p f).1 (KI M F) := ki_cv (k0_is6 h)
theorem LZ_gen (h : LZ a M) (hn : z_nx M ≤ z_nx M') (hk : ∀ y, a ≤ y → y < a + 17 → z_kd M' y = z_kd M y ∧ z_ln M' y = z_ln M y) (hr : ∀ y j, a ≤ y → y < a + 17 → j < 6 → z_r M' y j = z_r M y j) : LZ a M' := by
  have ki : ∀ y c, a ≤ y → y < a + 17 → z_is c y M → z_is c y M' := fun y c h1 h2 h3 => ⟨Nat.lt_of_lt_of_le h3.1 hn, (hk y h1 h2).1.trans h3.2⟩
  have kl : ∀ y c n, a ≤ y → y < a + 17 → (z_is c y M ∧ z_ln M y = n) → z_is c y M' ∧ z_ln M' y = n := fun y c n h1 h2 h3 => ⟨ki y c h1 h2 h3.1, (hk y h1 h2).2.trans h3.2⟩
  obtain ⟨h1, ⟨l1, l2, l3, l4, l5⟩, ⟨r0, r1, r2, r3, r4, r5⟩, ⟨q1, q2, q3⟩, h5⟩ := h
  refine ⟨ki _ _ (by omega) (by omega) h1, ⟨kl _ _ _ (by omega) (by omega) l1, kl _ _ _ (by omega) (by omega) l2, kl _ _ _ (by omega) (by omega) l3, kl _ _ _ (by omega) (by omega) l4, kl _ _ _ (by omega) (by omega) l5⟩, ⟨(hr _ _ (by omega) (by omega) (by omega)).trans r0, (hr _ _ (by omega) (by omega) (by omega)).trans r1, (hr _ _ (by omega) (by omega) (by omega)).trans r2, (hr _ _ (by omega) (by omega) (by omega)).trans r3, (hr _ _ (by omega) (by omega) (by omega)).trans r4, (hr _ _ (by omega) (by omega) (by omega)).trans r5⟩, ⟨ki _ _ (by omega) (by omega) q1, kl _ _ _ (by omega) (by omega) q2, (hr _ _ (by omega) (by omega) (by omega)).trans q3⟩, fun t ht => ?_⟩
  obtain ⟨t0, t1, t2, t3, t4, t5⟩ := h5 t ht
  exact ⟨(hr _ _ (by omega) (by omega) (by omega)).trans t0, ki _ _ (by omega) (by omega) t1, kl _ _ _ (by omega) (by omega) t2, kl _ _ _ (by omega) (by omega) t3, (hr _ _ (by omega) (by omega) (by omega)).trans t4, (hr _ _ (by omega) (by omega) (by omega)).trans t5⟩
theorem LC_gen (h : LC a M) (hn : z_nx M ≤ z_nx M') (hk : ∀ y, a ≤ y → y < a + 13 → z_kd M' y = z_kd M y ∧ z_ln M' y = z_ln M y) (hr : ∀ y j, a ≤ y → y < a + 13 → z_r M' y j = z_r M y j) : LC a M' := by
  have ki : ∀ y c, a ≤ y → y < a + 13 → z_is c y M → z_is c y M' := fun y c h1 h2 h3 => ⟨Nat.lt_of_lt_of_le h3.1 hn, (hk y h1 h2).1.trans h3.2⟩
  have kl : ∀ y c n, a ≤ y → y < a + 13 → (z_is c y M ∧ z_ln M y = n) → z_is c y M' ∧ z_ln M' y = n := fun y c n h1 h2 h3 => ⟨ki y c h1 h2 h3.1, (hk y h1 h2).2.trans h3.2⟩
  have kr : ∀ y j v, a ≤ y → y < a + 13 → z_r M y j = v → z_r M' y j = v := fun y j v h1 h2 h3 => (hr y j h1 h2).trans h3
  obtain ⟨h1, ⟨l1, l2, l3, l4, l5, l6, l7, l8, l9⟩, ⟨r0, r1, r2, r3, r4, r5, r6, r7, r8, r9⟩, ⟨q1, q2, q3, q4, q5⟩⟩ := h
  exact ⟨ki _ _ (by omega) (by omega) h1, ⟨kl _ _ _ (by omega) (by omega) l1, kl _ _ _ (by omega) (by omega) l2, kl _ _ _ (by omega) (by omega) l3, kl _ _ _ (by omega) (by omega) l4, kl _ _ _ (by omega) (by omega) l5, kl _ _ _ (by omega) (by omega) l6, kl _ _ _ (by omega) (by omega) l7, kl _ _ _ (by omega) (by omega) l8, kl _ _ _ (by omega) (by omega) l9⟩, ⟨kr _ _ _ (by omega) (by omega) r0, kr _ _ _ (by omega) (by omega) r1, kr _ _ _ (by omega) (by omega) r2, kr _ _ _ (by omega) (by omega) r3, kr _ _ _ (by omega) (by omega) r4, kr _ _ _ (by omega) (by omega) r5, kr _ _ _ (by omega) (by omega) r6, kr _ _ _ (by omega) (by omega) r7, kr _ _ _ (by omega) (by omega) r8, kr _ _ _ (by omega) (by omega) r9⟩, ki _ _ (by omega) (by omega) q1, kl _ _ _ (by omega) (by omega) q2, kl _ _ _ (by omega) (by omega) q3, kr _ _ _ (by omega) (by omega) q4, kr _ _ _ (by omega) (by omega) q5⟩
theorem loc_rf : loc c sp M M := ⟨Nat.le_refl _, fun _ _ => ⟨rfl, rfl⟩, fun _ _ _ _ => rfl, fun _ _ _ => rfl⟩
theorem loc_tr (h : loc c sp M M1) (g : loc c sp M1 M') : loc c sp M M' := ⟨Nat.le_trans h.1 g.1, fun y hy => ⟨((g.2.1 y (Nat.lt_of_lt_of_le hy h.1)).1).trans (h.2.1 y hy).1, ((g.2.1 y (Nat.lt_of_lt_of_le hy h.1)).2).trans (h.2.1 y hy).2⟩, fun y j hy hn => (g.2.2.1 y j (Nat.lt_of_lt_of_le hy h.1) hn).trans (h.2.2.1 y j hy hn), fun y hy hn => (g.2.2.2 y (Nat.lt_of_lt_of_le hy h.1) hn).trans (h.2.2.2 y hy hn)⟩
theorem loc_ext (h : ext M M') : loc c sp M M' := ⟨h.1, fun y hy => ⟨(h.2 y hy).1, (h.2 y hy).2.1⟩, fun y j hy _ => (h.2 y hy).2.2.1 j, fun y hy _ => (h.2 y hy).2.2.2.1⟩
theorem loc_KI (h : ∀ y, ¬ scr c sp y → F' y = F y) : loc c sp (KI M F) (KI M F') := ⟨Nat.le_refl _, fun _ _ => ⟨rfl, rfl⟩, fun _ _ _ _ => rfl, fun y _ hn => h y hn⟩
theorem loc_wr (h : ((a = 58 ∨ a = 6) ∧ b = 6) ∨ (a = 2 ∧ (b = 2 ∨ b = 3))) : loc c sp M (z_wr M a b v) := ⟨Nat.le_refl _, fun _ _ => ⟨rfl, rfl⟩, fun y j _ hn => r_wr (by
  by_cases e : y = a
  · right
    intro e2
    subst e e2
    exact hn h
  · exact Or.inl e), fun _ _ _ => rfl⟩
theorem L0_loc (h : L0 M) (g : loc c sp M M') : L0 M' := by
  have h96 := h.1
  have b1 : ∀ p ∈ to0, p.1 < 96 := by decide
  have b2 : ∀ p ∈ ta0, p.1 < 96 := by decide
  have b3 : ∀ p ∈ tr0, p.1 < 96 ∧ ¬ (((p.1 = 58 ∨ p.1 = 6) ∧ p.2.1 = 6) ∨ (p.1 = 2 ∧ (p.2.1 = 2 ∨ p.2.1 = 3))) := by decide
  refine ⟨Nat.le_trans h.1 g.1, fun p hp => ?_, fun p hp => ?_, fun p hp => ?_⟩
  · have := b1 p hp
    exact (g.2.1 p.1 (by omega)).1.trans (h.2.1 p hp)
  · have := b2 p hp
    exact ⟨(g.2.1 p.1 (by omega)).1.trans (h.2.2.1 p hp).1, (g.2.1 p.1 (by omega)).2.trans (h.2.2.1 p hp).2⟩
  · have := b3 p hp
    exact (g.2.2.1 p.1 p.2.1 (by omega) this.2).trans (h.2.2.2 p hp)
theorem LZ_loc (h : LZ a M) (g : loc c sp M M') (ha : 41 ≤ a) : LZ a M' := by
  have := LZ_lt h
  exact LZ_gen h g.1 (fun y h1 h2 => g.2.1 y (by omega)) (fun y j h1 h2 h3 => g.2.2.1 y j (by omega) (by omega))
theorem LC_loc (h : LC a M) (g : loc c sp M M') (ha : 15 ≤ a) (ha2 : a + 13 ≤ 58) : LC a M' := by
  have := LC_lt h
  exact LC_gen h g.1 (fun y h1 h2 => g.2.1 y (by omega)) (fun y j h1 h2 => g.2.2.1 y j (by omega) (by omega))
theorem sref_loc (h : L0 M) (g : loc c sp M M') (i : Nat) : sref M' i = sref M i := by
  have := h.1
  unfold sref
  split
  · exact g.2.2.1 5 i (by omega) (by omega)
  · exact g.2.2.1 13 (i - 10) (by omega) (by omega)
theorem HS_loc (h0 : L0 M) (h : HS M) (g : loc c sp M M') : HS M' := by
  refine ⟨fun i x hi hx => ?_, fun i j x x' hi hj hij hx hx' => ?_⟩
  · rw [sref_loc h0 g] at hx
    have h1 := h.1 i x hi hx
    exact ⟨h1.1, LZ_loc h1.2 g (by omega)⟩
  · rw [sref_loc h0 g] at hx hx'
    exact h.2 i j x x' hi hj hij hx hx'
theorem AV_loc (h : AV M (z_i M) a c ct cd st ns nt np nc kk T) (g : loc c sp M M') (ha : a = 41 ∨ 96 ≤ a) (hc : (c = 15 ∧ sp = 28) ∨ (c = 28 ∧ sp = 15)) : AV M' (z_i M') a c ct cd st ns nt np nc kk T := by
  have E := AV_EN h
  have h1 := LZ_lt E.1.1
  have h2 := LC_lt E.1.2.2.1
  exact AV_MF h (LZ_loc E.1.1 g (by omega)) (g.2.2.1 a 6 (by omega) (by omega)) (LC_loc E.1.2.2.1 g (by omega) (by omega)) (fun y h3 h4 => g.2.2.2 y (by omega) (by unfold scr; omega)) (fun y h3 h4 => g.2.2.2 y (by omega) (by unfold scr; omega))
theorem CI_loc (h : CI k M c sp ct cd ns nt np nc st H S n bf) (g : loc c sp M M') : CI k M' c sp ct cd ns nt np nc st H S n bf := by
  obtain ⟨⟨h0, ⟨z1, z2, z3, z4⟩, hc, ⟨r9, r10⟩, hs⟩, ⟨T, hT, hA⟩, ⟨fs, f1, f2, f3, f4, f5⟩, hS, b1, b2, b3⟩ := h
  have h96 := h0.1
  refine ⟨⟨L0_loc h0 g, ⟨LZ_loc z1 g (by omega), LZ_loc z2 g (by omega), LC_loc z3 g (by omega) (by omega), LC_loc z4 g (by omega) (by omega)⟩, hc, ⟨(g.2.2.1 0 9 (by omega) (by omega)).trans r9, (g.2.2.1 0 10 (by omega) (by omega)).trans r10⟩, HS_loc h0 hs g⟩, ⟨T, hT, AV_loc hA g (Or.inl rfl) hc⟩, ⟨fs, f1, f2, ?_, ?_, fun i s hi => ?_⟩, fun i hi => ⟨fun e => ?_, fun s e => ?_⟩, ?_, b2, fun i hi => ?_⟩
  · rw [g.2.2.2 4 (by omega) (by unfold scr; omega)]; exact f3
  · rw [g.2.2.2 4 (by omega) (by unfold scr; omega)]; exact f4
  · obtain ⟨x, T2, x1, x2, x3⟩ := f5 i s hi
    have hm : (fs + i) % 10 < 10 := Nat.mod_lt _ (by decide)
    have h1 := hs.1 ((fs + i) % 10) x (by omega) (by unfold sref; rw [if_pos hm]; exact x1)
    exact ⟨x, T2, (g.2.2.1 5 _ (by omega) (by omega)).trans x1, x2, AV_loc x3 g (Or.inr h1.1) hc⟩
  · rw [g.2.2.2 14 (by omega) (by unfold scr; omega)]; exact (hS i hi).1 e
  · obtain ⟨e1, x, T2, x1, x2, x3⟩ := (hS i hi).2 s e
    have h1 := hs.1 (i + 10) x (by omega) (by unfold sref; rw [if_neg (by omega), show i + 10 - 10 = i by omega]; exact x1)
    refine ⟨?_, x, T2, (g.2.2.1 13 _ (by omega) (by omega)).trans x1, x2, AV_loc x3 g (Or.inr h1.1) hc⟩
    rw [g.2.2.2 14 (by omega) (by unfold scr; omega)]; exact e1
  · rw [g.2.2.2 0 (by omega) (by unfold scr; omega)]; exact b1
  · rw [g.2.2.2 1 (by omega) (by unfold scr; omega)]; exact b3 i hi
theorem MI_tr (h : MI M ct cd st H S n bf) (h9 : L9 M') (hF : ∀ y, 75 ≤ y → y < 95 → z_i M' y = z_i M y) : MI M' ct cd st H S n bf := by
  unfold MI
  rw [hF 78 (by omega) (by omega), hF 80 (by omega) (by omega), hF 83 (by omega) (by omega), hF 75 (by omega) (by omega), hF 84 (by omega) (by omega), hF 86 (by omega) (by omega), hF 85 (by omega) (by omega), hF 76 (by omega) (by omega)]
  exact ⟨h9, h.2⟩
theorem MI_ext (h : MI M ct cd st H S n bf) (g : ext M M') : MI M' ct cd st H S n bf := MI_tr h (L9_ext h.1 g) (fun y h1 h2 => (g.2 y (by have := h.1.1; omega)).2.2.2.1)
theorem CI_kk (h : CI k M c sp ct cd ns nt np nc st H S n bf) (hk : k ≤ kk) : CI kk M c sp ct cd ns nt np nc st H S n bf := by
  obtain ⟨h1, ⟨T, hT, hA⟩, ⟨fs, f1, f2, f3, f4, f5⟩, hS, hb⟩ := h
  refine ⟨h1, ⟨T, hT, AV_kk hA hk⟩, ⟨fs, f1, f2, f3, f4, fun i s hi => ?_⟩, fun i hi => ⟨(hS i hi).1, fun s e => ?_⟩, hb⟩
  · obtain ⟨x, T2, x1, x2, x3⟩ := f5 i s hi
    exact ⟨x, T2, x1, x2, AV_kk x3 hk⟩
  · obtain ⟨e1, x, T2, x1, x2, x3⟩ := (hS i hi).2 s e
    exact ⟨e1, x, T2, x1, x2, AV_kk x3 hk⟩
end PA9
