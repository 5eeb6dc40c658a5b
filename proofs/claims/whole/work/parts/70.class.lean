/-! ===== PHASE 2: the class's objects; KI M F: a base memory with other ints ===== -/
def KI (M : zM) (F : Nat → Nat → Int32) : zM := (M.1, M.2.1, F, z_r M, z_j M)
theorem KI_eta (M : zM) : M = KI M (z_i M) := rfl
def LT (b : Nat) (M : zM) : Prop := z_is 7 b M ∧ (z_is 11 (b + 1) M ∧ z_ln M (b + 1) = 6) ∧ (z_is 11 (b + 2) M ∧ z_ln M (b + 2) = 6) ∧ z_r M b 0 = some (b + 1) ∧ z_r M b 1 = some (b + 2)
def LR (b : Nat) (M : zM) : Prop := z_is 4 b M ∧ (z_is 11 (b + 1) M ∧ z_ln M (b + 1) = 768) ∧ z_r M b 0 = some (b + 1)
def LF (b : Nat) (M : zM) : Prop := z_is 2 b M ∧ (z_is 11 (b + 1) M ∧ z_ln M (b + 1) = 700) ∧ (z_is 11 (b + 2) M ∧ z_ln M (b + 2) = 16) ∧ z_r M b 0 = some (b + 1) ∧ z_r M b 1 = some (b + 2)
def LC (c : Nat) (M : zM) : Prop := z_is 0 c M ∧ ((z_is 11 (c + 1) M ∧ z_ln M (c + 1) = 8) ∧ (z_is 11 (c + 2) M ∧ z_ln M (c + 2) = 8) ∧ (z_is 11 (c + 3) M ∧ z_ln M (c + 3) = 8) ∧ (z_is 11 (c + 4) M ∧ z_ln M (c + 4) = 8) ∧ (z_is 11 (c + 5) M ∧ z_ln M (c + 5) = 3) ∧ (z_is 11 (c + 6) M ∧ z_ln M (c + 6) = 3) ∧ (z_is 11 (c + 7) M ∧ z_ln M (c + 7) = 30) ∧ (z_is 11 (c + 8) M ∧ z_ln M (c + 8) = 30) ∧ (z_is 11 (c + 9) M ∧ z_ln M (c + 9) = 30)) ∧ (z_r M c 0 = some (c + 1) ∧ z_r M c 1 = some (c + 2) ∧ z_r M c 2 = some (c + 3) ∧ z_r M c 3 = some (c + 4) ∧ z_r M c 4 = some (c + 5) ∧ z_r M c 5 = some (c + 6) ∧ z_r M c 6 = some (c + 7) ∧ z_r M c 7 = some (c + 8) ∧ z_r M c 8 = some (c + 9) ∧ z_r M c 9 = some (c + 10)) ∧ LF (c + 10) M
def LZ (a : Nat) (M : zM) : Prop := z_is 5 a M ∧ ((z_is 11 (a + 1) M ∧ z_ln M (a + 1) = 8) ∧ (z_is 11 (a + 2) M ∧ z_ln M (a + 2) = 8) ∧ (z_is 11 (a + 3) M ∧ z_ln M (a + 3) = 64) ∧ (z_is 11 (a + 4) M ∧ z_ln M (a + 4) = 64) ∧ (z_is 14 (a + 5) M ∧ z_ln M (a + 5) = 3)) ∧ (z_r M a 0 = some (a + 1) ∧ z_r M a 1 = some (a + 2) ∧ z_r M a 2 = some (a + 3) ∧ z_r M a 3 = some (a + 4) ∧ z_r M a 4 = some (a + 5) ∧ z_r M a 5 = some (a + 6)) ∧ LR (a + 6) M ∧ ∀ t, t < 3 → z_r M (a + 5) t = some (a + 8 + 3 * t) ∧ LT (a + 8 + 3 * t) M
section PC
variable {β : Type} {M : zM} {F : Nat → Nat → Int32} {a b c d k n v : Nat} {x : Int32}
theorem ki_gI {f : Int32 → zP β} (h : z_is d a M) : (z_bd (z_gI d a k) f).1 (KI M F) = (f (F a k)).1 (KI M F) := e_gI (M := KI M F) h
theorem ki_pI {f : Unit → zP β} (h : z_is d a M) : (z_bd (z_pI d a k x) f).1 (KI M F) = (f ()).1 (KI M (z_up2 F a k x)) := e_pI (M := KI M F) h
theorem ki_cv {α : Type} {p : zP α} {f : α → zP β} (h : z_is d a M) : (z_bd (z_cv d a p) f).1 (KI M F) = (z_bd p f).1 (KI M F) := e_cv (M := KI M F) h
theorem ki_gA {f : Nat → zP β} (h : z_is d a M) (hr : z_r M a k = some v) : (z_bd (z_gA d a k) f).1 (KI M F) = (f v).1 (KI M F) := e_gA (M := KI M F) h hr
theorem ki_in (h : z_is d a M ∧ z_ln M a = n) (hk : k < n) (hn : n < 2 ^ 31) : z_in d a (nI k) (KI M F) := n_in (M := KI M F) h.1 h.2 hk hn
theorem ki_aI {f : Int32 → zP β} (h : z_is 11 a M ∧ z_ln M a = n) (hk : k < n) (hn : n < 2 ^ 31) : (z_bd (z_aI 11 a (nI k)) f).1 (KI M F) = (f (F a k)).1 (KI M F) := by
  refine (e_aI (ki_in (F := F) h hk hn)).trans ?_
  rw [nI_clamp (by omega)]
  rfl
theorem ki_sI {f : Unit → zP β} (h : z_is 11 a M ∧ z_ln M a = n) (hk : k < n) (hn : n < 2 ^ 31) : (z_bd (z_sI 11 a (nI k) x) f).1 (KI M F) = (f ()).1 (KI M (z_up2 F a k x)) := by
  refine (e_sI (ki_in (F := F) h hk hn)).trans ?_
  rw [nI_clamp (by omega)]
  rfl
theorem ki_aA {f : Nat → zP β} (h : z_is d a M ∧ z_ln M a = n) (hk : k < n) (hn : n < 2 ^ 31) (hr : z_r M a k = some v) : (z_bd (z_aA d a (nI k)) f).1 (KI M F) = (f v).1 (KI M F) := by
  refine e_aA (v := v) (ki_in (F := F) h hk hn) ?_
  rw [nI_clamp (by omega)]
  exact hr
theorem ki_al {f : Int32 → zP β} (h : z_is 11 a M ∧ z_ln M a = n) : (z_bd (z_al 11 a) f).1 (KI M F) = (f (nI n)).1 (KI M F) := by
  refine (e_al (M := KI M F) h.1).trans ?_
  show (f (nI (z_ln M a))).1 _ = _
  rw [h.2]
theorem u2_s (F : Nat → Nat → Int32) (a k : Nat) (x : Int32) : z_up2 F a k x a k = x := if_pos ⟨rfl, rfl⟩
theorem u2_n (F : Nat → Nat → Int32) {a k b j : Nat} (x : Int32) (h : b ≠ a ∨ j ≠ k) : z_up2 F a k x b j = F b j := if_neg (fun q => h.elim (fun e => e q.1) (fun e => e q.2))
theorem kt_gI {f : Int32 → zP β} (h : LT b M) : (z_bd (z_gI 7 b k) f).1 (KI M F) = (f (F b k)).1 (KI M F) := ki_gI h.1
theorem kt_pI {f : Unit → zP β} (h : LT b M) : (z_bd (z_pI 7 b k x) f).1 (KI M F) = (f ()).1 (KI M (z_up2 F b k x)) := ki_pI h.1
theorem kt_cv {α : Type} {p : zP α} {f : α → zP β} (h : LT b M) : (z_bd (z_cv 7 b p) f).1 (KI M F) = (z_bd p f).1 (KI M F) := ki_cv h.1
theorem kt_g0 {f : Nat → zP β} (h : LT b M) : (z_bd (z_gA 7 b 0) f).1 (KI M F) = (f (b + 1)).1 (KI M F) := ki_gA h.1 h.2.2.2.1
theorem kt_g1 {f : Nat → zP β} (h : LT b M) : (z_bd (z_gA 7 b 1) f).1 (KI M F) = (f (b + 2)).1 (KI M F) := ki_gA h.1 h.2.2.2.2
theorem kt_a1 {f : Int32 → zP β} (h : LT b M) (hk : k < 6) : (z_bd (z_aI 11 (b + 1) (nI k)) f).1 (KI M F) = (f (F (b + 1) k)).1 (KI M F) := ki_aI h.2.1 hk (by decide)
theorem kt_s1 {f : Unit → zP β} (h : LT b M) (hk : k < 6) : (z_bd (z_sI 11 (b + 1) (nI k) x) f).1 (KI M F) = (f ()).1 (KI M (z_up2 F (b + 1) k x)) := ki_sI h.2.1 hk (by decide)
theorem kt_n1 {f : Int32 → zP β} (h : LT b M) : (z_bd (z_al 11 (b + 1)) f).1 (KI M F) = (f (nI 6)).1 (KI M F) := ki_al h.2.1
theorem kt_z1 {f : Int32 → zP β} (h : LT b M) : (z_bd (z_aI 11 (b + 1) 0) f).1 (KI M F) = (f (F (b + 1) 0)).1 (KI M F) := ki_aI (k := 0) h.2.1 (by decide) (by decide)
theorem kt_a2 {f : Int32 → zP β} (h : LT b M) (hk : k < 6) : (z_bd (z_aI 11 (b + 2) (nI k)) f).1 (KI M F) = (f (F (b + 2) k)).1 (KI M F) := ki_aI h.2.2.1 hk (by decide)
theorem kt_s2 {f : Unit → zP β} (h : LT b M) (hk : k < 6) : (z_bd (z_sI 11 (b + 2) (nI k) x) f).1 (KI M F) = (f ()).1 (KI M (z_up2 F (b + 2) k x)) := ki_sI h.2.2.1 hk (by decide)
theorem kt_n2 {f : Int32 → zP β} (h : LT b M) : (z_bd (z_al 11 (b + 2)) f).1 (KI M F) = (f (nI 6)).1 (KI M F) := ki_al h.2.2.1
theorem kt_z2 {f : Int32 → zP β} (h : LT b M) : (z_bd (z_aI 11 (b + 2) 0) f).1 (KI M F) = (f (F (b + 2) 0)).1 (KI M F) := ki_aI (k := 0) h.2.2.1 (by decide) (by decide)
theorem kr_gI {f : Int32 → zP β} (h : LR b M) : (z_bd (z_gI 4 b k) f).1 (KI M F) = (f (F b k)).1 (KI M F) := ki_gI h.1
theorem kr_pI {f : Unit → zP β} (h : LR b M) : (z_bd (z_pI 4 b k x) f).1 (KI M F) = (f ()).1 (KI M (z_up2 F b k x)) := ki_pI h.1
theorem kr_cv {α : Type} {p : zP α} {f : α → zP β} (h : LR b M) : (z_bd (z_cv 4 b p) f).1 (KI M F) = (z_bd p f).1 (KI M F) := ki_cv h.1
theorem kr_g0 {f : Nat → zP β} (h : LR b M) : (z_bd (z_gA 4 b 0) f).1 (KI M F) = (f (b + 1)).1 (KI M F) := ki_gA h.1 h.2.2
theorem kr_a1 {f : Int32 → zP β} (h : LR b M) (hk : k < 768) : (z_bd (z_aI 11 (b + 1) (nI k)) f).1 (KI M F) = (f (F (b + 1) k)).1 (KI M F) := ki_aI h.2.1 hk (by decide)
theorem kr_s1 {f : Unit → zP β} (h : LR b M) (hk : k < 768) : (z_bd (z_sI 11 (b + 1) (nI k) x) f).1 (KI M F) = (f ()).1 (KI M (z_up2 F (b + 1) k x)) := ki_sI h.2.1 hk (by decide)
theorem kr_n1 {f : Int32 → zP β} (h : LR b M) : (z_bd (z_al 11 (b + 1)) f).1 (KI M F) = (f (nI 768)).1 (KI M F) := ki_al h.2.1
theorem kr_z1 {f : Int32 → zP β} (h : LR b M) : (z_bd (z_aI 11 (b + 1) 0) f).1 (KI M F) = (f (F (b + 1) 0)).1 (KI M F) := ki_aI (k := 0) h.2.1 (by decide) (by decide)
theorem kf_gI {f : Int32 → zP β} (h : LF b M) : (z_bd (z_gI 2 b k) f).1 (KI M F) = (f (F b k)).1 (KI M F) := ki_gI h.1
theorem kf_pI {f : Unit → zP β} (h : LF b M) : (z_bd (z_pI 2 b k x) f).1 (KI M F) = (f ()).1 (KI M (z_up2 F b k x)) := ki_pI h.1
theorem kf_cv {α : Type} {p : zP α} {f : α → zP β} (h : LF b M) : (z_bd (z_cv 2 b p) f).1 (KI M F) = (z_bd p f).1 (KI M F) := ki_cv h.1
theorem kf_g0 {f : Nat → zP β} (h : LF b M) : (z_bd (z_gA 2 b 0) f).1 (KI M F) = (f (b + 1)).1 (KI M F) := ki_gA h.1 h.2.2.2.1
theorem kf_g1 {f : Nat → zP β} (h : LF b M) : (z_bd (z_gA 2 b 1) f).1 (KI M F) = (f (b + 2)).1 (KI M F) := ki_gA h.1 h.2.2.2.2
theorem kf_a1 {f : Int32 → zP β} (h : LF b M) (hk : k < 700) : (z_bd (z_aI 11 (b + 1) (nI k)) f).1 (KI M F) = (f (F (b + 1) k)).1 (KI M F) := ki_aI h.2.1 hk (by decide)
theorem kf_s1 {f : Unit → zP β} (h : LF b M) (hk : k < 700) : (z_bd (z_sI 11 (b + 1) (nI k) x) f).1 (KI M F) = (f ()).1 (KI M (z_up2 F (b + 1) k x)) := ki_sI h.2.1 hk (by decide)
theorem kf_n1 {f : Int32 → zP β} (h : LF b M) : (z_bd (z_al 11 (b + 1)) f).1 (KI M F) = (f (nI 700)).1 (KI M F) := ki_al h.2.1
theorem kf_z1 {f : Int32 → zP β} (h : LF b M) : (z_bd (z_aI 11 (b + 1) 0) f).1 (KI M F) = (f (F (b + 1) 0)).1 (KI M F) := ki_aI (k := 0) h.2.1 (by decide) (by decide)
theorem kf_a2 {f : Int32 → zP β} (h : LF b M) (hk : k < 16) : (z_bd (z_aI 11 (b + 2) (nI k)) f).1 (KI M F) = (f (F (b + 2) k)).1 (KI M F) := ki_aI h.2.2.1 hk (by decide)
theorem kf_s2 {f : Unit → zP β} (h : LF b M) (hk : k < 16) : (z_bd (z_sI 11 (b + 2) (nI k) x) f).1 (KI M F) = (f ()).1 (KI M (z_up2 F (b + 2) k x)) := ki_sI h.2.2.1 hk (by decide)
theorem kf_n2 {f : Int32 → zP β} (h : LF b M) : (z_bd (z_al 11 (b + 2)) f).1 (KI M F) = (f (nI 16)).1 (KI M F) := ki_al h.2.2.1
theorem kf_z2 {f : Int32 → zP β} (h : LF b M) : (z_bd (z_aI 11 (b + 2) 0) f).1 (KI M F) = (f (F (b + 2) 0)).1 (KI M F) := ki_aI (k := 0) h.2.2.1 (by decide) (by decide)
theorem kc_gI {f : Int32 → zP β} (h : LC c M) : (z_bd (z_gI 0 c k) f).1 (KI M F) = (f (F c k)).1 (KI M F) := ki_gI h.1
theorem kc_pI {f : Unit → zP β} (h : LC c M) : (z_bd (z_pI 0 c k x) f).1 (KI M F) = (f ()).1 (KI M (z_up2 F c k x)) := ki_pI h.1
theorem kc_cv {α : Type} {p : zP α} {f : α → zP β} (h : LC c M) : (z_bd (z_cv 0 c p) f).1 (KI M F) = (z_bd p f).1 (KI M F) := ki_cv h.1
theorem kc_g0 {f : Nat → zP β} (h : LC c M) : (z_bd (z_gA 0 c 0) f).1 (KI M F) = (f (c + 1)).1 (KI M F) := ki_gA h.1 h.2.2.1.1
theorem kc_g1 {f : Nat → zP β} (h : LC c M) : (z_bd (z_gA 0 c 1) f).1 (KI M F) = (f (c + 2)).1 (KI M F) := ki_gA h.1 h.2.2.1.2.1
theorem kc_g2 {f : Nat → zP β} (h : LC c M) : (z_bd (z_gA 0 c 2) f).1 (KI M F) = (f (c + 3)).1 (KI M F) := ki_gA h.1 h.2.2.1.2.2.1
theorem kc_g3 {f : Nat → zP β} (h : LC c M) : (z_bd (z_gA 0 c 3) f).1 (KI M F) = (f (c + 4)).1 (KI M F) := ki_gA h.1 h.2.2.1.2.2.2.1
theorem kc_g4 {f : Nat → zP β} (h : LC c M) : (z_bd (z_gA 0 c 4) f).1 (KI M F) = (f (c + 5)).1 (KI M F) := ki_gA h.1 h.2.2.1.2.2.2.2.1
theorem kc_g5 {f : Nat → zP β} (h : LC c M) : (z_bd (z_gA 0 c 5) f).1 (KI M F) = (f (c + 6)).1 (KI M F) := ki_gA h.1 h.2.2.1.2.2.2.2.2.1
theorem kc_g6 {f : Nat → zP β} (h : LC c M) : (z_bd (z_gA 0 c 6) f).1 (KI M F) = (f (c + 7)).1 (KI M F) := ki_gA h.1 h.2.2.1.2.2.2.2.2.2.1
theorem kc_g7 {f : Nat → zP β} (h : LC c M) : (z_bd (z_gA 0 c 7) f).1 (KI M F) = (f (c + 8)).1 (KI M F) := ki_gA h.1 h.2.2.1.2.2.2.2.2.2.2.1
theorem kc_g8 {f : Nat → zP β} (h : LC c M) : (z_bd (z_gA 0 c 8) f).1 (KI M F) = (f (c + 9)).1 (KI M F) := ki_gA h.1 h.2.2.1.2.2.2.2.2.2.2.2.1
theorem kc_g9 {f : Nat → zP β} (h : LC c M) : (z_bd (z_gA 0 c 9) f).1 (KI M F) = (f (c + 10)).1 (KI M F) := ki_gA h.1 h.2.2.1.2.2.2.2.2.2.2.2.2
theorem kc_a1 {f : Int32 → zP β} (h : LC c M) (hk : k < 8) : (z_bd (z_aI 11 (c + 1) (nI k)) f).1 (KI M F) = (f (F (c + 1) k)).1 (KI M F) := ki_aI h.2.1.1 hk (by decide)
theorem kc_s1 {f : Unit → zP β} (h : LC c M) (hk : k < 8) : (z_bd (z_sI 11 (c + 1) (nI k) x) f).1 (KI M F) = (f ()).1 (KI M (z_up2 F (c + 1) k x)) := ki_sI h.2.1.1 hk (by decide)
theorem kc_n1 {f : Int32 → zP β} (h : LC c M) : (z_bd (z_al 11 (c + 1)) f).1 (KI M F) = (f (nI 8)).1 (KI M F) := ki_al h.2.1.1
theorem kc_z1 {f : Int32 → zP β} (h : LC c M) : (z_bd (z_aI 11 (c + 1) 0) f).1 (KI M F) = (f (F (c + 1) 0)).1 (KI M F) := ki_aI (k := 0) h.2.1.1 (by decide) (by decide)
theorem kc_a2 {f : Int32 → zP β} (h : LC c M) (hk : k < 8) : (z_bd (z_aI 11 (c + 2) (nI k)) f).1 (KI M F) = (f (F (c + 2) k)).1 (KI M F) := ki_aI h.2.1.2.1 hk (by decide)
theorem kc_s2 {f : Unit → zP β} (h : LC c M) (hk : k < 8) : (z_bd (z_sI 11 (c + 2) (nI k) x) f).1 (KI M F) = (f ()).1 (KI M (z_up2 F (c + 2) k x)) := ki_sI h.2.1.2.1 hk (by decide)
theorem kc_n2 {f : Int32 → zP β} (h : LC c M) : (z_bd (z_al 11 (c + 2)) f).1 (KI M F) = (f (nI 8)).1 (KI M F) := ki_al h.2.1.2.1
theorem kc_z2 {f : Int32 → zP β} (h : LC c M) : (z_bd (z_aI 11 (c + 2) 0) f).1 (KI M F) = (f (F (c + 2) 0)).1 (KI M F) := ki_aI (k := 0) h.2.1.2.1 (by decide) (by decide)
theorem kc_a3 {f : Int32 → zP β} (h : LC c M) (hk : k < 8) : (z_bd (z_aI 11 (c + 3) (nI k)) f).1 (KI M F) = (f (F (c + 3) k)).1 (KI M F) := ki_aI h.2.1.2.2.1 hk (by decide)
theorem kc_s3 {f : Unit → zP β} (h : LC c M) (hk : k < 8) : (z_bd (z_sI 11 (c + 3) (nI k) x) f).1 (KI M F) = (f ()).1 (KI M (z_up2 F (c + 3) k x)) := ki_sI h.2.1.2.2.1 hk (by decide)
theorem kc_n3 {f : Int32 → zP β} (h : LC c M) : (z_bd (z_al 11 (c + 3)) f).1 (KI M F) = (f (nI 8)).1 (KI M F) := ki_al h.2.1.2.2.1
theorem kc_z3 {f : Int32 → zP β} (h : LC c M) : (z_bd (z_aI 11 (c + 3) 0) f).1 (KI M F) = (f (F (c + 3) 0)).1 (KI M F) := ki_aI (k := 0) h.2.1.2.2.1 (by decide) (by decide)
theorem kc_a4 {f : Int32 → zP β} (h : LC c M) (hk : k < 8) : (z_bd (z_aI 11 (c + 4) (nI k)) f).1 (KI M F) = (f (F (c + 4) k)).1 (KI M F) := ki_aI h.2.1.2.2.2.1 hk (by decide)
theorem kc_s4 {f : Unit → zP β} (h : LC c M) (hk : k < 8) : (z_bd (z_sI 11 (c + 4) (nI k) x) f).1 (KI M F) = (f ()).1 (KI M (z_up2 F (c + 4) k x)) := ki_sI h.2.1.2.2.2.1 hk (by decide)
theorem kc_n4 {f : Int32 → zP β} (h : LC c M) : (z_bd (z_al 11 (c + 4)) f).1 (KI M F) = (f (nI 8)).1 (KI M F) := ki_al h.2.1.2.2.2.1
theorem kc_z4 {f : Int32 → zP β} (h : LC c M) : (z_bd (z_aI 11 (c + 4) 0) f).1 (KI M F) = (f (F (c + 4) 0)).1 (KI M F) := ki_aI (k := 0) h.2.1.2.2.2.1 (by decide) (by decide)
theorem kc_a5 {f : Int32 → zP β} (h : LC c M) (hk : k < 3) : (z_bd (z_aI 11 (c + 5) (nI k)) f).1 (KI M F) = (f (F (c + 5) k)).1 (KI M F) := ki_aI h.2.1.2.2.2.2.1 hk (by decide)
theorem kc_s5 {f : Unit → zP β} (h : LC c M) (hk : k < 3) : (z_bd (z_sI 11 (c + 5) (nI k) x) f).1 (KI M F) = (f ()).1 (KI M (z_up2 F (c + 5) k x)) := ki_sI h.2.1.2.2.2.2.1 hk (by decide)
theorem kc_n5 {f : Int32 → zP β} (h : LC c M) : (z_bd (z_al 11 (c + 5)) f).1 (KI M F) = (f (nI 3)).1 (KI M F) := ki_al h.2.1.2.2.2.2.1
theorem kc_z5 {f : Int32 → zP β} (h : LC c M) : (z_bd (z_aI 11 (c + 5) 0) f).1 (KI M F) = (f (F (c + 5) 0)).1 (KI M F) := ki_aI (k := 0) h.2.1.2.2.2.2.1 (by decide) (by decide)
theorem kc_a6 {f : Int32 → zP β} (h : LC c M) (hk : k < 3) : (z_bd (z_aI 11 (c + 6) (nI k)) f).1 (KI M F) = (f (F (c + 6) k)).1 (KI M F) := ki_aI h.2.1.2.2.2.2.2.1 hk (by decide)
theorem kc_s6 {f : Unit → zP β} (h : LC c M) (hk : k < 3) : (z_bd (z_sI 11 (c + 6) (nI k) x) f).1 (KI M F) = (f ()).1 (KI M (z_up2 F (c + 6) k x)) := ki_sI h.2.1.2.2.2.2.2.1 hk (by decide)
theorem kc_n6 {f : Int32 → zP β} (h : LC c M) : (z_bd (z_al 11 (c + 6)) f).1 (KI M F) = (f (nI 3)).1 (KI M F) := ki_al h.2.1.2.2.2.2.2.1
theorem kc_z6 {f : Int32 → zP β} (h : LC c M) : (z_bd (z_aI 11 (c + 6) 0) f).1 (KI M F) = (f (F (c + 6) 0)).1 (KI M F) := ki_aI (k := 0) h.2.1.2.2.2.2.2.1 (by decide) (by decide)
theorem kc_a7 {f : Int32 → zP β} (h : LC c M) (hk : k < 30) : (z_bd (z_aI 11 (c + 7) (nI k)) f).1 (KI M F) = (f (F (c + 7) k)).1 (KI M F) := ki_aI h.2.1.2.2.2.2.2.2.1 hk (by decide)
theorem kc_s7 {f : Unit → zP β} (h : LC c M) (hk : k < 30) : (z_bd (z_sI 11 (c + 7) (nI k) x) f).1 (KI M F) = (f ()).1 (KI M (z_up2 F (c + 7) k x)) := ki_sI h.2.1.2.2.2.2.2.2.1 hk (by decide)
theorem kc_n7 {f : Int32 → zP β} (h : LC c M) : (z_bd (z_al 11 (c + 7)) f).1 (KI M F) = (f (nI 30)).1 (KI M F) := ki_al h.2.1.2.2.2.2.2.2.1
theorem kc_z7 {f : Int32 → zP β} (h : LC c M) : (z_bd (z_aI 11 (c + 7) 0) f).1 (KI M F) = (f (F (c + 7) 0)).1 (KI M F) := ki_aI (k := 0) h.2.1.2.2.2.2.2.2.1 (by decide) (by decide)
theorem kc_a8 {f : Int32 → zP β} (h : LC c M) (hk : k < 30) : (z_bd (z_aI 11 (c + 8) (nI k)) f).1 (KI M F) = (f (F (c + 8) k)).1 (KI M F) := ki_aI h.2.1.2.2.2.2.2.2.2.1 hk (by decide)
theorem kc_s8 {f : Unit → zP β} (h : LC c M) (hk : k < 30) : (z_bd (z_sI 11 (c + 8) (nI k) x) f).1 (KI M F) = (f ()).1 (KI M (z_up2 F (c + 8) k x)) := ki_sI h.2.1.2.2.2.2.2.2.2.1 hk (by decide)
theorem kc_n8 {f : Int32 → zP β} (h : LC c M) : (z_bd (z_al 11 (c + 8)) f).1 (KI M F) = (f (nI 30)).1 (KI M F) := ki_al h.2.1.2.2.2.2.2.2.2.1
theorem kc_z8 {f : Int32 → zP β} (h : LC c M) : (z_bd (z_aI 11 (c + 8) 0) f).1 (KI M F) = (f (F (c + 8) 0)).1 (KI M F) := ki_aI (k := 0) h.2.1.2.2.2.2.2.2.2.1 (by decide) (by decide)
theorem kc_a9 {f : Int32 → zP β} (h : LC c M) (hk : k < 30) : (z_bd (z_aI 11 (c + 9) (nI k)) f).1 (KI M F) = (f (F (c + 9) k)).1 (KI M F) := ki_aI h.2.1.2.2.2.2.2.2.2.2 hk (by decide)
theorem kc_s9 {f : Unit → zP β} (h : LC c M) (hk : k < 30) : (z_bd (z_sI 11 (c + 9) (nI k) x) f).1 (KI M F) = (f ()).1 (KI M (z_up2 F (c + 9) k x)) := ki_sI h.2.1.2.2.2.2.2.2.2.2 hk (by decide)
theorem kc_n9 {f : Int32 → zP β} (h : LC c M) : (z_bd (z_al 11 (c + 9)) f).1 (KI M F) = (f (nI 30)).1 (KI M F) := ki_al h.2.1.2.2.2.2.2.2.2.2
theorem kc_z9 {f : Int32 → zP β} (h : LC c M) : (z_bd (z_aI 11 (c + 9) 0) f).1 (KI M F) = (f (F (c + 9) 0)).1 (KI M F) := ki_aI (k := 0) h.2.1.2.2.2.2.2.2.2.2 (by decide) (by decide)
theorem ks_gI {f : Int32 → zP β} (h : LZ a M) : (z_bd (z_gI 5 a k) f).1 (KI M F) = (f (F a k)).1 (KI M F) := ki_gI h.1
theorem ks_pI {f : Unit → zP β} (h : LZ a M) : (z_bd (z_pI 5 a k x) f).1 (KI M F) = (f ()).1 (KI M (z_up2 F a k x)) := ki_pI h.1
theorem ks_cv {α : Type} {p : zP α} {f : α → zP β} (h : LZ a M) : (z_bd (z_cv 5 a p) f).1 (KI M F) = (z_bd p f).1 (KI M F) := ki_cv h.1
theorem ks_g0 {f : Nat → zP β} (h : LZ a M) : (z_bd (z_gA 5 a 0) f).1 (KI M F) = (f (a + 1)).1 (KI M F) := ki_gA h.1 h.2.2.1.1
theorem ks_g1 {f : Nat → zP β} (h : LZ a M) : (z_bd (z_gA 5 a 1) f).1 (KI M F) = (f (a + 2)).1 (KI M F) := ki_gA h.1 h.2.2.1.2.1
theorem ks_g2 {f : Nat → zP β} (h : LZ a M) : (z_bd (z_gA 5 a 2) f).1 (KI M F) = (f (a + 3)).1 (KI M F) := ki_gA h.1 h.2.2.1.2.2.1
theorem ks_g3 {f : Nat → zP β} (h : LZ a M) : (z_bd (z_gA 5 a 3) f).1 (KI M F) = (f (a + 4)).1 (KI M F) := ki_gA h.1 h.2.2.1.2.2.2.1
theorem ks_g4 {f : Nat → zP β} (h : LZ a M) : (z_bd (z_gA 5 a 4) f).1 (KI M F) = (f (a + 5)).1 (KI M F) := ki_gA h.1 h.2.2.1.2.2.2.2.1
theorem ks_g5 {f : Nat → zP β} (h : LZ a M) : (z_bd (z_gA 5 a 5) f).1 (KI M F) = (f (a + 6)).1 (KI M F) := ki_gA h.1 h.2.2.1.2.2.2.2.2
theorem ks_a1 {f : Int32 → zP β} (h : LZ a M) (hk : k < 8) : (z_bd (z_aI 11 (a + 1) (nI k)) f).1 (KI M F) = (f (F (a + 1) k)).1 (KI M F) := ki_aI h.2.1.1 hk (by decide)
theorem ks_s1 {f : Unit → zP β} (h : LZ a M) (hk : k < 8) : (z_bd (z_sI 11 (a + 1) (nI k) x) f).1 (KI M F) = (f ()).1 (KI M (z_up2 F (a + 1) k x)) := ki_sI h.2.1.1 hk (by decide)
theorem ks_n1 {f : Int32 → zP β} (h : LZ a M) : (z_bd (z_al 11 (a + 1)) f).1 (KI M F) = (f (nI 8)).1 (KI M F) := ki_al h.2.1.1
theorem ks_z1 {f : Int32 → zP β} (h : LZ a M) : (z_bd (z_aI 11 (a + 1) 0) f).1 (KI M F) = (f (F (a + 1) 0)).1 (KI M F) := ki_aI (k := 0) h.2.1.1 (by decide) (by decide)
theorem ks_a2 {f : Int32 → zP β} (h : LZ a M) (hk : k < 8) : (z_bd (z_aI 11 (a + 2) (nI k)) f).1 (KI M F) = (f (F (a + 2) k)).1 (KI M F) := ki_aI h.2.1.2.1 hk (by decide)
theorem ks_s2 {f : Unit → zP β} (h : LZ a M) (hk : k < 8) : (z_bd (z_sI 11 (a + 2) (nI k) x) f).1 (KI M F) = (f ()).1 (KI M (z_up2 F (a + 2) k x)) := ki_sI h.2.1.2.1 hk (by decide)
theorem ks_n2 {f : Int32 → zP β} (h : LZ a M) : (z_bd (z_al 11 (a + 2)) f).1 (KI M F) = (f (nI 8)).1 (KI M F) := ki_al h.2.1.2.1
theorem ks_z2 {f : Int32 → zP β} (h : LZ a M) : (z_bd (z_aI 11 (a + 2) 0) f).1 (KI M F) = (f (F (a + 2) 0)).1 (KI M F) := ki_aI (k := 0) h.2.1.2.1 (by decide) (by decide)
theorem ks_a3 {f : Int32 → zP β} (h : LZ a M) (hk : k < 64) : (z_bd (z_aI 11 (a + 3) (nI k)) f).1 (KI M F) = (f (F (a + 3) k)).1 (KI M F) := ki_aI h.2.1.2.2.1 hk (by decide)
theorem ks_s3 {f : Unit → zP β} (h : LZ a M) (hk : k < 64) : (z_bd (z_sI 11 (a + 3) (nI k) x) f).1 (KI M F) = (f ()).1 (KI M (z_up2 F (a + 3) k x)) := ki_sI h.2.1.2.2.1 hk (by decide)
theorem ks_n3 {f : Int32 → zP β} (h : LZ a M) : (z_bd (z_al 11 (a + 3)) f).1 (KI M F) = (f (nI 64)).1 (KI M F) := ki_al h.2.1.2.2.1
theorem ks_z3 {f : Int32 → zP β} (h : LZ a M) : (z_bd (z_aI 11 (a + 3) 0) f).1 (KI M F) = (f (F (a + 3) 0)).1 (KI M F) := ki_aI (k := 0) h.2.1.2.2.1 (by decide) (by decide)
theorem ks_a4 {f : Int32 → zP β} (h : LZ a M) (hk : k < 64) : (z_bd (z_aI 11 (a + 4) (nI k)) f).1 (KI M F) = (f (F (a + 4) k)).1 (KI M F) := ki_aI h.2.1.2.2.2.1 hk (by decide)
theorem ks_s4 {f : Unit → zP β} (h : LZ a M) (hk : k < 64) : (z_bd (z_sI 11 (a + 4) (nI k) x) f).1 (KI M F) = (f ()).1 (KI M (z_up2 F (a + 4) k x)) := ki_sI h.2.1.2.2.2.1 hk (by decide)
theorem ks_n4 {f : Int32 → zP β} (h : LZ a M) : (z_bd (z_al 11 (a + 4)) f).1 (KI M F) = (f (nI 64)).1 (KI M F) := ki_al h.2.1.2.2.2.1
theorem ks_z4 {f : Int32 → zP β} (h : LZ a M) : (z_bd (z_aI 11 (a + 4) 0) f).1 (KI M F) = (f (F (a + 4) 0)).1 (KI M F) := ki_aI (k := 0) h.2.1.2.2.2.1 (by decide) (by decide)
theorem ks_city {f : Nat → zP β} (hc : z_r M a 6 = some c) (h : LZ a M) : (z_bd (z_gA 5 a 6) f).1 (KI M F) = (f c).1 (KI M F) := ki_gA h.1 hc
theorem ks_tr {f : Nat → zP β} (h : LZ a M) (hk : k < 3) : (z_bd (z_aA 14 (a + 5) (nI k)) f).1 (KI M F) = (f (a + 8 + 3 * k)).1 (KI M F) := ki_aA h.2.1.2.2.2.2 hk (by decide) (h.2.2.2.2 k hk).1
theorem LZ_R (h : LZ a M) : LR (a + 6) M := h.2.2.2.1
theorem LZ_T (h : LZ a M) (hk : k < 3) : LT (a + 8 + 3 * k) M := (h.2.2.2.2 k hk).2
theorem LC_F (h : LC c M) : LF (c + 10) M := h.2.2.2
end PC
