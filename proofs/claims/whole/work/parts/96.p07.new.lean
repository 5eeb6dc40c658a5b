/-! ===== PHASE 2: new cells; State.<init> ===== -/
/-- M' has all the cells of M as they were -/
def ext (M M' : zM) : Prop := z_nx M ≤ z_nx M' ∧ ∀ y, y < z_nx M → z_kd M' y = z_kd M y ∧ z_ln M' y = z_ln M y ∧ (∀ k, z_r M' y k = z_r M y k) ∧ z_i M' y = z_i M y ∧ ∀ k, z_j M' y k = z_j M y k
def mkT (M : zM) : zM := z_wr (z_mk (z_wr (z_mk (z_mk M 7 0 8) 11 6 6) (z_nx M) 0 (some (z_nx M + 1))) 11 6 6) (z_nx M) 1 (some (z_nx M + 2))
def mkR (M : zM) : zM := z_wr (z_mk (z_mk M 4 0 2) 11 768 768) (z_nx M) 0 (some (z_nx M + 1))
def mkS0 (M : zM) : zM := z_wr (z_mk (z_wr (z_mk (z_wr (z_mk (z_mk M 5 0 13) 11 8 8) (z_nx M) 0 (some (z_nx M + 1))) 11 8 8) (z_nx M) 1 (some (z_nx M + 2))) 11 64 64) (z_nx M) 2 (some (z_nx M + 3))
def mkS1 (M : zM) : zM := z_wr (z_mk (z_wr (z_mk (mkS0 M) 11 64 64) (z_nx M) 3 (some (z_nx M + 4))) 14 3 3) (z_nx M) 4 (some (z_nx M + 5))
def mkS2 (M : zM) : zM := z_wr (mkR (mkS1 M)) (z_nx M) 5 (some (z_nx M + 6))
def mkS3 (M : zM) : Nat → zM
  | 0 => mkS2 M
  | t + 1 => z_wr (mkT (mkS3 M t)) (z_nx M + 5) t (some (z_nx M + 8 + 3 * t))
section PA7
variable {β : Type} {M M' M1 : zM} {F F' G : Nat → Nat → Int32} {ct cd st st' : Nat → Int32} {a b c d k n ns nt np nc kk T r x y : Nat} {v : Option Nat}
theorem ext_rf : ext M M := ⟨Nat.le_refl _, fun _ _ => ⟨rfl, rfl, fun _ => rfl, rfl, fun _ => rfl⟩⟩
theorem ext_tr (h : ext M M1) (g : ext M1 M') : ext M M' := ⟨Nat.le_trans h.1 g.1, fun y hy => by
  obtain ⟨h1, h2, h3, h4, h5⟩ := h.2 y hy
  obtain ⟨g1, g2, g3, g4, g5⟩ := g.2 y (Nat.lt_of_lt_of_le hy h.1)
  exact ⟨g1.trans h1, g2.trans h2, fun k => (g3 k).trans (h3 k), g4.trans h4, fun k => (g5 k).trans (h5 k)⟩⟩
theorem ext_mk (k n s : Nat) : ext M (z_mk M k n s) := ⟨Nat.le_succ _, fun y hy => ⟨if_neg (by omega), if_neg (by omega), fun k => congrFun (if_neg (by omega)) k, if_neg (by omega), fun k => congrFun (if_neg (by omega)) k⟩⟩
theorem ext_wr (h : ext M M') (ha : z_nx M ≤ a) : ext M (z_wr M' a k v) := ⟨h.1, fun y hy => by
  obtain ⟨h1, h2, h3, h4, h5⟩ := h.2 y hy
  exact ⟨h1, h2, fun k => (r_wr (Or.inl (by omega))).trans (h3 k), h4, h5⟩⟩
theorem is_ext (h : z_is c y M) (g : ext M M') : z_is c y M' := ⟨Nat.lt_of_lt_of_le h.1 g.1, ((g.2 y h.1).1).trans h.2⟩
theorem il_ext (h : z_is c y M ∧ z_ln M y = n) (g : ext M M') : z_is c y M' ∧ z_ln M' y = n := ⟨is_ext h.1 g, ((g.2 y h.1.1).2.1).trans h.2⟩
theorem r_ext (h : z_is c y M) (g : ext M M') : z_r M' y k = z_r M y k := (g.2 y h.1).2.2.1 k
theorem LT_ext (h : LT b M) (g : ext M M') : LT b M' := ⟨is_ext h.1 g, il_ext h.2.1 g, il_ext h.2.2.1 g, (r_ext h.1 g).trans h.2.2.2.1, (r_ext h.1 g).trans h.2.2.2.2⟩
theorem LR_ext (h : LR b M) (g : ext M M') : LR b M' := ⟨is_ext h.1 g, il_ext h.2.1 g, (r_ext h.1 g).trans h.2.2⟩
theorem LF_ext (h : LF b M) (g : ext M M') : LF b M' := ⟨is_ext h.1 g, il_ext h.2.1 g, il_ext h.2.2.1 g, (r_ext h.1 g).trans h.2.2.2.1, (r_ext h.1 g).trans h.2.2.2.2⟩
theorem LC_ext (h : LC c M) (g : ext M M') : LC c M' := by
  obtain ⟨h1, ⟨l1, l2, l3, l4, l5, l6, l7, l8, l9⟩, ⟨r0, r1, r2, r3, r4, r5, r6, r7, r8, r9⟩, h4⟩ := h
  exact ⟨is_ext h1 g, ⟨il_ext l1 g, il_ext l2 g, il_ext l3 g, il_ext l4 g, il_ext l5 g, il_ext l6 g, il_ext l7 g, il_ext l8 g, il_ext l9 g⟩, ⟨(r_ext h1 g).trans r0, (r_ext h1 g).trans r1, (r_ext h1 g).trans r2, (r_ext h1 g).trans r3, (r_ext h1 g).trans r4, (r_ext h1 g).trans r5, (r_ext h1 g).trans r6, (r_ext h1 g).trans r7, (r_ext h1 g).trans r8, (r_ext h1 g).trans r9⟩, LF_ext h4 g⟩
theorem LZ_ext (h : LZ a M) (g : ext M M') : LZ a M' := by
  obtain ⟨h1, ⟨l1, l2, l3, l4, l5⟩, ⟨r0, r1, r2, r3, r4, r5⟩, h4, h5⟩ := h
  exact ⟨is_ext h1 g, ⟨il_ext l1 g, il_ext l2 g, il_ext l3 g, il_ext l4 g, il_ext l5 g⟩, ⟨(r_ext h1 g).trans r0, (r_ext h1 g).trans r1, (r_ext h1 g).trans r2, (r_ext h1 g).trans r3, (r_ext h1 g).trans r4, (r_ext h1 g).trans r5⟩, LR_ext h4 g, fun t ht => ⟨(r_ext l5.1 g).trans (h5 t ht).1, LT_ext (h5 t ht).2 g⟩⟩
theorem LZ_lt (h : LZ a M) : a + 17 ≤ z_nx M := by
  have := (h.2.2.2.2 2 (by decide)).2.2.2.1.1.1
  omega
theorem LC_lt (h : LC c M) : c + 13 ≤ z_nx M := by
  have := h.2.2.2.2.2.1.1.1
  omega
theorem L9_ext (h : L9 M) (g : ext M M') : L9 M' := by
  refine ⟨Nat.le_trans h.1 g.1, ((g.2 75 (by have := h.1; omega)).1).trans h.2.1, fun p hp => ?_⟩
  have h1 := h.2.2 p hp
  have hlt : p.1 < z_nx M := by
    have h95 := h.1
    have : p.1 < 95 := by
      have : ∀ p ∈ t9, p.1 < 95 := by decide
      exact this p hp
    omega
  obtain ⟨g1, g2, g3, _⟩ := g.2 p.1 hlt
  exact ⟨g1.trans h1.1, g2.trans h1.2.1, ((g.2 75 (by have := h.1; omega)).2.2.1 _).trans h1.2.2⟩
theorem L9_wr (h : L9 M) (ha : a ≠ 75) : L9 (z_wr M a k v) := ⟨h.1, h.2.1, fun p hp => ⟨(h.2.2 p hp).1, (h.2.2 p hp).2.1, (r_wr (Or.inl (fun e => ha e.symm))).trans (h.2.2 p hp).2.2⟩⟩
/-! rules of a new cell -/
theorem nx_mk (k n s : Nat) : z_nx (z_mk M k n s) = z_nx M + 1 := rfl
theorem nx_wr (a k : Nat) (v : Option Nat) : z_nx (z_wr M a k v) = z_nx M := rfl
theorem sl_mk (k n s : Nat) : z_sl (z_mk M k n s) = z_sl M + s := rfl
theorem sl_wr (a k : Nat) (v : Option Nat) : z_sl (z_wr M a k v) = z_sl M := rfl
theorem kd_mks {k n s : Nat} (h : y = z_nx M) : z_kd (z_mk M k n s) y = k := if_pos h
theorem kd_mko {k n s : Nat} (h : y ≠ z_nx M) : z_kd (z_mk M k n s) y = z_kd M y := if_neg h
theorem ln_mks {k n s : Nat} (h : y = z_nx M) : z_ln (z_mk M k n s) y = n := if_pos h
theorem ln_mko {k n s : Nat} (h : y ≠ z_nx M) : z_ln (z_mk M k n s) y = z_ln M y := if_neg h
theorem r_mks {k n s j : Nat} (h : y = z_nx M) : z_r (z_mk M k n s) y j = none := congrFun (if_pos h) j
theorem r_mko {k n s j : Nat} (h : y ≠ z_nx M) : z_r (z_mk M k n s) y j = z_r M y j := congrFun (if_neg h) j
theorem kd_wr (a k : Nat) (v : Option Nat) : z_kd (z_wr M a k v) = z_kd M := rfl
theorem ln_wr (a k : Nat) (v : Option Nat) : z_ln (z_wr M a k v) = z_ln M := rfl
theorem r_wrS {a b k j : Nat} (h : b = a) (h2 : j = k) : z_r (z_wr M a k v) b j = v := if_pos ⟨h, h2⟩
theorem n_na8 {f : Nat → zP β} : (z_bd (z_na 11 8) f).1 M = (f (z_nx M)).1 (z_mk M 11 8 8) := e_na (n := 8) (by decide)
theorem n_na64 {f : Nat → zP β} : (z_bd (z_na 11 64) f).1 M = (f (z_nx M)).1 (z_mk M 11 64 64) := e_na (n := 64) (by decide)
theorem n_na6 {f : Nat → zP β} : (z_bd (z_na 11 6) f).1 M = (f (z_nx M)).1 (z_mk M 11 6 6) := e_na (n := 6) (by decide)
theorem n_na768 {f : Nat → zP β} : (z_bd (z_na 11 768) f).1 M = (f (z_nx M)).1 (z_mk M 11 768 768) := e_na (n := 768) (by decide)
theorem n_na143 {f : Nat → zP β} : (z_bd (z_na 14 3) f).1 M = (f (z_nx M)).1 (z_mk M 14 3 3) := e_na (n := 3) (by decide)
theorem n_nw {f : Nat → zP β} : (z_bd (z_nw c n) f).1 M = (f (z_nx M)).1 (z_mk M c 0 n) := rfl
theorem kt_new {f : Nat → zP β} : (z_bd (z_nw 7 8) (fun q => z_bd (p_X7_init q) (fun _ => f q))).1 M = (f (z_nx M)).1 (mkT M) := by
  unfold p_X7_init mkT
  rw [n_nw]
  simp only [b_bd, b_pu]
  rw [n_na6, e_pR, n_na6, e_pR]
  · rfl
  · exact ⟨show z_nx M < z_nx M + 1 + 1 + 1 by omega, by rw [kd_mko (show z_nx M ≠ z_nx M + 2 by omega), kd_wr, kd_mko (show z_nx M ≠ z_nx M + 1 by omega), kd_mks (show z_nx M = z_nx M from rfl)]⟩
  · exact ⟨show z_nx M < z_nx M + 1 + 1 by omega, by rw [kd_mko (show z_nx M ≠ z_nx M + 1 by omega), kd_mks (show z_nx M = z_nx M from rfl)]⟩
theorem mkT_f : z_nx (mkT M) = z_nx M + 3 ∧ z_sl (mkT M) = z_sl M + 20 ∧ LT (z_nx M) (mkT M) ∧ ext M (mkT M) := by
  refine ⟨rfl, rfl, ⟨⟨show z_nx M < z_nx M + 3 by omega, ?_⟩, ⟨⟨show z_nx M + 1 < z_nx M + 3 by omega, ?_⟩, ?_⟩, ⟨⟨show z_nx M + 2 < z_nx M + 3 by omega, ?_⟩, ?_⟩, ?_, ?_⟩, ?_⟩
  · unfold mkT; rw [kd_wr, kd_mko (show z_nx M ≠ z_nx M + 2 by omega), kd_wr, kd_mko (show z_nx M ≠ z_nx M + 1 by omega), kd_mks (show z_nx M = z_nx M from rfl)]
  · unfold mkT; rw [kd_wr, kd_mko (show z_nx M + 1 ≠ z_nx M + 2 by omega), kd_wr, kd_mks (show z_nx M + 1 = z_nx M + 1 from rfl)]
  · unfold mkT; rw [ln_wr, ln_mko (show z_nx M + 1 ≠ z_nx M + 2 by omega), ln_wr, ln_mks (show z_nx M + 1 = z_nx M + 1 from rfl)]
  · unfold mkT; rw [kd_wr, kd_mks (show z_nx M + 2 = z_nx M + 2 from rfl)]
  · unfold mkT; rw [ln_wr, ln_mks (show z_nx M + 2 = z_nx M + 2 from rfl)]
  · unfold mkT; rw [r_wr (Or.inr (by decide)), r_mko (by simp only [nx_mk, nx_wr]; omega), r_wrs]
  · unfold mkT; rw [r_wrs]
  · exact ext_wr (ext_tr (ext_wr (ext_tr (ext_mk 7 0 8) (ext_mk 11 6 6)) (Nat.le_refl _)) (ext_mk 11 6 6)) (Nat.le_refl _)
theorem mkR_f : z_nx (mkR M) = z_nx M + 2 ∧ z_sl (mkR M) = z_sl M + 770 ∧ LR (z_nx M) (mkR M) ∧ ext M (mkR M) := by
  refine ⟨rfl, rfl, ⟨⟨show z_nx M < z_nx M + 2 by omega, ?_⟩, ⟨⟨show z_nx M + 1 < z_nx M + 2 by omega, ?_⟩, ?_⟩, ?_⟩, ?_⟩
  · unfold mkR; rw [kd_wr, kd_mko (show z_nx M ≠ z_nx M + 1 by omega), kd_mks (show z_nx M = z_nx M from rfl)]
  · unfold mkR; rw [kd_wr, kd_mks (show z_nx M + 1 = z_nx M + 1 from rfl)]
  · unfold mkR; rw [ln_wr, ln_mks (show z_nx M + 1 = z_nx M + 1 from rfl)]
  · unfold mkR; rw [r_wrs]
  · exact ext_wr (ext_tr (ext_mk 4 0 2) (ext_mk 11 768 768)) (Nat.le_refl _)
theorem mkS1_f : z_nx (mkS1 M) = z_nx M + 6 ∧ z_sl (mkS1 M) = z_sl M + 160 ∧ z_is 5 (z_nx M) (mkS1 M) ∧ ((z_is 11 (z_nx M + 1) (mkS1 M) ∧ z_ln (mkS1 M) (z_nx M + 1) = 8) ∧ (z_is 11 (z_nx M + 2) (mkS1 M) ∧ z_ln (mkS1 M) (z_nx M + 2) = 8) ∧ (z_is 11 (z_nx M + 3) (mkS1 M) ∧ z_ln (mkS1 M) (z_nx M + 3) = 64) ∧ (z_is 11 (z_nx M + 4) (mkS1 M) ∧ z_ln (mkS1 M) (z_nx M + 4) = 64) ∧ (z_is 14 (z_nx M + 5) (mkS1 M) ∧ z_ln (mkS1 M) (z_nx M + 5) = 3)) ∧ (z_r (mkS1 M) (z_nx M) 0 = some (z_nx M + 1) ∧ z_r (mkS1 M) (z_nx M) 1 = some (z_nx M + 2) ∧ z_r (mkS1 M) (z_nx M) 2 = some (z_nx M + 3) ∧ z_r (mkS1 M) (z_nx M) 3 = some (z_nx M + 4) ∧ z_r (mkS1 M) (z_nx M) 4 = some (z_nx M + 5)) ∧ ext M (mkS1 M) := by
  have hnx : z_nx (mkS1 M) = z_nx M + 6 := rfl
  refine ⟨rfl, rfl, ⟨by omega, ?_⟩, ⟨⟨⟨by omega, ?_⟩, ?_⟩, ⟨⟨by omega, ?_⟩, ?_⟩, ⟨⟨by omega, ?_⟩, ?_⟩, ⟨⟨by omega, ?_⟩, ?_⟩, ⟨⟨by omega, ?_⟩, ?_⟩⟩, ⟨?_, ?_, ?_, ?_, ?_⟩, ?_⟩
  · unfold mkS1 mkS0; rw [kd_wr, kd_mko (show z_nx M ≠ z_nx M + 5 by omega), kd_wr, kd_mko (show z_nx M ≠ z_nx M + 4 by omega), kd_wr, kd_mko (show z_nx M ≠ z_nx M + 3 by omega), kd_wr, kd_mko (show z_nx M ≠ z_nx M + 2 by omega), kd_wr, kd_mko (show z_nx M ≠ z_nx M + 1 by omega), kd_mks (show z_nx M = z_nx M from rfl)]
  · unfold mkS1 mkS0; rw [kd_wr, kd_mko (show z_nx M + 1 ≠ z_nx M + 5 by omega), kd_wr, kd_mko (show z_nx M + 1 ≠ z_nx M + 4 by omega), kd_wr, kd_mko (show z_nx M + 1 ≠ z_nx M + 3 by omega), kd_wr, kd_mko (show z_nx M + 1 ≠ z_nx M + 2 by omega), kd_wr, kd_mks (show z_nx M + 1 = z_nx M + 1 from rfl)]
  · unfold mkS1 mkS0; rw [ln_wr, ln_mko (show z_nx M + 1 ≠ z_nx M + 5 by omega), ln_wr, ln_mko (show z_nx M + 1 ≠ z_nx M + 4 by omega), ln_wr, ln_mko (show z_nx M + 1 ≠ z_nx M + 3 by omega), ln_wr, ln_mko (show z_nx M + 1 ≠ z_nx M + 2 by omega), ln_wr, ln_mks (show z_nx M + 1 = z_nx M + 1 from rfl)]
  · unfold mkS1 mkS0; rw [kd_wr, kd_mko (show z_nx M + 2 ≠ z_nx M + 5 by omega), kd_wr, kd_mko (show z_nx M + 2 ≠ z_nx M + 4 by omega), kd_wr, kd_mko (show z_nx M + 2 ≠ z_nx M + 3 by omega), kd_wr, kd_mks (show z_nx M + 2 = z_nx M + 2 from rfl)]
  · unfold mkS1 mkS0; rw [ln_wr, ln_mko (show z_nx M + 2 ≠ z_nx M + 5 by omega), ln_wr, ln_mko (show z_nx M + 2 ≠ z_nx M + 4 by omega), ln_wr, ln_mko (show z_nx M + 2 ≠ z_nx M + 3 by omega), ln_wr, ln_mks (show z_nx M + 2 = z_nx M + 2 from rfl)]
  · unfold mkS1 mkS0; rw [kd_wr, kd_mko (show z_nx M + 3 ≠ z_nx M + 5 by omega), kd_wr, kd_mko (show z_nx M + 3 ≠ z_nx M + 4 by omega), kd_wr, kd_mks (show z_nx M + 3 = z_nx M + 3 from rfl)]
  · unfold mkS1 mkS0; rw [ln_wr, ln_mko (show z_nx M + 3 ≠ z_nx M + 5 by omega), ln_wr, ln_mko (show z_nx M + 3 ≠ z_nx M + 4 by omega), ln_wr, ln_mks (show z_nx M + 3 = z_nx M + 3 from rfl)]
  · unfold mkS1 mkS0; rw [kd_wr, kd_mko (show z_nx M + 4 ≠ z_nx M + 5 by omega), kd_wr, kd_mks (show z_nx M + 4 = z_nx M + 4 from rfl)]
  · unfold mkS1 mkS0; rw [ln_wr, ln_mko (show z_nx M + 4 ≠ z_nx M + 5 by omega), ln_wr, ln_mks (show z_nx M + 4 = z_nx M + 4 from rfl)]
  · unfold mkS1 mkS0; rw [kd_wr, kd_mks (show z_nx M + 5 = z_nx M + 5 from rfl)]
  · unfold mkS1 mkS0; rw [ln_wr, ln_mks (show z_nx M + 5 = z_nx M + 5 from rfl)]
  · unfold mkS1 mkS0; rw [r_wr (Or.inr (by decide)), r_mko (show z_nx M ≠ z_nx M + 5 by omega), r_wr (Or.inr (by decide)), r_mko (show z_nx M ≠ z_nx M + 4 by omega), r_wr (Or.inr (by decide)), r_mko (show z_nx M ≠ z_nx M + 3 by omega), r_wr (Or.inr (by decide)), r_mko (show z_nx M ≠ z_nx M + 2 by omega), r_wrS rfl rfl]
  · unfold mkS1 mkS0; rw [r_wr (Or.inr (by decide)), r_mko (show z_nx M ≠ z_nx M + 5 by omega), r_wr (Or.inr (by decide)), r_mko (show z_nx M ≠ z_nx M + 4 by omega), r_wr (Or.inr (by decide)), r_mko (show z_nx M ≠ z_nx M + 3 by omega), r_wrS rfl rfl]
  · unfold mkS1 mkS0; rw [r_wr (Or.inr (by decide)), r_mko (show z_nx M ≠ z_nx M + 5 by omega), r_wr (Or.inr (by decide)), r_mko (show z_nx M ≠ z_nx M + 4 by omega), r_wrS rfl rfl]
  · unfold mkS1 mkS0; rw [r_wr (Or.inr (by decide)), r_mko (show z_nx M ≠ z_nx M + 5 by omega), r_wrS rfl rfl]
  · unfold mkS1 mkS0; rw [r_wrS rfl rfl]
  · unfold mkS1 mkS0
    exact ext_wr (ext_tr (ext_wr (ext_tr (ext_wr (ext_tr (ext_wr (ext_tr (ext_wr (ext_tr (ext_mk 5 0 13) (ext_mk 11 8 8)) (Nat.le_refl _)) (ext_mk 11 8 8)) (Nat.le_refl _)) (ext_mk 11 64 64)) (Nat.le_refl _)) (ext_mk 11 64 64)) (Nat.le_refl _)) (ext_mk 14 3 3)) (Nat.le_refl _)
end PA7
