/-! ===== PHASE 2: BikeShare.<init> ===== -/
def mB : zM := z_wr (z_mk (z_wr (z_mk (z_wr (z_wr (z_mk (z_wr (z_mk (z_wr (z_mk (z_wr (z_mk (z_wr (z_mk (z_wr (z_mk (z_mk (z_wr (z_wr (z_mk (z_mk (z_wr (z_wr (z_mk (z_mk (z_wr (z_mk (z_mk z_M0 8 0 11) 10 700 700) 0 0 (some 1)) 1 0 14) 11 24 24) 2 0 (some 3)) 0 1 (some 2)) 3 0 3) 13 10 10) 4 0 (some 5)) 0 2 (some 4)) 6 0 12) 11 8 8) 6 0 (some 7)) 11 8 8) 6 1 (some 8)) 11 8 8) 6 2 (some 9)) 11 8 8) 6 3 (some 10)) 11 8 8) 6 4 (some 11)) 11 256 256) 6 5 (some 12)) 0 3 (some 6)) 13 2 2) 0 4 (some 13)) 12 2 2) 0 5 (some 14)
/-- older cells as they were, but the references of cell 0 -/
def ext0 (M M' : zM) : Prop := z_nx M ≤ z_nx M' ∧ ∀ y, y < z_nx M → z_kd M' y = z_kd M y ∧ z_ln M' y = z_ln M y ∧ (y ≠ 0 → ∀ k, z_r M' y k = z_r M y k) ∧ z_i M' y = z_i M y
section PA29
variable {β : Type} {M M' M1 : zM} {F : Nat → Nat → Int32} {ct cd st : Nat → Int32} {a b c k : Nat} {v : Option Nat}
theorem n_na_10_700 {f : Nat → zP β} : (z_bd (z_na 10 700) f).1 M = (f (z_nx M)).1 (z_mk M 10 700 700) := e_na (n := 700) (by decide)
theorem n_na_11_8 {f : Nat → zP β} : (z_bd (z_na 11 8) f).1 M = (f (z_nx M)).1 (z_mk M 11 8 8) := e_na (n := 8) (by decide)
theorem n_na_11_24 {f : Nat → zP β} : (z_bd (z_na 11 24) f).1 M = (f (z_nx M)).1 (z_mk M 11 24 24) := e_na (n := 24) (by decide)
theorem n_na_11_256 {f : Nat → zP β} : (z_bd (z_na 11 256) f).1 M = (f (z_nx M)).1 (z_mk M 11 256 256) := e_na (n := 256) (by decide)
theorem n_na_12_2 {f : Nat → zP β} : (z_bd (z_na 12 2) f).1 M = (f (z_nx M)).1 (z_mk M 12 2 2) := e_na (n := 2) (by decide)
theorem n_na_13_2 {f : Nat → zP β} : (z_bd (z_na 13 2) f).1 M = (f (z_nx M)).1 (z_mk M 13 2 2) := e_na (n := 2) (by decide)
theorem n_na_13_10 {f : Nat → zP β} : (z_bd (z_na 13 10) f).1 M = (f (z_nx M)).1 (z_mk M 13 10 10) := e_na (n := 10) (by decide)
theorem b_init : (p_X8_init 0).1 (z_mk z_M0 8 0 11) = ((z_bd (z_nw 0 18) (fun q10 => (z_bd (p_X0_init q10) (fun _ => (z_bd (z_pR 8 0 9 (some q10)) (fun _ => (z_bd (z_nw 0 18) (fun q12 => (z_bd (p_X0_init q12) (fun _ => (z_bd (z_pR 8 0 10 (some q12)) (fun _ => (z_bd (z_nw 5 13) (fun q14 => (z_bd (p_X5_init q14 q10) (fun _ => (z_bd (z_pR 8 0 6 (some q14)) (fun _ => (z_bd (z_nw 5 13) (fun q16 => (z_bd (p_X5_init q16 q10) (fun _ => (z_bd (z_pR 8 0 7 (some q16)) (fun _ => (z_pu ()))))))))))))))))))))))))) : zP Unit).1 mB := by
  unfold p_X8_init
  rw [n_na_10_700]
  rw [e_pR (c := 8) ⟨show (0 : Nat) < 2 by decide, by rw [kd_mko (show (0 : Nat) ≠ 1 by decide), kd_mks (show (0 : Nat) = 0 from rfl)]⟩]
  rw [n_nw]
  unfold p_X1_init
  simp only [b_bd, b_pu]
  rw [n_na_11_24]
  rw [e_pR (c := 1) ⟨show (2 : Nat) < 4 by decide, by rw [kd_mko (show (2 : Nat) ≠ 3 by decide), kd_mks (show (2 : Nat) = 2 from rfl)]⟩]
  rw [e_pR (c := 8) ⟨show (0 : Nat) < 4 by decide, by rw [kd_wr, kd_mko (show (0 : Nat) ≠ 3 by decide), kd_mko (show (0 : Nat) ≠ 2 by decide), kd_wr, kd_mko (show (0 : Nat) ≠ 1 by decide), kd_mks (show (0 : Nat) = 0 from rfl)]⟩]
  rw [n_nw]
  unfold p_X3_init
  simp only [b_bd, b_pu]
  rw [n_na_13_10]
  rw [e_pR (c := 3) ⟨show (4 : Nat) < 6 by decide, by rw [kd_mko (show (4 : Nat) ≠ 5 by decide), kd_mks (show (4 : Nat) = 4 from rfl)]⟩]
  rw [e_pR (c := 8) ⟨show (0 : Nat) < 6 by decide, by rw [kd_wr, kd_mko (show (0 : Nat) ≠ 5 by decide), kd_mko (show (0 : Nat) ≠ 4 by decide), kd_wr, kd_wr, kd_mko (show (0 : Nat) ≠ 3 by decide), kd_mko (show (0 : Nat) ≠ 2 by decide), kd_wr, kd_mko (show (0 : Nat) ≠ 1 by decide), kd_mks (show (0 : Nat) = 0 from rfl)]⟩]
  rw [n_nw]
  unfold p_X6_init
  simp only [b_bd, b_pu]
  rw [n_na_11_8]
  rw [e_pR (c := 6) ⟨show (6 : Nat) < 8 by decide, by rw [kd_mko (show (6 : Nat) ≠ 7 by decide), kd_mks (show (6 : Nat) = 6 from rfl)]⟩]
  rw [n_na_11_8]
  rw [e_pR (c := 6) ⟨show (6 : Nat) < 9 by decide, by rw [kd_mko (show (6 : Nat) ≠ 8 by decide), kd_wr, kd_mko (show (6 : Nat) ≠ 7 by decide), kd_mks (show (6 : Nat) = 6 from rfl)]⟩]
  rw [n_na_11_8]
  rw [e_pR (c := 6) ⟨show (6 : Nat) < 10 by decide, by rw [kd_mko (show (6 : Nat) ≠ 9 by decide), kd_wr, kd_mko (show (6 : Nat) ≠ 8 by decide), kd_wr, kd_mko (show (6 : Nat) ≠ 7 by decide), kd_mks (show (6 : Nat) = 6 from rfl)]⟩]
  rw [n_na_11_8]
  rw [e_pR (c := 6) ⟨show (6 : Nat) < 11 by decide, by rw [kd_mko (show (6 : Nat) ≠ 10 by decide), kd_wr, kd_mko (show (6 : Nat) ≠ 9 by decide), kd_wr, kd_mko (show (6 : Nat) ≠ 8 by decide), kd_wr, kd_mko (show (6 : Nat) ≠ 7 by decide), kd_mks (show (6 : Nat) = 6 from rfl)]⟩]
  rw [n_na_11_8]
  rw [e_pR (c := 6) ⟨show (6 : Nat) < 12 by decide, by rw [kd_mko (show (6 : Nat) ≠ 11 by decide), kd_wr, kd_mko (show (6 : Nat) ≠ 10 by decide), kd_wr, kd_mko (show (6 : Nat) ≠ 9 by decide), kd_wr, kd_mko (show (6 : Nat) ≠ 8 by decide), kd_wr, kd_mko (show (6 : Nat) ≠ 7 by decide), kd_mks (show (6 : Nat) = 6 from rfl)]⟩]
  rw [n_na_11_256]
  rw [e_pR (c := 6) ⟨show (6 : Nat) < 13 by decide, by rw [kd_mko (show (6 : Nat) ≠ 12 by decide), kd_wr, kd_mko (show (6 : Nat) ≠ 11 by decide), kd_wr, kd_mko (show (6 : Nat) ≠ 10 by decide), kd_wr, kd_mko (show (6 : Nat) ≠ 9 by decide), kd_wr, kd_mko (show (6 : Nat) ≠ 8 by decide), kd_wr, kd_mko (show (6 : Nat) ≠ 7 by decide), kd_mks (show (6 : Nat) = 6 from rfl)]⟩]
  rw [e_pR (c := 8) ⟨show (0 : Nat) < 13 by decide, by rw [kd_wr, kd_mko (show (0 : Nat) ≠ 12 by decide), kd_wr, kd_mko (show (0 : Nat) ≠ 11 by decide), kd_wr, kd_mko (show (0 : Nat) ≠ 10 by decide), kd_wr, kd_mko (show (0 : Nat) ≠ 9 by decide), kd_wr, kd_mko (show (0 : Nat) ≠ 8 by decide), kd_wr, kd_mko (show (0 : Nat) ≠ 7 by decide), kd_mko (show (0 : Nat) ≠ 6 by decide), kd_wr, kd_wr, kd_mko (show (0 : Nat) ≠ 5 by decide), kd_mko (show (0 : Nat) ≠ 4 by decide), kd_wr, kd_wr, kd_mko (show (0 : Nat) ≠ 3 by decide), kd_mko (show (0 : Nat) ≠ 2 by decide), kd_wr, kd_mko (show (0 : Nat) ≠ 1 by decide), kd_mks (show (0 : Nat) = 0 from rfl)]⟩]
  rw [n_na_13_2]
  rw [e_pR (c := 8) ⟨show (0 : Nat) < 14 by decide, by rw [kd_mko (show (0 : Nat) ≠ 13 by decide), kd_wr, kd_wr, kd_mko (show (0 : Nat) ≠ 12 by decide), kd_wr, kd_mko (show (0 : Nat) ≠ 11 by decide), kd_wr, kd_mko (show (0 : Nat) ≠ 10 by decide), kd_wr, kd_mko (show (0 : Nat) ≠ 9 by decide), kd_wr, kd_mko (show (0 : Nat) ≠ 8 by decide), kd_wr, kd_mko (show (0 : Nat) ≠ 7 by decide), kd_mko (show (0 : Nat) ≠ 6 by decide), kd_wr, kd_wr, kd_mko (show (0 : Nat) ≠ 5 by decide), kd_mko (show (0 : Nat) ≠ 4 by decide), kd_wr, kd_wr, kd_mko (show (0 : Nat) ≠ 3 by decide), kd_mko (show (0 : Nat) ≠ 2 by decide), kd_wr, kd_mko (show (0 : Nat) ≠ 1 by decide), kd_mks (show (0 : Nat) = 0 from rfl)]⟩]
  rw [n_na_12_2]
  rw [e_pR (c := 8) ⟨show (0 : Nat) < 15 by decide, by rw [kd_mko (show (0 : Nat) ≠ 14 by decide), kd_wr, kd_mko (show (0 : Nat) ≠ 13 by decide), kd_wr, kd_wr, kd_mko (show (0 : Nat) ≠ 12 by decide), kd_wr, kd_mko (show (0 : Nat) ≠ 11 by decide), kd_wr, kd_mko (show (0 : Nat) ≠ 10 by decide), kd_wr, kd_mko (show (0 : Nat) ≠ 9 by decide), kd_wr, kd_mko (show (0 : Nat) ≠ 8 by decide), kd_wr, kd_mko (show (0 : Nat) ≠ 7 by decide), kd_mko (show (0 : Nat) ≠ 6 by decide), kd_wr, kd_wr, kd_mko (show (0 : Nat) ≠ 5 by decide), kd_mko (show (0 : Nat) ≠ 4 by decide), kd_wr, kd_wr, kd_mko (show (0 : Nat) ≠ 3 by decide), kd_mko (show (0 : Nat) ≠ 2 by decide), kd_wr, kd_mko (show (0 : Nat) ≠ 1 by decide), kd_mks (show (0 : Nat) = 0 from rfl)]⟩]
  rfl
theorem mB_r : z_r mB 0 0 = some 1 ∧ z_r mB 0 1 = some 2 ∧ z_r mB 0 2 = some 4 ∧ z_r mB 0 3 = some 6 ∧ z_r mB 0 4 = some 13 ∧ z_r mB 0 5 = some 14 := ⟨by unfold mB; rw [r_wr (Or.inr (by decide)), r_mko (show (0 : Nat) ≠ 14 by decide), r_wr (Or.inr (by decide)), r_mko (show (0 : Nat) ≠ 13 by decide), r_wr (Or.inr (by decide)), r_wr (Or.inr (by decide)), r_mko (show (0 : Nat) ≠ 12 by decide), r_wr (Or.inr (by decide)), r_mko (show (0 : Nat) ≠ 11 by decide), r_wr (Or.inr (by decide)), r_mko (show (0 : Nat) ≠ 10 by decide), r_wr (Or.inr (by decide)), r_mko (show (0 : Nat) ≠ 9 by decide), r_wr (Or.inr (by decide)), r_mko (show (0 : Nat) ≠ 8 by decide), r_wr (Or.inl (show (0 : Nat) ≠ 6 by decide)), r_mko (show (0 : Nat) ≠ 7 by decide), r_mko (show (0 : Nat) ≠ 6 by decide), r_wr (Or.inr (by decide)), r_wr (Or.inl (show (0 : Nat) ≠ 4 by decide)), r_mko (show (0 : Nat) ≠ 5 by decide), r_mko (show (0 : Nat) ≠ 4 by decide), r_wr (Or.inr (by decide)), r_wr (Or.inl (show (0 : Nat) ≠ 2 by decide)), r_mko (show (0 : Nat) ≠ 3 by decide), r_mko (show (0 : Nat) ≠ 2 by decide), r_wrS rfl rfl], by unfold mB; rw [r_wr (Or.inr (by decide)), r_mko (show (0 : Nat) ≠ 14 by decide), r_wr (Or.inr (by decide)), r_mko (show (0 : Nat) ≠ 13 by decide), r_wr (Or.inr (by decide)), r_wr (Or.inr (by decide)), r_mko (show (0 : Nat) ≠ 12 by decide), r_wr (Or.inr (by decide)), r_mko (show (0 : Nat) ≠ 11 by decide), r_wr (Or.inr (by decide)), r_mko (show (0 : Nat) ≠ 10 by decide), r_wr (Or.inr (by decide)), r_mko (show (0 : Nat) ≠ 9 by decide), r_wr (Or.inl (show (0 : Nat) ≠ 6 by decide)), r_mko (show (0 : Nat) ≠ 8 by decide), r_wr (Or.inr (by decide)), r_mko (show (0 : Nat) ≠ 7 by decide), r_mko (show (0 : Nat) ≠ 6 by decide), r_wr (Or.inr (by decide)), r_wr (Or.inr (by decide)), r_mko (show (0 : Nat) ≠ 5 by decide), r_mko (show (0 : Nat) ≠ 4 by decide), r_wrS rfl rfl], by unfold mB; rw [r_wr (Or.inr (by decide)), r_mko (show (0 : Nat) ≠ 14 by decide), r_wr (Or.inr (by decide)), r_mko (show (0 : Nat) ≠ 13 by decide), r_wr (Or.inr (by decide)), r_wr (Or.inr (by decide)), r_mko (show (0 : Nat) ≠ 12 by decide), r_wr (Or.inr (by decide)), r_mko (show (0 : Nat) ≠ 11 by decide), r_wr (Or.inr (by decide)), r_mko (show (0 : Nat) ≠ 10 by decide), r_wr (Or.inl (show (0 : Nat) ≠ 6 by decide)), r_mko (show (0 : Nat) ≠ 9 by decide), r_wr (Or.inr (by decide)), r_mko (show (0 : Nat) ≠ 8 by decide), r_wr (Or.inr (by decide)), r_mko (show (0 : Nat) ≠ 7 by decide), r_mko (show (0 : Nat) ≠ 6 by decide), r_wrS rfl rfl], by unfold mB; rw [r_wr (Or.inr (by decide)), r_mko (show (0 : Nat) ≠ 14 by decide), r_wr (Or.inr (by decide)), r_mko (show (0 : Nat) ≠ 13 by decide), r_wrS rfl rfl], by unfold mB; rw [r_wr (Or.inr (by decide)), r_mko (show (0 : Nat) ≠ 14 by decide), r_wrS rfl rfl], by unfold mB; rw [r_wrS rfl rfl]⟩
theorem mB_n : z_nx mB = 15 ∧ z_sl mB = 1074 := ⟨rfl, rfl⟩
theorem mB_k : z_kd mB 0 = 8 := by unfold mB; rw [kd_wr, kd_mko (show (0 : Nat) ≠ 14 by decide), kd_wr, kd_mko (show (0 : Nat) ≠ 13 by decide), kd_wr, kd_wr, kd_mko (show (0 : Nat) ≠ 12 by decide), kd_wr, kd_mko (show (0 : Nat) ≠ 11 by decide), kd_wr, kd_mko (show (0 : Nat) ≠ 10 by decide), kd_wr, kd_mko (show (0 : Nat) ≠ 9 by decide), kd_wr, kd_mko (show (0 : Nat) ≠ 8 by decide), kd_wr, kd_mko (show (0 : Nat) ≠ 7 by decide), kd_mko (show (0 : Nat) ≠ 6 by decide), kd_wr, kd_wr, kd_mko (show (0 : Nat) ≠ 5 by decide), kd_mko (show (0 : Nat) ≠ 4 by decide), kd_wr, kd_wr, kd_mko (show (0 : Nat) ≠ 3 by decide), kd_mko (show (0 : Nat) ≠ 2 by decide), kd_wr, kd_mko (show (0 : Nat) ≠ 1 by decide), kd_mks (show (0 : Nat) = 0 from rfl)]
theorem mB_to : z_kd mB 0 = 8 ∧ z_kd mB 2 = 1 ∧ z_kd mB 4 = 3 ∧ z_kd mB 6 = 6 := ⟨by unfold mB; rw [kd_wr, kd_mko (show (0 : Nat) ≠ 14 by decide), kd_wr, kd_mko (show (0 : Nat) ≠ 13 by decide), kd_wr, kd_wr, kd_mko (show (0 : Nat) ≠ 12 by decide), kd_wr, kd_mko (show (0 : Nat) ≠ 11 by decide), kd_wr, kd_mko (show (0 : Nat) ≠ 10 by decide), kd_wr, kd_mko (show (0 : Nat) ≠ 9 by decide), kd_wr, kd_mko (show (0 : Nat) ≠ 8 by decide), kd_wr, kd_mko (show (0 : Nat) ≠ 7 by decide), kd_mko (show (0 : Nat) ≠ 6 by decide), kd_wr, kd_wr, kd_mko (show (0 : Nat) ≠ 5 by decide), kd_mko (show (0 : Nat) ≠ 4 by decide), kd_wr, kd_wr, kd_mko (show (0 : Nat) ≠ 3 by decide), kd_mko (show (0 : Nat) ≠ 2 by decide), kd_wr, kd_mko (show (0 : Nat) ≠ 1 by decide), kd_mks (show (0 : Nat) = 0 from rfl)], by unfold mB; rw [kd_wr, kd_mko (show (2 : Nat) ≠ 14 by decide), kd_wr, kd_mko (show (2 : Nat) ≠ 13 by decide), kd_wr, kd_wr, kd_mko (show (2 : Nat) ≠ 12 by decide), kd_wr, kd_mko (show (2 : Nat) ≠ 11 by decide), kd_wr, kd_mko (show (2 : Nat) ≠ 10 by decide), kd_wr, kd_mko (show (2 : Nat) ≠ 9 by decide), kd_wr, kd_mko (show (2 : Nat) ≠ 8 by decide), kd_wr, kd_mko (show (2 : Nat) ≠ 7 by decide), kd_mko (show (2 : Nat) ≠ 6 by decide), kd_wr, kd_wr, kd_mko (show (2 : Nat) ≠ 5 by decide), kd_mko (show (2 : Nat) ≠ 4 by decide), kd_wr, kd_wr, kd_mko (show (2 : Nat) ≠ 3 by decide), kd_mks (show (2 : Nat) = 2 from rfl)], by unfold mB; rw [kd_wr, kd_mko (show (4 : Nat) ≠ 14 by decide), kd_wr, kd_mko (show (4 : Nat) ≠ 13 by decide), kd_wr, kd_wr, kd_mko (show (4 : Nat) ≠ 12 by decide), kd_wr, kd_mko (show (4 : Nat) ≠ 11 by decide), kd_wr, kd_mko (show (4 : Nat) ≠ 10 by decide), kd_wr, kd_mko (show (4 : Nat) ≠ 9 by decide), kd_wr, kd_mko (show (4 : Nat) ≠ 8 by decide), kd_wr, kd_mko (show (4 : Nat) ≠ 7 by decide), kd_mko (show (4 : Nat) ≠ 6 by decide), kd_wr, kd_wr, kd_mko (show (4 : Nat) ≠ 5 by decide), kd_mks (show (4 : Nat) = 4 from rfl)], by unfold mB; rw [kd_wr, kd_mko (show (6 : Nat) ≠ 14 by decide), kd_wr, kd_mko (show (6 : Nat) ≠ 13 by decide), kd_wr, kd_wr, kd_mko (show (6 : Nat) ≠ 12 by decide), kd_wr, kd_mko (show (6 : Nat) ≠ 11 by decide), kd_wr, kd_mko (show (6 : Nat) ≠ 10 by decide), kd_wr, kd_mko (show (6 : Nat) ≠ 9 by decide), kd_wr, kd_mko (show (6 : Nat) ≠ 8 by decide), kd_wr, kd_mko (show (6 : Nat) ≠ 7 by decide), kd_mks (show (6 : Nat) = 6 from rfl)]⟩
theorem mB_ta : (z_kd mB 1 = 10 ∧ z_ln mB 1 = 700) ∧ (z_kd mB 3 = 11 ∧ z_ln mB 3 = 24) ∧ (z_kd mB 5 = 13 ∧ z_ln mB 5 = 10) ∧ (z_kd mB 7 = 11 ∧ z_ln mB 7 = 8) ∧ (z_kd mB 8 = 11 ∧ z_ln mB 8 = 8) ∧ (z_kd mB 9 = 11 ∧ z_ln mB 9 = 8) ∧ (z_kd mB 10 = 11 ∧ z_ln mB 10 = 8) ∧ (z_kd mB 11 = 11 ∧ z_ln mB 11 = 8) ∧ (z_kd mB 12 = 11 ∧ z_ln mB 12 = 256) ∧ (z_kd mB 13 = 13 ∧ z_ln mB 13 = 2) ∧ (z_kd mB 14 = 12 ∧ z_ln mB 14 = 2) := ⟨⟨by unfold mB; rw [kd_wr, kd_mko (show (1 : Nat) ≠ 14 by decide), kd_wr, kd_mko (show (1 : Nat) ≠ 13 by decide), kd_wr, kd_wr, kd_mko (show (1 : Nat) ≠ 12 by decide), kd_wr, kd_mko (show (1 : Nat) ≠ 11 by decide), kd_wr, kd_mko (show (1 : Nat) ≠ 10 by decide), kd_wr, kd_mko (show (1 : Nat) ≠ 9 by decide), kd_wr, kd_mko (show (1 : Nat) ≠ 8 by decide), kd_wr, kd_mko (show (1 : Nat) ≠ 7 by decide), kd_mko (show (1 : Nat) ≠ 6 by decide), kd_wr, kd_wr, kd_mko (show (1 : Nat) ≠ 5 by decide), kd_mko (show (1 : Nat) ≠ 4 by decide), kd_wr, kd_wr, kd_mko (show (1 : Nat) ≠ 3 by decide), kd_mko (show (1 : Nat) ≠ 2 by decide), kd_wr, kd_mks (show (1 : Nat) = 1 from rfl)], by unfold mB; rw [ln_wr, ln_mko (show (1 : Nat) ≠ 14 by decide), ln_wr, ln_mko (show (1 : Nat) ≠ 13 by decide), ln_wr, ln_wr, ln_mko (show (1 : Nat) ≠ 12 by decide), ln_wr, ln_mko (show (1 : Nat) ≠ 11 by decide), ln_wr, ln_mko (show (1 : Nat) ≠ 10 by decide), ln_wr, ln_mko (show (1 : Nat) ≠ 9 by decide), ln_wr, ln_mko (show (1 : Nat) ≠ 8 by decide), ln_wr, ln_mko (show (1 : Nat) ≠ 7 by decide), ln_mko (show (1 : Nat) ≠ 6 by decide), ln_wr, ln_wr, ln_mko (show (1 : Nat) ≠ 5 by decide), ln_mko (show (1 : Nat) ≠ 4 by decide), ln_wr, ln_wr, ln_mko (show (1 : Nat) ≠ 3 by decide), ln_mko (show (1 : Nat) ≠ 2 by decide), ln_wr, ln_mks (show (1 : Nat) = 1 from rfl)]⟩, ⟨by unfold mB; rw [kd_wr, kd_mko (show (3 : Nat) ≠ 14 by decide), kd_wr, kd_mko (show (3 : Nat) ≠ 13 by decide), kd_wr, kd_wr, kd_mko (show (3 : Nat) ≠ 12 by decide), kd_wr, kd_mko (show (3 : Nat) ≠ 11 by decide), kd_wr, kd_mko (show (3 : Nat) ≠ 10 by decide), kd_wr, kd_mko (show (3 : Nat) ≠ 9 by decide), kd_wr, kd_mko (show (3 : Nat) ≠ 8 by decide), kd_wr, kd_mko (show (3 : Nat) ≠ 7 by decide), kd_mko (show (3 : Nat) ≠ 6 by decide), kd_wr, kd_wr, kd_mko (show (3 : Nat) ≠ 5 by decide), kd_mko (show (3 : Nat) ≠ 4 by decide), kd_wr, kd_wr, kd_mks (show (3 : Nat) = 3 from rfl)], by unfold mB; rw [ln_wr, ln_mko (show (3 : Nat) ≠ 14 by decide), ln_wr, ln_mko (show (3 : Nat) ≠ 13 by decide), ln_wr, ln_wr, ln_mko (show (3 : Nat) ≠ 12 by decide), ln_wr, ln_mko (show (3 : Nat) ≠ 11 by decide), ln_wr, ln_mko (show (3 : Nat) ≠ 10 by decide), ln_wr, ln_mko (show (3 : Nat) ≠ 9 by decide), ln_wr, ln_mko (show (3 : Nat) ≠ 8 by decide), ln_wr, ln_mko (show (3 : Nat) ≠ 7 by decide), ln_mko (show (3 : Nat) ≠ 6 by decide), ln_wr, ln_wr, ln_mko (show (3 : Nat) ≠ 5 by decide), ln_mko (show (3 : Nat) ≠ 4 by decide), ln_wr, ln_wr, ln_mks (show (3 : Nat) = 3 from rfl)]⟩, ⟨by unfold mB; rw [kd_wr, kd_mko (show (5 : Nat) ≠ 14 by decide), kd_wr, kd_mko (show (5 : Nat) ≠ 13 by decide), kd_wr, kd_wr, kd_mko (show (5 : Nat) ≠ 12 by decide), kd_wr, kd_mko (show (5 : Nat) ≠ 11 by decide), kd_wr, kd_mko (show (5 : Nat) ≠ 10 by decide), kd_wr, kd_mko (show (5 : Nat) ≠ 9 by decide), kd_wr, kd_mko (show (5 : Nat) ≠ 8 by decide), kd_wr, kd_mko (show (5 : Nat) ≠ 7 by decide), kd_mko (show (5 : Nat) ≠ 6 by decide), kd_wr, kd_wr, kd_mks (show (5 : Nat) = 5 from rfl)], by unfold mB; rw [ln_wr, ln_mko (show (5 : Nat) ≠ 14 by decide), ln_wr, ln_mko (show (5 : Nat) ≠ 13 by decide), ln_wr, ln_wr, ln_mko (show (5 : Nat) ≠ 12 by decide), ln_wr, ln_mko (show (5 : Nat) ≠ 11 by decide), ln_wr, ln_mko (show (5 : Nat) ≠ 10 by decide), ln_wr, ln_mko (show (5 : Nat) ≠ 9 by decide), ln_wr, ln_mko (show (5 : Nat) ≠ 8 by decide), ln_wr, ln_mko (show (5 : Nat) ≠ 7 by decide), ln_mko (show (5 : Nat) ≠ 6 by decide), ln_wr, ln_wr, ln_mks (show (5 : Nat) = 5 from rfl)]⟩, ⟨by unfold mB; rw [kd_wr, kd_mko (show (7 : Nat) ≠ 14 by decide), kd_wr, kd_mko (show (7 : Nat) ≠ 13 by decide), kd_wr, kd_wr, kd_mko (show (7 : Nat) ≠ 12 by decide), kd_wr, kd_mko (show (7 : Nat) ≠ 11 by decide), kd_wr, kd_mko (show (7 : Nat) ≠ 10 by decide), kd_wr, kd_mko (show (7 : Nat) ≠ 9 by decide), kd_wr, kd_mko (show (7 : Nat) ≠ 8 by decide), kd_wr, kd_mks (show (7 : Nat) = 7 from rfl)], by unfold mB; rw [ln_wr, ln_mko (show (7 : Nat) ≠ 14 by decide), ln_wr, ln_mko (show (7 : Nat) ≠ 13 by decide), ln_wr, ln_wr, ln_mko (show (7 : Nat) ≠ 12 by decide), ln_wr, ln_mko (show (7 : Nat) ≠ 11 by decide), ln_wr, ln_mko (show (7 : Nat) ≠ 10 by decide), ln_wr, ln_mko (show (7 : Nat) ≠ 9 by decide), ln_wr, ln_mko (show (7 : Nat) ≠ 8 by decide), ln_wr, ln_mks (show (7 : Nat) = 7 from rfl)]⟩, ⟨by unfold mB; rw [kd_wr, kd_mko (show (8 : Nat) ≠ 14 by decide), kd_wr, kd_mko (show (8 : Nat) ≠ 13 by decide), kd_wr, kd_wr, kd_mko (show (8 : Nat) ≠ 12 by decide), kd_wr, kd_mko (show (8 : Nat) ≠ 11 by decide), kd_wr, kd_mko (show (8 : Nat) ≠ 10 by decide), kd_wr, kd_mko (show (8 : Nat) ≠ 9 by decide), kd_wr, kd_mks (show (8 : Nat) = 8 from rfl)], by unfold mB; rw [ln_wr, ln_mko (show (8 : Nat) ≠ 14 by decide), ln_wr, ln_mko (show (8 : Nat) ≠ 13 by decide), ln_wr, ln_wr, ln_mko (show (8 : Nat) ≠ 12 by decide), ln_wr, ln_mko (show (8 : Nat) ≠ 11 by decide), ln_wr, ln_mko (show (8 : Nat) ≠ 10 by decide), ln_wr, ln_mko (show (8 : Nat) ≠ 9 by decide), ln_wr, ln_mks (show (8 : Nat) = 8 from rfl)]⟩, ⟨by unfold mB; rw [kd_wr, kd_mko (show (9 : Nat) ≠ 14 by decide), kd_wr, kd_mko (show (9 : Nat) ≠ 13 by decide), kd_wr, kd_wr, kd_mko (show (9 : Nat) ≠ 12 by decide), kd_wr, kd_mko (show (9 : Nat) ≠ 11 by decide), kd_wr, kd_mko (show (9 : Nat) ≠ 10 by decide), kd_wr, kd_mks (show (9 : Nat) = 9 from rfl)], by unfold mB; rw [ln_wr, ln_mko (show (9 : Nat) ≠ 14 by decide), ln_wr, ln_mko (show (9 : Nat) ≠ 13 by decide), ln_wr, ln_wr, ln_mko (show (9 : Nat) ≠ 12 by decide), ln_wr, ln_mko (show (9 : Nat) ≠ 11 by decide), ln_wr, ln_mko (show (9 : Nat) ≠ 10 by decide), ln_wr, ln_mks (show (9 : Nat) = 9 from rfl)]⟩, ⟨by unfold mB; rw [kd_wr, kd_mko (show (10 : Nat) ≠ 14 by decide), kd_wr, kd_mko (show (10 : Nat) ≠ 13 by decide), kd_wr, kd_wr, kd_mko (show (10 : Nat) ≠ 12 by decide), kd_wr, kd_mko (show (10 : Nat) ≠ 11 by decide), kd_wr, kd_mks (show (10 : Nat) = 10 from rfl)], by unfold mB; rw [ln_wr, ln_mko (show (10 : Nat) ≠ 14 by decide), ln_wr, ln_mko (show (10 : Nat) ≠ 13 by decide), ln_wr, ln_wr, ln_mko (show (10 : Nat) ≠ 12 by decide), ln_wr, ln_mko (show (10 : Nat) ≠ 11 by decide), ln_wr, ln_mks (show (10 : Nat) = 10 from rfl)]⟩, ⟨by unfold mB; rw [kd_wr, kd_mko (show (11 : Nat) ≠ 14 by decide), kd_wr, kd_mko (show (11 : Nat) ≠ 13 by decide), kd_wr, kd_wr, kd_mko (show (11 : Nat) ≠ 12 by decide), kd_wr, kd_mks (show (11 : Nat) = 11 from rfl)], by unfold mB; rw [ln_wr, ln_mko (show (11 : Nat) ≠ 14 by decide), ln_wr, ln_mko (show (11 : Nat) ≠ 13 by decide), ln_wr, ln_wr, ln_mko (show (11 : Nat) ≠ 12 by decide), ln_wr, ln_mks (show (11 : Nat) = 11 from rfl)]⟩, ⟨by unfold mB; rw [kd_wr, kd_mko (show (12 : Nat) ≠ 14 by decide), kd_wr, kd_mko (show (12 : Nat) ≠ 13 by decide), kd_wr, kd_wr, kd_mks (show (12 : Nat) = 12 from rfl)], by unfold mB; rw [ln_wr, ln_mko (show (12 : Nat) ≠ 14 by decide), ln_wr, ln_mko (show (12 : Nat) ≠ 13 by decide), ln_wr, ln_wr, ln_mks (show (12 : Nat) = 12 from rfl)]⟩, ⟨by unfold mB; rw [kd_wr, kd_mko (show (13 : Nat) ≠ 14 by decide), kd_wr, kd_mks (show (13 : Nat) = 13 from rfl)], by unfold mB; rw [ln_wr, ln_mko (show (13 : Nat) ≠ 14 by decide), ln_wr, ln_mks (show (13 : Nat) = 13 from rfl)]⟩, ⟨by unfold mB; rw [kd_wr, kd_mks (show (14 : Nat) = 14 from rfl)], by unfold mB; rw [ln_wr, ln_mks (show (14 : Nat) = 14 from rfl)]⟩⟩
theorem mB_tr : z_r mB 2 0 = some 3 ∧ z_r mB 4 0 = some 5 ∧ z_r mB 6 0 = some 7 ∧ z_r mB 6 1 = some 8 ∧ z_r mB 6 2 = some 9 ∧ z_r mB 6 3 = some 10 ∧ z_r mB 6 4 = some 11 ∧ z_r mB 6 5 = some 12 := ⟨by unfold mB; rw [r_wr (Or.inr (by decide)), r_mko (show (2 : Nat) ≠ 14 by decide), r_wr (Or.inr (by decide)), r_mko (show (2 : Nat) ≠ 13 by decide), r_wr (Or.inr (by decide)), r_wr (Or.inr (by decide)), r_mko (show (2 : Nat) ≠ 12 by decide), r_wr (Or.inr (by decide)), r_mko (show (2 : Nat) ≠ 11 by decide), r_wr (Or.inr (by decide)), r_mko (show (2 : Nat) ≠ 10 by decide), r_wr (Or.inr (by decide)), r_mko (show (2 : Nat) ≠ 9 by decide), r_wr (Or.inr (by decide)), r_mko (show (2 : Nat) ≠ 8 by decide), r_wr (Or.inl (show (2 : Nat) ≠ 6 by decide)), r_mko (show (2 : Nat) ≠ 7 by decide), r_mko (show (2 : Nat) ≠ 6 by decide), r_wr (Or.inr (by decide)), r_wr (Or.inl (show (2 : Nat) ≠ 4 by decide)), r_mko (show (2 : Nat) ≠ 5 by decide), r_mko (show (2 : Nat) ≠ 4 by decide), r_wr (Or.inr (by decide)), r_wrS rfl rfl], by unfold mB; rw [r_wr (Or.inr (by decide)), r_mko (show (4 : Nat) ≠ 14 by decide), r_wr (Or.inr (by decide)), r_mko (show (4 : Nat) ≠ 13 by decide), r_wr (Or.inr (by decide)), r_wr (Or.inr (by decide)), r_mko (show (4 : Nat) ≠ 12 by decide), r_wr (Or.inr (by decide)), r_mko (show (4 : Nat) ≠ 11 by decide), r_wr (Or.inr (by decide)), r_mko (show (4 : Nat) ≠ 10 by decide), r_wr (Or.inr (by decide)), r_mko (show (4 : Nat) ≠ 9 by decide), r_wr (Or.inr (by decide)), r_mko (show (4 : Nat) ≠ 8 by decide), r_wr (Or.inl (show (4 : Nat) ≠ 6 by decide)), r_mko (show (4 : Nat) ≠ 7 by decide), r_mko (show (4 : Nat) ≠ 6 by decide), r_wr (Or.inr (by decide)), r_wrS rfl rfl], by unfold mB; rw [r_wr (Or.inr (by decide)), r_mko (show (6 : Nat) ≠ 14 by decide), r_wr (Or.inr (by decide)), r_mko (show (6 : Nat) ≠ 13 by decide), r_wr (Or.inr (by decide)), r_wr (Or.inr (by decide)), r_mko (show (6 : Nat) ≠ 12 by decide), r_wr (Or.inr (by decide)), r_mko (show (6 : Nat) ≠ 11 by decide), r_wr (Or.inr (by decide)), r_mko (show (6 : Nat) ≠ 10 by decide), r_wr (Or.inr (by decide)), r_mko (show (6 : Nat) ≠ 9 by decide), r_wr (Or.inr (by decide)), r_mko (show (6 : Nat) ≠ 8 by decide), r_wrS rfl rfl], by unfold mB; rw [r_wr (Or.inr (by decide)), r_mko (show (6 : Nat) ≠ 14 by decide), r_wr (Or.inr (by decide)), r_mko (show (6 : Nat) ≠ 13 by decide), r_wr (Or.inr (by decide)), r_wr (Or.inr (by decide)), r_mko (show (6 : Nat) ≠ 12 by decide), r_wr (Or.inr (by decide)), r_mko (show (6 : Nat) ≠ 11 by decide), r_wr (Or.inr (by decide)), r_mko (show (6 : Nat) ≠ 10 by decide), r_wr (Or.inr (by decide)), r_mko (show (6 : Nat) ≠ 9 by decide), r_wrS rfl rfl], by unfold mB; rw [r_wr (Or.inr (by decide)), r_mko (show (6 : Nat) ≠ 14 by decide), r_wr (Or.inr (by decide)), r_mko (show (6 : Nat) ≠ 13 by decide), r_wr (Or.inr (by decide)), r_wr (Or.inr (by decide)), r_mko (show (6 : Nat) ≠ 12 by decide), r_wr (Or.inr (by decide)), r_mko (show (6 : Nat) ≠ 11 by decide), r_wr (Or.inr (by decide)), r_mko (show (6 : Nat) ≠ 10 by decide), r_wrS rfl rfl], by unfold mB; rw [r_wr (Or.inr (by decide)), r_mko (show (6 : Nat) ≠ 14 by decide), r_wr (Or.inr (by decide)), r_mko (show (6 : Nat) ≠ 13 by decide), r_wr (Or.inl (show (6 : Nat) ≠ 0 by decide)), r_wr (Or.inr (by decide)), r_mko (show (6 : Nat) ≠ 12 by decide), r_wr (Or.inr (by decide)), r_mko (show (6 : Nat) ≠ 11 by decide), r_wrS rfl rfl], by unfold mB; rw [r_wr (Or.inr (by decide)), r_mko (show (6 : Nat) ≠ 14 by decide), r_wr (Or.inl (show (6 : Nat) ≠ 0 by decide)), r_mko (show (6 : Nat) ≠ 13 by decide), r_wr (Or.inr (by decide)), r_wr (Or.inr (by decide)), r_mko (show (6 : Nat) ≠ 12 by decide), r_wrS rfl rfl], by unfold mB; rw [r_wr (Or.inl (show (6 : Nat) ≠ 0 by decide)), r_mko (show (6 : Nat) ≠ 14 by decide), r_wr (Or.inr (by decide)), r_mko (show (6 : Nat) ≠ 13 by decide), r_wr (Or.inr (by decide)), r_wrS rfl rfl]⟩
theorem mB_none : (∀ i, z_r mB 5 i = none) ∧ ∀ i, z_r mB 13 i = none := ⟨fun i => by unfold mB; rw [r_wr (Or.inl (show (5 : Nat) ≠ 0 by decide)), r_mko (show (5 : Nat) ≠ 14 by decide), r_wr (Or.inl (show (5 : Nat) ≠ 0 by decide)), r_mko (show (5 : Nat) ≠ 13 by decide), r_wr (Or.inl (show (5 : Nat) ≠ 0 by decide)), r_wr (Or.inl (show (5 : Nat) ≠ 6 by decide)), r_mko (show (5 : Nat) ≠ 12 by decide), r_wr (Or.inl (show (5 : Nat) ≠ 6 by decide)), r_mko (show (5 : Nat) ≠ 11 by decide), r_wr (Or.inl (show (5 : Nat) ≠ 6 by decide)), r_mko (show (5 : Nat) ≠ 10 by decide), r_wr (Or.inl (show (5 : Nat) ≠ 6 by decide)), r_mko (show (5 : Nat) ≠ 9 by decide), r_wr (Or.inl (show (5 : Nat) ≠ 6 by decide)), r_mko (show (5 : Nat) ≠ 8 by decide), r_wr (Or.inl (show (5 : Nat) ≠ 6 by decide)), r_mko (show (5 : Nat) ≠ 7 by decide), r_mko (show (5 : Nat) ≠ 6 by decide), r_wr (Or.inl (show (5 : Nat) ≠ 0 by decide)), r_wr (Or.inl (show (5 : Nat) ≠ 4 by decide)), r_mks (show (5 : Nat) = 5 from rfl)], fun i => by unfold mB; rw [r_wr (Or.inl (show (13 : Nat) ≠ 0 by decide)), r_mko (show (13 : Nat) ≠ 14 by decide), r_wr (Or.inl (show (13 : Nat) ≠ 0 by decide)), r_mks (show (13 : Nat) = 13 from rfl)]⟩
theorem Z0_mk (h : ∀ y j, z_i M y j = 0) (k n s : Nat) : ∀ y j, z_i (z_mk M k n s) y j = 0 := fun y j => by
  show z_up1 (z_i M) (z_nx M) (fun _ => 0) y j = 0
  unfold z_up1
  split
  · rfl
  · exact h y j
theorem Z0_wr (h : ∀ y j, z_i M y j = 0) (a k : Nat) (v : Option Nat) : ∀ y j, z_i (z_wr M a k v) y j = 0 := h
theorem mB_z : ∀ y j, z_i mB y j = 0 := Z0_wr (Z0_mk (Z0_wr (Z0_mk (Z0_wr (Z0_wr (Z0_mk (Z0_wr (Z0_mk (Z0_wr (Z0_mk (Z0_wr (Z0_mk (Z0_wr (Z0_mk (Z0_wr (Z0_mk (Z0_mk (Z0_wr (Z0_wr (Z0_mk (Z0_mk (Z0_wr (Z0_wr (Z0_mk (Z0_mk (Z0_wr (Z0_mk (Z0_mk (fun _ _ => rfl) 8 0 11) 10 700 700) 0 0 (some 1)) 1 0 14) 11 24 24) 2 0 (some 3)) 0 1 (some 2)) 3 0 3) 13 10 10) 4 0 (some 5)) 0 2 (some 4)) 6 0 12) 11 8 8) 6 0 (some 7)) 11 8 8) 6 1 (some 8)) 11 8 8) 6 2 (some 9)) 11 8 8) 6 3 (some 10)) 11 8 8) 6 4 (some 11)) 11 256 256) 6 5 (some 12)) 0 3 (some 6)) 13 2 2) 0 4 (some 13)) 12 2 2) 0 5 (some 14)
theorem ext0_of (h : ext M M') : ext0 M M' := ⟨h.1, fun y hy => ⟨(h.2 y hy).1, (h.2 y hy).2.1, fun _ => (h.2 y hy).2.2.1, (h.2 y hy).2.2.2.1⟩⟩
theorem ext0_tr (h : ext0 M M1) (g : ext0 M1 M') : ext0 M M' := ⟨Nat.le_trans h.1 g.1, fun y hy => by
  obtain ⟨h1, h2, h3, h4⟩ := h.2 y hy
  obtain ⟨g1, g2, g3, g4⟩ := g.2 y (Nat.lt_of_lt_of_le hy h.1)
  exact ⟨g1.trans h1, g2.trans h2, fun hn k => (g3 hn k).trans (h3 hn k), g4.trans h4⟩⟩
theorem ext0_w (k : Nat) (v : Option Nat) : ext0 M (z_wr M 0 k v) := ⟨Nat.le_refl _, fun y hy => ⟨rfl, rfl, fun hn j => r_wr (Or.inl hn), rfl⟩⟩
theorem ext0_KI (h : ext0 M M') (hF : ∀ y, y < z_nx M → F y = z_i M' y) : ext0 M (KI M' F) := ⟨h.1, fun y hy => ⟨(h.2 y hy).1, (h.2 y hy).2.1, (h.2 y hy).2.2.1, (hF y hy).trans (h.2 y hy).2.2.2⟩⟩
theorem LZ_e0 (h : LZ a M) (g : ext0 M M') (ha : 1 ≤ a) : LZ a M' := by
  have := LZ_lt h
  exact LZ_gen h g.1 (fun y h1 h2 => ⟨(g.2 y (by omega)).1, (g.2 y (by omega)).2.1⟩) (fun y j h1 h2 _ => (g.2 y (by omega)).2.2.1 (by omega) j)
theorem LC_e0 (h : LC a M) (g : ext0 M M') (ha : 1 ≤ a) : LC a M' := by
  have := LC_lt h
  exact LC_gen h g.1 (fun y h1 h2 => ⟨(g.2 y (by omega)).1, (g.2 y (by omega)).2.1⟩) (fun y j h1 h2 => (g.2 y (by omega)).2.2.1 (by omega) j)
theorem KI_inj {F G : Nat → Nat → Int32} (h : KI M F = KI M G) : F = G := congrArg z_i h
theorem AV_begin (hL : LZ a M) (hC : LC c M) (hdis : a + 17 ≤ c ∨ c + 13 ≤ a) (hR : RC F c ct cd 0 0 0 1) (hc : c_ok ct cd 0 0 0 1) : AV (z_wr M a 6 (some c)) (f_tbs (f_b0 F a c) a c 3) a c ct cd (s_b0 ct 0 0) 0 0 0 1 0 0 := by
  obtain ⟨F', k1, A1, _⟩ := kx_begin (kk := 0) hL hC hdis hR hc
  have e := (kx_beginF (F := F) hL hC hdis).symm.trans k1
  have e2 := congrArg (fun r => Option.map Prod.snd r) e
  have e3 : KI (z_wr M a 6 (some c)) (f_tbs (f_b0 F a c) a c 3) = KI (z_wr M a 6 (some c)) F' := Option.some.inj e2
  rw [KI_inj e3]
  exact A1
/-- the class's part of a new object -/
theorem c_init0 : ∃ M, (p_X8_init 0).1 (z_mk z_M0 8 0 11) = some (.inr (), M) ∧ z_nx M = 75 ∧ z_sl M ≤ 10000 ∧ ext0 mB M ∧ LZ 41 M ∧ LZ 58 M ∧ LC 15 M ∧ LC 28 M ∧ (z_r M 0 0 = some 1 ∧ z_r M 0 1 = some 2 ∧ z_r M 0 2 = some 4 ∧ z_r M 0 3 = some 6 ∧ z_r M 0 4 = some 13 ∧ z_r M 0 5 = some 14 ∧ z_r M 0 6 = some 41 ∧ z_r M 0 7 = some 58 ∧ z_r M 0 9 = some 15 ∧ z_r M 0 10 = some 28) ∧ ∀ ct cd : Nat → Int32, (∀ j, j < 138 → ct j = s_df j) → cd 0 = 100 → AV M (z_i M) 41 15 ct cd (s_b0 ct 0 0) 0 0 0 1 0 0 := by
  obtain ⟨B, eB⟩ : ∃ B, B = mB := ⟨_, rfl⟩
  have nB : z_nx B = 15 := by rw [eB]; exact mB_n.1
  have sB : z_sl B = 1074 := by rw [eB]; exact mB_n.2
  have kB : z_kd B 0 = 8 := by rw [eB]; exact mB_k
  have rB : z_r B 0 0 = some 1 ∧ z_r B 0 1 = some 2 ∧ z_r B 0 2 = some 4 ∧ z_r B 0 3 = some 6 ∧ z_r B 0 4 = some 13 ∧ z_r B 0 5 = some 14 := by rw [eB]; exact mB_r
  rw [← eB]
  obtain ⟨cn, cs, cl, ce⟩ := mkC_f (M := B)
  have i1 := kc_init (M := B)
  obtain ⟨C1, eC1⟩ : ∃ C1, C1 = mkC B := ⟨_, rfl⟩
  rw [← eC1] at cn cs cl ce i1
  rw [nB] at cl
  obtain ⟨M1, eM1⟩ : ∃ M1, M1 = KI (C1) (f_clr (z_i (C1)) 15) := ⟨_, rfl⟩
  have p1 : (p_X0_init 15).1 (z_mk B 0 0 18) = some (.inr (), M1) := by
    have h1 := i1
    rw [nB] at h1
    have h2 := c_clear (M := C1) (F := z_i (C1)) (c := 15) cl
    rw [eM1]
    exact h1.trans (e_run h2)
  have x1 : ext0 B M1 := by rw [eM1]; exact ext0_KI (ext0_of ce) (fun y hy => f_clr_o (by omega) (by omega) (by omega))
  have n1 : z_nx M1 = 28 := by rw [eM1]; show z_nx (C1) = 28; omega
  have s1 : z_sl M1 = 1074 + 865 := by rw [eM1]; show z_sl (C1) = _; omega
  have L1 : LC 15 M1 := by rw [eM1]; exact cl
  have F1 : z_i M1 = f_clr (z_i (C1)) 15 := by rw [eM1]; rfl
  obtain ⟨M2, eM2⟩ : ∃ M2, M2 = z_wr M1 0 9 (some 15) := ⟨_, rfl⟩
  have x2 : ext0 M1 M2 := by rw [eM2]; exact ext0_w _ _
  have n2 : z_nx M2 = 28 := by rw [eM2]; exact n1
  have s2 : z_sl M2 = 1074 + 865 := by rw [eM2]; exact s1
  obtain ⟨dn, ds, dl, de⟩ := mkC_f (M := M2)
  have i2 := kc_init (M := M2)
  obtain ⟨C2, eC2⟩ : ∃ C2, C2 = mkC M2 := ⟨_, rfl⟩
  rw [← eC2] at dn ds dl de i2
  rw [n2] at dl
  obtain ⟨M3, eM3⟩ : ∃ M3, M3 = KI (C2) (f_clr (z_i (C2)) 28) := ⟨_, rfl⟩
  have p3 : (p_X0_init 28).1 (z_mk M2 0 0 18) = some (.inr (), M3) := by
    have h1 := i2
    have h2 := c_clear (M := C2) (F := z_i (C2)) (c := 28) dl
    rw [n2] at h1
    rw [eM3]
    exact h1.trans (e_run h2)
  have x3 : ext0 M2 M3 := by rw [eM3]; exact ext0_KI (ext0_of de) (fun y hy => f_clr_o (by omega) (by omega) (by omega))
  have n3 : z_nx M3 = 41 := by rw [eM3]; show z_nx (C2) = 41; omega
  have s3 : z_sl M3 = 1074 + 1730 := by rw [eM3]; show z_sl (C2) = _; omega
  have L3 : LC 28 M3 := by rw [eM3]; exact dl
  have r3 : ∀ k, z_r M3 0 k = z_r M2 0 k := fun k => by rw [eM3]; exact (de.2 0 (by omega)).2.2.1 k
  obtain ⟨M4, eM4⟩ : ∃ M4, M4 = z_wr M3 0 10 (some 28) := ⟨_, rfl⟩
  have x4 : ext0 M3 M4 := by rw [eM4]; exact ext0_w _ _
  have n4 : z_nx M4 = 41 := by rw [eM4]; exact n3
  have s4 : z_sl M4 = 1074 + 1730 := by rw [eM4]; exact s3
  have x14 : ext0 M1 M4 := ext0_tr x2 (ext0_tr x3 x4)
  have LC4 : LC 15 M4 := LC_e0 L1 x14 (by omega)
  obtain ⟨g1, g2, g3, g4⟩ := mkS3_f (M := M4) 3
  have gL : LZ (z_nx M4) (mkS3 M4 3) := LZ_S3
  have iM4 := kx_init (M := M4) (c := 15)
  obtain ⟨N4, eN4⟩ : ∃ N0, N0 = mkS3 M4 3 := ⟨_, rfl⟩
  rw [← eN4] at g1 g2 g4 gL iM4
  rw [n4] at gL
  obtain ⟨G1, eG1⟩ : ∃ G1, G1 = f_tbs (f_b0 (z_i (N4)) 41 15) 41 15 3 := ⟨_, rfl⟩
  obtain ⟨M5, eM5⟩ : ∃ M5, M5 = KI (z_wr (N4) 41 6 (some 15)) G1 := ⟨_, rfl⟩
  have p5 : (p_X5_init 41 15).1 (z_mk M4 5 0 13) = some (.inr (), M5) := by
    have h1 := iM4
    have h2 := kx_beginF (M := N4) (F := z_i (N4)) (a := 41) (c := 15) gL (LC_ext LC4 g4) (by omega)
    rw [n4] at h1
    rw [eM5, eG1]
    exact h1.trans (e_run h2)
  have o1 : ∀ y, y < 41 → G1 y = z_i (N4) y := fun y hy => by rw [eG1, f_tbs_o 3 (fun i hi => by omega), f_b0_o (by omega) (by omega) (by omega) (by omega) (by omega) (by omega)]
  have x5 : ext0 M4 M5 := by
    rw [eM5]
    exact ext0_KI (M' := z_wr (N4) 41 6 (some 15)) (ext0_of (ext_wr g4 (by omega))) (fun y hy => o1 y (by omega))
  have n5 : z_nx M5 = 58 := by rw [eM5]; show z_nx (N4) = 58; omega
  have s5 : z_sl M5 = 1074 + 2720 := by rw [eM5]; show z_sl (N4) = _; omega
  have r5 : ∀ k, z_r M5 0 k = z_r M4 0 k := fun k => by
    rw [eM5]
    show z_r (z_wr (N4) 41 6 (some 15)) 0 k = _
    rw [r_wr (Or.inl (by omega))]
    exact (g4.2 0 (by omega)).2.2.1 k
  have A5 : ∀ ct cd : Nat → Int32, (∀ j, j < 138 → ct j = s_df j) → cd 0 = 100 → AV M5 (z_i M5) 41 15 ct cd (s_b0 ct 0 0) 0 0 0 1 0 0 := fun ct cd h1 h2 => by
    rw [eM5, eG1]
    refine AV_begin (M := N4) (F := z_i (N4)) gL (LC_ext LC4 g4) (by omega) ?_ (c_ok0 h1 h2)
    have hrow : ∀ y, y < 28 → z_i (N4) y = f_clr (z_i (C1)) 15 y := fun y hy => by
      rw [(g4.2 y (by omega)).2.2.2.1, (x14.2 y (by omega)).2.2.2, F1]
    have hRC := RC_clr (F := z_i (C1)) (c := 15) h1 h2
    unfold RC at hRC ⊢
    rw [hrow 15 (by omega), hrow (15 + 1) (by omega), hrow (15 + 2) (by omega), hrow (15 + 3) (by omega), hrow (15 + 4) (by omega), hrow (15 + 5) (by omega), hrow (15 + 6) (by omega), hrow (15 + 7) (by omega), hrow (15 + 8) (by omega), hrow (15 + 9) (by omega), hrow (15 + 10) (by omega), hrow (15 + 10 + 1) (by omega)]
    exact hRC
  obtain ⟨M6, eM6⟩ : ∃ M6, M6 = z_wr M5 0 6 (some 41) := ⟨_, rfl⟩
  have x6 : ext0 M5 M6 := by rw [eM6]; exact ext0_w _ _
  have n6 : z_nx M6 = 58 := by rw [eM6]; exact n5
  have s6 : z_sl M6 = 1074 + 2720 := by rw [eM6]; exact s5
  have LC6 : LC 15 M6 := LC_e0 LC4 (ext0_tr x5 x6) (by omega)
  obtain ⟨q1, q2, q3, q4⟩ := mkS3_f (M := M6) 3
  have qL : LZ (z_nx M6) (mkS3 M6 3) := LZ_S3
  have iM6 := kx_init (M := M6) (c := 15)
  obtain ⟨N6, eN6⟩ : ∃ N0, N0 = mkS3 M6 3 := ⟨_, rfl⟩
  rw [← eN6] at q1 q2 q4 qL iM6
  rw [n6] at qL
  obtain ⟨G2, eG2⟩ : ∃ G2, G2 = f_tbs (f_b0 (z_i (N6)) 58 15) 58 15 3 := ⟨_, rfl⟩
  obtain ⟨M7, eM7⟩ : ∃ M7, M7 = KI (z_wr (N6) 58 6 (some 15)) G2 := ⟨_, rfl⟩
  have p7 : (p_X5_init 58 15).1 (z_mk M6 5 0 13) = some (.inr (), M7) := by
    have h1 := iM6
    have h2 := kx_beginF (M := N6) (F := z_i (N6)) (a := 58) (c := 15) qL (LC_ext LC6 q4) (by omega)
    rw [n6] at h1
    rw [eM7, eG2]
    exact h1.trans (e_run h2)
  have x7 : ext0 M6 M7 := by
    rw [eM7]
    exact ext0_KI (M' := z_wr (N6) 58 6 (some 15)) (ext0_of (ext_wr q4 (by omega))) (fun y hy => by rw [eG2, f_tbs_o 3 (fun i hi => by omega), f_b0_o (by omega) (by omega) (by omega) (by omega) (by omega) (by omega)]; rfl)
  have n7 : z_nx M7 = 75 := by rw [eM7]; show z_nx (N6) = 75; omega
  have s7 : z_sl M7 = 1074 + 3710 := by rw [eM7]; show z_sl (N6) = _; omega
  have r7 : ∀ k, z_r M7 0 k = z_r M6 0 k := fun k => by
    rw [eM7]
    show z_r (z_wr (N6) 58 6 (some 15)) 0 k = _
    rw [r_wr (Or.inl (by omega))]
    exact (q4.2 0 (by omega)).2.2.1 k
  have L58 : LZ 58 M7 := by rw [eM7]; exact LZ_wr qL
  obtain ⟨M8, eM8⟩ : ∃ M8, M8 = z_wr M7 0 7 (some 58) := ⟨_, rfl⟩
  have x8 : ext0 M7 M8 := by rw [eM8]; exact ext0_w _ _
  have x58 : ext0 M5 M8 := ext0_tr x6 (ext0_tr x7 x8)
  have xB : ext0 B M8 := ext0_tr x1 (ext0_tr x14 (ext0_tr x5 x58))
  have rr : ∀ k, k ≠ 7 → k ≠ 6 → k ≠ 10 → k ≠ 9 → z_r M8 0 k = z_r B 0 k := fun k h7 h6 h10 h9 => by
    rw [eM8, r_wr (Or.inr h7), r7, eM6, r_wr (Or.inr h6), r5, eM4, r_wr (Or.inr h10), r3, eM2, r_wr (Or.inr h9), eM1]
    exact (ce.2 0 (by omega)).2.2.1 k
  have L41 : LZ 41 M5 := by rw [eM5]; exact LZ_wr gL
  refine ⟨M8, ?_, by rw [eM8]; exact n7, by rw [eM8]; show z_sl M7 ≤ _; omega, xB, LZ_e0 L41 x58 (by omega), LZ_e0 L58 x8 (by omega), LC_e0 L1 (ext0_tr x14 (ext0_tr x5 x58)) (by omega), LC_e0 L3 (ext0_tr x4 (ext0_tr x5 x58)) (by omega), ⟨?_, ?_, ?_, ?_, ?_, ?_, ?_, ?_, ?_, ?_⟩, fun ct cd h1 h2 => ?_⟩
  · have is0 : ∀ N, ext0 B N → z_is 8 0 N := fun N h => ⟨by have := h.1; omega, (h.2 0 (by omega)).1.trans kB⟩
    rw [b_init, ← eB, n_nw, nB]
    refine (e_run p1).trans ?_
    rw [e_pR (is0 M1 x1)]
    show (z_bd (z_nw 0 18) _).1 (z_wr M1 0 9 (some 15)) = _
    rw [← eM2, n_nw, n2]
    refine (e_run p3).trans ?_
    rw [e_pR (is0 M3 (ext0_tr x1 (ext0_tr x2 x3)))]
    show (z_bd (z_nw 5 13) _).1 (z_wr M3 0 10 (some 28)) = _
    rw [← eM4, n_nw, n4]
    refine (e_run p5).trans ?_
    rw [e_pR (is0 M5 (ext0_tr x1 (ext0_tr x14 x5))), ← eM6, n_nw, n6]
    refine (e_run p7).trans ?_
    rw [e_pR (is0 M7 (ext0_tr x1 (ext0_tr x14 (ext0_tr x5 (ext0_tr x6 x7))))), ← eM8]
    rfl
  · rw [rr 0 (by omega) (by omega) (by omega) (by omega)]; exact rB.1
  · rw [rr 1 (by omega) (by omega) (by omega) (by omega)]; exact rB.2.1
  · rw [rr 2 (by omega) (by omega) (by omega) (by omega)]; exact rB.2.2.1
  · rw [rr 3 (by omega) (by omega) (by omega) (by omega)]; exact rB.2.2.2.1
  · rw [rr 4 (by omega) (by omega) (by omega) (by omega)]; exact rB.2.2.2.2.1
  · rw [rr 5 (by omega) (by omega) (by omega) (by omega)]; exact rB.2.2.2.2.2
  · rw [eM8, r_wr (Or.inr (by omega)), r7, eM6, r_wrs]
  · rw [eM8, r_wrs]
  · rw [eM8, r_wr (Or.inr (by omega)), r7, eM6, r_wr (Or.inr (by omega)), r5, eM4, r_wr (Or.inr (by omega)), r3, eM2, r_wrs]
  · rw [eM8, r_wr (Or.inr (by omega)), r7, eM6, r_wr (Or.inr (by omega)), r5, eM4, r_wrs]
  · exact AV_MF (A5 ct cd h1 h2) (LZ_e0 L41 x58 (by omega)) ((x58.2 41 (by omega)).2.2.1 (by omega) 6) (LC_e0 L1 (ext0_tr x14 (ext0_tr x5 x58)) (by omega)) (fun y y1 y2 => (x58.2 y (by omega)).2.2.2) (fun y y1 y2 => (x58.2 y (by omega)).2.2.2)
end PA29
