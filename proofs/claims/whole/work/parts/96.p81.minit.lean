/-! ===== PHASE 2: BikeShareModel.<init>; the law's loop ===== -/
def P9 (M : zM) (done : List (Nat × Nat × Nat × Nat)) : Prop := z_kd M 75 = 9 ∧ 75 < z_nx M ∧ ∀ p ∈ done, p.1 < z_nx M ∧ p.1 ≠ 75 ∧ z_kd M p.1 = p.2.1 ∧ z_ln M p.1 = p.2.2.1 ∧ z_r M 75 p.2.2.2 = some p.1
section PA30
variable {β : Type} {M N : zM} {F : Nat → Nat → Int32} {ct cd st : Nat → Int32} {a b c k l u fl : Nat} {n : Int32} {done : List (Nat × Nat × Nat × Nat)} {xs : Nat → Int32} {L : Nat}
theorem P9_step (h : P9 M done) (hu : z_nx M = u) (hf : ∀ p ∈ done, p.2.2.2 ≠ fl) : P9 (z_wr (z_mk M k l l) 75 fl (some u)) (done ++ [(u, k, l, fl)]) := by
  have h75 := h.2.1
  refine ⟨?_, by show 75 < z_nx M + 1; omega, fun p hp => ?_⟩
  · rw [kd_wr, kd_mko (by omega)]; exact h.1
  · rcases List.mem_append.mp hp with hp | hp
    · obtain ⟨h1, h2, h3, h4, h5⟩ := h.2.2 p hp
      refine ⟨by show p.1 < z_nx M + 1; omega, h2, ?_, ?_, ?_⟩
      · rw [kd_wr, kd_mko (by omega)]; exact h3
      · rw [ln_wr, ln_mko (by omega)]; exact h4
      · rw [r_wr (Or.inr (hf p hp)), r_mko (by omega)]; exact h5
    · rw [List.mem_singleton] at hp
      subst hp
      refine ⟨by show u < z_nx M + 1; omega, by show u ≠ 75; omega, ?_, ?_, r_wrs⟩
      · rw [kd_wr, kd_mks hu.symm]
      · rw [ln_wr, ln_mks hu.symm]
theorem st9 {f : Unit → zP β} (h : P9 M done) (hu : z_nx M = u) (hn : ¬ n < 0 ∧ n.toNatClampNeg ≤ 67108864) (hl : n.toNatClampNeg = l) : (z_bd (z_na k n) (fun q => z_bd (z_pR 9 75 fl (some q)) f)).1 M = (f ()).1 (z_wr (z_mk M k l l) 75 fl (some u)) := by
  have h75 := h.2.1
  rw [e_na hn, hl, hu, e_pR ⟨by show 75 < z_nx M + 1; omega, by rw [kd_mko (by omega)]; exact h.1⟩]
set_option maxHeartbeats 4000000 in
theorem m_init0 (hN : z_nx N = 75) : ∃ M F, (p_X9_init 75).1 (z_mk N 9 0 34) = some (.inr (), KI M F) ∧ z_nx M = 95 ∧ z_sl M = z_sl N + 49751 ∧ ext N M ∧ L9 M ∧ (∀ y, y < 75 → F y = z_i N y) ∧ (∀ j, j < 138 → F 78 j = s_df j) ∧ F 80 0 = 100 ∧ (∀ j, j < 3277 → F 83 j = 0) ∧ F 75 21 = 0 ∧ F 86 0 = 0 ∧ F 86 1 = 0 ∧ F 75 2 = 0 := by
  have hle75 : z_nx N ≤ 75 := by omega
  obtain ⟨M0, e0⟩ : ∃ M0, M0 = z_mk N 9 0 34 := ⟨_, rfl⟩
  have h0 : P9 M0 [] := by rw [e0]; exact ⟨kd_mks hN.symm, by show 75 < z_nx N + 1; omega, fun p hp => by cases hp⟩
  have u0 : z_nx M0 = 76 := by rw [e0]; show z_nx N + 1 = 76; omega
  have v0 : z_sl M0 = z_sl N + 34 := by rw [e0]; rfl
  have w0 : ext N M0 := by rw [e0]; exact ext_mk _ _ _
  have z0 : ∀ k, z_i M0 75 k = 0 := fun k => by
    rw [e0]
    show z_up1 (z_i N) (z_nx N) (fun _ => 0) 75 k = 0
    rw [hN, u1_s]
  rw [← e0]
  unfold p_X9_init
  rw [st9 (k := 10) (n := 700) (l := 700) h0 u0 (by decide) (by decide)]
  obtain ⟨M1, e1⟩ : ∃ M1, M1 = z_wr (z_mk M0 10 700 700) 75 1 (some 76) := ⟨_, rfl⟩
  rw [← e1]
  have h1 : P9 M1 [(76, 10, 700, 1)] := by rw [e1]; exact P9_step h0 u0 (by decide)
  have u1 : z_nx M1 = 77 := by rw [e1]; show z_nx M0 + 1 = 77; rw [u0]
  have v1 : z_sl M1 = z_sl N + 734 := by rw [e1]; show z_sl M0 + 700 = _; exact (congrArg (fun z => z + 700) v0).trans (Nat.add_assoc (z_sl N) 34 700)
  have w1 : ext N M1 := by rw [e1]; exact ext_wr (ext_tr w0 (ext_mk _ _ _)) hle75
  rw [st9 (k := 11) (n := 138) (l := 138) h1 u1 (by decide) (by decide)]
  obtain ⟨M2, e2⟩ : ∃ M2, M2 = z_wr (z_mk M1 11 138 138) 75 10 (some 77) := ⟨_, rfl⟩
  rw [← e2]
  have h2 : P9 M2 [(76, 10, 700, 1), (77, 11, 138, 10)] := by rw [e2]; exact P9_step h1 u1 (by decide)
  have u2 : z_nx M2 = 78 := by rw [e2]; show z_nx M1 + 1 = 78; rw [u1]
  have v2 : z_sl M2 = z_sl N + 872 := by rw [e2]; show z_sl M1 + 138 = _; exact (congrArg (fun z => z + 138) v1).trans (Nat.add_assoc (z_sl N) 734 138)
  have w2 : ext N M2 := by rw [e2]; exact ext_wr (ext_tr w1 (ext_mk _ _ _)) hle75
  rw [st9 (k := 11) (n := 138) (l := 138) h2 u2 (by decide) (by decide)]
  obtain ⟨M3, e3⟩ : ∃ M3, M3 = z_wr (z_mk M2 11 138 138) 75 11 (some 78) := ⟨_, rfl⟩
  rw [← e3]
  have h3 : P9 M3 [(76, 10, 700, 1), (77, 11, 138, 10), (78, 11, 138, 11)] := by rw [e3]; exact P9_step h2 u2 (by decide)
  have u3 : z_nx M3 = 79 := by rw [e3]; show z_nx M2 + 1 = 79; rw [u2]
  have v3 : z_sl M3 = z_sl N + 1010 := by rw [e3]; show z_sl M2 + 138 = _; exact (congrArg (fun z => z + 138) v2).trans (Nat.add_assoc (z_sl N) 872 138)
  have w3 : ext N M3 := by rw [e3]; exact ext_wr (ext_tr w2 (ext_mk _ _ _)) hle75
  rw [st9 (k := 11) (n := 700) (l := 700) h3 u3 (by decide) (by decide)]
  obtain ⟨M4, e4⟩ : ∃ M4, M4 = z_wr (z_mk M3 11 700 700) 75 12 (some 79) := ⟨_, rfl⟩
  rw [← e4]
  have h4 : P9 M4 [(76, 10, 700, 1), (77, 11, 138, 10), (78, 11, 138, 11), (79, 11, 700, 12)] := by rw [e4]; exact P9_step h3 u3 (by decide)
  have u4 : z_nx M4 = 80 := by rw [e4]; show z_nx M3 + 1 = 80; rw [u3]
  have v4 : z_sl M4 = z_sl N + 1710 := by rw [e4]; show z_sl M3 + 700 = _; exact (congrArg (fun z => z + 700) v3).trans (Nat.add_assoc (z_sl N) 1010 700)
  have w4 : ext N M4 := by rw [e4]; exact ext_wr (ext_tr w3 (ext_mk _ _ _)) hle75
  rw [st9 (k := 11) (n := 700) (l := 700) h4 u4 (by decide) (by decide)]
  obtain ⟨M5, e5⟩ : ∃ M5, M5 = z_wr (z_mk M4 11 700 700) 75 13 (some 80) := ⟨_, rfl⟩
  rw [← e5]
  have h5 : P9 M5 [(76, 10, 700, 1), (77, 11, 138, 10), (78, 11, 138, 11), (79, 11, 700, 12), (80, 11, 700, 13)] := by rw [e5]; exact P9_step h4 u4 (by decide)
  have u5 : z_nx M5 = 81 := by rw [e5]; show z_nx M4 + 1 = 81; rw [u4]
  have v5 : z_sl M5 = z_sl N + 2410 := by rw [e5]; show z_sl M4 + 700 = _; exact (congrArg (fun z => z + 700) v4).trans (Nat.add_assoc (z_sl N) 1710 700)
  have w5 : ext N M5 := by rw [e5]; exact ext_wr (ext_tr w4 (ext_mk _ _ _)) hle75
  rw [st9 (k := 11) (n := 700) (l := 700) h5 u5 (by decide) (by decide)]
  obtain ⟨M6, e6⟩ : ∃ M6, M6 = z_wr (z_mk M5 11 700 700) 75 15 (some 81) := ⟨_, rfl⟩
  rw [← e6]
  have h6 : P9 M6 [(76, 10, 700, 1), (77, 11, 138, 10), (78, 11, 138, 11), (79, 11, 700, 12), (80, 11, 700, 13), (81, 11, 700, 15)] := by rw [e6]; exact P9_step h5 u5 (by decide)
  have u6 : z_nx M6 = 82 := by rw [e6]; show z_nx M5 + 1 = 82; rw [u5]
  have v6 : z_sl M6 = z_sl N + 3110 := by rw [e6]; show z_sl M5 + 700 = _; exact (congrArg (fun z => z + 700) v5).trans (Nat.add_assoc (z_sl N) 2410 700)
  have w6 : ext N M6 := by rw [e6]; exact ext_wr (ext_tr w5 (ext_mk _ _ _)) hle75
  rw [st9 (k := 11) (n := 700) (l := 700) h6 u6 (by decide) (by decide)]
  obtain ⟨M7, e7⟩ : ∃ M7, M7 = z_wr (z_mk M6 11 700 700) 75 18 (some 82) := ⟨_, rfl⟩
  rw [← e7]
  have h7 : P9 M7 [(76, 10, 700, 1), (77, 11, 138, 10), (78, 11, 138, 11), (79, 11, 700, 12), (80, 11, 700, 13), (81, 11, 700, 15), (82, 11, 700, 18)] := by rw [e7]; exact P9_step h6 u6 (by decide)
  have u7 : z_nx M7 = 83 := by rw [e7]; show z_nx M6 + 1 = 83; rw [u6]
  have v7 : z_sl M7 = z_sl N + 3810 := by rw [e7]; show z_sl M6 + 700 = _; exact (congrArg (fun z => z + 700) v6).trans (Nat.add_assoc (z_sl N) 3110 700)
  have w7 : ext N M7 := by rw [e7]; exact ext_wr (ext_tr w6 (ext_mk _ _ _)) hle75
  rw [st9 (k := 11) (n := 3277) (l := 3277) h7 u7 (by decide) (by decide)]
  obtain ⟨M8, e8⟩ : ∃ M8, M8 = z_wr (z_mk M7 11 3277 3277) 75 19 (some 83) := ⟨_, rfl⟩
  rw [← e8]
  have h8 : P9 M8 [(76, 10, 700, 1), (77, 11, 138, 10), (78, 11, 138, 11), (79, 11, 700, 12), (80, 11, 700, 13), (81, 11, 700, 15), (82, 11, 700, 18), (83, 11, 3277, 19)] := by rw [e8]; exact P9_step h7 u7 (by decide)
  have u8 : z_nx M8 = 84 := by rw [e8]; show z_nx M7 + 1 = 84; rw [u7]
  have v8 : z_sl M8 = z_sl N + 7087 := by rw [e8]; show z_sl M7 + 3277 = _; exact (congrArg (fun z => z + 3277) v7).trans (Nat.add_assoc (z_sl N) 3810 3277)
  have w8 : ext N M8 := by rw [e8]; exact ext_wr (ext_tr w7 (ext_mk _ _ _)) hle75
  rw [st9 (k := 11) (n := 32770) (l := 32770) h8 u8 (by decide) (by decide)]
  obtain ⟨M9, e9⟩ : ∃ M9, M9 = z_wr (z_mk M8 11 32770 32770) 75 20 (some 84) := ⟨_, rfl⟩
  rw [← e9]
  have h9 : P9 M9 [(76, 10, 700, 1), (77, 11, 138, 10), (78, 11, 138, 11), (79, 11, 700, 12), (80, 11, 700, 13), (81, 11, 700, 15), (82, 11, 700, 18), (83, 11, 3277, 19), (84, 11, 32770, 20)] := by rw [e9]; exact P9_step h8 u8 (by decide)
  have u9 : z_nx M9 = 85 := by rw [e9]; show z_nx M8 + 1 = 85; rw [u8]
  have v9 : z_sl M9 = z_sl N + 39857 := by rw [e9]; show z_sl M8 + 32770 = _; exact (congrArg (fun z => z + 32770) v8).trans (Nat.add_assoc (z_sl N) 7087 32770)
  have w9 : ext N M9 := by rw [e9]; exact ext_wr (ext_tr w8 (ext_mk _ _ _)) hle75
  rw [st9 (k := 11) (n := 6554) (l := 6554) h9 u9 (by decide) (by decide)]
  obtain ⟨M10, e10⟩ : ∃ M10, M10 = z_wr (z_mk M9 11 6554 6554) 75 22 (some 85) := ⟨_, rfl⟩
  rw [← e10]
  have h10 : P9 M10 [(76, 10, 700, 1), (77, 11, 138, 10), (78, 11, 138, 11), (79, 11, 700, 12), (80, 11, 700, 13), (81, 11, 700, 15), (82, 11, 700, 18), (83, 11, 3277, 19), (84, 11, 32770, 20), (85, 11, 6554, 22)] := by rw [e10]; exact P9_step h9 u9 (by decide)
  have u10 : z_nx M10 = 86 := by rw [e10]; show z_nx M9 + 1 = 86; rw [u9]
  have v10 : z_sl M10 = z_sl N + 46411 := by rw [e10]; show z_sl M9 + 6554 = _; exact (congrArg (fun z => z + 6554) v9).trans (Nat.add_assoc (z_sl N) 39857 6554)
  have w10 : ext N M10 := by rw [e10]; exact ext_wr (ext_tr w9 (ext_mk _ _ _)) hle75
  rw [st9 (k := 12) (n := 2) (l := 2) h10 u10 (by decide) (by decide)]
  obtain ⟨M11, e11⟩ : ∃ M11, M11 = z_wr (z_mk M10 12 2 2) 75 23 (some 86) := ⟨_, rfl⟩
  rw [← e11]
  have h11 : P9 M11 [(76, 10, 700, 1), (77, 11, 138, 10), (78, 11, 138, 11), (79, 11, 700, 12), (80, 11, 700, 13), (81, 11, 700, 15), (82, 11, 700, 18), (83, 11, 3277, 19), (84, 11, 32770, 20), (85, 11, 6554, 22), (86, 12, 2, 23)] := by rw [e11]; exact P9_step h10 u10 (by decide)
  have u11 : z_nx M11 = 87 := by rw [e11]; show z_nx M10 + 1 = 87; rw [u10]
  have v11 : z_sl M11 = z_sl N + 46413 := by rw [e11]; show z_sl M10 + 2 = _; exact (congrArg (fun z => z + 2) v10).trans (Nat.add_assoc (z_sl N) 46411 2)
  have w11 : ext N M11 := by rw [e11]; exact ext_wr (ext_tr w10 (ext_mk _ _ _)) hle75
  rw [st9 (k := 11) (n := 3277) (l := 3277) h11 u11 (by decide) (by decide)]
  obtain ⟨M12, e12⟩ : ∃ M12, M12 = z_wr (z_mk M11 11 3277 3277) 75 24 (some 87) := ⟨_, rfl⟩
  rw [← e12]
  have h12 : P9 M12 [(76, 10, 700, 1), (77, 11, 138, 10), (78, 11, 138, 11), (79, 11, 700, 12), (80, 11, 700, 13), (81, 11, 700, 15), (82, 11, 700, 18), (83, 11, 3277, 19), (84, 11, 32770, 20), (85, 11, 6554, 22), (86, 12, 2, 23), (87, 11, 3277, 24)] := by rw [e12]; exact P9_step h11 u11 (by decide)
  have u12 : z_nx M12 = 88 := by rw [e12]; show z_nx M11 + 1 = 88; rw [u11]
  have v12 : z_sl M12 = z_sl N + 49690 := by rw [e12]; show z_sl M11 + 3277 = _; exact (congrArg (fun z => z + 3277) v11).trans (Nat.add_assoc (z_sl N) 46413 3277)
  have w12 : ext N M12 := by rw [e12]; exact ext_wr (ext_tr w11 (ext_mk _ _ _)) hle75
  rw [st9 (k := 11) (n := 8) (l := 8) h12 u12 (by decide) (by decide)]
  obtain ⟨M13, e13⟩ : ∃ M13, M13 = z_wr (z_mk M12 11 8 8) 75 25 (some 88) := ⟨_, rfl⟩
  rw [← e13]
  have h13 : P9 M13 [(76, 10, 700, 1), (77, 11, 138, 10), (78, 11, 138, 11), (79, 11, 700, 12), (80, 11, 700, 13), (81, 11, 700, 15), (82, 11, 700, 18), (83, 11, 3277, 19), (84, 11, 32770, 20), (85, 11, 6554, 22), (86, 12, 2, 23), (87, 11, 3277, 24), (88, 11, 8, 25)] := by rw [e13]; exact P9_step h12 u12 (by decide)
  have u13 : z_nx M13 = 89 := by rw [e13]; show z_nx M12 + 1 = 89; rw [u12]
  have v13 : z_sl M13 = z_sl N + 49698 := by rw [e13]; show z_sl M12 + 8 = _; exact (congrArg (fun z => z + 8) v12).trans (Nat.add_assoc (z_sl N) 49690 8)
  have w13 : ext N M13 := by rw [e13]; exact ext_wr (ext_tr w12 (ext_mk _ _ _)) hle75
  rw [st9 (k := 11) (n := 8) (l := 8) h13 u13 (by decide) (by decide)]
  obtain ⟨M14, e14⟩ : ∃ M14, M14 = z_wr (z_mk M13 11 8 8) 75 26 (some 89) := ⟨_, rfl⟩
  rw [← e14]
  have h14 : P9 M14 [(76, 10, 700, 1), (77, 11, 138, 10), (78, 11, 138, 11), (79, 11, 700, 12), (80, 11, 700, 13), (81, 11, 700, 15), (82, 11, 700, 18), (83, 11, 3277, 19), (84, 11, 32770, 20), (85, 11, 6554, 22), (86, 12, 2, 23), (87, 11, 3277, 24), (88, 11, 8, 25), (89, 11, 8, 26)] := by rw [e14]; exact P9_step h13 u13 (by decide)
  have u14 : z_nx M14 = 90 := by rw [e14]; show z_nx M13 + 1 = 90; rw [u13]
  have v14 : z_sl M14 = z_sl N + 49706 := by rw [e14]; show z_sl M13 + 8 = _; exact (congrArg (fun z => z + 8) v13).trans (Nat.add_assoc (z_sl N) 49698 8)
  have w14 : ext N M14 := by rw [e14]; exact ext_wr (ext_tr w13 (ext_mk _ _ _)) hle75
  rw [st9 (k := 11) (n := 9) (l := 9) h14 u14 (by decide) (by decide)]
  obtain ⟨M15, e15⟩ : ∃ M15, M15 = z_wr (z_mk M14 11 9 9) 75 29 (some 90) := ⟨_, rfl⟩
  rw [← e15]
  have h15 : P9 M15 [(76, 10, 700, 1), (77, 11, 138, 10), (78, 11, 138, 11), (79, 11, 700, 12), (80, 11, 700, 13), (81, 11, 700, 15), (82, 11, 700, 18), (83, 11, 3277, 19), (84, 11, 32770, 20), (85, 11, 6554, 22), (86, 12, 2, 23), (87, 11, 3277, 24), (88, 11, 8, 25), (89, 11, 8, 26), (90, 11, 9, 29)] := by rw [e15]; exact P9_step h14 u14 (by decide)
  have u15 : z_nx M15 = 91 := by rw [e15]; show z_nx M14 + 1 = 91; rw [u14]
  have v15 : z_sl M15 = z_sl N + 49715 := by rw [e15]; show z_sl M14 + 9 = _; exact (congrArg (fun z => z + 9) v14).trans (Nat.add_assoc (z_sl N) 49706 9)
  have w15 : ext N M15 := by rw [e15]; exact ext_wr (ext_tr w14 (ext_mk _ _ _)) hle75
  rw [st9 (k := 11) (n := 9) (l := 9) h15 u15 (by decide) (by decide)]
  obtain ⟨M16, e16⟩ : ∃ M16, M16 = z_wr (z_mk M15 11 9 9) 75 30 (some 91) := ⟨_, rfl⟩
  rw [← e16]
  have h16 : P9 M16 [(76, 10, 700, 1), (77, 11, 138, 10), (78, 11, 138, 11), (79, 11, 700, 12), (80, 11, 700, 13), (81, 11, 700, 15), (82, 11, 700, 18), (83, 11, 3277, 19), (84, 11, 32770, 20), (85, 11, 6554, 22), (86, 12, 2, 23), (87, 11, 3277, 24), (88, 11, 8, 25), (89, 11, 8, 26), (90, 11, 9, 29), (91, 11, 9, 30)] := by rw [e16]; exact P9_step h15 u15 (by decide)
  have u16 : z_nx M16 = 92 := by rw [e16]; show z_nx M15 + 1 = 92; rw [u15]
  have v16 : z_sl M16 = z_sl N + 49724 := by rw [e16]; show z_sl M15 + 9 = _; exact (congrArg (fun z => z + 9) v15).trans (Nat.add_assoc (z_sl N) 49715 9)
  have w16 : ext N M16 := by rw [e16]; exact ext_wr (ext_tr w15 (ext_mk _ _ _)) hle75
  rw [st9 (k := 11) (n := 9) (l := 9) h16 u16 (by decide) (by decide)]
  obtain ⟨M17, e17⟩ : ∃ M17, M17 = z_wr (z_mk M16 11 9 9) 75 31 (some 92) := ⟨_, rfl⟩
  rw [← e17]
  have h17 : P9 M17 [(76, 10, 700, 1), (77, 11, 138, 10), (78, 11, 138, 11), (79, 11, 700, 12), (80, 11, 700, 13), (81, 11, 700, 15), (82, 11, 700, 18), (83, 11, 3277, 19), (84, 11, 32770, 20), (85, 11, 6554, 22), (86, 12, 2, 23), (87, 11, 3277, 24), (88, 11, 8, 25), (89, 11, 8, 26), (90, 11, 9, 29), (91, 11, 9, 30), (92, 11, 9, 31)] := by rw [e17]; exact P9_step h16 u16 (by decide)
  have u17 : z_nx M17 = 93 := by rw [e17]; show z_nx M16 + 1 = 93; rw [u16]
  have v17 : z_sl M17 = z_sl N + 49733 := by rw [e17]; show z_sl M16 + 9 = _; exact (congrArg (fun z => z + 9) v16).trans (Nat.add_assoc (z_sl N) 49724 9)
  have w17 : ext N M17 := by rw [e17]; exact ext_wr (ext_tr w16 (ext_mk _ _ _)) hle75
  rw [st9 (k := 11) (n := 9) (l := 9) h17 u17 (by decide) (by decide)]
  obtain ⟨M18, e18⟩ : ∃ M18, M18 = z_wr (z_mk M17 11 9 9) 75 32 (some 93) := ⟨_, rfl⟩
  rw [← e18]
  have h18 : P9 M18 [(76, 10, 700, 1), (77, 11, 138, 10), (78, 11, 138, 11), (79, 11, 700, 12), (80, 11, 700, 13), (81, 11, 700, 15), (82, 11, 700, 18), (83, 11, 3277, 19), (84, 11, 32770, 20), (85, 11, 6554, 22), (86, 12, 2, 23), (87, 11, 3277, 24), (88, 11, 8, 25), (89, 11, 8, 26), (90, 11, 9, 29), (91, 11, 9, 30), (92, 11, 9, 31), (93, 11, 9, 32)] := by rw [e18]; exact P9_step h17 u17 (by decide)
  have u18 : z_nx M18 = 94 := by rw [e18]; show z_nx M17 + 1 = 94; rw [u17]
  have v18 : z_sl M18 = z_sl N + 49742 := by rw [e18]; show z_sl M17 + 9 = _; exact (congrArg (fun z => z + 9) v17).trans (Nat.add_assoc (z_sl N) 49733 9)
  have w18 : ext N M18 := by rw [e18]; exact ext_wr (ext_tr w17 (ext_mk _ _ _)) hle75
  rw [st9 (k := 11) (n := 9) (l := 9) h18 u18 (by decide) (by decide)]
  obtain ⟨M19, e19⟩ : ∃ M19, M19 = z_wr (z_mk M18 11 9 9) 75 33 (some 94) := ⟨_, rfl⟩
  rw [← e19]
  have h19 : P9 M19 [(76, 10, 700, 1), (77, 11, 138, 10), (78, 11, 138, 11), (79, 11, 700, 12), (80, 11, 700, 13), (81, 11, 700, 15), (82, 11, 700, 18), (83, 11, 3277, 19), (84, 11, 32770, 20), (85, 11, 6554, 22), (86, 12, 2, 23), (87, 11, 3277, 24), (88, 11, 8, 25), (89, 11, 8, 26), (90, 11, 9, 29), (91, 11, 9, 30), (92, 11, 9, 31), (93, 11, 9, 32), (94, 11, 9, 33)] := by rw [e19]; exact P9_step h18 u18 (by decide)
  have u19 : z_nx M19 = 95 := by rw [e19]; show z_nx M18 + 1 = 95; rw [u18]
  have v19 : z_sl M19 = z_sl N + 49751 := by rw [e19]; show z_sl M18 + 9 = _; exact (congrArg (fun z => z + 9) v18).trans (Nat.add_assoc (z_sl N) 49742 9)
  have w19 : ext N M19 := by rw [e19]; exact ext_wr (ext_tr w18 (ext_mk _ _ _)) hle75
  have h9 : L9 M19 := ⟨by rw [u19]; decide, h19.1, fun p hp => ⟨(h19.2.2 p hp).2.2.1, (h19.2.2 p hp).2.2.2.1, (h19.2.2 p hp).2.2.2.2⟩⟩
  have z19 : z_i M19 75 2 = 0 := by
    have x0 : ∀ {A B : zM} {k l f u : Nat}, B = z_wr (z_mk A k l l) 75 f (some u) → 75 < z_nx A → z_i B 75 2 = z_i A 75 2 := fun e hA => by
      rw [e]
      show z_up1 (z_i _) (z_nx _) (fun _ => 0) 75 2 = _
      rw [u1_n _ _ (by omega)]
    rw [x0 e19 (by rw [u18]; decide), x0 e18 (by rw [u17]; decide), x0 e17 (by rw [u16]; decide), x0 e16 (by rw [u15]; decide), x0 e15 (by rw [u14]; decide), x0 e14 (by rw [u13]; decide), x0 e13 (by rw [u12]; decide), x0 e12 (by rw [u11]; decide), x0 e11 (by rw [u10]; decide), x0 e10 (by rw [u9]; decide), x0 e9 (by rw [u8]; decide), x0 e8 (by rw [u7]; decide), x0 e7 (by rw [u6]; decide), x0 e6 (by rw [u5]; decide), x0 e5 (by rw [u4]; decide), x0 e4 (by rw [u3]; decide), x0 e3 (by rw [u2]; decide), x0 e2 (by rw [u1]; decide), x0 e1 (by rw [u0]; decide)]
    exact z0 2
  obtain ⟨F1, k1, d1, d2, d3, d4, d5⟩ := m_defaults (F := z_i M19) h9
  obtain ⟨F2, k2, t1, t2, t3, t4, t5, t6, t7, t8⟩ := m_take (F := F1) (nc := 1) (ns := 0) (nt := 0) h9 (d1 8 (by omega)) (by omega) (d1 0 (by omega)) (by omega) (d1 1 (by omega)) (by omega)
  refine ⟨M19, F2, ?_, u19, v19, w19, h9, fun y hy => ?_, fun j hj => ?_, ?_, fun j hj => ?_, t4, t5, t6, ?_⟩
  · show (z_bd (z_cv 9 75 _) _).1 (KI M19 (z_i M19)) = _
    rw [kn_cv h9]
    refine (e_run k1).trans ?_
    rw [kn_cv h9]
    exact e_run k2
  · rw [t8 y (by omega) (by omega) (by omega) (by omega) (by omega), d5 y (by omega) (by omega) (by omega)]
    exact (w19.2 y (by omega)).2.2.2.1
  · rw [t1, pk_cpy_in (by omega) (by omega), show 0 + (j - 0) = j by omega]
    exact d1 j hj
  · rw [t2, pk_cpy_in (by omega) (by omega)]
    exact d4
  · rw [t3 j hj]
    unfold s_b0
    rw [if_neg (by omega), if_neg (by omega)]
  · rw [t7 2 (by omega), d3 2 (by omega)]
    exact z19
/-- a new object of each, and the law's row -/
theorem init0 : ∃ M3, (∀ f : Nat → Nat → Nat → zP β, (z_bd (z_nw 8 11) (fun v1 => (z_bd (p_X8_init v1) (fun _ => (z_bd (z_nw 9 34) (fun v2 => (z_bd (p_X9_init v2) (fun _ => (z_bd (z_na 15 1) (fun v3 => f v1 v2 v3)))))))))).1 z_M0 = (f 0 75 95).1 M3) ∧ INV 0 M3 ∧ z_nx M3 = 96 ∧ z_sl M3 ≤ 100000 := by
  obtain ⟨M1, p1, n1, s1, x1, L41, L58, C15, C28, ⟨r0, r1, r2, r3, r4, r5, r6, r7, r9, r10⟩, hA⟩ := c_init0
  obtain ⟨M2, F2, p2, n2, s2, x2, h9, f0, f78, f80, f83, f21, f860, f861, f2⟩ := m_init0 (N := M1) n1
  obtain ⟨M3, e3⟩ : ∃ M3, M3 = z_mk (KI M2 F2) 15 1 1 := ⟨_, rfl⟩
  have x3 : ext (KI M2 F2) M3 := by rw [e3]; exact ext_mk _ _ _
  have n3 : z_nx M3 = 96 := by rw [e3]; show z_nx M2 + 1 = 96; omega
  have i3 : ∀ y, y < 95 → z_i M3 y = F2 y := fun y hy => (x3.2 y (by show y < z_nx M2; omega)).2.2.2.1
  have x12 : ext0 M1 M3 := ⟨by omega, fun y hy => by
    obtain ⟨a1, a2, a3, a4, a5⟩ := x2.2 y hy
    obtain ⟨b1, b2, b3, b4, b5⟩ := x3.2 y (by show y < z_nx M2; omega)
    exact ⟨b1.trans a1, b2.trans a2, fun _ k => (b3 k).trans (a3 k), (i3 y (by omega)).trans (f0 y (by omega))⟩⟩
  have rM : ∀ k, z_r M3 0 k = z_r M1 0 k := fun k => ((x3.2 0 (by show 0 < z_nx M2; omega)).2.2.1 k).trans ((x2.2 0 (by omega)).2.2.1 k)
  have xB : ext0 mB M3 := ext0_tr x1 x12
  have nB := mB_n.1
  have h93 : L9 M3 := L9_ext (M := KI M2 F2) h9 x3
  have z3 : ∀ y, y < 15 → ∀ j, z_i M3 y j = 0 := fun y hy j => by rw [(xB.2 y (by omega)).2.2.2]; exact mB_z y j
  have rn : ∀ i, sref M3 i = none := fun i => by
    unfold sref
    split
    · rw [(xB.2 5 (by omega)).2.2.1 (by omega) i]; exact mB_none.1 i
    · rw [(xB.2 13 (by omega)).2.2.1 (by omega) _]; exact mB_none.2 _
  have kd : ∀ y, y < 15 → z_kd M3 y = z_kd mB y := fun y hy => (xB.2 y (by omega)).1
  have ln : ∀ y, y < 15 → z_ln M3 y = z_ln mB y := fun y hy => (xB.2 y (by omega)).2.1
  have rr : ∀ y, y < 15 → y ≠ 0 → ∀ k, z_r M3 y k = z_r mB y k := fun y hy h0 k => (xB.2 y (by omega)).2.2.1 h0 k
  have h0 : L0 M3 := by
    obtain ⟨o1, o2, o3, o4⟩ := mB_to
    obtain ⟨q1, q2, q3, q4, q5, q6, q7, q8, q9, q10, q11⟩ := mB_ta
    obtain ⟨y1, y2, y3, y4, y5, y6, y7, y8⟩ := mB_tr
    refine ⟨by omega, fun p hp => ?_, fun p hp => ?_, fun p hp => ?_⟩
    · simp only [to0, List.mem_cons, List.not_mem_nil, or_false] at hp
      rcases hp with rfl | rfl | rfl | rfl
      · exact (kd 0 (by omega)).trans o1
      · exact (kd 2 (by omega)).trans o2
      · exact (kd 4 (by omega)).trans o3
      · exact (kd 6 (by omega)).trans o4
    · simp only [ta0, List.mem_cons, List.not_mem_nil, or_false] at hp
      rcases hp with rfl | rfl | rfl | rfl | rfl | rfl | rfl | rfl | rfl | rfl | rfl | rfl
      · exact ⟨(kd 1 (by omega)).trans q1.1, (ln 1 (by omega)).trans q1.2⟩
      · exact ⟨(kd 3 (by omega)).trans q2.1, (ln 3 (by omega)).trans q2.2⟩
      · exact ⟨(kd 5 (by omega)).trans q3.1, (ln 5 (by omega)).trans q3.2⟩
      · exact ⟨(kd 7 (by omega)).trans q4.1, (ln 7 (by omega)).trans q4.2⟩
      · exact ⟨(kd 8 (by omega)).trans q5.1, (ln 8 (by omega)).trans q5.2⟩
      · exact ⟨(kd 9 (by omega)).trans q6.1, (ln 9 (by omega)).trans q6.2⟩
      · exact ⟨(kd 10 (by omega)).trans q7.1, (ln 10 (by omega)).trans q7.2⟩
      · exact ⟨(kd 11 (by omega)).trans q8.1, (ln 11 (by omega)).trans q8.2⟩
      · exact ⟨(kd 12 (by omega)).trans q9.1, (ln 12 (by omega)).trans q9.2⟩
      · exact ⟨(kd 13 (by omega)).trans q10.1, (ln 13 (by omega)).trans q10.2⟩
      · exact ⟨(kd 14 (by omega)).trans q11.1, (ln 14 (by omega)).trans q11.2⟩
      · rw [e3]
        exact ⟨kd_mks n2.symm, ln_mks n2.symm⟩
    · simp only [tr0, List.mem_cons, List.not_mem_nil, or_false] at hp
      rcases hp with rfl | rfl | rfl | rfl | rfl | rfl | rfl | rfl | rfl | rfl | rfl | rfl | rfl | rfl | rfl | rfl
      · exact (rM 0).trans r0
      · exact (rM 1).trans r1
      · exact (rM 2).trans r2
      · exact (rM 3).trans r3
      · exact (rM 4).trans r4
      · exact (rM 5).trans r5
      · exact (rM 6).trans r6
      · exact (rM 7).trans r7
      · exact (rr 2 (by omega) (by omega) 0).trans y1
      · exact (rr 4 (by omega) (by omega) 0).trans y2
      · exact (rr 6 (by omega) (by omega) 0).trans y3
      · exact (rr 6 (by omega) (by omega) 1).trans y4
      · exact (rr 6 (by omega) (by omega) 2).trans y5
      · exact (rr 6 (by omega) (by omega) 3).trans y6
      · exact (rr 6 (by omega) (by omega) 4).trans y7
      · exact (rr 6 (by omega) (by omega) 5).trans y8
  have hCI : CI 0 M3 15 28 (z_i M3 78) (z_i M3 80) 0 0 0 1 (z_i M3 83) [] (fun _ => none) 0 (fun _ => 0) := by
    have c78 : ∀ j, j < 138 → z_i M3 78 j = s_df j := fun j hj => by rw [i3 _ (by omega)]; exact f78 j hj
    have c80 : z_i M3 80 0 = 100 := by rw [i3 _ (by omega)]; exact f80
    have hA1 := hA _ _ c78 c80
    refine ⟨⟨h0, ⟨LZ_e0 L41 x12 (by omega), LZ_e0 L58 x12 (by omega), LC_e0 C15 x12 (by omega), LC_e0 C28 x12 (by omega)⟩, Or.inl ⟨rfl, rfl⟩, ⟨(rM 9).trans r9, (rM 10).trans r10⟩, ⟨fun i x hi hx => absurd ((rn i).symm.trans hx) (Option.some_ne_none _).symm, fun i j x x' hi hj hij hx hx' => absurd ((rn i).symm.trans hx) (Option.some_ne_none _).symm⟩⟩, ⟨0, by omega, ?_⟩, ⟨0, by omega, Nat.zero_le _, z3 4 (by omega) 1, z3 4 (by omega) 2, fun i s hi => by cases hi⟩, fun i hi => ⟨fun _ => z3 14 (by omega) i, fun s e => by cases e⟩, z3 0 (by omega) 8, by omega, fun i hi => absurd hi (Nat.not_lt_zero _)⟩
    refine AV_st (AV_MF hA1 (LZ_e0 L41 x12 (by omega)) ((x12.2 41 (by omega)).2.2.1 (by omega) 6) (LC_e0 C15 x12 (by omega)) (fun y y1 y2 => (x12.2 y (by omega)).2.2.2) (fun y y1 y2 => (x12.2 y (by omega)).2.2.2)) (fun j hj => ?_)
    rw [i3 _ (by omega), f83 j hj]
    unfold s_b0
    rw [if_neg (by omega), if_neg (by omega)]
  refine ⟨M3, fun f => ?_, ⟨15, 28, z_i M3 78, z_i M3 80, 0, 0, 0, 1, z_i M3 83, [], fun _ => none, 0, fun _ => 0, hCI, h93, ⟨rfl, rfl, rfl⟩, ⟨?_, fun i s hi => by cases hi⟩, fun i hi => ⟨fun _ => ?_, fun s e => by cases e⟩, ?_, fun i hi => absurd hi (Nat.not_lt_zero _)⟩, n3, ?_⟩
  · rw [n_nw]
    show (z_bd (p_X8_init 0) _).1 (z_mk z_M0 8 0 11) = _
    refine (e_run p1).trans ?_
    rw [n_nw, n1]
    refine (e_run p2).trans ?_
    rw [e_na (n := 1) (by decide)]
    show (f 0 75 (z_nx M2)).1 (z_mk (KI M2 F2) 15 1 1) = _
    rw [n2, ← e3]
  · rw [i3 _ (by omega)]; exact f21
  · rw [i3 _ (by omega)]
    obtain e | e : i = 0 ∨ i = 1 := by omega
    · rw [e]; exact f860
    · rw [e]; exact f861
  · rw [i3 _ (by omega)]; exact f2
  · rw [e3]; show z_sl M2 + 1 ≤ 100000; omega
theorem le_20 {u v j : Nat} (h : u ≤ v + 20) (g : v ≤ 96 + 20 * j) : u ≤ 96 + 20 * (j + 1) := by omega
theorem le_1000 {u v j : Nat} (h : u ≤ v + 1000) (g : v ≤ 100000 + 1000 * j) : u ≤ 100000 + 1000 * (j + 1) := by
  rw [Nat.mul_succ, ← Nat.add_assoc]
  exact Nat.le_trans h (Nat.add_le_add_right g 1000)
theorem law_loop (hL : L ≤ 3072) (H1 : ∀ k M i, INV k M → i + 6 ≤ L → k ≤ 511 → STEP (p_L_c1 xs L 0 75 95 (nI i)) k M i) (H20 : ∀ k M i, INV k M → i + 6 ≤ L → k ≤ 511 → STEP (p_L_c20 xs L 0 75 95 (nI i)) k M i) (H21 : ∀ k M i, INV k M → i + 6 ≤ L → k ≤ 511 → STEP (p_L_c21 xs L 0 75 95 (nI i)) k M i) : ∀ m j M, j + m = 512 → INV j M → z_nx M ≤ 96 + 20 * j → z_sl M ≤ 100000 + 1000 * j → ∃ MF, (z_lp (fun (t : Int32) => p_L_body xs L 0 75 95 t) (nI (6 * j))).1 M = some (.inr 1, MF) ∧ z_nx MF ≤ 96 + 20 * 512 ∧ z_sl MF ≤ 100000 + 1000 * 512 := by
  intro m
  induction m with
  | zero =>
    intro j M hj hN n1 n2
    refine ⟨M, z_lp_end ?_, by omega, by omega⟩
    unfold p_L_body
    rw [if_pos]
    · rfl
    · rw [i_lt, nI_toInt (by omega), show nI L - 6 = nI L - nI 6 from rfl, pk_sub_toInt (by omega) (by omega)]
      omega
  | succ m ih =>
    intro j M hj hN n1 n2
    by_cases hex : L < 6 * j + 6
    · refine ⟨M, z_lp_end ?_, by omega, by omega⟩
      unfold p_L_body
      rw [if_pos]
      · rfl
      · rw [i_lt, nI_toInt (by omega), show nI L - 6 = nI L - nI 6 from rfl, pk_sub_toInt (by omega) (by omega)]
        omega
    have hstep : STEP (p_L_body xs L 0 75 95 (nI (6 * j))) j M (6 * j) := by
      unfold p_L_body
      rw [if_neg (by
        rw [i_lt, nI_toInt (by omega), show nI L - 6 = nI L - nI 6 from rfl, pk_sub_toInt (by omega) (by omega)]
        omega), z_xs_ok (xs := xs) (show 6 * j < L by omega) hL, b_pu]
      obtain ⟨c, sp, ct, cd, ns, nt, np, nc, st, H, S, n, bf, hI, hm⟩ := id hN
      by_cases e0 : (xs (6 * j) &&& 63) = 0
      · rw [if_pos e0]
        exact L_c0 hI hm (by omega) hL
      rw [if_neg e0]
      by_cases e1 : (xs (6 * j) &&& 63) = 1
      · rw [if_pos e1]
        exact H1 j M (6 * j) hN (by omega) (by omega)
      rw [if_neg e1]
      by_cases e2 : (xs (6 * j) &&& 63) = 2
      · rw [if_pos e2]
        exact L_c2 hI hm (by omega) hL
      rw [if_neg e2]
      by_cases e3 : (xs (6 * j) &&& 63) = 3
      · rw [if_pos e3]
        exact L_c3 hI hm (by omega) hL
      rw [if_neg e3]
      by_cases e4 : (xs (6 * j) &&& 63) = 4
      · rw [if_pos e4]
        exact L_c4 hI hm (by omega) hL
      rw [if_neg e4]
      by_cases e5 : (xs (6 * j) &&& 63) = 5
      · rw [if_pos e5]
        exact L_c5 hI hm (by omega) hL
      rw [if_neg e5]
      by_cases e6 : (xs (6 * j) &&& 63) = 6
      · rw [if_pos e6]
        exact L_c6 hI hm (by omega) hL
      rw [if_neg e6]
      by_cases e7 : (xs (6 * j) &&& 63) = 7
      · rw [if_pos e7]
        exact L_c7 hI hm (by omega) hL
      rw [if_neg e7]
      by_cases e8 : (xs (6 * j) &&& 63) = 8
      · rw [if_pos e8]
        exact L_c8 hI hm (by omega) hL
      rw [if_neg e8]
      by_cases e9 : (xs (6 * j) &&& 63) = 9
      · rw [if_pos e9]
        exact L_c9 hI hm (by omega) hL
      rw [if_neg e9]
      by_cases e10 : (xs (6 * j) &&& 63) = 10
      · rw [if_pos e10]
        exact L_c10 hI hm (by omega) hL
      rw [if_neg e10]
      by_cases e11 : (xs (6 * j) &&& 63) = 11
      · rw [if_pos e11]
        exact L_c11 hI hm (by omega) hL
      rw [if_neg e11]
      by_cases e12 : (xs (6 * j) &&& 63) = 12
      · rw [if_pos e12]
        exact L_c12 hI hm (by omega) hL
      rw [if_neg e12]
      by_cases e13 : (xs (6 * j) &&& 63) = 13
      · rw [if_pos e13]
        exact L_c13 hI hm (by omega) hL
      rw [if_neg e13]
      by_cases e14 : (xs (6 * j) &&& 63) = 14
      · rw [if_pos e14]
        exact L_c14 hI hm (by omega) hL
      rw [if_neg e14]
      by_cases e15 : (xs (6 * j) &&& 63) = 15
      · rw [if_pos e15]
        exact L_c15 hI hm (by omega) hL
      rw [if_neg e15]
      by_cases e16 : (xs (6 * j) &&& 63) = 16
      · rw [if_pos e16]
        exact L_c16 hI hm (by omega) hL
      rw [if_neg e16]
      by_cases e17 : (xs (6 * j) &&& 63) = 17
      · rw [if_pos e17]
        exact L_c17 hI hm (by omega) hL
      rw [if_neg e17]
      by_cases e18 : (xs (6 * j) &&& 63) = 18
      · rw [if_pos e18]
        exact L_c18 hI hm (by omega) hL
      rw [if_neg e18]
      by_cases e19 : (xs (6 * j) &&& 63) = 19
      · rw [if_pos e19]
        exact L_c19 hI hm (by omega) hL
      rw [if_neg e19]
      by_cases e20 : (xs (6 * j) &&& 63) = 20
      · rw [if_pos e20]
        exact H20 j M (6 * j) hN (by omega) (by omega)
      rw [if_neg e20]
      by_cases e21 : (xs (6 * j) &&& 63) = 21
      · rw [if_pos e21]
        exact H21 j M (6 * j) hN (by omega) (by omega)
      rw [if_neg e21]
      by_cases e22 : (xs (6 * j) &&& 63) = 22
      · rw [if_pos e22]
        exact L_c22 hI hm (by omega) hL
      rw [if_neg e22]
      by_cases e23 : (xs (6 * j) &&& 63) = 23
      · rw [if_pos e23]
        exact L_c23 hI hm (by omega) hL (by omega)
      rw [if_neg e23]
      by_cases e24 : (xs (6 * j) &&& 63) = 24
      · rw [if_pos e24]
        exact L_c24 hI hm (by omega) hL (by omega)
      rw [if_neg e24]
      by_cases e25 : (xs (6 * j) &&& 63) = 25
      · rw [if_pos e25]
        exact L_c25 hI hm (by omega) hL (by omega)
      rw [if_neg e25]
      by_cases e26 : (xs (6 * j) &&& 63) = 26
      · rw [if_pos e26]
        exact L_c26 hI hm (by omega) hL (by omega)
      rw [if_neg e26]
      by_cases e27 : (xs (6 * j) &&& 63) = 27
      · rw [if_pos e27]
        exact L_c27 hI hm (by omega) hL (by omega)
      rw [if_neg e27]
      by_cases e28 : (xs (6 * j) &&& 63) = 28
      · rw [if_pos e28]
        exact L_c28 hI hm (by omega) hL
      rw [if_neg e28]
      by_cases e29 : (xs (6 * j) &&& 63) = 29
      · rw [if_pos e29]
        exact L_c29 hI hm (by omega) hL
      rw [if_neg e29]
      by_cases e30 : (xs (6 * j) &&& 63) = 30
      · rw [if_pos e30]
        exact L_c30 hI hm (by omega) hL
      rw [if_neg e30]
      by_cases e31 : (xs (6 * j) &&& 63) = 31
      · rw [if_pos e31]
        exact L_c31 hI hm (by omega) hL
      rw [if_neg e31]
      by_cases e32 : (xs (6 * j) &&& 63) = 32
      · rw [if_pos e32]
        exact L_c32 hI hm (by omega) hL
      rw [if_neg e32]
      by_cases e33 : (xs (6 * j) &&& 63) = 33
      · rw [if_pos e33]
        exact L_c33 hI hm (by omega) hL
      rw [if_neg e33]
      by_cases e34 : (xs (6 * j) &&& 63) = 34
      · rw [if_pos e34]
        exact L_c34 hI hm (by omega) hL
      rw [if_neg e34]
      by_cases e35 : (xs (6 * j) &&& 63) = 35
      · rw [if_pos e35]
        exact L_c35 hI hm (by omega) hL
      rw [if_neg e35]
      exact ⟨M, rfl, ⟨c, sp, ct, cd, ns, nt, np, nc, st, H, S, n, bf, CI_kk hI (by omega), hm⟩, by omega, by omega⟩
    obtain ⟨M', e1, e2, e3, e4⟩ := hstep
    obtain ⟨MF, g1, g2, g3⟩ := ih (j + 1) M' (by omega) e2 (le_20 e3 n1) (le_1000 e4 n2)
    refine ⟨MF, (z_lp_step e1).trans ?_, g2, g3⟩
    rw [show nI (6 * j) + 6 = nI (6 * (j + 1)) by rw [show nI (6 * j) + 6 = nI (6 * j + 6) from oL_addr 6 _]; congr 1]
    exact g1
theorem whole_of (hL : L ≤ 3072) (H1 : ∀ k M i, INV k M → i + 6 ≤ L → k ≤ 511 → STEP (p_L_c1 xs L 0 75 95 (nI i)) k M i) (H20 : ∀ k M i, INV k M → i + 6 ≤ L → k ≤ 511 → STEP (p_L_c20 xs L 0 75 95 (nI i)) k M i) (H21 : ∀ k M i, INV k M → i + 6 ≤ L → k ≤ 511 → STEP (p_L_c21 xs L 0 75 95 (nI i)) k M i) : ∃ MF : zM, (p_L_law xs L).1 z_M0 = some (.inr 1, MF) ∧ z_nx MF ≤ 601024 ∧ z_sl MF ≤ 7293034 := by
  obtain ⟨M3, hp, hI, n3, s3⟩ := init0 (β := Int32)
  obtain ⟨MF, g1, g2, g3⟩ := law_loop hL H1 H20 H21 512 0 M3 (by omega) hI (by omega) (by omega)
  refine ⟨MF, ?_, by omega, by omega⟩
  unfold p_L_law
  refine (hp (fun v1 v2 v3 => z_lp (fun (t : Int32) => p_L_body xs L v1 v2 v3 t) 0)).trans ?_
  exact g1
end PA30
