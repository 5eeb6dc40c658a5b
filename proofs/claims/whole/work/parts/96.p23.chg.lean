/-! ===== PHASE 2: changes ===== -/
section PA23
variable {β : Type} {M : zM} {F : Nat → Nat → Int32} {ct cd st bf : Nat → Int32} {i j k q c sp n ns nt np nc L : Nat} {H : List (Nat → Int32)} {S : Nat → Option (Nat → Int32)} {v w x y code : Int32} {xs : Nat → Int32} {f : Unit → zP β}
variable {M1 : zM} {G : Nat → Nat → Int32} {st' : Nat → Int32} {a d kk T : Nat} {R : List zRd} {l : List Nat}
theorem RS_re {F' : Nat → Nat → Int32} (hS : RS M F a c ct cd st ns nt np nc d R l) (E : EN M F' a c ct cd st' ns nt np nc) (hT : ∀ t, t < nt → ∃ q, RK F' (a + 8 + 3 * t) ct st' ns t q) (h0 : ∀ k, 8 ≤ k → k ≤ 12 → F' a k = F a k) (hF : ∀ y, (y = a + 3 ∨ y = a + 4 ∨ y = a + 6 ∨ y = a + 6 + 1) → F' y = F y) (hs : ∀ j, (1 ≤ j ∧ j ≤ 5) ∨ 76 ≤ j → st' j = st j) : RS M F' a c ct cd st' ns nt np nc d R l := by
  obtain ⟨E0, hX, hP, hTr, ⟨hr1, hr2, hr3, hr4⟩, hrr, ⟨hl1, hl2, hl3⟩, hrn, hok⟩ := hS
  refine ⟨E, ⟨?_, ?_, ?_, ?_, ?_⟩, fun p hp => ?_, hT, ⟨?_, ?_, ?_, hr4⟩, fun k x hx => ?_, ⟨?_, hl2, hl3⟩, hrn, hok⟩
  · rw [h0 8 (by omega) (by omega), hs _ (by omega)]; exact hX.1
  · rw [h0 9 (by omega) (by omega), hs _ (by omega)]; exact hX.2.1
  · rw [h0 10 (by omega) (by omega), hs _ (by omega)]; exact hX.2.2.1
  · rw [h0 11 (by omega) (by omega), hs _ (by omega)]; exact hX.2.2.2.1
  · rw [h0 12 (by omega) (by omega), hs _ (by omega)]; exact hX.2.2.2.2
  · rw [hF _ (by omega), hF _ (by omega), hs _ (by omega), hs _ (by omega)]; exact hP p hp
  · rw [hF _ (by omega)]; exact hr1
  · rw [hs _ (by omega)]; exact hr2
  · rw [hs _ (by omega)]; exact hr3
  · rw [hs _ (by omega), hs _ (by omega), hs _ (by omega)]; exact hrr k x hx
  · rw [hF _ (by omega)]; exact hl1
/-- stations' rows alone are new -/
theorem AV_stn {F' : Nat → Nat → Int32} (h : AV M F a c ct cd st ns nt np nc kk T) (hF : ∀ y, (y ≠ a + 1 ∧ y ≠ a + 2) → F' y = F y) (hs : ∀ j, ¬ (6 ≤ j ∧ j < 22) → st' j = st j) (hb : ∀ q, q < ns → F' (a + 1) q = st' (6 + q) ∧ F' (a + 2) q = st' (14 + q)) (hn2 : b_ok ct st' ns) : AV M F' a c ct cd st' ns nt np nc kk T := by
  have hc := (AV_c h).1
  obtain ⟨d, R, l, hS, hn, h0, hg, hd⟩ := h
  have E := hS.1
  have hdis := E.1.2.2.2
  have hnt := hc.1.2.2.2.1
  have E2 : EN M F' a c ct cd st' ns nt np nc := EN_gen E hb (by rw [hF _ (by omega), hs _ (by omega)]; exact E.2.2.2) (fun y y1 y2 => hF y (by omega))
  refine ⟨d, R, l, RS_re hS E2 (fun t ht => ?_) (fun k _ _ => by rw [hF _ (by omega)]) (fun y hy => hF y (by omega)) (fun j hj => hs j (by omega)), ⟨⟨hn2, fun t ht => ?_, fun t ht q hq h5 => ?_⟩, p_ok_fr hn.2 (fun j _ _ => hs j (by omega))⟩, (hs 0 (by omega)).trans h0, hg, hd⟩
  · obtain ⟨q, hq⟩ := hS.2.2.2.1 t ht
    exact ⟨q, RK_fr hq (hF _ (by omega)) (hF _ (by omega)) (hF _ (by omega)) (fun i hi => hs _ (by omega))⟩
  · obtain ⟨u, v, h1, h2⟩ := hn.1.2.1 t ht
    exact ⟨u, v, (hs _ (by omega)).trans h1, h2⟩
  · have h5' : s_tr st t 5 = nI q := (hs _ (by omega)).symm.trans h5
    obtain ⟨⟨x, hx, ex⟩, ho⟩ := hn.1.2.2 t ht q hq h5'
    refine ⟨⟨x, hx, (hs _ (by omega)).trans ex⟩, fun i hi => ?_⟩
    obtain ⟨y, hy, ey⟩ := ho i hi
    exact ⟨y, hy, (hs _ (by omega)).trans ey⟩
theorem CI_now (h : CI k M c sp ct cd ns nt np nc st H S n bf) (hA : AV M G 41 c ct cd st' ns nt np nc kk T) (hT : T ≤ 9999) (hk : k ≤ kk) (hf : fr5 41 c (z_i M) G) : CI kk (KI M G) c sp ct cd ns nt np nc st' H S n bf := by
  obtain ⟨⟨h0, hz, hc, hr, hs⟩, _, ⟨fs, f1, f2, f3, f4, f5⟩, hS, b1, b2, b3⟩ := h
  refine ⟨⟨h0, hz, hc, hr, hs⟩, ⟨T, hT, hA⟩, ⟨fs, f1, f2, ?_, ?_, fun i s hi => ?_⟩, fun i hi => ⟨fun e => ?_, fun s e => ?_⟩, ?_, b2, fun i hi => ?_⟩
  · show G 4 1 = _
    rw [hf 4 (by omega) (by omega)]; exact f3
  · show G 4 2 = _
    rw [hf 4 (by omega) (by omega)]; exact f4
  · obtain ⟨x, T2, x1, x2, x3⟩ := f5 i s hi
    have hm : (fs + i) % 10 < 10 := Nat.mod_lt _ (by decide)
    have h1 := (hs.1 ((fs + i) % 10) x (by omega) (by rw [sref_h hm]; exact x1)).1
    exact ⟨x, T2, x1, x2, AV_kk (AV_F x3 (fun y y1 y2 => hf y (by omega) (by omega)) (fun y y1 y2 => hf y (by omega) (by omega))) hk⟩
  · show G 14 i = 0
    rw [hf 14 (by omega) (by omega)]; exact (hS i hi).1 e
  · obtain ⟨e1, x, T2, x1, x2, x3⟩ := (hS i hi).2 s e
    have h1 := (hs.1 (10 + i) x (by omega) (by rw [sref_s]; exact x1)).1
    refine ⟨?_, x, T2, x1, x2, AV_kk (AV_F x3 (fun y y1 y2 => hf y (by omega) (by omega)) (fun y y1 y2 => hf y (by omega) (by omega))) hk⟩
    show G 14 i = 1
    rw [hf 14 (by omega) (by omega)]; exact e1
  · show G 0 8 = _
    rw [hf 0 (by omega) (by omega)]; exact b1
  · show G 1 i = _
    rw [hf 1 (by omega) (by omega)]; exact b3 i hi
theorem cres_chg {pc : zP Int32} (r1 : CI k M1 c sp ct cd ns nt np nc st (s_push H st) S n bf) (r2 : L9 M → L9 M1) (r3 : ∀ y, 75 ≤ y → y < 95 → z_i M1 y = z_i M y) (r4 : z_nx M1 ≤ z_nx M + 17) (r5 : z_sl M1 ≤ z_sl M + 990) (hp : pc.1 M = some (.inr v, KI M1 G)) (hA : AV M1 G 41 c ct cd st' ns nt np nc (k + 1) T) (hT : T ≤ 9999) (hf : fr5 41 c (z_i M1) G) : cres pc k M v c sp ct cd ns nt np nc st' (s_push H st) S n bf := by
  have hcc := r1.1.2.2.1
  exact ⟨KI M1 G, hp, CI_now r1 hA hT (by omega) hf, r2, fun y y1 y2 => (hf y (by omega) (by omega)).trans (r3 y y1 y2), by show z_nx M1 ≤ _; omega, by show z_sl M1 ≤ _; omega⟩
theorem mres_chg {pm : zP Int32} (h : MI M ct cd st H S n bf) (hl : H.length ≤ 10) (hp : ∀ F2, MI (KI M F2) ct cd st (s_push H st) S n bf → (p_X9_keep 75).1 (KI M (z_up2 (z_i M) 75 0 0)) = some (.inr (), KI M F2) → ∃ F3, pm.1 M = some (.inr v, KI M F3) ∧ (∀ y, y ≠ 82 → y ≠ 83 → F3 y = F2 y) ∧ F3 83 = st') : mres pm M v 0 ct cd st' (s_push H st) S n bf := by
  have h1 : MI (KI M (z_up2 (z_i M) 75 0 0)) ct cd st H S n bf := MI_F h (fun y hy => u2_row _ _ (by omega)) (u2_n _ _ (by omega)) (u2_n _ _ (by omega))
  obtain ⟨F2, k1, k2, k3, k4⟩ := m_keep h1 hl
  obtain ⟨F3, j1, j2, j3⟩ := hp F2 k2 k1
  refine ⟨F3, j1, ?_, fun y hy => ?_, ?_⟩
  · rw [j2 _ (by omega) (by omega), k3, u2_s]
  · rw [j2 _ (by omega) (by omega), k4 _ (by omega) (by omega), u2_row _ _ (by omega)]
  · have := MI_F2 (M := KI M F2) (F := F3) (st' := st') k2 (fun y hy => j2 y (by omega) (by omega)) (by show F3 75 2 = F2 75 2; rw [j2 _ (by omega) (by omega)]) (by show F3 75 21 = F2 75 21; rw [j2 _ (by omega) (by omega)]) j3
    exact this
end PA23
