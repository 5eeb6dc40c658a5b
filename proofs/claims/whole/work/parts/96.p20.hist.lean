/-! ===== PHASE 2: states kept aside ===== -/
/-- as CI, without the history's two numbers -/
def CJ (k : Nat) (M : zM) (c sp : Nat) (ct cd : Nat → Int32) (ns nt np nc : Nat) (st : Nat → Int32) (fs : Nat) (H : List (Nat → Int32)) (S : Nat → Option (Nat → Int32)) (n : Nat) (bf : Nat → Int32) : Prop :=
  (L0 M ∧ (LZ 41 M ∧ LZ 58 M ∧ LC 15 M ∧ LC 28 M) ∧ ((c = 15 ∧ sp = 28) ∨ (c = 28 ∧ sp = 15)) ∧ (z_r M 0 9 = some c ∧ z_r M 0 10 = some sp) ∧ HS M)
  ∧ (∃ T, T ≤ 9999 ∧ AV M (z_i M) 41 c ct cd st ns nt np nc k T)
  ∧ (fs < 10 ∧ H.length ≤ 10 ∧ ∀ i s, H[i]? = some s → ∃ h T, z_r M 5 ((fs + i) % 10) = some h ∧ T ≤ 9999 ∧ AV M (z_i M) h c ct cd s ns nt np nc k T)
  ∧ (∀ i, i < 2 → (S i = none → z_i M 14 i = 0) ∧ ∀ s, S i = some s → z_i M 14 i = 1 ∧ ∃ h T, z_r M 13 i = some h ∧ T ≤ 9999 ∧ AV M (z_i M) h c ct cd s ns nt np nc k T)
  ∧ (z_i M 0 8 = nI n ∧ n ≤ 700 ∧ ∀ i, i < n → z_i M 1 i = bf i)
/-- all as it was but the history's row of states and its numbers -/
def keep (M N : zM) : Prop := z_nx M ≤ z_nx N ∧ (∀ y, y < z_nx M → z_kd N y = z_kd M y ∧ z_ln N y = z_ln M y) ∧ (∀ y j, y < z_nx M → y ≠ 5 → y ≠ 13 → z_r N y j = z_r M y j) ∧ ∀ y, y < z_nx M → y ≠ 4 → y ≠ 14 → z_i N y = z_i M y
section PA20
variable {β : Type} {M : zM} {F : Nat → Nat → Int32} {ct cd st bf : Nat → Int32} {i j k q c sp n ns nt np nc L : Nat} {H : List (Nat → Int32)} {S : Nat → Option (Nat → Int32)} {v w x y code : Int32} {xs : Nat → Int32} {f : Unit → zP β}
variable {M' N : zM} {st' : Nat → Int32} {a b fs h : Nat} {kk T : Nat}
theorem CI_CJ (h : CI k M c sp ct cd ns nt np nc st H S n bf) : ∃ fs, CJ k M c sp ct cd ns nt np nc st fs H S n bf ∧ z_i M 4 1 = nI fs ∧ z_i M 4 2 = nI H.length := by
  obtain ⟨h1, h2, ⟨fs, f1, f2, f3, f4, f5⟩, h4⟩ := h
  exact ⟨fs, ⟨h1, h2, ⟨f1, f2, f5⟩, h4⟩, f3, f4⟩
theorem CJ_CI (h : CJ k M c sp ct cd ns nt np nc st fs H S n bf) (f3 : z_i M 4 1 = nI fs) (f4 : z_i M 4 2 = nI H.length) : CI k M c sp ct cd ns nt np nc st H S n bf := by
  obtain ⟨h1, h2, ⟨f1, f2, f5⟩, h4⟩ := h
  exact ⟨h1, h2, ⟨fs, f1, f2, f3, f4, f5⟩, h4⟩
theorem sref_h {i : Nat} (hi : i < 10) : sref M i = z_r M 5 i := if_pos hi
theorem sref_s {i : Nat} : sref M (10 + i) = z_r M 13 i := by
  unfold sref
  rw [if_neg (by omega)]
  congr 1
  omega
theorem LZ_keep (h : LZ a M) (g : keep M N) (ha : 41 ≤ a) : LZ a N := by
  have := LZ_lt h
  exact LZ_gen h g.1 (fun y h1 h2 => g.2.1 y (by omega)) (fun y j h1 h2 _ => g.2.2.1 y j (by omega) (by omega) (by omega))
theorem LC_keep (h : LC a M) (g : keep M N) (ha : 15 ≤ a) : LC a N := by
  have := LC_lt h
  exact LC_gen h g.1 (fun y h1 h2 => g.2.1 y (by omega)) (fun y j h1 h2 => g.2.2.1 y j (by omega) (by omega) (by omega))
theorem AV_keep (h : AV M (z_i M) a c ct cd st ns nt np nc kk T) (g : keep M N) (ha : 41 ≤ a) (hc : 15 ≤ c) : AV N (z_i N) a c ct cd st ns nt np nc kk T := by
  have E := AV_EN h
  have h1 := LZ_lt E.1.1
  have h2 := LC_lt E.1.2.2.1
  exact AV_MF h (LZ_keep E.1.1 g ha) (g.2.2.1 a 6 (by omega) (by omega) (by omega)) (LC_keep E.1.2.2.1 g hc) (fun y h3 h4 => g.2.2.2 y (by omega) (by omega) (by omega)) (fun y h3 h4 => g.2.2.2 y (by omega) (by omega) (by omega))
theorem L0_keep (h : L0 M) (g : keep M N) : L0 N := by
  have h96 := h.1
  have b1 : ∀ p ∈ to0, p.1 < 96 := by decide
  have b2 : ∀ p ∈ ta0, p.1 < 96 := by decide
  have b3 : ∀ p ∈ tr0, p.1 < 96 ∧ p.1 ≠ 5 ∧ p.1 ≠ 13 := by decide
  refine ⟨Nat.le_trans h.1 g.1, fun p hp => ?_, fun p hp => ?_, fun p hp => ?_⟩
  · have := b1 p hp
    exact (g.2.1 p.1 (by omega)).1.trans (h.2.1 p hp)
  · have := b2 p hp
    exact ⟨(g.2.1 p.1 (by omega)).1.trans (h.2.2.1 p hp).1, (g.2.1 p.1 (by omega)).2.trans (h.2.2.1 p hp).2⟩
  · have := b3 p hp
    exact (g.2.2.1 p.1 p.2.1 (by omega) this.2.1 this.2.2).trans (h.2.2.2 p hp)
theorem CJ_keep (h : CJ k M c sp ct cd ns nt np nc st fs H S n bf) (g : keep M N) (hs : HS N) (hr : ∀ i, i < H.length → z_r N 5 ((fs + i) % 10) = z_r M 5 ((fs + i) % 10)) (hq : ∀ i s, i < 2 → S i = some s → z_r N 13 i = z_r M 13 i) (h14 : z_i N 14 = z_i M 14) : CJ k N c sp ct cd ns nt np nc st fs H S n bf := by
  obtain ⟨⟨h0, ⟨z1, z2, z3, z4⟩, hc, ⟨r9, r10⟩, hs0⟩, ⟨T, hT, hA⟩, ⟨f1, f2, f5⟩, hS, b1, b2, b3⟩ := h
  have h96 := h0.1
  refine ⟨⟨L0_keep h0 g, ⟨LZ_keep z1 g (by omega), LZ_keep z2 g (by omega), LC_keep z3 g (by omega), LC_keep z4 g (by omega)⟩, hc, ⟨(g.2.2.1 0 9 (by omega) (by omega) (by omega)).trans r9, (g.2.2.1 0 10 (by omega) (by omega) (by omega)).trans r10⟩, hs⟩, ⟨T, hT, AV_keep hA g (by omega) (by omega)⟩, ⟨f1, f2, fun i s hi => ?_⟩, fun i hi => ⟨fun e => ?_, fun s e => ?_⟩, ?_, b2, fun i hi => ?_⟩
  · obtain ⟨x, T2, x1, x2, x3⟩ := f5 i s hi
    have hm : (fs + i) % 10 < 10 := Nat.mod_lt _ (by decide)
    have h1 := hs0.1 ((fs + i) % 10) x (by omega) (by rw [sref_h hm]; exact x1)
    exact ⟨x, T2, (hr i (List.getElem?_eq_some_iff.mp hi).1).trans x1, x2, AV_keep x3 g (by omega) (by omega)⟩
  · rw [h14]; exact (hS i hi).1 e
  · obtain ⟨e1, x, T2, x1, x2, x3⟩ := (hS i hi).2 s e
    have h1 := hs0.1 (10 + i) x (by omega) (by rw [sref_s]; exact x1)
    refine ⟨?_, x, T2, (hq i s hi e).trans x1, x2, AV_keep x3 g (by omega) (by omega)⟩
    rw [h14]; exact e1
  · rw [g.2.2.2 0 (by omega) (by omega) (by omega)]; exact b1
  · rw [g.2.2.2 1 (by omega) (by omega) (by omega)]; exact b3 i hi
/-- the oldest is given up -/
theorem CJ_tail {s : Nat → Int32} (h : CJ k M c sp ct cd ns nt np nc st fs (s :: H) S n bf) : CJ k M c sp ct cd ns nt np nc st ((fs + 1) % 10) H S n bf := by
  obtain ⟨h1, h2, ⟨f1, f2, f5⟩, h4⟩ := h
  rw [List.length_cons] at f2
  refine ⟨h1, h2, ⟨Nat.mod_lt _ (by decide), by omega, fun i s hi => ?_⟩, h4⟩
  obtain ⟨x, T2, x1, x2⟩ := f5 (i + 1) s hi
  exact ⟨x, T2, by rw [show ((fs + 1) % 10 + i) % 10 = (fs + (i + 1)) % 10 by omega]; exact x1, x2⟩
theorem CJ_nil (h : CJ k M c sp ct cd ns nt np nc st fs H S n bf) : CJ k M c sp ct cd ns nt np nc st fs [] S n bf := by
  obtain ⟨h1, h2, ⟨f1, f2, f5⟩, h4⟩ := h
  exact ⟨h1, h2, ⟨f1, Nat.zero_le _, fun i s hi => by cases hi⟩, h4⟩
/-- layouts and refs behind a copy into a state kept aside, or into the present one -/
theorem CJ_base {h' : Nat} {F' : Nat → Nat → Int32} (h : CJ k M c sp ct cd ns nt np nc st fs H S n bf) (hh : h' = 41 ∨ ∃ i, i < 12 ∧ sref M i = some h') : L0 (KI (z_wr M h' 6 (some c)) F') ∧ (LZ 41 (KI (z_wr M h' 6 (some c)) F') ∧ LZ 58 (KI (z_wr M h' 6 (some c)) F') ∧ LC 15 (KI (z_wr M h' 6 (some c)) F') ∧ LC 28 (KI (z_wr M h' 6 (some c)) F')) ∧ ((c = 15 ∧ sp = 28) ∨ (c = 28 ∧ sp = 15)) ∧ (z_r (KI (z_wr M h' 6 (some c)) F') 0 9 = some c ∧ z_r (KI (z_wr M h' 6 (some c)) F') 0 10 = some sp) ∧ HS (KI (z_wr M h' 6 (some c)) F') := by
  obtain ⟨⟨h0, ⟨z1, z2, z3, z4⟩, hc, ⟨r9, r10⟩, hs0⟩, _⟩ := h
  have hge : 41 ≤ h' := by
    rcases hh with e | ⟨i, hi, e⟩
    · omega
    · have := (hs0.1 i h' hi e).1; omega
  have b3 : ∀ p ∈ tr0, p.1 < 41 := by decide
  have hsr : ∀ i, sref (KI (z_wr M h' 6 (some c)) F') i = sref M i := fun i => by
    unfold sref
    split
    · exact r_wr (Or.inl (by omega))
    · exact r_wr (Or.inl (by omega))
  refine ⟨⟨h0.1, h0.2.1, h0.2.2.1, fun p hp => ?_⟩, ⟨LZ_wr z1, LZ_wr z2, LC_wr z3 (by omega), LC_wr z4 (by omega)⟩, hc, ⟨(r_wr (Or.inl (by omega))).trans r9, (r_wr (Or.inl (by omega))).trans r10⟩, fun i x hi hx => ?_, fun i j x x' hi hj hij hx hx' => ?_⟩
  · have := b3 p hp
    exact (r_wr (Or.inl (by omega))).trans (h0.2.2.2 p hp)
  · rw [hsr] at hx
    exact ⟨(hs0.1 i x hi hx).1, LZ_wr (hs0.1 i x hi hx).2⟩
  · rw [hsr] at hx hx'
    exact hs0.2 i j x x' hi hj hij hx hx'
/-- another state stays as it is -/
theorem AV_oth {F' : Nat → Nat → Int32} (h : AV M (z_i M) b c ct cd st ns nt np nc kk T) (hd : b + 17 ≤ a ∨ a + 17 ≤ b) (hc : c + 13 ≤ a) (hF : ∀ y, ¬ (a ≤ y ∧ y < a + 17) → F' y = z_i M y) : AV (KI (z_wr M a 6 (some c)) F') F' b c ct cd st ns nt np nc kk T := by
  have E := AV_EN h
  exact AV_MF (M' := z_wr M a 6 (some c)) h (LZ_wr E.1.1) (r_wr (Or.inl (by omega))) (LC_wr E.1.2.2.1 (by omega)) (fun y h1 h2 => hF y (by omega)) (fun y h1 h2 => hF y (by omega))
/-- the present state is copied to the place behind the history's last -/
theorem CJ_push (g : CJ k M c sp ct cd ns nt np nc st fs H S n bf) (hl : H.length < 10) (hp : z_r M 5 ((fs + H.length) % 10) = some h) : ∃ F', (p_X5_copy h 41).1 M = some (.inr (), KI (z_wr M h 6 (some c)) F') ∧ CJ k (KI (z_wr M h 6 (some c)) F') c sp ct cd ns nt np nc st fs (H ++ [st]) S n bf ∧ ∀ y, ¬ (h ≤ y ∧ y < h + 17) → F' y = z_i M y := by
  have hm : (fs + H.length) % 10 < 10 := Nat.mod_lt _ (by decide)
  have hsp : sref M ((fs + H.length) % 10) = some h := by rw [sref_h hm]; exact hp
  have g0 := g
  obtain ⟨⟨h0, ⟨z1, z2, z3, z4⟩, hc, ⟨r9, r10⟩, hs0⟩, ⟨T, hT, hA⟩, ⟨f1, f2, f5⟩, hS, b1, b2, b3⟩ := g
  obtain ⟨hge, hLh⟩ := hs0.1 _ h (by omega) hsp
  obtain ⟨F', k1, A1, fr⟩ := kx_copy (a := h) hA hLh (by omega) (by omega)
  refine ⟨F', k1, ⟨CJ_base g0 (Or.inr ⟨_, by omega, hsp⟩), ⟨T, hT, AV_oth hA (by omega) (by omega) fr⟩, ⟨f1, by rw [List.length_append]; show H.length + 1 ≤ 10; omega, fun i s hi => ?_⟩, fun i hi => ⟨fun e => ?_, fun s e => ?_⟩, ?_, b2, fun i hi => ?_⟩, fr⟩
  · by_cases hlt : i < H.length
    · rw [List.getElem?_append_left hlt] at hi
      obtain ⟨x, T2, x1, x2, x3⟩ := f5 i s hi
      have hm2 : (fs + i) % 10 < 10 := Nat.mod_lt _ (by decide)
      have hsx : sref M ((fs + i) % 10) = some x := by rw [sref_h hm2]; exact x1
      have hdd := hs0.2 _ _ x h (by omega) (by omega) (show (fs + i) % 10 ≠ (fs + H.length) % 10 by omega) hsx hsp
      exact ⟨x, T2, (r_wr (Or.inl (by omega))).trans x1, x2, AV_oth x3 hdd (by omega) fr⟩
    · rw [List.getElem?_append_right (by omega)] at hi
      have hi2 : i = H.length := by
        have := (List.getElem?_eq_some_iff.mp hi).1
        rw [List.length_singleton] at this
        omega
      subst hi2
      rw [Nat.sub_self] at hi
      cases hi
      exact ⟨h, T, (r_wr (Or.inl (by omega))).trans hp, hT, A1⟩
  · show F' 14 i = 0
    rw [fr _ (by omega)]; exact (hS i hi).1 e
  · obtain ⟨e1, x, T2, x1, x2, x3⟩ := (hS i hi).2 s e
    have hsx : sref M (10 + i) = some x := by rw [sref_s]; exact x1
    have hdd := hs0.2 _ _ x h (by omega) (by omega) (show 10 + i ≠ (fs + H.length) % 10 by omega) hsx hsp
    refine ⟨?_, x, T2, (r_wr (Or.inl (by omega))).trans x1, x2, AV_oth x3 hdd (by omega) fr⟩
    show F' 14 i = 1
    rw [fr _ (by omega)]; exact e1
  · show F' 0 8 = nI n
    rw [fr _ (by omega)]; exact b1
  · show F' 1 i = bf i
    rw [fr _ (by omega)]; exact b3 i hi
/-- the present state is copied to a slot -/
theorem CJ_save {q : Nat} (g : CJ k M c sp ct cd ns nt np nc st fs H S n bf) (hq : q < 2) (hp : z_r M 13 q = some h) : ∃ F', (p_X5_copy h 41).1 M = some (.inr (), KI (z_wr M h 6 (some c)) F') ∧ CJ k (KI (z_wr M h 6 (some c)) (z_up2 F' 14 q 1)) c sp ct cd ns nt np nc st fs H (fun i => if i = q then some st else S i) n bf ∧ ∀ y, ¬ (h ≤ y ∧ y < h + 17) → F' y = z_i M y := by
  have hsp : sref M (10 + q) = some h := by rw [sref_s]; exact hp
  have g0 := g
  obtain ⟨⟨h0, ⟨z1, z2, z3, z4⟩, hc, ⟨r9, r10⟩, hs0⟩, ⟨T, hT, hA⟩, ⟨f1, f2, f5⟩, hS, b1, b2, b3⟩ := g
  obtain ⟨hge, hLh⟩ := hs0.1 _ h (by omega) hsp
  obtain ⟨F', k1, A1, fr⟩ := kx_copy (a := h) hA hLh (by omega) (by omega)
  have fr2 : ∀ y, ¬ (h ≤ y ∧ y < h + 17) → y ≠ 14 → z_up2 F' 14 q 1 y = z_i M y := fun y y1 y2 => by rw [u2_row _ _ y2, fr y y1]
  have up : ∀ {b T2 : Nat} {s : Nat → Int32}, 41 ≤ b → AV (KI (z_wr M h 6 (some c)) F') F' b c ct cd s ns nt np nc k T2 → AV (KI (z_wr M h 6 (some c)) (z_up2 F' 14 q 1)) (z_up2 F' 14 q 1) b c ct cd s ns nt np nc k T2 := fun hb h => AV_F h (fun y y1 y2 => u2_row _ _ (by omega)) (fun y y1 y2 => u2_row _ _ (by omega))
  refine ⟨F', k1, ⟨CJ_base g0 (Or.inr ⟨_, by omega, hsp⟩), ⟨T, hT, up (by omega) (AV_oth hA (by omega) (by omega) fr)⟩, ⟨f1, f2, fun i s hi => ?_⟩, fun i hi => ⟨fun e => ?_, fun s e => ?_⟩, ?_, b2, fun i hi => ?_⟩, fr⟩
  · obtain ⟨x, T2, x1, x2, x3⟩ := f5 i s hi
    have hm2 : (fs + i) % 10 < 10 := Nat.mod_lt _ (by decide)
    have hsx : sref M ((fs + i) % 10) = some x := by rw [sref_h hm2]; exact x1
    have hdd := hs0.2 _ _ x h (by omega) (by omega) (show (fs + i) % 10 ≠ 10 + q by omega) hsx hsp
    have hgx := (hs0.1 _ x (by omega) hsx).1
    exact ⟨x, T2, (r_wr (Or.inl (by omega))).trans x1, x2, up (by omega) (AV_oth x3 hdd (by omega) fr)⟩
  · show z_up2 F' 14 q 1 14 i = 0
    have e : (if i = q then some st else S i) = none := e
    by_cases hiq : i = q
    · rw [if_pos hiq] at e; cases e
    · rw [if_neg hiq] at e
      rw [u2_n _ _ (Or.inr hiq), fr _ (by omega)]; exact (hS i hi).1 e
  · have e : (if i = q then some st else S i) = some s := e
    by_cases hiq : i = q
    · rw [if_pos hiq] at e
      cases e
      subst hiq
      exact ⟨u2_s _ _ _ _, h, T, (r_wr (Or.inl (by omega))).trans hp, hT, up (by omega) A1⟩
    · rw [if_neg hiq] at e
      obtain ⟨e1, x, T2, x1, x2, x3⟩ := (hS i hi).2 s e
      have hsx : sref M (10 + i) = some x := by rw [sref_s]; exact x1
      have hdd := hs0.2 _ _ x h (by omega) (by omega) (show 10 + i ≠ 10 + q by omega) hsx hsp
      have hgx := (hs0.1 _ x (by omega) hsx).1
      refine ⟨?_, x, T2, (r_wr (Or.inl (by omega))).trans x1, x2, up (by omega) (AV_oth x3 hdd (by omega) fr)⟩
      show z_up2 F' 14 q 1 14 i = 1
      rw [u2_n _ _ (Or.inr hiq), fr _ (by omega)]; exact e1
  · show z_up2 F' 14 q 1 0 8 = nI n
    rw [fr2 _ (by omega) (by omega)]; exact b1
  · show z_up2 F' 14 q 1 1 i = bf i
    rw [fr2 _ (by omega) (by omega)]; exact b3 i hi
/-- a state kept aside is copied into the present one -/
theorem CJ_load {s : Nat → Int32} (g : CJ k M c sp ct cd ns nt np nc st fs H S n bf) (hp : ∃ i, i < 12 ∧ sref M i = some h) (hA1 : ∃ T, T ≤ 9999 ∧ AV M (z_i M) h c ct cd s ns nt np nc k T) : ∃ F', (p_X5_copy 41 h).1 M = some (.inr (), KI (z_wr M 41 6 (some c)) F') ∧ CJ k (KI (z_wr M 41 6 (some c)) F') c sp ct cd ns nt np nc s fs H S n bf ∧ ∀ y, ¬ (41 ≤ y ∧ y < 41 + 17) → F' y = z_i M y := by
  have g0 := g
  obtain ⟨⟨h0, ⟨z1, z2, z3, z4⟩, hc, ⟨r9, r10⟩, hs0⟩, ⟨T, hT, hA⟩, ⟨f1, f2, f5⟩, hS, b1, b2, b3⟩ := g
  obtain ⟨i0, hi0, hsp⟩ := hp
  obtain ⟨hge, hLh⟩ := hs0.1 _ h (by omega) hsp
  obtain ⟨T3, hT3, hA3⟩ := hA1
  obtain ⟨F', k1, A1, fr⟩ := kx_copy (a := 41) hA3 z1 (by omega) (by omega)
  refine ⟨F', k1, ⟨CJ_base g0 (Or.inl rfl), ⟨T3, hT3, A1⟩, ⟨f1, f2, fun i s hi => ?_⟩, fun i hi => ⟨fun e => ?_, fun s e => ?_⟩, ?_, b2, fun i hi => ?_⟩, fr⟩
  · obtain ⟨x, T2, x1, x2, x3⟩ := f5 i s hi
    have hm2 : (fs + i) % 10 < 10 := Nat.mod_lt _ (by decide)
    have hsx : sref M ((fs + i) % 10) = some x := by rw [sref_h hm2]; exact x1
    have hgx := (hs0.1 _ x (by omega) hsx).1
    exact ⟨x, T2, (r_wr (Or.inl (by omega))).trans x1, x2, AV_oth x3 (by omega) (by omega) fr⟩
  · show F' 14 i = 0
    rw [fr _ (by omega)]; exact (hS i hi).1 e
  · obtain ⟨e1, x, T2, x1, x2, x3⟩ := (hS i hi).2 s e
    have hsx : sref M (10 + i) = some x := by rw [sref_s]; exact x1
    have hgx := (hs0.1 _ x (by omega) hsx).1
    refine ⟨?_, x, T2, (r_wr (Or.inl (by omega))).trans x1, x2, AV_oth x3 (by omega) (by omega) fr⟩
    show F' 14 i = 1
    rw [fr _ (by omega)]; exact e1
  · show F' 0 8 = nI n
    rw [fr _ (by omega)]; exact b1
  · show F' 1 i = bf i
    rw [fr _ (by omega)]; exact b3 i hi
end PA20
