/-! ===== PHASE 2: a state's relation over other rows and cells ===== -/
/-- the state at a holds what the state at b holds -/
def SC (F' F : Nat → Nat → Int32) (a b r : Nat) : Prop := (∀ k, 7 ≤ k → k ≤ 12 → F' a k = F b k) ∧ (∀ i, i < 8 → F' (a + 1) i = F (b + 1) i ∧ F' (a + 2) i = F (b + 2) i) ∧ (∀ i, i < 64 → F' (a + 3) i = F (b + 3) i ∧ F' (a + 4) i = F (b + 4) i) ∧ F' (a + 6) 1 = F (b + 6) 1 ∧ (∀ i, i < r → F' (a + 6 + 1) i = F (b + 6 + 1) i) ∧ ∀ t, t < 3 → (∀ k, 2 ≤ k → k ≤ 7 → F' (a + 8 + 3 * t) k = F (b + 8 + 3 * t) k) ∧ ∀ i, i < 6 → F' (a + 8 + 3 * t + 1) i = F (b + 8 + 3 * t + 1) i ∧ F' (a + 8 + 3 * t + 2) i = F (b + 8 + 3 * t + 2) i
section PA4
variable {β : Type} {M M' : zM} {F F' : Nat → Nat → Int32} {ct cd st st' : Nat → Int32} {a b c d k ns nt np nc kk T r : Nat} {R : List zRd} {l : List Nat} {x : Int32} {v : Option Nat}
theorem RS_cp (hS : RS M F b c ct cd st ns nt np nc d R l) (hL : LZ a M') (hy : z_r M' a 6 = some c) (hC : LC c M') (hdis : a + 17 ≤ c ∨ c + 13 ≤ a) (hs : SC F' F a b R.length) (hF : ∀ y, c ≤ y → y < c + 12 → F' y = F y) : RS M' F' a c ct cd st ns nt np nc d R l := by
  obtain ⟨E, hX, hP, hTr, ⟨hr1, hr2, hr3, hr4⟩, hrr, ⟨hl1, hl2, hl3⟩, hrn, hok⟩ := hS
  have h8 := EN_ns E
  obtain ⟨⟨_, _, _, _⟩, ⟨rc, hcok⟩, rb, r0⟩ := E
  have hnt := hcok.1.2.2.2.1
  obtain ⟨s1, s2, s3, s4, s5, s6⟩ := hs
  have hll : l.length = R.length := by rw [hl2.length_eq, List.length_map]
  refine ⟨⟨⟨hL, hy, hC, hdis⟩, ⟨?_, hcok⟩, fun k hk => ?_, ?_⟩, ⟨?_, ?_, ?_, ?_, ?_⟩, fun p hp => ?_, fun t ht => ?_, ⟨?_, hr2, hr3, hr4⟩, hrr, ⟨fun i z hi => ?_, hl2, hl3⟩, hrn, hok⟩
  · unfold RC
    rw [hF c (by omega) (by omega), hF (c + 1) (by omega) (by omega), hF (c + 2) (by omega) (by omega), hF (c + 3) (by omega) (by omega), hF (c + 4) (by omega) (by omega), hF (c + 5) (by omega) (by omega), hF (c + 6) (by omega) (by omega), hF (c + 7) (by omega) (by omega), hF (c + 8) (by omega) (by omega), hF (c + 9) (by omega) (by omega), hF (c + 10) (by omega) (by omega), hF (c + 10 + 1) (by omega) (by omega)]
    exact rc
  · rw [(s2 k (by omega)).1, (s2 k (by omega)).2]; exact rb k hk
  · rw [s1 7 (by omega) (by omega)]; exact r0
  · rw [s1 8 (by omega) (by omega)]; exact hX.1
  · rw [s1 9 (by omega) (by omega)]; exact hX.2.1
  · rw [s1 10 (by omega) (by omega)]; exact hX.2.2.1
  · rw [s1 11 (by omega) (by omega)]; exact hX.2.2.2.1
  · rw [s1 12 (by omega) (by omega)]; exact hX.2.2.2.2
  · rw [(s3 p hp).1, (s3 p hp).2]; exact hP p hp
  · obtain ⟨q, k0, k2, k3, k4, k6, k5, k7, ko⟩ := hTr t ht
    have hq := k0.2.1
    obtain ⟨t1, t2⟩ := s6 t (by omega)
    refine ⟨q, k0, ?_, ?_, ?_, ?_, ?_, ?_, ?_⟩
    · rw [t1 2 (by omega) (by omega)]; exact k2
    · rw [t1 3 (by omega) (by omega)]; exact k3
    · rw [t1 4 (by omega) (by omega)]; exact k4
    · rw [t1 6 (by omega) (by omega)]; exact k6
    · rw [t1 5 (by omega) (by omega)]; exact k5
    · rw [t1 5 (by omega) (by omega), t1 7 (by omega) (by omega)]; exact k7
    · intro i hi
      rw [(t2 i (by omega)).1, (t2 i (by omega)).2]; exact ko i hi
  · rw [s4]; exact hr1
  · have hi2 : i < l.length := by
      obtain ⟨h, _⟩ := List.getElem?_eq_some_iff.mp hi
      exact h
    rw [s5 i (by omega)]; exact hl1 i z hi
theorem SC_rf (hF : ∀ y, a ≤ y → y < a + 17 → F' y = F y) : SC F' F a a r := by
  refine ⟨fun k _ _ => ?_, fun i _ => ⟨?_, ?_⟩, fun i _ => ⟨?_, ?_⟩, ?_, fun i _ => ?_, fun t ht => ⟨fun k _ _ => ?_, fun i _ => ⟨?_, ?_⟩⟩⟩ <;> rw [hF _ (by omega) (by omega)]
theorem RS_st (hS : RS M F a c ct cd st ns nt np nc d R l) (h : ∀ j, j < 3277 → st' j = st j) : RS M F a c ct cd st' ns nt np nc d R l := by
  have hlen := RS_len hS
  obtain ⟨E, hX, hP, hTr, ⟨hr1, hr2, hr3, hr4⟩, hrr, hl, hrn, hok⟩ := hS
  have h8 := EN_ns E
  obtain ⟨e1, ⟨rc, hcok⟩, rb, r0⟩ := E
  have hnt := hcok.1.2.2.2.1
  refine ⟨⟨e1, ⟨rc, hcok⟩, fun k hk => ?_, ?_⟩, ⟨?_, ?_, ?_, ?_, ?_⟩, fun p hp => ?_, fun t ht => ?_, ⟨hr1, ?_, ?_, hr4⟩, fun k x hx => ?_, hl, hrn, hok⟩
  · rw [h _ (by omega), h _ (by omega)]; exact rb k hk
  · rw [h _ (by omega)]; exact r0
  · rw [h _ (by omega)]; exact hX.1
  · rw [h _ (by omega)]; exact hX.2.1
  · rw [h _ (by omega)]; exact hX.2.2.1
  · rw [h _ (by omega)]; exact hX.2.2.2.1
  · rw [h _ (by omega)]; exact hX.2.2.2.2
  · rw [h _ (by omega), h _ (by omega)]; exact hP p hp
  · obtain ⟨q, hq⟩ := hTr t ht
    exact ⟨q, RK_fr hq rfl rfl rfl (fun i hi => h _ (by omega))⟩
  · rw [h _ (by omega)]; exact hr2
  · rw [h _ (by omega)]; exact hr3
  · have hk : k < R.length := by
      obtain ⟨hh, _⟩ := List.getElem?_eq_some_iff.mp hx
      exact hh
    rw [h _ (by omega), h _ (by omega), h _ (by omega)]; exact hrr k x hx
theorem AV_cp (h : AV M F b c ct cd st ns nt np nc kk T) (hL : LZ a M') (hy : z_r M' a 6 = some c) (hC : LC c M') (hdis : a + 17 ≤ c ∨ c + 13 ≤ a) (hs : ∀ r, st 204 = nI r → r ≤ 768 → SC F' F a b r) (hF : ∀ y, c ≤ y → y < c + 12 → F' y = F y) : AV M' F' a c ct cd st ns nt np nc kk T := by
  obtain ⟨d, R, l, hS, hn, h0, hg, hd⟩ := h
  have hlen := RS_len hS
  exact ⟨d, R, l, RS_cp hS hL hy hC hdis (hs _ hS.2.2.2.2.1.2.1 (by omega)) hF, hn, h0, hg, hd⟩
theorem AV_MF (h : AV M F a c ct cd st ns nt np nc kk T) (hL : LZ a M') (hy : z_r M' a 6 = z_r M a 6) (hC : LC c M') (hs : ∀ y, a ≤ y → y < a + 17 → F' y = F y) (hF : ∀ y, c ≤ y → y < c + 12 → F' y = F y) : AV M' F' a c ct cd st ns nt np nc kk T := by
  have E := AV_EN h
  exact AV_cp h hL (hy.trans E.1.2.1) hC E.1.2.2.2 (fun r _ _ => SC_rf hs) hF
theorem AV_F (h : AV M F a c ct cd st ns nt np nc kk T) (hs : ∀ y, a ≤ y → y < a + 17 → F' y = F y) (hF : ∀ y, c ≤ y → y < c + 12 → F' y = F y) : AV M F' a c ct cd st ns nt np nc kk T := by
  have E := AV_EN h
  exact AV_MF h E.1.1 rfl E.1.2.2.1 hs hF
theorem AV_st (h : AV M F a c ct cd st ns nt np nc kk T) (he : ∀ j, j < 3277 → st' j = st j) : AV M F a c ct cd st' ns nt np nc kk T := by
  have hc := (AV_c h).1
  obtain ⟨d, R, l, hS, hn, h0, hg, hd⟩ := h
  exact ⟨d, R, l, RS_st hS he, ⟨n_ok_co hn.1 hc.1.2.1 hc.1.2.2.2.1 (fun j hj => he j (by omega)), p_ok_fr hn.2 (fun j _ _ => he j (by omega))⟩, (he 0 (by omega)).trans h0, hg, hd⟩
theorem AV_kk (h : AV M F a c ct cd st ns nt np nc kk T) {k2 : Nat} (hk : kk ≤ k2) : AV M F a c ct cd st ns nt np nc k2 T := by
  obtain ⟨d, R, l, hS, hn, h0, hg, hd⟩ := h
  exact ⟨d, R, l, hS, hn, h0, hg, by omega⟩
/-! layouts behind a write of a state's city -/
theorem is_wr (a k : Nat) (v : Option Nat) {c b : Nat} (h : z_is c b M) : z_is c b (z_wr M a k v) := h
theorem r_wr {a b k j : Nat} (h : b ≠ a ∨ j ≠ k) : z_r (z_wr M a k v) b j = z_r M b j := if_neg (fun q => h.elim (fun e => e q.1) (fun e => e q.2))
theorem r_wrs {a k : Nat} : z_r (z_wr M a k v) a k = v := if_pos ⟨rfl, rfl⟩
theorem LT_wr (h : LT b M) : LT b (z_wr M a 6 v) := ⟨h.1, h.2.1, h.2.2.1, (r_wr (Or.inr (by decide))).trans h.2.2.2.1, (r_wr (Or.inr (by decide))).trans h.2.2.2.2⟩
theorem LR_wr (h : LR b M) : LR b (z_wr M a 6 v) := ⟨h.1, h.2.1, (r_wr (Or.inr (by decide))).trans h.2.2⟩
theorem LF_wr (h : LF b M) : LF b (z_wr M a 6 v) := ⟨h.1, h.2.1, h.2.2.1, (r_wr (Or.inr (by decide))).trans h.2.2.2.1, (r_wr (Or.inr (by decide))).trans h.2.2.2.2⟩
theorem LZ_wr (h : LZ b M) : LZ b (z_wr M a 6 v) := by
  obtain ⟨h1, h2, ⟨r0, r1, r2, r3, r4, r5⟩, h4, h5⟩ := h
  refine ⟨h1, h2, ⟨?_, ?_, ?_, ?_, ?_, ?_⟩, LR_wr h4, fun t ht => ⟨?_, LT_wr (h5 t ht).2⟩⟩
  · exact (r_wr (Or.inr (by decide))).trans r0
  · exact (r_wr (Or.inr (by decide))).trans r1
  · exact (r_wr (Or.inr (by decide))).trans r2
  · exact (r_wr (Or.inr (by decide))).trans r3
  · exact (r_wr (Or.inr (by decide))).trans r4
  · exact (r_wr (Or.inr (by decide))).trans r5
  · exact (r_wr (Or.inr (by omega))).trans (h5 t ht).1
theorem LC_wr (h : LC c M) (hc : c ≠ a) : LC c (z_wr M a 6 v) := by
  obtain ⟨h1, h2, ⟨r0, r1, r2, r3, r4, r5, r6, r7, r8, r9⟩, h4⟩ := h
  exact ⟨h1, h2, ⟨(r_wr (Or.inl hc)).trans r0, (r_wr (Or.inl hc)).trans r1, (r_wr (Or.inl hc)).trans r2, (r_wr (Or.inl hc)).trans r3, (r_wr (Or.inl hc)).trans r4, (r_wr (Or.inl hc)).trans r5, (r_wr (Or.inl hc)).trans r6, (r_wr (Or.inl hc)).trans r7, (r_wr (Or.inl hc)).trans r8, (r_wr (Or.inl hc)).trans r9⟩, LF_wr h4⟩
end PA4
