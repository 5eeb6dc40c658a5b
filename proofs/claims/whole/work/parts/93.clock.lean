/-! ===== PHASE 2: the clock ===== -/
section PRj
variable {M : zM} {F : Nat → Nat → Int32} {ct cd st : Nat → Int32} {a c d r ns nt np nc T : Nat} {R : List zRd} {l : List Nat}
theorem RS_tick (hS : RS M F a c ct cd st ns nt np nc d R l) : RS M (z_up2 F a 7 (st 0 + 1)) a c ct cd (s_up st 0 (st 0 + 1)) ns nt np nc d R l := by
  obtain ⟨E, hX, hP, hTr, ⟨hr1, hr2, hr3, hr4⟩, hrr, ⟨hl1, hl2, hl3⟩, hrn, hok⟩ := hS
  have h8 := EN_ns E
  obtain ⟨⟨hL, hcy, hC, hdis⟩, ⟨rc, hcok⟩, rb, r0⟩ := id E
  have hnt := hcok.1.2.2.2.1
  refine ⟨EN_gen E (fun k hk => ?_) ?_ (fun y y1 y2 => u2_row _ _ (by omega)), ⟨?_, ?_, ?_, ?_, ?_⟩, fun p hp => ?_, fun t ht => ?_, ⟨?_, ?_, ?_, hr4⟩, fun k x hx => ?_, ⟨?_, hl2, hl3⟩, hrn, hok⟩
  · rw [u2_row _ _ (by omega), u2_row _ _ (by omega), s_upn _ _ (by omega), s_upn _ _ (by omega)]; exact rb k hk
  · rw [u2_s, s_ups]
  · rw [u2_n _ _ (by omega), s_upn _ _ (by omega)]; exact hX.1
  · rw [u2_n _ _ (by omega), s_upn _ _ (by omega)]; exact hX.2.1
  · rw [u2_n _ _ (by omega), s_upn _ _ (by omega)]; exact hX.2.2.1
  · rw [u2_n _ _ (by omega), s_upn _ _ (by omega)]; exact hX.2.2.2.1
  · rw [u2_n _ _ (by omega), s_upn _ _ (by omega)]; exact hX.2.2.2.2
  · rw [u2_row _ _ (by omega), u2_row _ _ (by omega), s_upn _ _ (by omega), s_upn _ _ (by omega)]; exact hP p hp
  · obtain ⟨q, hq⟩ := hTr t ht
    exact ⟨q, RK_fr hq (u2_row _ _ (by omega)) (u2_row _ _ (by omega)) (u2_row _ _ (by omega)) (fun i hi => s_upn _ _ (by omega))⟩
  · rw [u2_row _ _ (by omega)]; exact hr1
  · rw [s_upn _ _ (by omega)]; exact hr2
  · rw [s_upn _ _ (by omega)]; exact hr3
  · rw [s_upn _ _ (by omega), s_upn _ _ (by omega), s_upn _ _ (by omega)]; exact hrr k x hx
  · rw [u2_row _ _ (by omega)]; exact hl1
theorem n_ok_tick (h : n_ok ct st ns nt) (hns : ns ≤ 8) : n_ok ct (s_up st 0 (st 0 + 1)) ns nt := n_ok_fr h (fun k hk => ⟨s_upn _ _ (by omega), s_upn _ _ (by omega)⟩) (fun t ht i hi _ => Or.inl (s_tr_o (s_upn _ _ (by omega))))
/-- the model's minute, in the words of the class's happen -/
theorem s_min_eq (h : st 204 = nI r) (hr : r < 2 ^ 31) : s_min ct cd ns nt np nc st = s_tp ct cd nc (s_rd2 ct ns (s_tl ct (s_up st 0 (st 0 + 1)) nt) r) np := by
  unfold s_min s_m2 s_m1 s_rd2
  rw [h, ix_nI hr]
theorem s_m2_eq (h : st 204 = nI r) (hr : r < 2 ^ 31) : (s_m2 ct ns nt st).1 = (s_rl ct ns (s_tl ct (s_up st 0 (st 0 + 1)) nt) r).1 := by
  unfold s_m2 s_m1
  rw [h, ix_nI hr]
end PRj
