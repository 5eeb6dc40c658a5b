/-! ===== PHASE 2: State.<init> ===== -/
/-- a state at a whose first t trucks are made -/
def PS (a t : Nat) (M : zM) : Prop := z_is 5 a M ∧ ((z_is 11 (a + 1) M ∧ z_ln M (a + 1) = 8) ∧ (z_is 11 (a + 2) M ∧ z_ln M (a + 2) = 8) ∧ (z_is 11 (a + 3) M ∧ z_ln M (a + 3) = 64) ∧ (z_is 11 (a + 4) M ∧ z_ln M (a + 4) = 64) ∧ (z_is 14 (a + 5) M ∧ z_ln M (a + 5) = 3)) ∧ (z_r M a 0 = some (a + 1) ∧ z_r M a 1 = some (a + 2) ∧ z_r M a 2 = some (a + 3) ∧ z_r M a 3 = some (a + 4) ∧ z_r M a 4 = some (a + 5) ∧ z_r M a 5 = some (a + 6)) ∧ LR (a + 6) M ∧ ∀ i, i < t → z_r M (a + 5) i = some (a + 8 + 3 * i) ∧ LT (a + 8 + 3 * i) M
section PA8
variable {β : Type} {M M' M1 : zM} {F F' G : Nat → Nat → Int32} {ct cd st st' : Nat → Int32} {a b c d k n ns nt np nc kk T r t x y : Nat} {v : Option Nat}
theorem LT_wrg (h : LT b M) (hb : b ≠ x) : LT b (z_wr M x k v) := ⟨h.1, h.2.1, h.2.2.1, (r_wr (Or.inl hb)).trans h.2.2.2.1, (r_wr (Or.inl hb)).trans h.2.2.2.2⟩
theorem LR_wrg (h : LR b M) (hb : b ≠ x) : LR b (z_wr M x k v) := ⟨h.1, h.2.1, (r_wr (Or.inl hb)).trans h.2.2⟩
theorem PS_ext (h : PS a t M) (g : ext M M') : PS a t M' := by
  obtain ⟨h1, ⟨l1, l2, l3, l4, l5⟩, ⟨r0, r1, r2, r3, r4, r5⟩, h4, h5⟩ := h
  exact ⟨is_ext h1 g, ⟨il_ext l1 g, il_ext l2 g, il_ext l3 g, il_ext l4 g, il_ext l5 g⟩, ⟨(r_ext h1 g).trans r0, (r_ext h1 g).trans r1, (r_ext h1 g).trans r2, (r_ext h1 g).trans r3, (r_ext h1 g).trans r4, (r_ext h1 g).trans r5⟩, LR_ext h4 g, fun t ht => ⟨(r_ext l5.1 g).trans (h5 t ht).1, LT_ext (h5 t ht).2 g⟩⟩
theorem PS_step (h : PS a t M) (hn : z_nx M = a + 8 + 3 * t) : PS a (t + 1) (z_wr (mkT M) (a + 5) t (some (a + 8 + 3 * t))) := by
  obtain ⟨n1, n2, n3, n4⟩ := mkT_f (M := M)
  obtain ⟨h1, h2, ⟨r0, r1, r2, r3, r4, r5⟩, h4, h5⟩ := PS_ext h n4
  refine ⟨h1, h2, ⟨?_, ?_, ?_, ?_, ?_, ?_⟩, LR_wrg h4 (by omega), fun i hi => ?_⟩
  · exact (r_wr (Or.inl (by omega))).trans r0
  · exact (r_wr (Or.inl (by omega))).trans r1
  · exact (r_wr (Or.inl (by omega))).trans r2
  · exact (r_wr (Or.inl (by omega))).trans r3
  · exact (r_wr (Or.inl (by omega))).trans r4
  · exact (r_wr (Or.inl (by omega))).trans r5
  · by_cases e : i = t
    · subst e
      rw [hn] at n3
      exact ⟨r_wrs, LT_wrg n3 (by omega)⟩
    · have h6 := h5 i (by omega)
      exact ⟨(r_wr (Or.inr e)).trans h6.1, LT_wrg h6.2 (by omega)⟩
theorem mkS2_f : z_nx (mkS2 M) = z_nx M + 8 ∧ z_sl (mkS2 M) = z_sl M + 930 ∧ PS (z_nx M) 0 (mkS2 M) ∧ ext M (mkS2 M) := by
  obtain ⟨n1, n2, n3, n4, ⟨q0, q1, q2, q3, q4⟩, n6⟩ := mkS1_f (M := M)
  obtain ⟨m1, m2, m3, m4⟩ := mkR_f (M := mkS1 M)
  have hx : ext M (mkS2 M) := ext_wr (ext_tr n6 m4) (Nat.le_refl _)
  rw [n1] at m3
  have s3 := is_ext n3 m4
  have l1 := il_ext n4.1 m4
  have l2 := il_ext n4.2.1 m4
  have l3 := il_ext n4.2.2.1 m4
  have l4 := il_ext n4.2.2.2.1 m4
  have l5 := il_ext n4.2.2.2.2 m4
  refine ⟨rfl, rfl, ⟨s3, ⟨l1, l2, l3, l4, l5⟩, ⟨?_, ?_, ?_, ?_, ?_, ?_⟩, LR_wrg m3 (by omega), fun i hi => absurd hi (Nat.not_lt_zero _)⟩, hx⟩
  · exact (r_wr (Or.inr (by decide))).trans ((r_ext n3 m4).trans q0)
  · exact (r_wr (Or.inr (by decide))).trans ((r_ext n3 m4).trans q1)
  · exact (r_wr (Or.inr (by decide))).trans ((r_ext n3 m4).trans q2)
  · exact (r_wr (Or.inr (by decide))).trans ((r_ext n3 m4).trans q3)
  · exact (r_wr (Or.inr (by decide))).trans ((r_ext n3 m4).trans q4)
  · exact r_wrs
theorem mkS3_f : ∀ t, z_nx (mkS3 M t) = z_nx M + 8 + 3 * t ∧ z_sl (mkS3 M t) = z_sl M + 930 + 20 * t ∧ PS (z_nx M) t (mkS3 M t) ∧ ext M (mkS3 M t)
  | 0 => mkS2_f
  | t + 1 => by
    obtain ⟨n1, n2, n3, n4⟩ := mkS3_f t
    obtain ⟨m1, m2, m3, m4⟩ := mkT_f (M := mkS3 M t)
    refine ⟨?_, ?_, PS_step n3 n1, ext_wr (ext_tr n4 m4) (by omega)⟩
    · show z_nx (mkT (mkS3 M t)) = _
      omega
    · show z_sl (mkT (mkS3 M t)) = _
      omega
/-- a new state: cells and slots, ahead of its begin -/
theorem kx_init : (p_X5_init (z_nx M) c).1 (z_mk M 5 0 13) = (z_bd (p_X5_begin (z_nx M) c) (fun _ => z_pu ())).1 (mkS3 M 3) := by
  obtain ⟨n1, n2, n3, n4, ⟨q0, q1, q2, q3, q4⟩, n6⟩ := mkS1_f (M := M)
  unfold p_X5_init
  rw [n_na8, e_pR ⟨show z_nx M < z_nx M + 1 + 1 by omega, by rw [kd_mko (show z_nx M ≠ z_nx M + 1 by omega), kd_mks (show z_nx M = z_nx M from rfl)]⟩]
  rw [n_na8, e_pR ⟨show z_nx M < z_nx M + 1 + 1 + 1 by omega, by rw [kd_mko (show z_nx M ≠ z_nx M + 2 by omega), kd_wr, kd_mko (show z_nx M ≠ z_nx M + 1 by omega), kd_mks (show z_nx M = z_nx M from rfl)]⟩]
  rw [n_na64, e_pR ⟨show z_nx M < z_nx M + 1 + 1 + 1 + 1 by omega, by rw [kd_mko (show z_nx M ≠ z_nx M + 3 by omega), kd_wr, kd_mko (show z_nx M ≠ z_nx M + 2 by omega), kd_wr, kd_mko (show z_nx M ≠ z_nx M + 1 by omega), kd_mks (show z_nx M = z_nx M from rfl)]⟩]
  rw [n_na64, e_pR ⟨show z_nx M < z_nx M + 1 + 1 + 1 + 1 + 1 by omega, by rw [kd_mko (show z_nx M ≠ z_nx M + 4 by omega), kd_wr, kd_mko (show z_nx M ≠ z_nx M + 3 by omega), kd_wr, kd_mko (show z_nx M ≠ z_nx M + 2 by omega), kd_wr, kd_mko (show z_nx M ≠ z_nx M + 1 by omega), kd_mks (show z_nx M = z_nx M from rfl)]⟩]
  rw [n_na143, e_pR ⟨show z_nx M < z_nx M + 1 + 1 + 1 + 1 + 1 + 1 by omega, by rw [kd_mko (show z_nx M ≠ z_nx M + 5 by omega), kd_wr, kd_mko (show z_nx M ≠ z_nx M + 4 by omega), kd_wr, kd_mko (show z_nx M ≠ z_nx M + 3 by omega), kd_wr, kd_mko (show z_nx M ≠ z_nx M + 2 by omega), kd_wr, kd_mko (show z_nx M ≠ z_nx M + 1 by omega), kd_mks (show z_nx M = z_nx M from rfl)]⟩]
  show (z_bd (z_nw 4 2) _).1 (mkS1 M) = _
  unfold p_X4_init
  rw [n_nw]
  simp only [b_bd, b_pu]
  rw [n_na768, e_pR ⟨show z_nx (mkS1 M) < z_nx (mkS1 M) + 1 + 1 by omega, by rw [kd_mko (show z_nx (mkS1 M) ≠ z_nx (mkS1 M) + 1 by omega), kd_mks rfl]⟩]
  show (z_bd (z_pR 5 (z_nx M) 5 (some (z_nx (mkS1 M)))) _).1 (mkR (mkS1 M)) = _
  rw [n1, e_pR (is_ext n3 mkR_f.2.2.2)]
  show (z_jn _ _).1 (mkS2 M) = _
  refine (e_jL (t := ()) (M1 := mkS3 M 3) ?_).trans ?_
  · refine lp_cnt 3 (fun t => nI t) (fun t => mkS3 M t) _ _ ?_ ?_
    · intro t ht
      have h3 : ¬ (3 : Int32) ≤ nI t := nI_ge (b := 3) ht (by decide)
      obtain ⟨m1, m2, m3, m4⟩ := mkS3_f (M := M) t
      obtain ⟨t1, t2, t3, t4⟩ := mkT_f (M := mkS3 M t)
      have m5 := PS_ext m3 t4
      show (if (3 : Int32) ≤ nI t then _ else _ : zP _).1 (mkS3 M t) = _
      rw [if_neg h3, e_gA m3.1 m3.2.2.1.2.2.2.2.1]
      refine (kt_new (f := fun q11 => z_bd (z_sR 14 7 (z_nx M + 5) (nI t) q11) (fun _ => z_pu (Sum.inl (nI t + 1) : Int32 ⊕ (Unit ⊕ Unit))))).trans ?_
      show (z_bd (z_sR 14 7 (z_nx M + 5) (nI t) (z_nx (mkS3 M t))) (fun _ => z_pu (Sum.inl (nI t + 1) : Int32 ⊕ (Unit ⊕ Unit)))).1 (mkT (mkS3 M t)) = _
      rw [e_sR (n_in m5.2.1.2.2.2.2.1 m5.2.1.2.2.2.2.2 ht (by decide)) t3.1, nI_1, nI_clamp (by omega), m1]
      rfl
    · rfl
  · obtain ⟨m1, m2, m3, m4⟩ := mkS3_f (M := M) 3
    rw [e_cv m3.1]
theorem LZ_S3 : LZ (z_nx M) (mkS3 M 3) := (mkS3_f 3).2.2.1
end PA8
