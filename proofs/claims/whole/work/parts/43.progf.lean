noncomputable def p_X9_restoreSnapshot (a : Nat) (p1 : Int32) : zP Int32 := (z_bd (z_pI 9 a 0 0) (fun _ => (z_bd (p_X9_within p1 0 1) (fun r1 => (if r1 = 0 then (z_pu 0) else (z_bd (z_gA 9 a 23) (fun v2 => (z_bd (z_aI 12 v2 p1) (fun v3 => (if v3 = 0 then (z_pu 0) else (z_jn (τ := Unit) (z_lp (fun (t5 : Int32) => (if 3277 ≤ t5 then (z_pu (.inr (.inl ()))) else (z_bd (z_gA 9 a 19) (fun v6 => (z_bd (z_gA 9 a 22) (fun v7 => (z_bd (z_aI 11 v7 ((3277 * p1) + t5)) (fun v8 => (z_bd (z_sI 11 v6 t5 v8) (fun _ => (z_pu (.inl ((t5 + 1)))))))))))))) 0) (fun t4 => (z_bd (z_pI 9 a 21 0) (fun _ => (z_pu 1)))))))))))))))
set_option maxHeartbeats 4000000 in
set_option maxRecDepth 100000 in
theorem s_X9_restoreSnapshot (a : Nat) (p1 : Int32) : z_Sound yX9_restoreSnapshot cX9_restoreSnapshot 3 (some .boolean) 2 42 (fun D b => [.ref (b + a), .int p1]) z_ivI (p_X9_restoreSnapshot a p1) := by
  refine z_ofSim rfl (by intro D b; exact Nat.le_of_ble_eq_true rfl) (fun X C hT => ?_)
  unfold p_X9_restoreSnapshot
  refine r_sub [(0, .ref (x_b X + a)), (1, .int p1)] rfl ?_
  refine r_aload_n (pc := 0) C dX9_restoreSnapshot_0 rfl rfl ?_
  refine r_iconst (pc := 1) C dX9_restoreSnapshot_1 ki_0 ?_
  refine r_putI (pc := 2) C dX9_restoreSnapshot_2 fl_X9_76 rfl rfl ?_
  refine r_iload_n (pc := 5) C dX9_restoreSnapshot_5 rfl rfl ?_
  refine r_iconst (pc := 6) C dX9_restoreSnapshot_6 ki_0 ?_
  refine r_iconst (pc := 7) C dX9_restoreSnapshot_7 ki_1 ?_
  refine r_cSI (pc := 8) C [.int p1, .int 0, .int 1] [] (z_KX.zero hT) (s_X9_within p1 0 1) mt_X9_within dX9_restoreSnapshot_8 ml_X9_103 sm_X9_within rfl rfl rfl (Nat.le_of_ble_eq_true rfl) ⟨Nat.le_of_ble_eq_true rfl, Nat.le_of_ble_eq_true rfl⟩ (fun r1 => ?_)
  refine r_if_eq (pc := 11) C (tgt := 23) dX9_restoreSnapshot_11 rfl (fun _ => ?_) (fun _ => ?_)
  · refine r_iconst (pc := 23) C dX9_restoreSnapshot_23 ki_0 ?_
    exact r_zret1 (pc := 24) C dX9_restoreSnapshot_24 (by decide)
  · refine r_aload_n (pc := 14) C dX9_restoreSnapshot_14 rfl rfl ?_
    refine r_getA (pc := 15) C dX9_restoreSnapshot_15 fl_X9_42 rfl (fun v2 => ?_)
    refine r_iload_n (pc := 18) C dX9_restoreSnapshot_18 rfl rfl ?_
    refine r_zald (pc := 19) C dX9_restoreSnapshot_19 (fun v3 => ?_)
    refine r_if_ne (pc := 20) C (tgt := 25) dX9_restoreSnapshot_20 rfl (fun _ => ?_) (fun _ => ?_)
    · refine r_iconst (pc := 23) C dX9_restoreSnapshot_23 ki_0 ?_
      exact r_zret1 (pc := 24) C dX9_restoreSnapshot_24 (by decide)
    · refine r_iconst (pc := 25) C dX9_restoreSnapshot_25 ki_0 ?_
      refine r_sti_n (pc := 26) C 2 [(0, .ref (x_b X + a)), (1, .int p1), (2, .int 0)] dX9_restoreSnapshot_26 rfl (by decide) rfl ?_
      refine r_jn 58 (fun (t4 : Unit) => [(0, .ref (x_b X + a))]) (fun (t4 : Unit) => []) (fun t4 => ?_) ?_
      · refine r_aload_n (pc := 58) C dX9_restoreSnapshot_58 rfl rfl ?_
        refine r_iconst (pc := 59) C dX9_restoreSnapshot_59 ki_0 ?_
        refine r_putI (pc := 60) C dX9_restoreSnapshot_60 fl_X9_136 rfl rfl ?_
        refine r_iconst (pc := 63) C dX9_restoreSnapshot_63 ki_1 ?_
        exact r_zret1 (pc := 64) C dX9_restoreSnapshot_64 (by decide)
      · refine r_sub [(0, .ref (x_b X + a)), (1, .int p1), (2, .int 0)] rfl ?_
        refine r_lp (pc := 27) (fun (t5 : Int32) => [(0, .ref (x_b X + a)), (1, .int p1), (2, .int t5)]) (fun t5 => ?_) 0
        refine r_iload_n (pc := 27) C dX9_restoreSnapshot_27 rfl rfl ?_
        refine r_sipush (pc := 28) C dX9_restoreSnapshot_28 ks_3277 ?_
        refine r_icmp_ge (pc := 31) C (tgt := 58) dX9_restoreSnapshot_31 rfl (fun _ => ?_) (fun _ => ?_)
        · refine r_sub [(0, .ref (x_b X + a))] rfl ?_
          exact r_up (r_br (τ := Unit) ())
        · refine r_aload_n (pc := 34) C dX9_restoreSnapshot_34 rfl rfl ?_
          refine r_getA (pc := 35) C dX9_restoreSnapshot_35 fl_X9_32 rfl (fun v6 => ?_)
          refine r_iload_n (pc := 38) C dX9_restoreSnapshot_38 rfl rfl ?_
          refine r_aload_n (pc := 39) C dX9_restoreSnapshot_39 rfl rfl ?_
          refine r_getA (pc := 40) C dX9_restoreSnapshot_40 fl_X9_39 rfl (fun v7 => ?_)
          refine r_sipush (pc := 43) C dX9_restoreSnapshot_43 ks_3277 ?_
          refine r_iload_n (pc := 46) C dX9_restoreSnapshot_46 rfl rfl ?_
          refine r_imul (pc := 47) C dX9_restoreSnapshot_47 ?_
          refine r_iload_n (pc := 48) C dX9_restoreSnapshot_48 rfl rfl ?_
          refine r_iadd (pc := 49) C dX9_restoreSnapshot_49 ?_
          refine r_iald (pc := 50) C dX9_restoreSnapshot_50 (fun v8 => ?_)
          refine r_iast (pc := 51) C dX9_restoreSnapshot_51 ?_
          refine r_inc (pc := 52) C 1 [(0, .ref (x_b X + a)), (1, .int p1), (2, .int (t5 + 1))] dX9_restoreSnapshot_52 rfl ki_1 (by decide) rfl ?_
          refine r_goto (pc := 55) C (tgt := 27) dX9_restoreSnapshot_55 rfl ?_
          refine r_sub [(0, .ref (x_b X + a)), (1, .int p1), (2, .int (t5 + 1))] rfl ?_
          exact r_br (τ := Int32) ((t5 + 1))
