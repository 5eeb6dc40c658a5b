noncomputable def p_J7_fill_53178 (p1 : Nat) (p2 : Int32) : zP Unit := (z_bd (z_al 11 p1) (fun v1 => (z_lp (fun (t2 : Int32) => (if v1 ≤ t2 then (z_pu (.inr ())) else (z_bd (z_sI 11 p1 t2 p2) (fun _ => (z_pu (.inl ((t2 + 1)))))))) 0)))
set_option maxHeartbeats 4000000 in
set_option maxRecDepth 100000 in
theorem s_J7_fill_53178 (p1 : Nat) (p2 : Int32) : z_Sound yJ7_fill_53178 cJ7_fill_53178 4 none 1 20 (fun D b => [.ref (b + p1), .int p2]) z_ivV (p_J7_fill_53178 p1 p2) := by
  refine z_ofSim rfl (by intro D b; exact Nat.le_of_ble_eq_true rfl) (fun X C hT => ?_)
  unfold p_J7_fill_53178
  refine r_sub [(0, .ref (x_b X + p1)), (1, .int p2)] rfl ?_
  refine r_iconst (pc := 0) C dJ7_fill_53178_0 ki_0 ?_
  refine r_sti_n (pc := 1) C 2 [(0, .ref (x_b X + p1)), (1, .int p2), (2, .int 0)] dJ7_fill_53178_1 rfl (by decide) rfl ?_
  refine r_aload_n (pc := 2) C dJ7_fill_53178_2 rfl rfl ?_
  refine r_alen (pc := 3) C (by decide) dJ7_fill_53178_3 (fun v1 => ?_)
  refine r_sti_n (pc := 4) C 3 [(0, .ref (x_b X + p1)), (1, .int p2), (2, .int 0), (3, .int v1)] dJ7_fill_53178_4 rfl (by decide) rfl ?_
  refine r_sub [(0, .ref (x_b X + p1)), (1, .int p2), (2, .int 0), (3, .int v1)] rfl ?_
  refine r_lp (pc := 5) (fun (t2 : Int32) => [(0, .ref (x_b X + p1)), (1, .int p2), (2, .int t2), (3, .int v1)]) (fun t2 => ?_) 0
  refine r_iload_n (pc := 5) C dJ7_fill_53178_5 rfl rfl ?_
  refine r_iload_n (pc := 6) C dJ7_fill_53178_6 rfl rfl ?_
  refine r_icmp_ge (pc := 7) C (tgt := 20) dJ7_fill_53178_7 rfl (fun _ => ?_) (fun _ => ?_)
  · exact r_up (r_vret (pc := 20) C dJ7_fill_53178_20)
  · refine r_aload_n (pc := 10) C dJ7_fill_53178_10 rfl rfl ?_
    refine r_iload_n (pc := 11) C dJ7_fill_53178_11 rfl rfl ?_
    refine r_iload_n (pc := 12) C dJ7_fill_53178_12 rfl rfl ?_
    refine r_iast (pc := 13) C dJ7_fill_53178_13 ?_
    refine r_inc (pc := 14) C 1 [(0, .ref (x_b X + p1)), (1, .int p2), (2, .int (t2 + 1)), (3, .int v1)] dJ7_fill_53178_14 rfl ki_1 (by decide) rfl ?_
    refine r_goto (pc := 17) C (tgt := 5) dJ7_fill_53178_17 rfl ?_
    refine r_sub [(0, .ref (x_b X + p1)), (1, .int p2), (2, .int (t2 + 1)), (3, .int v1)] rfl ?_
    exact r_br (τ := Int32) ((t2 + 1))
noncomputable def p_J6_bitCount_0f7a4 (p1 : Int32) : zP Int32 := (z_bd (z_pu ((p1 - ((((p1 : Int32).toUInt32 >>> ((1 : Int32).toUInt32 &&& Int32.toUInt32 31)).toInt32) &&& 1431655765)))) (fun x1 => (z_bd (z_pu (((x1 &&& 858993459) + ((((x1 : Int32).toUInt32 >>> ((2 : Int32).toUInt32 &&& Int32.toUInt32 31)).toInt32) &&& 858993459)))) (fun x2 => (z_bd (z_pu (((x2 + (((x2 : Int32).toUInt32 >>> ((4 : Int32).toUInt32 &&& Int32.toUInt32 31)).toInt32)) &&& 252645135))) (fun x3 => (z_bd (z_pu ((x3 + (((x3 : Int32).toUInt32 >>> ((8 : Int32).toUInt32 &&& Int32.toUInt32 31)).toInt32)))) (fun x4 => (z_bd (z_pu ((x4 + (((x4 : Int32).toUInt32 >>> ((16 : Int32).toUInt32 &&& Int32.toUInt32 31)).toInt32)))) (fun x5 => (z_pu (x5 &&& 63))))))))))))
set_option maxHeartbeats 4000000 in
set_option maxRecDepth 100000 in
theorem s_J6_bitCount_0f7a4 (p1 : Int32) : z_Sound yJ6_bitCount_0f7a4 cJ6_bitCount_0f7a4 1 (some .int) 1 20 (fun D b => [.int p1]) z_ivI (p_J6_bitCount_0f7a4 p1) := by
  refine z_ofSim rfl (by intro D b; exact Nat.le_of_ble_eq_true rfl) (fun X C hT => ?_)
  unfold p_J6_bitCount_0f7a4
  refine r_sub [(0, .int p1)] rfl ?_
  refine r_iload_n (pc := 0) C dJ6_bitCount_0f7a4_0 rfl rfl ?_
  refine r_iload_n (pc := 1) C dJ6_bitCount_0f7a4_1 rfl rfl ?_
  refine r_iconst (pc := 2) C dJ6_bitCount_0f7a4_2 ki_1 ?_
  refine r_iushr (pc := 3) C dJ6_bitCount_0f7a4_3 ?_
  refine r_ldcw (pc := 4) C dJ6_bitCount_0f7a4_4 kc_J6_265 ?_
  refine r_iand (pc := 7) C dJ6_bitCount_0f7a4_7 ?_
  refine r_isub (pc := 8) C dJ6_bitCount_0f7a4_8 ?_
  refine r_sti_n (pc := 9) C 0 [(0, .int (p1 - ((((p1 : Int32).toUInt32 >>> ((1 : Int32).toUInt32 &&& Int32.toUInt32 31)).toInt32) &&& 1431655765)))] dJ6_bitCount_0f7a4_9 rfl (by decide) rfl ?_
  refine r_let ((p1 - ((((p1 : Int32).toUInt32 >>> ((1 : Int32).toUInt32 &&& Int32.toUInt32 31)).toInt32) &&& 1431655765))) (fun x1 => [(0, .int x1)]) (fun x1 => []) (fun x1 => ?_)
  refine r_iload_n (pc := 10) C dJ6_bitCount_0f7a4_10 rfl rfl ?_
  refine r_ldcw (pc := 11) C dJ6_bitCount_0f7a4_11 kc_J6_266 ?_
  refine r_iand (pc := 14) C dJ6_bitCount_0f7a4_14 ?_
  refine r_iload_n (pc := 15) C dJ6_bitCount_0f7a4_15 rfl rfl ?_
  refine r_iconst (pc := 16) C dJ6_bitCount_0f7a4_16 ki_2 ?_
  refine r_iushr (pc := 17) C dJ6_bitCount_0f7a4_17 ?_
  refine r_ldcw (pc := 18) C dJ6_bitCount_0f7a4_18 kc_J6_266 ?_
  refine r_iand (pc := 21) C dJ6_bitCount_0f7a4_21 ?_
  refine r_iadd (pc := 22) C dJ6_bitCount_0f7a4_22 ?_
  refine r_sti_n (pc := 23) C 0 [(0, .int ((x1 &&& 858993459) + ((((x1 : Int32).toUInt32 >>> ((2 : Int32).toUInt32 &&& Int32.toUInt32 31)).toInt32) &&& 858993459)))] dJ6_bitCount_0f7a4_23 rfl (by decide) rfl ?_
  refine r_let (((x1 &&& 858993459) + ((((x1 : Int32).toUInt32 >>> ((2 : Int32).toUInt32 &&& Int32.toUInt32 31)).toInt32) &&& 858993459))) (fun x2 => [(0, .int x2)]) (fun x2 => []) (fun x2 => ?_)
  refine r_iload_n (pc := 24) C dJ6_bitCount_0f7a4_24 rfl rfl ?_
  refine r_iload_n (pc := 25) C dJ6_bitCount_0f7a4_25 rfl rfl ?_
  refine r_iconst (pc := 26) C dJ6_bitCount_0f7a4_26 ki_4 ?_
  refine r_iushr (pc := 27) C dJ6_bitCount_0f7a4_27 ?_
  refine r_iadd (pc := 28) C dJ6_bitCount_0f7a4_28 ?_
  refine r_ldcw (pc := 29) C dJ6_bitCount_0f7a4_29 kc_J6_267 ?_
  refine r_iand (pc := 32) C dJ6_bitCount_0f7a4_32 ?_
  refine r_sti_n (pc := 33) C 0 [(0, .int ((x2 + (((x2 : Int32).toUInt32 >>> ((4 : Int32).toUInt32 &&& Int32.toUInt32 31)).toInt32)) &&& 252645135))] dJ6_bitCount_0f7a4_33 rfl (by decide) rfl ?_
  refine r_let (((x2 + (((x2 : Int32).toUInt32 >>> ((4 : Int32).toUInt32 &&& Int32.toUInt32 31)).toInt32)) &&& 252645135)) (fun x3 => [(0, .int x3)]) (fun x3 => []) (fun x3 => ?_)
  refine r_iload_n (pc := 34) C dJ6_bitCount_0f7a4_34 rfl rfl ?_
  refine r_iload_n (pc := 35) C dJ6_bitCount_0f7a4_35 rfl rfl ?_
  refine r_bipush (pc := 36) C dJ6_bitCount_0f7a4_36 kb_8 ?_
  refine r_iushr (pc := 38) C dJ6_bitCount_0f7a4_38 ?_
  refine r_iadd (pc := 39) C dJ6_bitCount_0f7a4_39 ?_
  refine r_sti_n (pc := 40) C 0 [(0, .int (x3 + (((x3 : Int32).toUInt32 >>> ((8 : Int32).toUInt32 &&& Int32.toUInt32 31)).toInt32)))] dJ6_bitCount_0f7a4_40 rfl (by decide) rfl ?_
  refine r_let ((x3 + (((x3 : Int32).toUInt32 >>> ((8 : Int32).toUInt32 &&& Int32.toUInt32 31)).toInt32))) (fun x4 => [(0, .int x4)]) (fun x4 => []) (fun x4 => ?_)
  refine r_iload_n (pc := 41) C dJ6_bitCount_0f7a4_41 rfl rfl ?_
  refine r_iload_n (pc := 42) C dJ6_bitCount_0f7a4_42 rfl rfl ?_
  refine r_bipush (pc := 43) C dJ6_bitCount_0f7a4_43 kb_16 ?_
  refine r_iushr (pc := 45) C dJ6_bitCount_0f7a4_45 ?_
  refine r_iadd (pc := 46) C dJ6_bitCount_0f7a4_46 ?_
  refine r_sti_n (pc := 47) C 0 [(0, .int (x4 + (((x4 : Int32).toUInt32 >>> ((16 : Int32).toUInt32 &&& Int32.toUInt32 31)).toInt32)))] dJ6_bitCount_0f7a4_47 rfl (by decide) rfl ?_
  refine r_let ((x4 + (((x4 : Int32).toUInt32 >>> ((16 : Int32).toUInt32 &&& Int32.toUInt32 31)).toInt32))) (fun x5 => [(0, .int x5)]) (fun x5 => []) (fun x5 => ?_)
  refine r_iload_n (pc := 48) C dJ6_bitCount_0f7a4_48 rfl rfl ?_
  refine r_bipush (pc := 49) C dJ6_bitCount_0f7a4_49 kb_63 ?_
  refine r_iand (pc := 51) C dJ6_bitCount_0f7a4_51 ?_
  exact r_iret (pc := 52) C dJ6_bitCount_0f7a4_52
noncomputable def p_X2_init (a : Nat) : zP Unit := (z_bd (z_na 11 700) (fun q1 => (z_bd (z_pR 2 a 0 (some q1)) (fun _ => (z_bd (z_na 11 16) (fun q2 => (z_bd (z_pR 2 a 1 (some q2)) (fun _ => (z_pu ())))))))))
set_option maxHeartbeats 4000000 in
set_option maxRecDepth 100000 in
theorem s_X2_init (a : Nat) : z_Sound yX2_init cX2_init 1 none 1 20 (fun D b => [.ref (b + a)]) z_ivV (p_X2_init a) := by
  refine z_ofSim rfl (by intro D b; exact Nat.le_of_ble_eq_true rfl) (fun X C hT => ?_)
  unfold p_X2_init
  refine r_sub [(0, .ref (x_b X + a))] rfl ?_
  refine r_aload_n (pc := 0) C dX2_init_0 rfl rfl ?_
  refine r_objInit (pc := 1) C dX2_init_1 ml_X2_3 im_obj cd_obj (Nat.le_of_ble_eq_true rfl) (Nat.le_of_ble_eq_true rfl) ?_
  refine r_aload_n (pc := 4) C dX2_init_4 rfl rfl ?_
  refine r_sipush (pc := 5) C dX2_init_5 ks_700 ?_
  refine r_newa (pc := 8) C (c := 11) (by decide) dX2_init_8 ac_int (fun q1 => ?_)
  refine r_putA (pc := 10) C dX2_init_10 fl_X2_9 rfl (Or.inr ⟨rfl, rfl⟩) ?_
  refine r_aload_n (pc := 13) C dX2_init_13 rfl rfl ?_
  refine r_bipush (pc := 14) C dX2_init_14 kb_16 ?_
  refine r_newa (pc := 16) C (c := 11) (by decide) dX2_init_16 ac_int (fun q2 => ?_)
  refine r_putA (pc := 18) C dX2_init_18 fl_X2_15 rfl (Or.inr ⟨rfl, rfl⟩) ?_
  exact r_vret (pc := 21) C dX2_init_21
noncomputable def p_X2_clear (a : Nat) : zP Unit := (z_bd (z_pI 2 a 2 0) (fun _ => (z_pu ())))
set_option maxHeartbeats 4000000 in
set_option maxRecDepth 100000 in
theorem s_X2_clear (a : Nat) : z_Sound yX2_clear cX2_clear 1 none 1 20 (fun D b => [.ref (b + a)]) z_ivV (p_X2_clear a) := by
  refine z_ofSim rfl (by intro D b; exact Nat.le_of_ble_eq_true rfl) (fun X C hT => ?_)
  unfold p_X2_clear
  refine r_sub [(0, .ref (x_b X + a))] rfl ?_
  refine r_aload_n (pc := 0) C dX2_clear_0 rfl rfl ?_
  refine r_iconst (pc := 1) C dX2_clear_1 ki_0 ?_
  refine r_putI (pc := 2) C dX2_clear_2 fl_X2_18 rfl rfl ?_
  exact r_vret (pc := 5) C dX2_clear_5
noncomputable def p_X2_add (a : Nat) (p1 : Int32) : zP Unit := (z_bd (z_gI 2 a 2) (fun v1 => (z_bd (z_gA 2 a 0) (fun v2 => (z_bd (z_al 11 v2) (fun v3 => (if v3 ≤ v1 then (z_pu ()) else (z_bd (z_gA 2 a 0) (fun v4 => (z_bd (z_gI 2 a 2) (fun v5 => (z_bd (z_sI 11 v4 v5 p1) (fun _ => (z_bd (z_gI 2 a 2) (fun v6 => (z_bd (z_pI 2 a 2 (v6 + 1)) (fun _ => (z_pu ()))))))))))))))))))
set_option maxHeartbeats 4000000 in
set_option maxRecDepth 100000 in
theorem s_X2_add (a : Nat) (p1 : Int32) : z_Sound yX2_add cX2_add 2 none 1 20 (fun D b => [.ref (b + a), .int p1]) z_ivV (p_X2_add a p1) := by
  refine z_ofSim rfl (by intro D b; exact Nat.le_of_ble_eq_true rfl) (fun X C hT => ?_)
  unfold p_X2_add
  refine r_sub [(0, .ref (x_b X + a)), (1, .int p1)] rfl ?_
  refine r_aload_n (pc := 0) C dX2_add_0 rfl rfl ?_
  refine r_getI (pc := 1) C dX2_add_1 fl_X2_18 rfl (fun v1 => ?_)
  refine r_aload_n (pc := 4) C dX2_add_4 rfl rfl ?_
  refine r_getA (pc := 5) C dX2_add_5 fl_X2_9 rfl (fun v2 => ?_)
  refine r_alen (pc := 8) C (by decide) dX2_add_8 (fun v3 => ?_)
  refine r_icmp_ge (pc := 9) C (tgt := 32) dX2_add_9 rfl (fun _ => ?_) (fun _ => ?_)
  · exact r_vret (pc := 32) C dX2_add_32
  · refine r_aload_n (pc := 12) C dX2_add_12 rfl rfl ?_
    refine r_getA (pc := 13) C dX2_add_13 fl_X2_9 rfl (fun v4 => ?_)
    refine r_aload_n (pc := 16) C dX2_add_16 rfl rfl ?_
    refine r_getI (pc := 17) C dX2_add_17 fl_X2_18 rfl (fun v5 => ?_)
    refine r_iload_n (pc := 20) C dX2_add_20 rfl rfl ?_
    refine r_iast (pc := 21) C dX2_add_21 ?_
    refine r_aload_n (pc := 22) C dX2_add_22 rfl rfl ?_
    refine r_dup (pc := 23) C dX2_add_23 rfl ?_
    refine r_getI (pc := 24) C dX2_add_24 fl_X2_18 rfl (fun v6 => ?_)
    refine r_iconst (pc := 27) C dX2_add_27 ki_1 ?_
    refine r_iadd (pc := 28) C dX2_add_28 ?_
    refine r_putI (pc := 29) C dX2_add_29 fl_X2_18 rfl rfl ?_
    exact r_vret (pc := 32) C dX2_add_32
noncomputable def p_X2_apply (p1 : Int32) (p2 : Int32) (p3 : Int32) : zP Int32 := (if p1 = (-7) then (z_pu (p2 * p3)) else (if p1 = (-6) then (z_pu (p2 - p3)) else (if p1 = (-5) then (z_pu (p2 + p3)) else (if p3 = 0 then (z_pu 0) else (z_nz p3 (z_pu (p2 / p3)))))))
set_option maxHeartbeats 4000000 in
set_option maxRecDepth 100000 in
theorem s_X2_apply (p1 : Int32) (p2 : Int32) (p3 : Int32) : z_Sound yX2_apply cX2_apply 3 (some .int) 1 20 (fun D b => [.int p1, .int p2, .int p3]) z_ivI (p_X2_apply p1 p2 p3) := by
  refine z_ofSim rfl (by intro D b; exact Nat.le_of_ble_eq_true rfl) (fun X C hT => ?_)
  unfold p_X2_apply
  refine r_sub [(0, .int p1), (1, .int p2), (2, .int p3)] rfl ?_
  refine r_iload_n (pc := 0) C dX2_apply_0 rfl rfl ?_
  refine r_ite (fun h1_0 => ?_) (fun h1_0 => ?_)
  · refine r_tin (pc := 1) C (k := (-7)) (off := 35) (tgt := 36) dX2_apply_1 h1_0 (by decide) rfl ?_
    refine r_iload_n (pc := 36) C dX2_apply_36 rfl rfl ?_
    refine r_iload_n (pc := 37) C dX2_apply_37 rfl rfl ?_
    refine r_imul (pc := 38) C dX2_apply_38 ?_
    exact r_iret (pc := 39) C dX2_apply_39
  · refine r_ite (fun h1_1 => ?_) (fun h1_1 => ?_)
    · refine r_tin (pc := 1) C (k := (-6)) (off := 31) (tgt := 32) dX2_apply_1 h1_1 (by decide) rfl ?_
      refine r_iload_n (pc := 32) C dX2_apply_32 rfl rfl ?_
      refine r_iload_n (pc := 33) C dX2_apply_33 rfl rfl ?_
      refine r_isub (pc := 34) C dX2_apply_34 ?_
      exact r_iret (pc := 35) C dX2_apply_35
    · refine r_ite (fun h1_2 => ?_) (fun h1_2 => ?_)
      · refine r_tin (pc := 1) C (k := (-5)) (off := 27) (tgt := 28) dX2_apply_1 h1_2 (by decide) rfl ?_
        refine r_iload_n (pc := 28) C dX2_apply_28 rfl rfl ?_
        refine r_iload_n (pc := 29) C dX2_apply_29 rfl rfl ?_
        refine r_iadd (pc := 30) C dX2_apply_30 ?_
        exact r_iret (pc := 31) C dX2_apply_31
      · refine r_tout (pc := 1) C (tgt := 40) dX2_apply_1 (by have q0 := lv_neT h1_0 (a := (-7)) (by decide); have q1 := lv_neT h1_1 (a := (-6)) (by decide); have q2 := lv_neT h1_2 (a := (-5)) (by decide); omega) rfl ?_
        refine r_iload_n (pc := 40) C dX2_apply_40 rfl rfl ?_
        refine r_if_ne (pc := 41) C (tgt := 48) dX2_apply_41 rfl (fun _ => ?_) (fun _ => ?_)
        · refine r_iconst (pc := 44) C dX2_apply_44 ki_0 ?_
          refine r_goto (pc := 45) C (tgt := 51) dX2_apply_45 rfl ?_
          exact r_iret (pc := 51) C dX2_apply_51
        · refine r_iload_n (pc := 48) C dX2_apply_48 rfl rfl ?_
          refine r_iload_n (pc := 49) C dX2_apply_49 rfl rfl ?_
          refine r_nz (fun h1 => ?_)
          refine r_idiv (pc := 50) C dX2_apply_50 h1 ?_
          exact r_iret (pc := 51) C dX2_apply_51
noncomputable def p_X2_operand (p1 : Int32) (p2 : Int32) (p3 : Int32) (p4 : Int32) (p5 : Int32) : zP Int32 := (if p1 = (-4) then (z_pu p5) else (if p1 = (-3) then (z_pu p4) else (if p1 = (-2) then (z_pu p3) else (if p1 = (-1) then (z_pu p2) else (z_pu p1)))))
set_option maxHeartbeats 4000000 in
set_option maxRecDepth 100000 in
theorem s_X2_operand (p1 : Int32) (p2 : Int32) (p3 : Int32) (p4 : Int32) (p5 : Int32) : z_Sound yX2_operand cX2_operand 5 (some .int) 1 20 (fun D b => [.int p1, .int p2, .int p3, .int p4, .int p5]) z_ivI (p_X2_operand p1 p2 p3 p4 p5) := by
  refine z_ofSim rfl (by intro D b; exact Nat.le_of_ble_eq_true rfl) (fun X C hT => ?_)
  unfold p_X2_operand
  refine r_sub [(0, .int p1), (1, .int p2), (2, .int p3), (3, .int p4), (4, .int p5)] rfl ?_
  refine r_iload_n (pc := 0) C dX2_operand_0 rfl rfl ?_
  refine r_ite (fun h1_0 => ?_) (fun h1_0 => ?_)
  · refine r_tin (pc := 1) C (k := (-4)) (off := 37) (tgt := 38) dX2_operand_1 h1_0 (by decide) rfl ?_
    refine r_iload (pc := 38) C dX2_operand_38 rfl ?_
    exact r_iret (pc := 40) C dX2_operand_40
  · refine r_ite (fun h1_1 => ?_) (fun h1_1 => ?_)
    · refine r_tin (pc := 1) C (k := (-3)) (off := 35) (tgt := 36) dX2_operand_1 h1_1 (by decide) rfl ?_
      refine r_iload_n (pc := 36) C dX2_operand_36 rfl rfl ?_
      exact r_iret (pc := 37) C dX2_operand_37
    · refine r_ite (fun h1_2 => ?_) (fun h1_2 => ?_)
      · refine r_tin (pc := 1) C (k := (-2)) (off := 33) (tgt := 34) dX2_operand_1 h1_2 (by decide) rfl ?_
        refine r_iload_n (pc := 34) C dX2_operand_34 rfl rfl ?_
        exact r_iret (pc := 35) C dX2_operand_35
      · refine r_ite (fun h1_3 => ?_) (fun h1_3 => ?_)
        · refine r_tin (pc := 1) C (k := (-1)) (off := 31) (tgt := 32) dX2_operand_1 h1_3 (by decide) rfl ?_
          refine r_iload_n (pc := 32) C dX2_operand_32 rfl rfl ?_
          exact r_iret (pc := 33) C dX2_operand_33
        · refine r_tout (pc := 1) C (tgt := 41) dX2_operand_1 (by have q0 := lv_neT h1_0 (a := (-4)) (by decide); have q1 := lv_neT h1_1 (a := (-3)) (by decide); have q2 := lv_neT h1_2 (a := (-2)) (by decide); have q3 := lv_neT h1_3 (a := (-1)) (by decide); omega) rfl ?_
          refine r_iload_n (pc := 41) C dX2_operand_41 rfl rfl ?_
          exact r_iret (pc := 42) C dX2_operand_42
noncomputable def p_X2_worth (a : Nat) (p1 : Int32) (p2 : Int32) (p3 : Int32) (p4 : Int32) : zP Int32 := (z_jn (τ := Unit) (z_lp (fun (t2 : Int32 × Int32) => (z_bd (z_gI 2 a 2) (fun v3 => (if v3 ≤ t2.2 then (z_pu (.inr (.inl ()))) else (z_bd (z_gA 2 a 0) (fun v4 => (z_bd (z_aI 11 v4 t2.2) (fun v5 => (if (-5) < v5 then (if t2.1 < 16 then (z_bd (z_gA 2 a 1) (fun v6 => (z_bd (p_X2_operand v5 p1 p2 p3 p4) (fun r7 => (z_bd (z_sI 11 v6 t2.1 r7) (fun _ => (z_pu (.inl ((t2.1 + 1), (t2.2 + 1)))))))))) else (z_pu (.inr (.inr 0)))) else (if 2 ≤ t2.1 then (z_bd (z_gA 2 a 1) (fun v8 => (z_bd (z_gA 2 a 1) (fun v9 => (z_bd (z_aI 11 v9 ((t2.1 + (-1)) - 1)) (fun v10 => (z_bd (z_gA 2 a 1) (fun v11 => (z_bd (z_aI 11 v11 (t2.1 + (-1))) (fun v12 => (z_bd (p_X2_apply v5 v10 v12) (fun r13 => (z_bd (z_sI 11 v8 ((t2.1 + (-1)) - 1) r13) (fun _ => (z_bd (z_pu (t2.1 + (-1))) (fun x14 => (z_pu (.inl (x14, (t2.2 + 1)))))))))))))))))))) else (z_pu (.inr (.inr 0))))))))))))) (0, 0)) (fun t1 => (z_bd (z_gA 2 a 1) (fun v15 => (z_bd (z_aI 11 v15 0) (fun v16 => (z_pu v16)))))))
set_option maxHeartbeats 4000000 in
set_option maxRecDepth 100000 in
theorem s_X2_worth (a : Nat) (p1 : Int32) (p2 : Int32) (p3 : Int32) (p4 : Int32) : z_Sound yX2_worth cX2_worth 8 (some .int) 2 44 (fun D b => [.ref (b + a), .int p1, .int p2, .int p3, .int p4]) z_ivI (p_X2_worth a p1 p2 p3 p4) := by
  refine z_ofSim rfl (by intro D b; exact Nat.le_of_ble_eq_true rfl) (fun X C hT => ?_)
  unfold p_X2_worth
  refine r_sub [(0, .ref (x_b X + a)), (1, .int p1), (2, .int p2), (3, .int p3), (4, .int p4)] rfl ?_
  refine r_iconst (pc := 0) C dX2_worth_0 ki_0 ?_
  refine r_sti (pc := 1) C [(0, .ref (x_b X + a)), (1, .int p1), (2, .int p2), (3, .int p3), (4, .int p4), (5, .int 0)] dX2_worth_1 (by decide) rfl ?_
  refine r_iconst (pc := 3) C dX2_worth_3 ki_0 ?_
  refine r_sti (pc := 4) C [(0, .ref (x_b X + a)), (1, .int p1), (2, .int p2), (3, .int p3), (4, .int p4), (5, .int 0), (6, .int 0)] dX2_worth_4 (by decide) rfl ?_
  refine r_jn 110 (fun (t1 : Unit) => [(0, .ref (x_b X + a))]) (fun (t1 : Unit) => []) (fun t1 => ?_) ?_
  · refine r_aload_n (pc := 110) C dX2_worth_110 rfl rfl ?_
    refine r_getA (pc := 111) C dX2_worth_111 fl_X2_15 rfl (fun v15 => ?_)
    refine r_iconst (pc := 114) C dX2_worth_114 ki_0 ?_
    refine r_iald (pc := 115) C dX2_worth_115 (fun v16 => ?_)
    exact r_iret (pc := 116) C dX2_worth_116
  · refine r_sub [(0, .ref (x_b X + a)), (1, .int p1), (2, .int p2), (3, .int p3), (4, .int p4), (5, .int 0), (6, .int 0)] rfl ?_
    refine r_lp (pc := 6) (fun (t2 : Int32 × Int32) => [(0, .ref (x_b X + a)), (1, .int p1), (2, .int p2), (3, .int p3), (4, .int p4), (5, .int t2.1), (6, .int t2.2)]) (fun t2 => ?_) (0, 0)
    refine r_iload (pc := 6) C dX2_worth_6 rfl ?_
    refine r_aload_n (pc := 8) C dX2_worth_8 rfl rfl ?_
    refine r_getI (pc := 9) C dX2_worth_9 fl_X2_18 rfl (fun v3 => ?_)
    refine r_icmp_ge (pc := 12) C (tgt := 110) dX2_worth_12 rfl (fun _ => ?_) (fun _ => ?_)
    · refine r_sub [(0, .ref (x_b X + a))] rfl ?_
      exact r_up (r_br (τ := Unit) ())
    · refine r_aload_n (pc := 15) C dX2_worth_15 rfl rfl ?_
      refine r_getA (pc := 16) C dX2_worth_16 fl_X2_9 rfl (fun v4 => ?_)
      refine r_iload (pc := 19) C dX2_worth_19 rfl ?_
      refine r_iald (pc := 21) C dX2_worth_21 (fun v5 => ?_)
      refine r_sti (pc := 22) C [(0, .ref (x_b X + a)), (1, .int p1), (2, .int p2), (3, .int p3), (4, .int p4), (5, .int t2.1), (6, .int t2.2), (7, .int v5)] dX2_worth_22 (by decide) rfl ?_
      refine r_iload (pc := 24) C dX2_worth_24 rfl ?_
      refine r_bipush (pc := 26) C dX2_worth_26 kb_m5 ?_
      refine r_icmp_gt (pc := 28) C (tgt := 75) dX2_worth_28 rfl (fun _ => ?_) (fun _ => ?_)
      · refine r_iload (pc := 75) C dX2_worth_75 rfl ?_
        refine r_bipush (pc := 77) C dX2_worth_77 kb_16 ?_
        refine r_icmp_lt (pc := 79) C (tgt := 84) dX2_worth_79 rfl (fun _ => ?_) (fun _ => ?_)
        · refine r_aload_n (pc := 84) C dX2_worth_84 rfl rfl ?_
          refine r_getA (pc := 85) C dX2_worth_85 fl_X2_15 rfl (fun v6 => ?_)
          refine r_iload (pc := 88) C dX2_worth_88 rfl ?_
          refine r_iload (pc := 90) C dX2_worth_90 rfl ?_
          refine r_iload_n (pc := 92) C dX2_worth_92 rfl rfl ?_
          refine r_iload_n (pc := 93) C dX2_worth_93 rfl rfl ?_
          refine r_iload_n (pc := 94) C dX2_worth_94 rfl rfl ?_
          refine r_iload (pc := 95) C dX2_worth_95 rfl ?_
          refine r_cSI (pc := 97) C [.int v5, .int p1, .int p2, .int p3, .int p4] [.int t2.1, .ref (x_b X + v6)] (z_KX.up (z_KX.up (z_KX.zero hT))) (s_X2_operand v5 p1 p2 p3 p4) mt_X2_operand dX2_worth_97 ml_X2_26 sm_X2_operand rfl rfl rfl (Nat.le_of_ble_eq_true rfl) ⟨Nat.le_of_ble_eq_true rfl, Nat.le_of_ble_eq_true rfl⟩ (fun r7 => ?_)
          refine r_iast (pc := 100) C dX2_worth_100 ?_
          refine r_inc (pc := 101) C 1 [(0, .ref (x_b X + a)), (1, .int p1), (2, .int p2), (3, .int p3), (4, .int p4), (5, .int (t2.1 + 1)), (6, .int t2.2)] dX2_worth_101 rfl ki_1 (by decide) rfl ?_
          refine r_inc (pc := 104) C 1 [(0, .ref (x_b X + a)), (1, .int p1), (2, .int p2), (3, .int p3), (4, .int p4), (5, .int (t2.1 + 1)), (6, .int (t2.2 + 1))] dX2_worth_104 rfl ki_1 (by decide) rfl ?_
          refine r_goto (pc := 107) C (tgt := 6) dX2_worth_107 rfl ?_
          refine r_sub [(0, .ref (x_b X + a)), (1, .int p1), (2, .int p2), (3, .int p3), (4, .int p4), (5, .int (t2.1 + 1)), (6, .int (t2.2 + 1))] rfl ?_
          exact r_br (τ := Int32 × Int32) ((t2.1 + 1), (t2.2 + 1))
        · refine r_iconst (pc := 82) C dX2_worth_82 ki_0 ?_
          exact r_up (r_up (r_iret (pc := 83) C dX2_worth_83))
      · refine r_iload (pc := 31) C dX2_worth_31 rfl ?_
        refine r_iconst (pc := 33) C dX2_worth_33 ki_2 ?_
        refine r_icmp_ge (pc := 34) C (tgt := 39) dX2_worth_34 rfl (fun _ => ?_) (fun _ => ?_)
        · refine r_inc (pc := 39) C (-1) [(0, .ref (x_b X + a)), (1, .int p1), (2, .int p2), (3, .int p3), (4, .int p4), (5, .int (t2.1 + (-1))), (6, .int t2.2), (7, .int v5)] dX2_worth_39 rfl ki_m1 (by decide) rfl ?_
          refine r_aload_n (pc := 42) C dX2_worth_42 rfl rfl ?_
          refine r_getA (pc := 43) C dX2_worth_43 fl_X2_15 rfl (fun v8 => ?_)
          refine r_iload (pc := 46) C dX2_worth_46 rfl ?_
          refine r_iconst (pc := 48) C dX2_worth_48 ki_1 ?_
          refine r_isub (pc := 49) C dX2_worth_49 ?_
          refine r_iload (pc := 50) C dX2_worth_50 rfl ?_
          refine r_aload_n (pc := 52) C dX2_worth_52 rfl rfl ?_
          refine r_getA (pc := 53) C dX2_worth_53 fl_X2_15 rfl (fun v9 => ?_)
          refine r_iload (pc := 56) C dX2_worth_56 rfl ?_
          refine r_iconst (pc := 58) C dX2_worth_58 ki_1 ?_
          refine r_isub (pc := 59) C dX2_worth_59 ?_
          refine r_iald (pc := 60) C dX2_worth_60 (fun v10 => ?_)
          refine r_aload_n (pc := 61) C dX2_worth_61 rfl rfl ?_
          refine r_getA (pc := 62) C dX2_worth_62 fl_X2_15 rfl (fun v11 => ?_)
          refine r_iload (pc := 65) C dX2_worth_65 rfl ?_
          refine r_iald (pc := 67) C dX2_worth_67 (fun v12 => ?_)
          refine r_cSI (pc := 68) C [.int v5, .int v10, .int v12] [.int ((t2.1 + (-1)) - 1), .ref (x_b X + v8)] (z_KX.up (z_KX.up (z_KX.zero hT))) (s_X2_apply v5 v10 v12) mt_X2_apply dX2_worth_68 ml_X2_22 sm_X2_apply rfl rfl rfl (Nat.le_of_ble_eq_true rfl) ⟨Nat.le_of_ble_eq_true rfl, Nat.le_of_ble_eq_true rfl⟩ (fun r13 => ?_)
          refine r_iast (pc := 71) C dX2_worth_71 ?_
          refine r_goto (pc := 72) C (tgt := 104) dX2_worth_72 rfl ?_
          refine r_inc (pc := 104) C 1 [(0, .ref (x_b X + a)), (1, .int p1), (2, .int p2), (3, .int p3), (4, .int p4), (5, .int (t2.1 + (-1))), (6, .int (t2.2 + 1))] dX2_worth_104 rfl ki_1 (by decide) rfl ?_
          refine r_goto (pc := 107) C (tgt := 6) dX2_worth_107 rfl ?_
          refine r_sub [(0, .ref (x_b X + a)), (1, .int p1), (2, .int p2), (3, .int p3), (4, .int p4), (5, .int (t2.1 + (-1))), (6, .int (t2.2 + 1))] rfl ?_
          refine r_let (t2.1 + (-1)) (fun x14 => [(0, .ref (x_b X + a)), (1, .int p1), (2, .int p2), (3, .int p3), (4, .int p4), (5, .int x14), (6, .int (t2.2 + 1))]) (fun x14 => []) (fun x14 => ?_)
          exact r_br (τ := Int32 × Int32) (x14, (t2.2 + 1))
        · refine r_iconst (pc := 37) C dX2_worth_37 ki_0 ?_
          exact r_up (r_up (r_iret (pc := 38) C dX2_worth_38))
noncomputable def p_X4_init (a : Nat) : zP Unit := (z_bd (z_na 11 768) (fun q1 => (z_bd (z_pR 4 a 0 (some q1)) (fun _ => (z_pu ())))))
set_option maxHeartbeats 4000000 in
set_option maxRecDepth 100000 in
theorem s_X4_init (a : Nat) : z_Sound yX4_init cX4_init 1 none 1 20 (fun D b => [.ref (b + a)]) z_ivV (p_X4_init a) := by
  refine z_ofSim rfl (by intro D b; exact Nat.le_of_ble_eq_true rfl) (fun X C hT => ?_)
  unfold p_X4_init
  refine r_sub [(0, .ref (x_b X + a))] rfl ?_
  refine r_aload_n (pc := 0) C dX4_init_0 rfl rfl ?_
  refine r_objInit (pc := 1) C dX4_init_1 ml_X4_3 im_obj cd_obj (Nat.le_of_ble_eq_true rfl) (Nat.le_of_ble_eq_true rfl) ?_
  refine r_aload_n (pc := 4) C dX4_init_4 rfl rfl ?_
  refine r_sipush (pc := 5) C dX4_init_5 ks_768 ?_
  refine r_newa (pc := 8) C (c := 11) (by decide) dX4_init_8 ac_int (fun q1 => ?_)
  refine r_putA (pc := 10) C dX4_init_10 fl_X4_9 rfl (Or.inr ⟨rfl, rfl⟩) ?_
  exact r_vret (pc := 13) C dX4_init_13
noncomputable def p_X4_code (p1 : Int32) (p2 : Int32) (p3 : Int32) (p4 : Int32) : zP Int32 := (z_pu ((((p1 <<< (16 &&& 31)) ||| (p2 <<< (6 &&& 31))) ||| (p3 <<< (3 &&& 31))) ||| p4))
set_option maxHeartbeats 4000000 in
set_option maxRecDepth 100000 in
theorem s_X4_code (p1 : Int32) (p2 : Int32) (p3 : Int32) (p4 : Int32) : z_Sound yX4_code cX4_code 4 (some .int) 1 20 (fun D b => [.int p1, .int p2, .int p3, .int p4]) z_ivI (p_X4_code p1 p2 p3 p4) := by
  refine z_ofSim rfl (by intro D b; exact Nat.le_of_ble_eq_true rfl) (fun X C hT => ?_)
  unfold p_X4_code
  refine r_sub [(0, .int p1), (1, .int p2), (2, .int p3), (3, .int p4)] rfl ?_
  refine r_iload_n (pc := 0) C dX4_code_0 rfl rfl ?_
  refine r_bipush (pc := 1) C dX4_code_1 kb_16 ?_
  refine r_ishl (pc := 3) C dX4_code_3 ?_
  refine r_iload_n (pc := 4) C dX4_code_4 rfl rfl ?_
  refine r_bipush (pc := 5) C dX4_code_5 kb_6 ?_
  refine r_ishl (pc := 7) C dX4_code_7 ?_
  refine r_ior (pc := 8) C dX4_code_8 ?_
  refine r_iload_n (pc := 9) C dX4_code_9 rfl rfl ?_
  refine r_iconst (pc := 10) C dX4_code_10 ki_3 ?_
  refine r_ishl (pc := 11) C dX4_code_11 ?_
  refine r_ior (pc := 12) C dX4_code_12 ?_
  refine r_iload_n (pc := 13) C dX4_code_13 rfl rfl ?_
  refine r_ior (pc := 14) C dX4_code_14 ?_
  exact r_iret (pc := 15) C dX4_code_15
noncomputable def p_X4_redirected (p1 : Int32) (p2 : Int32) (p3 : Int32) : zP Int32 := (z_pu (((p2 <<< (16 &&& 31)) ||| (p1 &&& 65528)) ||| p3))
set_option maxHeartbeats 4000000 in
set_option maxRecDepth 100000 in
theorem s_X4_redirected (p1 : Int32) (p2 : Int32) (p3 : Int32) : z_Sound yX4_redirected cX4_redirected 3 (some .int) 1 20 (fun D b => [.int p1, .int p2, .int p3]) z_ivI (p_X4_redirected p1 p2 p3) := by
  refine z_ofSim rfl (by intro D b; exact Nat.le_of_ble_eq_true rfl) (fun X C hT => ?_)
  unfold p_X4_redirected
  refine r_sub [(0, .int p1), (1, .int p2), (2, .int p3)] rfl ?_
  refine r_iload_n (pc := 0) C dX4_redirected_0 rfl rfl ?_
  refine r_bipush (pc := 1) C dX4_redirected_1 kb_16 ?_
  refine r_ishl (pc := 3) C dX4_redirected_3 ?_
  refine r_iload_n (pc := 4) C dX4_redirected_4 rfl rfl ?_
  refine r_ldc (pc := 5) C dX4_redirected_5 kc_X4_15 ?_
  refine r_iand (pc := 7) C dX4_redirected_7 ?_
  refine r_ior (pc := 8) C dX4_redirected_8 ?_
  refine r_iload_n (pc := 9) C dX4_redirected_9 rfl rfl ?_
  refine r_ior (pc := 10) C dX4_redirected_10 ?_
  exact r_iret (pc := 11) C dX4_redirected_11
noncomputable def p_X4_arrival (p1 : Int32) : zP Int32 := (z_pu (p1 >>> (16 &&& 31)))
set_option maxHeartbeats 4000000 in
set_option maxRecDepth 100000 in
theorem s_X4_arrival (p1 : Int32) : z_Sound yX4_arrival cX4_arrival 1 (some .int) 1 20 (fun D b => [.int p1]) z_ivI (p_X4_arrival p1) := by
  refine z_ofSim rfl (by intro D b; exact Nat.le_of_ble_eq_true rfl) (fun X C hT => ?_)
  unfold p_X4_arrival
  refine r_sub [(0, .int p1)] rfl ?_
  refine r_iload_n (pc := 0) C dX4_arrival_0 rfl rfl ?_
  refine r_bipush (pc := 1) C dX4_arrival_1 kb_16 ?_
  refine r_ishr (pc := 3) C dX4_arrival_3 ?_
  exact r_iret (pc := 4) C dX4_arrival_4
noncomputable def p_X4_origin (p1 : Int32) : zP Int32 := (z_pu ((p1 >>> (3 &&& 31)) &&& 7))
set_option maxHeartbeats 4000000 in
set_option maxRecDepth 100000 in
theorem s_X4_origin (p1 : Int32) : z_Sound yX4_origin cX4_origin 1 (some .int) 1 20 (fun D b => [.int p1]) z_ivI (p_X4_origin p1) := by
  refine z_ofSim rfl (by intro D b; exact Nat.le_of_ble_eq_true rfl) (fun X C hT => ?_)
  unfold p_X4_origin
  refine r_sub [(0, .int p1)] rfl ?_
  refine r_iload_n (pc := 0) C dX4_origin_0 rfl rfl ?_
  refine r_iconst (pc := 1) C dX4_origin_1 ki_3 ?_
  refine r_ishr (pc := 2) C dX4_origin_2 ?_
  refine r_bipush (pc := 3) C dX4_origin_3 kb_7 ?_
  refine r_iand (pc := 5) C dX4_origin_5 ?_
  exact r_iret (pc := 6) C dX4_origin_6
noncomputable def p_X4_target (p1 : Int32) : zP Int32 := (z_pu (p1 &&& 7))
set_option maxHeartbeats 4000000 in
set_option maxRecDepth 100000 in
theorem s_X4_target (p1 : Int32) : z_Sound yX4_target cX4_target 1 (some .int) 1 20 (fun D b => [.int p1]) z_ivI (p_X4_target p1) := by
  refine z_ofSim rfl (by intro D b; exact Nat.le_of_ble_eq_true rfl) (fun X C hT => ?_)
  unfold p_X4_target
  refine r_sub [(0, .int p1)] rfl ?_
  refine r_iload_n (pc := 0) C dX4_target_0 rfl rfl ?_
  refine r_bipush (pc := 1) C dX4_target_1 kb_7 ?_
  refine r_iand (pc := 3) C dX4_target_3 ?_
  exact r_iret (pc := 4) C dX4_target_4
noncomputable def p_X4_copy (a : Nat) (p1 : Nat) : zP Unit := (z_bd (z_gI 4 p1 1) (fun v1 => (z_bd (z_pI 4 a 1 v1) (fun _ => (z_bd (z_gA 4 p1 0) (fun v2 => (z_bd (z_gA 4 a 0) (fun v3 => (z_bd (z_gI 4 a 1) (fun v4 => (z_bd (z_cp v2 0 v3 0 v4) (fun _ => (z_pu ())))))))))))))
set_option maxHeartbeats 4000000 in
set_option maxRecDepth 100000 in
theorem s_X4_copy (a : Nat) (p1 : Nat) : z_Sound yX4_copy cX4_copy 2 none 1 20 (fun D b => [.ref (b + a), .ref (b + p1)]) z_ivV (p_X4_copy a p1) := by
  refine z_ofSim rfl (by intro D b; exact Nat.le_of_ble_eq_true rfl) (fun X C hT => ?_)
  unfold p_X4_copy
  refine r_sub [(0, .ref (x_b X + a)), (1, .ref (x_b X + p1))] rfl ?_
  refine r_aload_n (pc := 0) C dX4_copy_0 rfl rfl ?_
  refine r_aload_n (pc := 1) C dX4_copy_1 rfl rfl ?_
  refine r_getI (pc := 2) C dX4_copy_2 fl_X4_16 rfl (fun v1 => ?_)
  refine r_putI (pc := 5) C dX4_copy_5 fl_X4_16 rfl rfl ?_
  refine r_aload_n (pc := 8) C dX4_copy_8 rfl rfl ?_
  refine r_getA (pc := 9) C dX4_copy_9 fl_X4_9 rfl (fun v2 => ?_)
  refine r_iconst (pc := 12) C dX4_copy_12 ki_0 ?_
  refine r_aload_n (pc := 13) C dX4_copy_13 rfl rfl ?_
  refine r_getA (pc := 14) C dX4_copy_14 fl_X4_9 rfl (fun v3 => ?_)
  refine r_iconst (pc := 17) C dX4_copy_17 ki_0 ?_
  refine r_aload_n (pc := 18) C dX4_copy_18 rfl rfl ?_
  refine r_getI (pc := 19) C dX4_copy_19 fl_X4_16 rfl (fun v4 => ?_)
  refine r_copy (pc := 22) C dX4_copy_22 ml_X4_20 na_acopy sm_acopy ini_sys (Nat.le_of_ble_eq_true rfl) (Nat.le_of_ble_eq_true rfl) ?_
  exact r_vret (pc := 25) C dX4_copy_25
noncomputable def p_X4_settle (a : Nat) (p1 : Int32) : zP Unit := (z_bd (z_gA 4 a 0) (fun v1 => (z_bd (z_aI 11 v1 p1) (fun v2 => (z_jn (τ := Int32) (z_lp (fun (t4 : Int32) => (if t4 ≤ 0 then (z_pu (.inr (.inl t4))) else (z_bd (z_gA 4 a 0) (fun v5 => (z_bd (z_aI 11 v5 (t4 - 1)) (fun v6 => (if v6 ≤ v2 then (z_pu (.inr (.inl t4))) else (z_bd (z_gA 4 a 0) (fun v7 => (z_bd (z_gA 4 a 0) (fun v8 => (z_bd (z_aI 11 v8 (t4 - 1)) (fun v9 => (z_bd (z_sI 11 v7 t4 v9) (fun _ => (z_pu (.inl ((t4 + (-1)))))))))))))))))))) p1) (fun t3 => (z_bd (z_gA 4 a 0) (fun v10 => (z_bd (z_sI 11 v10 t3 v2) (fun _ => (z_pu ())))))))))))
set_option maxHeartbeats 4000000 in
set_option maxRecDepth 100000 in
theorem s_X4_settle (a : Nat) (p1 : Int32) : z_Sound yX4_settle cX4_settle 4 none 1 20 (fun D b => [.ref (b + a), .int p1]) z_ivV (p_X4_settle a p1) := by
  refine z_ofSim rfl (by intro D b; exact Nat.le_of_ble_eq_true rfl) (fun X C hT => ?_)
  unfold p_X4_settle
  refine r_sub [(0, .ref (x_b X + a)), (1, .int p1)] rfl ?_
  refine r_aload_n (pc := 0) C dX4_settle_0 rfl rfl ?_
  refine r_getA (pc := 1) C dX4_settle_1 fl_X4_9 rfl (fun v1 => ?_)
  refine r_iload_n (pc := 4) C dX4_settle_4 rfl rfl ?_
  refine r_iald (pc := 5) C dX4_settle_5 (fun v2 => ?_)
  refine r_sti_n (pc := 6) C 2 [(0, .ref (x_b X + a)), (1, .int p1), (2, .int v2)] dX4_settle_6 rfl (by decide) rfl ?_
  refine r_iload_n (pc := 7) C dX4_settle_7 rfl rfl ?_
  refine r_sti_n (pc := 8) C 3 [(0, .ref (x_b X + a)), (2, .int v2), (3, .int p1)] dX4_settle_8 rfl (by decide) rfl ?_
  refine r_jn 45 (fun (t3 : Int32) => [(0, .ref (x_b X + a)), (2, .int v2), (3, .int t3)]) (fun (t3 : Int32) => []) (fun t3 => ?_) ?_
  · refine r_aload_n (pc := 45) C dX4_settle_45 rfl rfl ?_
    refine r_getA (pc := 46) C dX4_settle_46 fl_X4_9 rfl (fun v10 => ?_)
    refine r_iload_n (pc := 49) C dX4_settle_49 rfl rfl ?_
    refine r_iload_n (pc := 50) C dX4_settle_50 rfl rfl ?_
    refine r_iast (pc := 51) C dX4_settle_51 ?_
    exact r_vret (pc := 52) C dX4_settle_52
  · refine r_sub [(0, .ref (x_b X + a)), (2, .int v2), (3, .int p1)] rfl ?_
    refine r_lp (pc := 9) (fun (t4 : Int32) => [(0, .ref (x_b X + a)), (2, .int v2), (3, .int t4)]) (fun t4 => ?_) p1
    refine r_iload_n (pc := 9) C dX4_settle_9 rfl rfl ?_
    refine r_if_le (pc := 10) C (tgt := 45) dX4_settle_10 rfl (fun _ => ?_) (fun _ => ?_)
    · refine r_sub [(0, .ref (x_b X + a)), (2, .int v2), (3, .int t4)] rfl ?_
      exact r_up (r_br (τ := Int32) t4)
    · refine r_aload_n (pc := 13) C dX4_settle_13 rfl rfl ?_
      refine r_getA (pc := 14) C dX4_settle_14 fl_X4_9 rfl (fun v5 => ?_)
      refine r_iload_n (pc := 17) C dX4_settle_17 rfl rfl ?_
      refine r_iconst (pc := 18) C dX4_settle_18 ki_1 ?_
      refine r_isub (pc := 19) C dX4_settle_19 ?_
      refine r_iald (pc := 20) C dX4_settle_20 (fun v6 => ?_)
      refine r_iload_n (pc := 21) C dX4_settle_21 rfl rfl ?_
      refine r_icmp_le (pc := 22) C (tgt := 45) dX4_settle_22 rfl (fun _ => ?_) (fun _ => ?_)
      · refine r_sub [(0, .ref (x_b X + a)), (2, .int v2), (3, .int t4)] rfl ?_
        exact r_up (r_br (τ := Int32) t4)
      · refine r_aload_n (pc := 25) C dX4_settle_25 rfl rfl ?_
        refine r_getA (pc := 26) C dX4_settle_26 fl_X4_9 rfl (fun v7 => ?_)
        refine r_iload_n (pc := 29) C dX4_settle_29 rfl rfl ?_
        refine r_aload_n (pc := 30) C dX4_settle_30 rfl rfl ?_
        refine r_getA (pc := 31) C dX4_settle_31 fl_X4_9 rfl (fun v8 => ?_)
        refine r_iload_n (pc := 34) C dX4_settle_34 rfl rfl ?_
        refine r_iconst (pc := 35) C dX4_settle_35 ki_1 ?_
        refine r_isub (pc := 36) C dX4_settle_36 ?_
        refine r_iald (pc := 37) C dX4_settle_37 (fun v9 => ?_)
        refine r_iast (pc := 38) C dX4_settle_38 ?_
        refine r_inc (pc := 39) C (-1) [(0, .ref (x_b X + a)), (2, .int v2), (3, .int (t4 + (-1)))] dX4_settle_39 rfl ki_m1 (by decide) rfl ?_
        refine r_goto (pc := 42) C (tgt := 9) dX4_settle_42 rfl ?_
        refine r_sub [(0, .ref (x_b X + a)), (2, .int v2), (3, .int (t4 + (-1)))] rfl ?_
        exact r_br (τ := Int32) ((t4 + (-1)))
noncomputable def p_X4_add (a : Nat) (p1 : Int32) : zP Unit := (z_bd (z_gI 4 a 1) (fun v1 => (z_bd (z_gA 4 a 0) (fun v2 => (z_bd (z_al 11 v2) (fun v3 => (if v3 ≤ v1 then (z_pu ()) else (z_bd (z_gA 4 a 0) (fun v4 => (z_bd (z_gI 4 a 1) (fun v5 => (z_bd (z_sI 11 v4 v5 p1) (fun _ => (z_bd (z_gI 4 a 1) (fun v6 => (z_bd (z_pI 4 a 1 (v6 + 1)) (fun _ => (z_bd (z_gI 4 a 1) (fun v7 => (z_bd (z_cv 4 a (p_X4_settle a (v7 - 1))) (fun _ => (z_pu ()))))))))))))))))))))))
set_option maxHeartbeats 4000000 in
set_option maxRecDepth 100000 in
theorem s_X4_add (a : Nat) (p1 : Int32) : z_Sound yX4_add cX4_add 2 none 2 43 (fun D b => [.ref (b + a), .int p1]) z_ivV (p_X4_add a p1) := by
  refine z_ofSim rfl (by intro D b; exact Nat.le_of_ble_eq_true rfl) (fun X C hT => ?_)
  unfold p_X4_add
  refine r_sub [(0, .ref (x_b X + a)), (1, .int p1)] rfl ?_
  refine r_aload_n (pc := 0) C dX4_add_0 rfl rfl ?_
  refine r_getI (pc := 1) C dX4_add_1 fl_X4_16 rfl (fun v1 => ?_)
  refine r_aload_n (pc := 4) C dX4_add_4 rfl rfl ?_
  refine r_getA (pc := 5) C dX4_add_5 fl_X4_9 rfl (fun v2 => ?_)
  refine r_alen (pc := 8) C (by decide) dX4_add_8 (fun v3 => ?_)
  refine r_icmp_ge (pc := 9) C (tgt := 42) dX4_add_9 rfl (fun _ => ?_) (fun _ => ?_)
  · exact r_vret (pc := 42) C dX4_add_42
  · refine r_aload_n (pc := 12) C dX4_add_12 rfl rfl ?_
    refine r_getA (pc := 13) C dX4_add_13 fl_X4_9 rfl (fun v4 => ?_)
    refine r_aload_n (pc := 16) C dX4_add_16 rfl rfl ?_
    refine r_getI (pc := 17) C dX4_add_17 fl_X4_16 rfl (fun v5 => ?_)
    refine r_iload_n (pc := 20) C dX4_add_20 rfl rfl ?_
    refine r_iast (pc := 21) C dX4_add_21 ?_
    refine r_aload_n (pc := 22) C dX4_add_22 rfl rfl ?_
    refine r_dup (pc := 23) C dX4_add_23 rfl ?_
    refine r_getI (pc := 24) C dX4_add_24 fl_X4_16 rfl (fun v6 => ?_)
    refine r_iconst (pc := 27) C dX4_add_27 ki_1 ?_
    refine r_iadd (pc := 28) C dX4_add_28 ?_
    refine r_putI (pc := 29) C dX4_add_29 fl_X4_16 rfl rfl ?_
    refine r_aload_n (pc := 32) C dX4_add_32 rfl rfl ?_
    refine r_aload_n (pc := 33) C dX4_add_33 rfl rfl ?_
    refine r_getI (pc := 34) C dX4_add_34 fl_X4_16 rfl (fun v7 => ?_)
    refine r_iconst (pc := 37) C dX4_add_37 ki_1 ?_
    refine r_isub (pc := 38) C dX4_add_38 ?_
    refine r_cVV (pc := 39) C [.int (v7 - 1)] [] (z_KX.zero hT) (s_X4_settle a (v7 - 1)) mt_X4_settle zc_4 dX4_add_39 ml_X4_26 im_X4_settle se_X4_settle rfl rfl rfl (Nat.le_of_ble_eq_true rfl) ⟨Nat.le_of_ble_eq_true rfl, Nat.le_of_ble_eq_true rfl⟩ ?_
    exact r_vret (pc := 42) C dX4_add_42
noncomputable def p_X4_arrivedBy (a : Nat) (p1 : Int32) : zP Int32 := (z_lp (fun (t1 : Int32) => (z_bd (z_gI 4 a 1) (fun v2 => (if v2 ≤ t1 then (z_pu (.inr t1)) else (z_bd (z_gA 4 a 0) (fun v3 => (z_bd (z_aI 11 v3 t1) (fun v4 => (z_bd (p_X4_arrival v4) (fun r5 => (if p1 < r5 then (z_pu (.inr t1)) else (z_pu (.inl ((t1 + 1))))))))))))))) 0)
set_option maxHeartbeats 4000000 in
set_option maxRecDepth 100000 in
theorem s_X4_arrivedBy (a : Nat) (p1 : Int32) : z_Sound yX4_arrivedBy cX4_arrivedBy 3 (some .int) 2 40 (fun D b => [.ref (b + a), .int p1]) z_ivI (p_X4_arrivedBy a p1) := by
  refine z_ofSim rfl (by intro D b; exact Nat.le_of_ble_eq_true rfl) (fun X C hT => ?_)
  unfold p_X4_arrivedBy
  refine r_sub [(0, .ref (x_b X + a)), (1, .int p1)] rfl ?_
  refine r_iconst (pc := 0) C dX4_arrivedBy_0 ki_0 ?_
  refine r_sti_n (pc := 1) C 2 [(0, .ref (x_b X + a)), (1, .int p1), (2, .int 0)] dX4_arrivedBy_1 rfl (by decide) rfl ?_
  refine r_sub [(0, .ref (x_b X + a)), (1, .int p1), (2, .int 0)] rfl ?_
  refine r_lp (pc := 2) (fun (t1 : Int32) => [(0, .ref (x_b X + a)), (1, .int p1), (2, .int t1)]) (fun t1 => ?_) 0
  refine r_iload_n (pc := 2) C dX4_arrivedBy_2 rfl rfl ?_
  refine r_aload_n (pc := 3) C dX4_arrivedBy_3 rfl rfl ?_
  refine r_getI (pc := 4) C dX4_arrivedBy_4 fl_X4_16 rfl (fun v2 => ?_)
  refine r_icmp_ge (pc := 7) C (tgt := 29) dX4_arrivedBy_7 rfl (fun _ => ?_) (fun _ => ?_)
  · refine r_iload_n (pc := 29) C dX4_arrivedBy_29 rfl rfl ?_
    exact r_up (r_iret (pc := 30) C dX4_arrivedBy_30)
  · refine r_aload_n (pc := 10) C dX4_arrivedBy_10 rfl rfl ?_
    refine r_getA (pc := 11) C dX4_arrivedBy_11 fl_X4_9 rfl (fun v3 => ?_)
    refine r_iload_n (pc := 14) C dX4_arrivedBy_14 rfl rfl ?_
    refine r_iald (pc := 15) C dX4_arrivedBy_15 (fun v4 => ?_)
    refine r_cSI (pc := 16) C [.int v4] [] (z_KX.up (z_KX.zero hT)) (s_X4_arrival v4) mt_X4_arrival dX4_arrivedBy_16 ml_X4_30 sm_X4_arrival rfl rfl rfl (Nat.le_of_ble_eq_true rfl) ⟨Nat.le_of_ble_eq_true rfl, Nat.le_of_ble_eq_true rfl⟩ (fun r5 => ?_)
    refine r_iload_n (pc := 19) C dX4_arrivedBy_19 rfl rfl ?_
    refine r_icmp_gt (pc := 20) C (tgt := 29) dX4_arrivedBy_20 rfl (fun _ => ?_) (fun _ => ?_)
    · refine r_iload_n (pc := 29) C dX4_arrivedBy_29 rfl rfl ?_
      exact r_up (r_iret (pc := 30) C dX4_arrivedBy_30)
    · refine r_inc (pc := 23) C 1 [(0, .ref (x_b X + a)), (1, .int p1), (2, .int (t1 + 1))] dX4_arrivedBy_23 rfl ki_1 (by decide) rfl ?_
      refine r_goto (pc := 26) C (tgt := 2) dX4_arrivedBy_26 rfl ?_
      refine r_sub [(0, .ref (x_b X + a)), (1, .int p1), (2, .int (t1 + 1))] rfl ?_
      exact r_br (τ := Int32) ((t1 + 1))
noncomputable def p_X4_keepOfFront (a : Nat) (p1 : Int32) (p2 : Int32) : zP Unit := (if p2 < 0 then (z_pu ()) else (if p1 < p2 then (z_pu ()) else (z_bd (z_gI 4 a 1) (fun v1 => (if p1 ≤ v1 then (z_bd (z_gA 4 a 0) (fun v2 => (z_bd (z_gA 4 a 0) (fun v3 => (z_bd (z_gI 4 a 1) (fun v4 => (z_bd (z_cp v2 p1 v3 p2 (v4 - p1)) (fun _ => (z_bd (z_gI 4 a 1) (fun v5 => (z_bd (z_pI 4 a 1 (v5 - (p1 - p2))) (fun _ => (if p2 ≤ 0 then (z_pu ()) else (z_lp (fun (t6 : Int32) => (z_bd (z_gI 4 a 1) (fun v7 => (if v7 ≤ t6 then (z_pu (.inr ())) else (z_bd (z_cv 4 a (p_X4_settle a t6)) (fun _ => (z_pu (.inl ((t6 + 1)))))))))) 1)))))))))))))) else (z_pu ()))))))
set_option maxHeartbeats 4000000 in
set_option maxRecDepth 100000 in
theorem s_X4_keepOfFront (a : Nat) (p1 : Int32) (p2 : Int32) : z_Sound yX4_keepOfFront cX4_keepOfFront 4 none 2 43 (fun D b => [.ref (b + a), .int p1, .int p2]) z_ivV (p_X4_keepOfFront a p1 p2) := by
  refine z_ofSim rfl (by intro D b; exact Nat.le_of_ble_eq_true rfl) (fun X C hT => ?_)
  unfold p_X4_keepOfFront
  refine r_sub [(0, .ref (x_b X + a)), (1, .int p1), (2, .int p2)] rfl ?_
  refine r_iload_n (pc := 0) C dX4_keepOfFront_0 rfl rfl ?_
  refine r_if_lt (pc := 1) C (tgt := 17) dX4_keepOfFront_1 rfl (fun _ => ?_) (fun _ => ?_)
  · exact r_vret (pc := 17) C dX4_keepOfFront_17
  · refine r_iload_n (pc := 4) C dX4_keepOfFront_4 rfl rfl ?_
    refine r_iload_n (pc := 5) C dX4_keepOfFront_5 rfl rfl ?_
    refine r_icmp_gt (pc := 6) C (tgt := 17) dX4_keepOfFront_6 rfl (fun _ => ?_) (fun _ => ?_)
    · exact r_vret (pc := 17) C dX4_keepOfFront_17
    · refine r_iload_n (pc := 9) C dX4_keepOfFront_9 rfl rfl ?_
      refine r_aload_n (pc := 10) C dX4_keepOfFront_10 rfl rfl ?_
      refine r_getI (pc := 11) C dX4_keepOfFront_11 fl_X4_16 rfl (fun v1 => ?_)
      refine r_icmp_le (pc := 14) C (tgt := 18) dX4_keepOfFront_14 rfl (fun _ => ?_) (fun _ => ?_)
      · refine r_aload_n (pc := 18) C dX4_keepOfFront_18 rfl rfl ?_
        refine r_getA (pc := 19) C dX4_keepOfFront_19 fl_X4_9 rfl (fun v2 => ?_)
        refine r_iload_n (pc := 22) C dX4_keepOfFront_22 rfl rfl ?_
        refine r_aload_n (pc := 23) C dX4_keepOfFront_23 rfl rfl ?_
        refine r_getA (pc := 24) C dX4_keepOfFront_24 fl_X4_9 rfl (fun v3 => ?_)
        refine r_iload_n (pc := 27) C dX4_keepOfFront_27 rfl rfl ?_
        refine r_aload_n (pc := 28) C dX4_keepOfFront_28 rfl rfl ?_
        refine r_getI (pc := 29) C dX4_keepOfFront_29 fl_X4_16 rfl (fun v4 => ?_)
        refine r_iload_n (pc := 32) C dX4_keepOfFront_32 rfl rfl ?_
        refine r_isub (pc := 33) C dX4_keepOfFront_33 ?_
        refine r_copy (pc := 34) C dX4_keepOfFront_34 ml_X4_20 na_acopy sm_acopy ini_sys (Nat.le_of_ble_eq_true rfl) (Nat.le_of_ble_eq_true rfl) ?_
        refine r_aload_n (pc := 37) C dX4_keepOfFront_37 rfl rfl ?_
        refine r_dup (pc := 38) C dX4_keepOfFront_38 rfl ?_
        refine r_getI (pc := 39) C dX4_keepOfFront_39 fl_X4_16 rfl (fun v5 => ?_)
        refine r_iload_n (pc := 42) C dX4_keepOfFront_42 rfl rfl ?_
        refine r_iload_n (pc := 43) C dX4_keepOfFront_43 rfl rfl ?_
        refine r_isub (pc := 44) C dX4_keepOfFront_44 ?_
        refine r_isub (pc := 45) C dX4_keepOfFront_45 ?_
        refine r_putI (pc := 46) C dX4_keepOfFront_46 fl_X4_16 rfl rfl ?_
        refine r_iload_n (pc := 49) C dX4_keepOfFront_49 rfl rfl ?_
        refine r_if_le (pc := 50) C (tgt := 74) dX4_keepOfFront_50 rfl (fun _ => ?_) (fun _ => ?_)
        · exact r_vret (pc := 74) C dX4_keepOfFront_74
        · refine r_iconst (pc := 53) C dX4_keepOfFront_53 ki_1 ?_
          refine r_sti_n (pc := 54) C 3 [(0, .ref (x_b X + a)), (3, .int 1)] dX4_keepOfFront_54 rfl (by decide) rfl ?_
          refine r_sub [(0, .ref (x_b X + a)), (3, .int 1)] rfl ?_
          refine r_lp (pc := 55) (fun (t6 : Int32) => [(0, .ref (x_b X + a)), (3, .int t6)]) (fun t6 => ?_) 1
          refine r_iload_n (pc := 55) C dX4_keepOfFront_55 rfl rfl ?_
          refine r_aload_n (pc := 56) C dX4_keepOfFront_56 rfl rfl ?_
          refine r_getI (pc := 57) C dX4_keepOfFront_57 fl_X4_16 rfl (fun v7 => ?_)
          refine r_icmp_ge (pc := 60) C (tgt := 74) dX4_keepOfFront_60 rfl (fun _ => ?_) (fun _ => ?_)
          · exact r_up (r_vret (pc := 74) C dX4_keepOfFront_74)
          · refine r_aload_n (pc := 63) C dX4_keepOfFront_63 rfl rfl ?_
            refine r_iload_n (pc := 64) C dX4_keepOfFront_64 rfl rfl ?_
            refine r_cVV (pc := 65) C [.int t6] [] (z_KX.up (z_KX.zero hT)) (s_X4_settle a t6) mt_X4_settle zc_4 dX4_keepOfFront_65 ml_X4_26 im_X4_settle se_X4_settle rfl rfl rfl (Nat.le_of_ble_eq_true rfl) ⟨Nat.le_of_ble_eq_true rfl, Nat.le_of_ble_eq_true rfl⟩ ?_
            refine r_inc (pc := 68) C 1 [(0, .ref (x_b X + a)), (3, .int (t6 + 1))] dX4_keepOfFront_68 rfl ki_1 (by decide) rfl ?_
            refine r_goto (pc := 71) C (tgt := 55) dX4_keepOfFront_71 rfl ?_
            refine r_sub [(0, .ref (x_b X + a)), (3, .int (t6 + 1))] rfl ?_
            exact r_br (τ := Int32) ((t6 + 1))
      · exact r_vret (pc := 17) C dX4_keepOfFront_17
noncomputable def p_X7_init (a : Nat) : zP Unit := (z_bd (z_na 11 6) (fun q1 => (z_bd (z_pR 7 a 0 (some q1)) (fun _ => (z_bd (z_na 11 6) (fun q2 => (z_bd (z_pR 7 a 1 (some q2)) (fun _ => (z_pu ())))))))))
set_option maxHeartbeats 4000000 in
set_option maxRecDepth 100000 in
theorem s_X7_init (a : Nat) : z_Sound yX7_init cX7_init 1 none 1 20 (fun D b => [.ref (b + a)]) z_ivV (p_X7_init a) := by
  refine z_ofSim rfl (by intro D b; exact Nat.le_of_ble_eq_true rfl) (fun X C hT => ?_)
  unfold p_X7_init
  refine r_sub [(0, .ref (x_b X + a))] rfl ?_
  refine r_aload_n (pc := 0) C dX7_init_0 rfl rfl ?_
  refine r_objInit (pc := 1) C dX7_init_1 ml_X7_3 im_obj cd_obj (Nat.le_of_ble_eq_true rfl) (Nat.le_of_ble_eq_true rfl) ?_
  refine r_aload_n (pc := 4) C dX7_init_4 rfl rfl ?_
  refine r_bipush (pc := 5) C dX7_init_5 kb_6 ?_
  refine r_newa (pc := 7) C (c := 11) (by decide) dX7_init_7 ac_int (fun q1 => ?_)
  refine r_putA (pc := 9) C dX7_init_9 fl_X7_9 rfl (Or.inr ⟨rfl, rfl⟩) ?_
  refine r_aload_n (pc := 12) C dX7_init_12 rfl rfl ?_
  refine r_bipush (pc := 13) C dX7_init_13 kb_6 ?_
  refine r_newa (pc := 15) C (c := 11) (by decide) dX7_init_15 ac_int (fun q2 => ?_)
  refine r_putA (pc := 17) C dX7_init_17 fl_X7_15 rfl (Or.inr ⟨rfl, rfl⟩) ?_
  exact r_vret (pc := 20) C dX7_init_20
noncomputable def p_X7_begin (a : Nat) (p1 : Int32) (p2 : Int32) : zP Unit := (z_bd (z_pI 7 a 2 0) (fun _ => (z_bd (z_pI 7 a 3 p2) (fun _ => (z_bd (z_pI 7 a 4 0) (fun _ => (z_bd (z_pI 7 a 5 p1) (fun _ => (z_bd (z_pI 7 a 6 (-1)) (fun _ => (z_bd (z_pI 7 a 7 0) (fun _ => (z_pu ())))))))))))))
set_option maxHeartbeats 4000000 in
set_option maxRecDepth 100000 in
theorem s_X7_begin (a : Nat) (p1 : Int32) (p2 : Int32) : z_Sound yX7_begin cX7_begin 3 none 1 20 (fun D b => [.ref (b + a), .int p1, .int p2]) z_ivV (p_X7_begin a p1 p2) := by
  refine z_ofSim rfl (by intro D b; exact Nat.le_of_ble_eq_true rfl) (fun X C hT => ?_)
  unfold p_X7_begin
  refine r_sub [(0, .ref (x_b X + a)), (1, .int p1), (2, .int p2)] rfl ?_
  refine r_aload_n (pc := 0) C dX7_begin_0 rfl rfl ?_
  refine r_iconst (pc := 1) C dX7_begin_1 ki_0 ?_
  refine r_putI (pc := 2) C dX7_begin_2 fl_X7_18 rfl rfl ?_
  refine r_aload_n (pc := 5) C dX7_begin_5 rfl rfl ?_
  refine r_iload_n (pc := 6) C dX7_begin_6 rfl rfl ?_
  refine r_putI (pc := 7) C dX7_begin_7 fl_X7_22 rfl rfl ?_
  refine r_aload_n (pc := 10) C dX7_begin_10 rfl rfl ?_
  refine r_iconst (pc := 11) C dX7_begin_11 ki_0 ?_
  refine r_putI (pc := 12) C dX7_begin_12 fl_X7_25 rfl rfl ?_
  refine r_aload_n (pc := 15) C dX7_begin_15 rfl rfl ?_
  refine r_iload_n (pc := 16) C dX7_begin_16 rfl rfl ?_
  refine r_putI (pc := 17) C dX7_begin_17 fl_X7_28 rfl rfl ?_
  refine r_aload_n (pc := 20) C dX7_begin_20 rfl rfl ?_
  refine r_iconst (pc := 21) C dX7_begin_21 ki_m1 ?_
  refine r_putI (pc := 22) C dX7_begin_22 fl_X7_31 rfl rfl ?_
  refine r_aload_n (pc := 25) C dX7_begin_25 rfl rfl ?_
  refine r_iconst (pc := 26) C dX7_begin_26 ki_0 ?_
  refine r_putI (pc := 27) C dX7_begin_27 fl_X7_34 rfl rfl ?_
  exact r_vret (pc := 30) C dX7_begin_30
noncomputable def p_X7_copy (a : Nat) (p1 : Nat) : zP Unit := (z_bd (z_gI 7 p1 2) (fun v1 => (z_bd (z_pI 7 a 2 v1) (fun _ => (z_bd (z_gI 7 p1 3) (fun v2 => (z_bd (z_pI 7 a 3 v2) (fun _ => (z_bd (z_gI 7 p1 4) (fun v3 => (z_bd (z_pI 7 a 4 v3) (fun _ => (z_bd (z_gI 7 p1 5) (fun v4 => (z_bd (z_pI 7 a 5 v4) (fun _ => (z_bd (z_gI 7 p1 6) (fun v5 => (z_bd (z_pI 7 a 6 v5) (fun _ => (z_bd (z_gI 7 p1 7) (fun v6 => (z_bd (z_pI 7 a 7 v6) (fun _ => (z_bd (z_gA 7 p1 0) (fun v7 => (z_bd (z_gA 7 a 0) (fun v8 => (z_bd (z_cp v7 0 v8 0 6) (fun _ => (z_bd (z_gA 7 p1 1) (fun v9 => (z_bd (z_gA 7 a 1) (fun v10 => (z_bd (z_cp v9 0 v10 0 6) (fun _ => (z_pu ())))))))))))))))))))))))))))))))))))))
set_option maxHeartbeats 4000000 in
set_option maxRecDepth 100000 in
theorem s_X7_copy (a : Nat) (p1 : Nat) : z_Sound yX7_copy cX7_copy 2 none 1 20 (fun D b => [.ref (b + a), .ref (b + p1)]) z_ivV (p_X7_copy a p1) := by
  refine z_ofSim rfl (by intro D b; exact Nat.le_of_ble_eq_true rfl) (fun X C hT => ?_)
  unfold p_X7_copy
  refine r_sub [(0, .ref (x_b X + a)), (1, .ref (x_b X + p1))] rfl ?_
  refine r_aload_n (pc := 0) C dX7_copy_0 rfl rfl ?_
  refine r_aload_n (pc := 1) C dX7_copy_1 rfl rfl ?_
  refine r_getI (pc := 2) C dX7_copy_2 fl_X7_18 rfl (fun v1 => ?_)
  refine r_putI (pc := 5) C dX7_copy_5 fl_X7_18 rfl rfl ?_
  refine r_aload_n (pc := 8) C dX7_copy_8 rfl rfl ?_
  refine r_aload_n (pc := 9) C dX7_copy_9 rfl rfl ?_
  refine r_getI (pc := 10) C dX7_copy_10 fl_X7_22 rfl (fun v2 => ?_)
  refine r_putI (pc := 13) C dX7_copy_13 fl_X7_22 rfl rfl ?_
  refine r_aload_n (pc := 16) C dX7_copy_16 rfl rfl ?_
  refine r_aload_n (pc := 17) C dX7_copy_17 rfl rfl ?_
  refine r_getI (pc := 18) C dX7_copy_18 fl_X7_25 rfl (fun v3 => ?_)
  refine r_putI (pc := 21) C dX7_copy_21 fl_X7_25 rfl rfl ?_
  refine r_aload_n (pc := 24) C dX7_copy_24 rfl rfl ?_
  refine r_aload_n (pc := 25) C dX7_copy_25 rfl rfl ?_
  refine r_getI (pc := 26) C dX7_copy_26 fl_X7_28 rfl (fun v4 => ?_)
  refine r_putI (pc := 29) C dX7_copy_29 fl_X7_28 rfl rfl ?_
  refine r_aload_n (pc := 32) C dX7_copy_32 rfl rfl ?_
  refine r_aload_n (pc := 33) C dX7_copy_33 rfl rfl ?_
  refine r_getI (pc := 34) C dX7_copy_34 fl_X7_31 rfl (fun v5 => ?_)
  refine r_putI (pc := 37) C dX7_copy_37 fl_X7_31 rfl rfl ?_
  refine r_aload_n (pc := 40) C dX7_copy_40 rfl rfl ?_
  refine r_aload_n (pc := 41) C dX7_copy_41 rfl rfl ?_
  refine r_getI (pc := 42) C dX7_copy_42 fl_X7_34 rfl (fun v6 => ?_)
  refine r_putI (pc := 45) C dX7_copy_45 fl_X7_34 rfl rfl ?_
  refine r_aload_n (pc := 48) C dX7_copy_48 rfl rfl ?_
  refine r_getA (pc := 49) C dX7_copy_49 fl_X7_9 rfl (fun v7 => ?_)
  refine r_iconst (pc := 52) C dX7_copy_52 ki_0 ?_
  refine r_aload_n (pc := 53) C dX7_copy_53 rfl rfl ?_
  refine r_getA (pc := 54) C dX7_copy_54 fl_X7_9 rfl (fun v8 => ?_)
  refine r_iconst (pc := 57) C dX7_copy_57 ki_0 ?_
  refine r_bipush (pc := 58) C dX7_copy_58 kb_6 ?_
  refine r_copy (pc := 60) C dX7_copy_60 ml_X7_37 na_acopy sm_acopy ini_sys (Nat.le_of_ble_eq_true rfl) (Nat.le_of_ble_eq_true rfl) ?_
  refine r_aload_n (pc := 63) C dX7_copy_63 rfl rfl ?_
  refine r_getA (pc := 64) C dX7_copy_64 fl_X7_15 rfl (fun v9 => ?_)
  refine r_iconst (pc := 67) C dX7_copy_67 ki_0 ?_
  refine r_aload_n (pc := 68) C dX7_copy_68 rfl rfl ?_
  refine r_getA (pc := 69) C dX7_copy_69 fl_X7_15 rfl (fun v10 => ?_)
  refine r_iconst (pc := 72) C dX7_copy_72 ki_0 ?_
  refine r_bipush (pc := 73) C dX7_copy_73 kb_6 ?_
  refine r_copy (pc := 75) C dX7_copy_75 ml_X7_37 na_acopy sm_acopy ini_sys (Nat.le_of_ble_eq_true rfl) (Nat.le_of_ble_eq_true rfl) ?_
  exact r_vret (pc := 78) C dX7_copy_78
noncomputable def p_X7_drives (a : Nat) : zP Int32 := (z_bd (z_gI 7 a 6) (fun v1 => (if v1 = (-1) then (z_pu 0) else (z_pu 1))))
set_option maxHeartbeats 4000000 in
set_option maxRecDepth 100000 in
theorem s_X7_drives (a : Nat) : z_Sound yX7_drives cX7_drives 1 (some .boolean) 1 20 (fun D b => [.ref (b + a)]) z_ivI (p_X7_drives a) := by
  refine z_ofSim rfl (by intro D b; exact Nat.le_of_ble_eq_true rfl) (fun X C hT => ?_)
  unfold p_X7_drives
  refine r_sub [(0, .ref (x_b X + a))] rfl ?_
  refine r_aload_n (pc := 0) C dX7_drives_0 rfl rfl ?_
  refine r_getI (pc := 1) C dX7_drives_1 fl_X7_31 rfl (fun v1 => ?_)
  refine r_iconst (pc := 4) C dX7_drives_4 ki_m1 ?_
  refine r_icmp_eq (pc := 5) C (tgt := 12) dX7_drives_5 rfl (fun _ => ?_) (fun _ => ?_)
  · refine r_iconst (pc := 12) C dX7_drives_12 ki_0 ?_
    exact r_zret1 (pc := 13) C dX7_drives_13 (by decide)
  · refine r_iconst (pc := 8) C dX7_drives_8 ki_1 ?_
    refine r_goto (pc := 9) C (tgt := 13) dX7_drives_9 rfl ?_
    exact r_zret1 (pc := 13) C dX7_drives_13 (by decide)
noncomputable def p_X7_addOrder (a : Nat) (p1 : Int32) (p2 : Int32) : zP Unit := (z_bd (z_gI 7 a 2) (fun v1 => (if 6 ≤ v1 then (z_pu ()) else (z_bd (z_gA 7 a 0) (fun v2 => (z_bd (z_gI 7 a 2) (fun v3 => (z_bd (z_sI 11 v2 v3 p1) (fun _ => (z_bd (z_gA 7 a 1) (fun v4 => (z_bd (z_gI 7 a 2) (fun v5 => (z_bd (z_sI 11 v4 v5 p2) (fun _ => (z_bd (z_gI 7 a 2) (fun v6 => (z_bd (z_pI 7 a 2 (v6 + 1)) (fun _ => (z_pu ()))))))))))))))))))))
set_option maxHeartbeats 4000000 in
set_option maxRecDepth 100000 in
theorem s_X7_addOrder (a : Nat) (p1 : Int32) (p2 : Int32) : z_Sound yX7_addOrder cX7_addOrder 3 none 1 20 (fun D b => [.ref (b + a), .int p1, .int p2]) z_ivV (p_X7_addOrder a p1 p2) := by
  refine z_ofSim rfl (by intro D b; exact Nat.le_of_ble_eq_true rfl) (fun X C hT => ?_)
  unfold p_X7_addOrder
  refine r_sub [(0, .ref (x_b X + a)), (1, .int p1), (2, .int p2)] rfl ?_
  refine r_aload_n (pc := 0) C dX7_addOrder_0 rfl rfl ?_
  refine r_getI (pc := 1) C dX7_addOrder_1 fl_X7_18 rfl (fun v1 => ?_)
  refine r_bipush (pc := 4) C dX7_addOrder_4 kb_6 ?_
  refine r_icmp_ge (pc := 6) C (tgt := 39) dX7_addOrder_6 rfl (fun _ => ?_) (fun _ => ?_)
  · exact r_vret (pc := 39) C dX7_addOrder_39
  · refine r_aload_n (pc := 9) C dX7_addOrder_9 rfl rfl ?_
    refine r_getA (pc := 10) C dX7_addOrder_10 fl_X7_9 rfl (fun v2 => ?_)
    refine r_aload_n (pc := 13) C dX7_addOrder_13 rfl rfl ?_
    refine r_getI (pc := 14) C dX7_addOrder_14 fl_X7_18 rfl (fun v3 => ?_)
    refine r_iload_n (pc := 17) C dX7_addOrder_17 rfl rfl ?_
    refine r_iast (pc := 18) C dX7_addOrder_18 ?_
    refine r_aload_n (pc := 19) C dX7_addOrder_19 rfl rfl ?_
    refine r_getA (pc := 20) C dX7_addOrder_20 fl_X7_15 rfl (fun v4 => ?_)
    refine r_aload_n (pc := 23) C dX7_addOrder_23 rfl rfl ?_
    refine r_getI (pc := 24) C dX7_addOrder_24 fl_X7_18 rfl (fun v5 => ?_)
    refine r_iload_n (pc := 27) C dX7_addOrder_27 rfl rfl ?_
    refine r_iast (pc := 28) C dX7_addOrder_28 ?_
    refine r_aload_n (pc := 29) C dX7_addOrder_29 rfl rfl ?_
    refine r_dup (pc := 30) C dX7_addOrder_30 rfl ?_
    refine r_getI (pc := 31) C dX7_addOrder_31 fl_X7_18 rfl (fun v6 => ?_)
    refine r_iconst (pc := 34) C dX7_addOrder_34 ki_1 ?_
    refine r_iadd (pc := 35) C dX7_addOrder_35 ?_
    refine r_putI (pc := 36) C dX7_addOrder_36 fl_X7_18 rfl rfl ?_
    exact r_vret (pc := 39) C dX7_addOrder_39
noncomputable def p_X7_dropFirstOrder (a : Nat) : zP Unit := (z_bd (z_gI 7 a 2) (fun v1 => (if v1 ≤ 0 then (z_pu ()) else (z_bd (z_gI 7 a 2) (fun v2 => (z_bd (z_pI 7 a 2 (v2 - 1)) (fun _ => (z_bd (z_gA 7 a 0) (fun v3 => (z_bd (z_gA 7 a 0) (fun v4 => (z_bd (z_cp v3 1 v4 0 5) (fun _ => (z_bd (z_gA 7 a 1) (fun v5 => (z_bd (z_gA 7 a 1) (fun v6 => (z_bd (z_cp v5 1 v6 0 5) (fun _ => (z_pu ()))))))))))))))))))))
set_option maxHeartbeats 4000000 in
set_option maxRecDepth 100000 in
theorem s_X7_dropFirstOrder (a : Nat) : z_Sound yX7_dropFirstOrder cX7_dropFirstOrder 1 none 1 20 (fun D b => [.ref (b + a)]) z_ivV (p_X7_dropFirstOrder a) := by
  refine z_ofSim rfl (by intro D b; exact Nat.le_of_ble_eq_true rfl) (fun X C hT => ?_)
  unfold p_X7_dropFirstOrder
  refine r_sub [(0, .ref (x_b X + a))] rfl ?_
  refine r_aload_n (pc := 0) C dX7_dropFirstOrder_0 rfl rfl ?_
  refine r_getI (pc := 1) C dX7_dropFirstOrder_1 fl_X7_18 rfl (fun v1 => ?_)
  refine r_if_le (pc := 4) C (tgt := 45) dX7_dropFirstOrder_4 rfl (fun _ => ?_) (fun _ => ?_)
  · exact r_vret (pc := 45) C dX7_dropFirstOrder_45
  · refine r_aload_n (pc := 7) C dX7_dropFirstOrder_7 rfl rfl ?_
    refine r_dup (pc := 8) C dX7_dropFirstOrder_8 rfl ?_
    refine r_getI (pc := 9) C dX7_dropFirstOrder_9 fl_X7_18 rfl (fun v2 => ?_)
    refine r_iconst (pc := 12) C dX7_dropFirstOrder_12 ki_1 ?_
    refine r_isub (pc := 13) C dX7_dropFirstOrder_13 ?_
    refine r_putI (pc := 14) C dX7_dropFirstOrder_14 fl_X7_18 rfl rfl ?_
    refine r_aload_n (pc := 17) C dX7_dropFirstOrder_17 rfl rfl ?_
    refine r_getA (pc := 18) C dX7_dropFirstOrder_18 fl_X7_9 rfl (fun v3 => ?_)
    refine r_iconst (pc := 21) C dX7_dropFirstOrder_21 ki_1 ?_
    refine r_aload_n (pc := 22) C dX7_dropFirstOrder_22 rfl rfl ?_
    refine r_getA (pc := 23) C dX7_dropFirstOrder_23 fl_X7_9 rfl (fun v4 => ?_)
    refine r_iconst (pc := 26) C dX7_dropFirstOrder_26 ki_0 ?_
    refine r_iconst (pc := 27) C dX7_dropFirstOrder_27 ki_5 ?_
    refine r_copy (pc := 28) C dX7_dropFirstOrder_28 ml_X7_37 na_acopy sm_acopy ini_sys (Nat.le_of_ble_eq_true rfl) (Nat.le_of_ble_eq_true rfl) ?_
    refine r_aload_n (pc := 31) C dX7_dropFirstOrder_31 rfl rfl ?_
    refine r_getA (pc := 32) C dX7_dropFirstOrder_32 fl_X7_15 rfl (fun v5 => ?_)
    refine r_iconst (pc := 35) C dX7_dropFirstOrder_35 ki_1 ?_
    refine r_aload_n (pc := 36) C dX7_dropFirstOrder_36 rfl rfl ?_
    refine r_getA (pc := 37) C dX7_dropFirstOrder_37 fl_X7_15 rfl (fun v6 => ?_)
    refine r_iconst (pc := 40) C dX7_dropFirstOrder_40 ki_0 ?_
    refine r_iconst (pc := 41) C dX7_dropFirstOrder_41 ki_5 ?_
    refine r_copy (pc := 42) C dX7_dropFirstOrder_42 ml_X7_37 na_acopy sm_acopy ini_sys (Nat.le_of_ble_eq_true rfl) (Nat.le_of_ble_eq_true rfl) ?_
    exact r_vret (pc := 45) C dX7_dropFirstOrder_45
noncomputable def p_X0_clear (a : Nat) : zP Unit := (z_bd (z_pI 0 a 10 0) (fun _ => (z_bd (z_pI 0 a 11 0) (fun _ => (z_bd (z_pI 0 a 12 0) (fun _ => (z_bd (z_pI 0 a 13 10) (fun _ => (z_bd (z_pI 0 a 14 5) (fun _ => (z_bd (z_pI 0 a 15 20) (fun _ => (z_bd (z_pI 0 a 16 0) (fun _ => (z_bd (z_pI 0 a 17 0) (fun _ => (z_bd (z_gA 0 a 9) (fun v1 => (z_bd (z_cv 2 v1 (p_X2_clear v1)) (fun _ => (z_bd (z_gA 0 a 9) (fun v3 => (z_bd (z_cv 2 v3 (p_X2_add v3 100)) (fun _ => (z_pu ())))))))))))))))))))))))))
set_option maxHeartbeats 4000000 in
set_option maxRecDepth 100000 in
theorem s_X0_clear (a : Nat) : z_Sound yX0_clear cX0_clear 1 none 2 41 (fun D b => [.ref (b + a)]) z_ivV (p_X0_clear a) := by
  refine z_ofSim rfl (by intro D b; exact Nat.le_of_ble_eq_true rfl) (fun X C hT => ?_)
  unfold p_X0_clear
  refine r_sub [(0, .ref (x_b X + a))] rfl ?_
  refine r_aload_n (pc := 0) C dX0_clear_0 rfl rfl ?_
  refine r_iconst (pc := 1) C dX0_clear_1 ki_0 ?_
  refine r_putI (pc := 2) C dX0_clear_2 fl_X0_49 rfl rfl ?_
  refine r_aload_n (pc := 5) C dX0_clear_5 rfl rfl ?_
  refine r_iconst (pc := 6) C dX0_clear_6 ki_0 ?_
  refine r_putI (pc := 7) C dX0_clear_7 fl_X0_53 rfl rfl ?_
  refine r_aload_n (pc := 10) C dX0_clear_10 rfl rfl ?_
  refine r_iconst (pc := 11) C dX0_clear_11 ki_0 ?_
  refine r_putI (pc := 12) C dX0_clear_12 fl_X0_56 rfl rfl ?_
  refine r_aload_n (pc := 15) C dX0_clear_15 rfl rfl ?_
  refine r_bipush (pc := 16) C dX0_clear_16 kb_10 ?_
  refine r_putI (pc := 18) C dX0_clear_18 fl_X0_59 rfl rfl ?_
  refine r_aload_n (pc := 21) C dX0_clear_21 rfl rfl ?_
  refine r_iconst (pc := 22) C dX0_clear_22 ki_5 ?_
  refine r_putI (pc := 23) C dX0_clear_23 fl_X0_62 rfl rfl ?_
  refine r_aload_n (pc := 26) C dX0_clear_26 rfl rfl ?_
  refine r_bipush (pc := 27) C dX0_clear_27 kb_20 ?_
  refine r_putI (pc := 29) C dX0_clear_29 fl_X0_65 rfl rfl ?_
  refine r_aload_n (pc := 32) C dX0_clear_32 rfl rfl ?_
  refine r_iconst (pc := 33) C dX0_clear_33 ki_0 ?_
  refine r_putI (pc := 34) C dX0_clear_34 fl_X0_68 rfl rfl ?_
  refine r_aload_n (pc := 37) C dX0_clear_37 rfl rfl ?_
  refine r_iconst (pc := 38) C dX0_clear_38 ki_0 ?_
  refine r_putI (pc := 39) C dX0_clear_39 fl_X0_71 rfl rfl ?_
  refine r_aload_n (pc := 42) C dX0_clear_42 rfl rfl ?_
  refine r_getA (pc := 43) C dX0_clear_43 fl_X0_42 rfl (fun v1 => ?_)
  refine r_cVV (pc := 46) C [] [] (z_KX.zero hT) (s_X2_clear v1) mt_X2_clear zc_2 dX0_clear_46 ml_X0_74 im_X2_clear se_X2_clear rfl rfl rfl (Nat.le_of_ble_eq_true rfl) ⟨Nat.le_of_ble_eq_true rfl, Nat.le_of_ble_eq_true rfl⟩ ?_
  refine r_aload_n (pc := 49) C dX0_clear_49 rfl rfl ?_
  refine r_getA (pc := 50) C dX0_clear_50 fl_X0_42 rfl (fun v3 => ?_)
  refine r_bipush (pc := 53) C dX0_clear_53 kb_100 ?_
  refine r_cVV (pc := 55) C [.int 100] [] (z_KX.zero hT) (s_X2_add v3 100) mt_X2_add zc_2 dX0_clear_55 ml_X0_75 im_X2_add se_X2_add rfl rfl rfl (Nat.le_of_ble_eq_true rfl) ⟨Nat.le_of_ble_eq_true rfl, Nat.le_of_ble_eq_true rfl⟩ ?_
  exact r_vret (pc := 58) C dX0_clear_58
noncomputable def p_X0_init (a : Nat) : zP Unit := (z_bd (z_na 11 8) (fun q1 => (z_bd (z_pR 0 a 0 (some q1)) (fun _ => (z_bd (z_na 11 8) (fun q2 => (z_bd (z_pR 0 a 1 (some q2)) (fun _ => (z_bd (z_na 11 8) (fun q3 => (z_bd (z_pR 0 a 2 (some q3)) (fun _ => (z_bd (z_na 11 8) (fun q4 => (z_bd (z_pR 0 a 3 (some q4)) (fun _ => (z_bd (z_na 11 3) (fun q5 => (z_bd (z_pR 0 a 4 (some q5)) (fun _ => (z_bd (z_na 11 3) (fun q6 => (z_bd (z_pR 0 a 5 (some q6)) (fun _ => (z_bd (z_na 11 30) (fun q7 => (z_bd (z_pR 0 a 6 (some q7)) (fun _ => (z_bd (z_na 11 30) (fun q8 => (z_bd (z_pR 0 a 7 (some q8)) (fun _ => (z_bd (z_na 11 30) (fun q9 => (z_bd (z_pR 0 a 8 (some q9)) (fun _ => (z_bd (z_nw 2 3) (fun q10 => (z_bd (p_X2_init q10) (fun _ => (z_bd (z_pR 0 a 9 (some q10)) (fun _ => (z_bd (z_cv 0 a (p_X0_clear a)) (fun _ => (z_pu ())))))))))))))))))))))))))))))))))))))))))))))
set_option maxHeartbeats 4000000 in
set_option maxRecDepth 100000 in
theorem s_X0_init (a : Nat) : z_Sound yX0_init cX0_init 1 none 3 61 (fun D b => [.ref (b + a)]) z_ivV (p_X0_init a) := by
  refine z_ofSim rfl (by intro D b; exact Nat.le_of_ble_eq_true rfl) (fun X C hT => ?_)
  unfold p_X0_init
  refine r_sub [(0, .ref (x_b X + a))] rfl ?_
  refine r_aload_n (pc := 0) C dX0_init_0 rfl rfl ?_
  refine r_objInit (pc := 1) C dX0_init_1 ml_X0_3 im_obj cd_obj (Nat.le_of_ble_eq_true rfl) (Nat.le_of_ble_eq_true rfl) ?_
  refine r_aload_n (pc := 4) C dX0_init_4 rfl rfl ?_
  refine r_bipush (pc := 5) C dX0_init_5 kb_8 ?_
  refine r_newa (pc := 7) C (c := 11) (by decide) dX0_init_7 ac_int (fun q1 => ?_)
  refine r_putA (pc := 9) C dX0_init_9 fl_X0_9 rfl (Or.inr ⟨rfl, rfl⟩) ?_
  refine r_aload_n (pc := 12) C dX0_init_12 rfl rfl ?_
  refine r_bipush (pc := 13) C dX0_init_13 kb_8 ?_
  refine r_newa (pc := 15) C (c := 11) (by decide) dX0_init_15 ac_int (fun q2 => ?_)
  refine r_putA (pc := 17) C dX0_init_17 fl_X0_15 rfl (Or.inr ⟨rfl, rfl⟩) ?_
  refine r_aload_n (pc := 20) C dX0_init_20 rfl rfl ?_
  refine r_bipush (pc := 21) C dX0_init_21 kb_8 ?_
  refine r_newa (pc := 23) C (c := 11) (by decide) dX0_init_23 ac_int (fun q3 => ?_)
  refine r_putA (pc := 25) C dX0_init_25 fl_X0_18 rfl (Or.inr ⟨rfl, rfl⟩) ?_
  refine r_aload_n (pc := 28) C dX0_init_28 rfl rfl ?_
  refine r_bipush (pc := 29) C dX0_init_29 kb_8 ?_
  refine r_newa (pc := 31) C (c := 11) (by decide) dX0_init_31 ac_int (fun q4 => ?_)
  refine r_putA (pc := 33) C dX0_init_33 fl_X0_21 rfl (Or.inr ⟨rfl, rfl⟩) ?_
  refine r_aload_n (pc := 36) C dX0_init_36 rfl rfl ?_
  refine r_iconst (pc := 37) C dX0_init_37 ki_3 ?_
  refine r_newa (pc := 38) C (c := 11) (by decide) dX0_init_38 ac_int (fun q5 => ?_)
  refine r_putA (pc := 40) C dX0_init_40 fl_X0_24 rfl (Or.inr ⟨rfl, rfl⟩) ?_
  refine r_aload_n (pc := 43) C dX0_init_43 rfl rfl ?_
  refine r_iconst (pc := 44) C dX0_init_44 ki_3 ?_
  refine r_newa (pc := 45) C (c := 11) (by decide) dX0_init_45 ac_int (fun q6 => ?_)
  refine r_putA (pc := 47) C dX0_init_47 fl_X0_27 rfl (Or.inr ⟨rfl, rfl⟩) ?_
  refine r_aload_n (pc := 50) C dX0_init_50 rfl rfl ?_
  refine r_bipush (pc := 51) C dX0_init_51 kb_30 ?_
  refine r_newa (pc := 53) C (c := 11) (by decide) dX0_init_53 ac_int (fun q7 => ?_)
  refine r_putA (pc := 55) C dX0_init_55 fl_X0_30 rfl (Or.inr ⟨rfl, rfl⟩) ?_
  refine r_aload_n (pc := 58) C dX0_init_58 rfl rfl ?_
  refine r_bipush (pc := 59) C dX0_init_59 kb_30 ?_
  refine r_newa (pc := 61) C (c := 11) (by decide) dX0_init_61 ac_int (fun q8 => ?_)
  refine r_putA (pc := 63) C dX0_init_63 fl_X0_33 rfl (Or.inr ⟨rfl, rfl⟩) ?_
  refine r_aload_n (pc := 66) C dX0_init_66 rfl rfl ?_
  refine r_bipush (pc := 67) C dX0_init_67 kb_30 ?_
  refine r_newa (pc := 69) C (c := 11) (by decide) dX0_init_69 ac_int (fun q9 => ?_)
  refine r_putA (pc := 71) C dX0_init_71 fl_X0_36 rfl (Or.inr ⟨rfl, rfl⟩) ?_
  refine r_aload_n (pc := 74) C dX0_init_74 rfl rfl ?_
  refine r_new (pc := 75) C dX0_init_75 zc_2 zb_2 cl_X0_39 ins_X2 ini_X2 (fun q10 => ?_)
  refine r_dup (pc := 78) C dX0_init_78 rfl ?_
  refine r_cIN (pc := 79) C [] [.ref (x_b X + q10), .ref (x_b X + a)] (z_KX.zero hT) (s_X2_init q10) mt_X2_init dX0_init_79 (by decide) im_X2_init rfl rfl rfl rfl (Nat.le_of_ble_eq_true rfl) ⟨Nat.le_of_ble_eq_true rfl, Nat.le_of_ble_eq_true rfl⟩ ?_
  refine r_putA (pc := 82) C dX0_init_82 fl_X0_42 rfl (Or.inr ⟨rfl, rfl⟩) ?_
  refine r_aload_n (pc := 85) C dX0_init_85 rfl rfl ?_
  refine r_cVV (pc := 86) C [] [] (z_KX.zero hT) (s_X0_clear a) mt_X0_clear zc_0 dX0_init_86 ml_X0_46 im_X0_clear se_X0_clear rfl rfl rfl (Nat.le_of_ble_eq_true rfl) ⟨Nat.le_of_ble_eq_true rfl, Nat.le_of_ble_eq_true rfl⟩ ?_
  exact r_vret (pc := 89) C dX0_init_89
noncomputable def p_X0_addStation (a : Nat) (p1 : Int32) (p2 : Int32) (p3 : Int32) (p4 : Int32) : zP Unit := (z_bd (z_gI 0 a 10) (fun v1 => (if 8 ≤ v1 then (z_pu ()) else (z_bd (z_gA 0 a 0) (fun v2 => (z_bd (z_gI 0 a 10) (fun v3 => (z_bd (z_sI 11 v2 v3 p1) (fun _ => (z_bd (z_gA 0 a 1) (fun v4 => (z_bd (z_gI 0 a 10) (fun v5 => (z_bd (z_sI 11 v4 v5 p2) (fun _ => (z_bd (z_gA 0 a 2) (fun v6 => (z_bd (z_gI 0 a 10) (fun v7 => (z_bd (z_sI 11 v6 v7 p3) (fun _ => (z_bd (z_gA 0 a 3) (fun v8 => (z_bd (z_gI 0 a 10) (fun v9 => (z_bd (z_sI 11 v8 v9 p4) (fun _ => (z_bd (z_gI 0 a 10) (fun v10 => (z_bd (z_pI 0 a 10 (v10 + 1)) (fun _ => (z_pu ()))))))))))))))))))))))))))))))))
set_option maxHeartbeats 4000000 in
set_option maxRecDepth 100000 in
theorem s_X0_addStation (a : Nat) (p1 : Int32) (p2 : Int32) (p3 : Int32) (p4 : Int32) : z_Sound yX0_addStation cX0_addStation 5 none 1 20 (fun D b => [.ref (b + a), .int p1, .int p2, .int p3, .int p4]) z_ivV (p_X0_addStation a p1 p2 p3 p4) := by
  refine z_ofSim rfl (by intro D b; exact Nat.le_of_ble_eq_true rfl) (fun X C hT => ?_)
  unfold p_X0_addStation
  refine r_sub [(0, .ref (x_b X + a)), (1, .int p1), (2, .int p2), (3, .int p3), (4, .int p4)] rfl ?_
  refine r_aload_n (pc := 0) C dX0_addStation_0 rfl rfl ?_
  refine r_getI (pc := 1) C dX0_addStation_1 fl_X0_49 rfl (fun v1 => ?_)
  refine r_bipush (pc := 4) C dX0_addStation_4 kb_8 ?_
  refine r_icmp_ge (pc := 6) C (tgt := 60) dX0_addStation_6 rfl (fun _ => ?_) (fun _ => ?_)
  · exact r_vret (pc := 60) C dX0_addStation_60
  · refine r_aload_n (pc := 9) C dX0_addStation_9 rfl rfl ?_
    refine r_getA (pc := 10) C dX0_addStation_10 fl_X0_9 rfl (fun v2 => ?_)
    refine r_aload_n (pc := 13) C dX0_addStation_13 rfl rfl ?_
    refine r_getI (pc := 14) C dX0_addStation_14 fl_X0_49 rfl (fun v3 => ?_)
    refine r_iload_n (pc := 17) C dX0_addStation_17 rfl rfl ?_
    refine r_iast (pc := 18) C dX0_addStation_18 ?_
    refine r_aload_n (pc := 19) C dX0_addStation_19 rfl rfl ?_
    refine r_getA (pc := 20) C dX0_addStation_20 fl_X0_15 rfl (fun v4 => ?_)
    refine r_aload_n (pc := 23) C dX0_addStation_23 rfl rfl ?_
    refine r_getI (pc := 24) C dX0_addStation_24 fl_X0_49 rfl (fun v5 => ?_)
    refine r_iload_n (pc := 27) C dX0_addStation_27 rfl rfl ?_
    refine r_iast (pc := 28) C dX0_addStation_28 ?_
    refine r_aload_n (pc := 29) C dX0_addStation_29 rfl rfl ?_
    refine r_getA (pc := 30) C dX0_addStation_30 fl_X0_18 rfl (fun v6 => ?_)
    refine r_aload_n (pc := 33) C dX0_addStation_33 rfl rfl ?_
    refine r_getI (pc := 34) C dX0_addStation_34 fl_X0_49 rfl (fun v7 => ?_)
    refine r_iload_n (pc := 37) C dX0_addStation_37 rfl rfl ?_
    refine r_iast (pc := 38) C dX0_addStation_38 ?_
    refine r_aload_n (pc := 39) C dX0_addStation_39 rfl rfl ?_
    refine r_getA (pc := 40) C dX0_addStation_40 fl_X0_21 rfl (fun v8 => ?_)
    refine r_aload_n (pc := 43) C dX0_addStation_43 rfl rfl ?_
    refine r_getI (pc := 44) C dX0_addStation_44 fl_X0_49 rfl (fun v9 => ?_)
    refine r_iload (pc := 47) C dX0_addStation_47 rfl ?_
    refine r_iast (pc := 49) C dX0_addStation_49 ?_
    refine r_aload_n (pc := 50) C dX0_addStation_50 rfl rfl ?_
    refine r_dup (pc := 51) C dX0_addStation_51 rfl ?_
    refine r_getI (pc := 52) C dX0_addStation_52 fl_X0_49 rfl (fun v10 => ?_)
    refine r_iconst (pc := 55) C dX0_addStation_55 ki_1 ?_
    refine r_iadd (pc := 56) C dX0_addStation_56 ?_
    refine r_putI (pc := 57) C dX0_addStation_57 fl_X0_49 rfl rfl ?_
    exact r_vret (pc := 60) C dX0_addStation_60
noncomputable def p_X0_addTruck (a : Nat) (p1 : Int32) (p2 : Int32) : zP Unit := (z_bd (z_gI 0 a 11) (fun v1 => (if 3 ≤ v1 then (z_pu ()) else (z_bd (z_gA 0 a 4) (fun v2 => (z_bd (z_gI 0 a 11) (fun v3 => (z_bd (z_sI 11 v2 v3 p1) (fun _ => (z_bd (z_gA 0 a 5) (fun v4 => (z_bd (z_gI 0 a 11) (fun v5 => (z_bd (z_sI 11 v4 v5 p2) (fun _ => (z_bd (z_gI 0 a 11) (fun v6 => (z_bd (z_pI 0 a 11 (v6 + 1)) (fun _ => (z_pu ()))))))))))))))))))))
set_option maxHeartbeats 4000000 in
set_option maxRecDepth 100000 in
theorem s_X0_addTruck (a : Nat) (p1 : Int32) (p2 : Int32) : z_Sound yX0_addTruck cX0_addTruck 3 none 1 20 (fun D b => [.ref (b + a), .int p1, .int p2]) z_ivV (p_X0_addTruck a p1 p2) := by
  refine z_ofSim rfl (by intro D b; exact Nat.le_of_ble_eq_true rfl) (fun X C hT => ?_)
  unfold p_X0_addTruck
  refine r_sub [(0, .ref (x_b X + a)), (1, .int p1), (2, .int p2)] rfl ?_
  refine r_aload_n (pc := 0) C dX0_addTruck_0 rfl rfl ?_
  refine r_getI (pc := 1) C dX0_addTruck_1 fl_X0_53 rfl (fun v1 => ?_)
  refine r_iconst (pc := 4) C dX0_addTruck_4 ki_3 ?_
  refine r_icmp_ge (pc := 5) C (tgt := 38) dX0_addTruck_5 rfl (fun _ => ?_) (fun _ => ?_)
  · exact r_vret (pc := 38) C dX0_addTruck_38
  · refine r_aload_n (pc := 8) C dX0_addTruck_8 rfl rfl ?_
    refine r_getA (pc := 9) C dX0_addTruck_9 fl_X0_24 rfl (fun v2 => ?_)
    refine r_aload_n (pc := 12) C dX0_addTruck_12 rfl rfl ?_
    refine r_getI (pc := 13) C dX0_addTruck_13 fl_X0_53 rfl (fun v3 => ?_)
    refine r_iload_n (pc := 16) C dX0_addTruck_16 rfl rfl ?_
    refine r_iast (pc := 17) C dX0_addTruck_17 ?_
    refine r_aload_n (pc := 18) C dX0_addTruck_18 rfl rfl ?_
    refine r_getA (pc := 19) C dX0_addTruck_19 fl_X0_27 rfl (fun v4 => ?_)
    refine r_aload_n (pc := 22) C dX0_addTruck_22 rfl rfl ?_
    refine r_getI (pc := 23) C dX0_addTruck_23 fl_X0_53 rfl (fun v5 => ?_)
    refine r_iload_n (pc := 26) C dX0_addTruck_26 rfl rfl ?_
    refine r_iast (pc := 27) C dX0_addTruck_27 ?_
    refine r_aload_n (pc := 28) C dX0_addTruck_28 rfl rfl ?_
    refine r_dup (pc := 29) C dX0_addTruck_29 rfl ?_
    refine r_getI (pc := 30) C dX0_addTruck_30 fl_X0_53 rfl (fun v6 => ?_)
    refine r_iconst (pc := 33) C dX0_addTruck_33 ki_1 ?_
    refine r_iadd (pc := 34) C dX0_addTruck_34 ?_
    refine r_putI (pc := 35) C dX0_addTruck_35 fl_X0_53 rfl rfl ?_
    exact r_vret (pc := 38) C dX0_addTruck_38
noncomputable def p_X0_addTrip (a : Nat) (p1 : Int32) (p2 : Int32) (p3 : Int32) : zP Unit := (z_bd (z_gI 0 a 12) (fun v1 => (if 30 ≤ v1 then (z_pu ()) else (z_bd (z_gA 0 a 6) (fun v2 => (z_bd (z_gI 0 a 12) (fun v3 => (z_bd (z_sI 11 v2 v3 p1) (fun _ => (z_bd (z_gA 0 a 7) (fun v4 => (z_bd (z_gI 0 a 12) (fun v5 => (z_bd (z_sI 11 v4 v5 p2) (fun _ => (z_bd (z_gA 0 a 8) (fun v6 => (z_bd (z_gI 0 a 12) (fun v7 => (z_bd (z_sI 11 v6 v7 p3) (fun _ => (z_bd (z_gI 0 a 12) (fun v8 => (z_bd (z_pI 0 a 12 (v8 + 1)) (fun _ => (z_pu ()))))))))))))))))))))))))))
set_option maxHeartbeats 4000000 in
set_option maxRecDepth 100000 in
theorem s_X0_addTrip (a : Nat) (p1 : Int32) (p2 : Int32) (p3 : Int32) : z_Sound yX0_addTrip cX0_addTrip 4 none 1 20 (fun D b => [.ref (b + a), .int p1, .int p2, .int p3]) z_ivV (p_X0_addTrip a p1 p2 p3) := by
  refine z_ofSim rfl (by intro D b; exact Nat.le_of_ble_eq_true rfl) (fun X C hT => ?_)
  unfold p_X0_addTrip
  refine r_sub [(0, .ref (x_b X + a)), (1, .int p1), (2, .int p2), (3, .int p3)] rfl ?_
  refine r_aload_n (pc := 0) C dX0_addTrip_0 rfl rfl ?_
  refine r_getI (pc := 1) C dX0_addTrip_1 fl_X0_56 rfl (fun v1 => ?_)
  refine r_bipush (pc := 4) C dX0_addTrip_4 kb_30 ?_
  refine r_icmp_ge (pc := 6) C (tgt := 49) dX0_addTrip_6 rfl (fun _ => ?_) (fun _ => ?_)
  · exact r_vret (pc := 49) C dX0_addTrip_49
  · refine r_aload_n (pc := 9) C dX0_addTrip_9 rfl rfl ?_
    refine r_getA (pc := 10) C dX0_addTrip_10 fl_X0_30 rfl (fun v2 => ?_)
    refine r_aload_n (pc := 13) C dX0_addTrip_13 rfl rfl ?_
    refine r_getI (pc := 14) C dX0_addTrip_14 fl_X0_56 rfl (fun v3 => ?_)
    refine r_iload_n (pc := 17) C dX0_addTrip_17 rfl rfl ?_
    refine r_iast (pc := 18) C dX0_addTrip_18 ?_
    refine r_aload_n (pc := 19) C dX0_addTrip_19 rfl rfl ?_
    refine r_getA (pc := 20) C dX0_addTrip_20 fl_X0_33 rfl (fun v4 => ?_)
    refine r_aload_n (pc := 23) C dX0_addTrip_23 rfl rfl ?_
    refine r_getI (pc := 24) C dX0_addTrip_24 fl_X0_56 rfl (fun v5 => ?_)
    refine r_iload_n (pc := 27) C dX0_addTrip_27 rfl rfl ?_
    refine r_iast (pc := 28) C dX0_addTrip_28 ?_
    refine r_aload_n (pc := 29) C dX0_addTrip_29 rfl rfl ?_
    refine r_getA (pc := 30) C dX0_addTrip_30 fl_X0_36 rfl (fun v6 => ?_)
    refine r_aload_n (pc := 33) C dX0_addTrip_33 rfl rfl ?_
    refine r_getI (pc := 34) C dX0_addTrip_34 fl_X0_56 rfl (fun v7 => ?_)
    refine r_iload_n (pc := 37) C dX0_addTrip_37 rfl rfl ?_
    refine r_iast (pc := 38) C dX0_addTrip_38 ?_
    refine r_aload_n (pc := 39) C dX0_addTrip_39 rfl rfl ?_
    refine r_dup (pc := 40) C dX0_addTrip_40 rfl ?_
    refine r_getI (pc := 41) C dX0_addTrip_41 fl_X0_56 rfl (fun v8 => ?_)
    refine r_iconst (pc := 44) C dX0_addTrip_44 ki_1 ?_
    refine r_iadd (pc := 45) C dX0_addTrip_45 ?_
    refine r_putI (pc := 46) C dX0_addTrip_46 fl_X0_56 rfl rfl ?_
    exact r_vret (pc := 49) C dX0_addTrip_49
noncomputable def p_X0_distance (a : Nat) (p1 : Int32) (p2 : Int32) : zP Int32 := (z_bd (z_gA 0 a 0) (fun v1 => (z_bd (z_aI 11 v1 p1) (fun v2 => (z_bd (z_gA 0 a 0) (fun v3 => (z_bd (z_aI 11 v3 p2) (fun v4 => (z_bd (z_pu ((v2 - v4))) (fun x5 => (z_bd (z_gA 0 a 1) (fun v6 => (z_bd (z_aI 11 v6 p1) (fun v7 => (z_bd (z_gA 0 a 1) (fun v8 => (z_bd (z_aI 11 v8 p2) (fun v9 => (z_bd (z_pu ((v7 - v9))) (fun x10 => (z_jn (τ := Int32) (if 0 ≤ x5 then (z_pu (.inl x5)) else (z_pu (.inl ((-x5))))) (fun t11 => (if 0 ≤ x10 then (z_pu (t11 + x10)) else (z_pu (t11 + (-x10))))))))))))))))))))))))))
set_option maxHeartbeats 4000000 in
set_option maxRecDepth 100000 in
theorem s_X0_distance (a : Nat) (p1 : Int32) (p2 : Int32) : z_Sound yX0_distance cX0_distance 5 (some .int) 1 20 (fun D b => [.ref (b + a), .int p1, .int p2]) z_ivI (p_X0_distance a p1 p2) := by
  refine z_ofSim rfl (by intro D b; exact Nat.le_of_ble_eq_true rfl) (fun X C hT => ?_)
  unfold p_X0_distance
  refine r_sub [(0, .ref (x_b X + a)), (1, .int p1), (2, .int p2)] rfl ?_
  refine r_aload_n (pc := 0) C dX0_distance_0 rfl rfl ?_
  refine r_getA (pc := 1) C dX0_distance_1 fl_X0_9 rfl (fun v1 => ?_)
  refine r_iload_n (pc := 4) C dX0_distance_4 rfl rfl ?_
  refine r_iald (pc := 5) C dX0_distance_5 (fun v2 => ?_)
  refine r_aload_n (pc := 6) C dX0_distance_6 rfl rfl ?_
  refine r_getA (pc := 7) C dX0_distance_7 fl_X0_9 rfl (fun v3 => ?_)
  refine r_iload_n (pc := 10) C dX0_distance_10 rfl rfl ?_
  refine r_iald (pc := 11) C dX0_distance_11 (fun v4 => ?_)
  refine r_isub (pc := 12) C dX0_distance_12 ?_
  refine r_sti_n (pc := 13) C 3 [(0, .ref (x_b X + a)), (1, .int p1), (2, .int p2), (3, .int (v2 - v4))] dX0_distance_13 rfl (by decide) rfl ?_
  refine r_let ((v2 - v4)) (fun x5 => [(0, .ref (x_b X + a)), (1, .int p1), (2, .int p2), (3, .int x5)]) (fun x5 => []) (fun x5 => ?_)
  refine r_aload_n (pc := 14) C dX0_distance_14 rfl rfl ?_
  refine r_getA (pc := 15) C dX0_distance_15 fl_X0_15 rfl (fun v6 => ?_)
  refine r_iload_n (pc := 18) C dX0_distance_18 rfl rfl ?_
  refine r_iald (pc := 19) C dX0_distance_19 (fun v7 => ?_)
  refine r_aload_n (pc := 20) C dX0_distance_20 rfl rfl ?_
  refine r_getA (pc := 21) C dX0_distance_21 fl_X0_15 rfl (fun v8 => ?_)
  refine r_iload_n (pc := 24) C dX0_distance_24 rfl rfl ?_
  refine r_iald (pc := 25) C dX0_distance_25 (fun v9 => ?_)
  refine r_isub (pc := 26) C dX0_distance_26 ?_
  refine r_sti (pc := 27) C [(3, .int x5), (4, .int (v7 - v9))] dX0_distance_27 (by decide) rfl ?_
  refine r_let ((v7 - v9)) (fun x10 => [(3, .int x5), (4, .int x10)]) (fun x10 => []) (fun x10 => ?_)
  refine r_iload_n (pc := 29) C dX0_distance_29 rfl rfl ?_
  refine r_jn 39 (fun (t11 : Int32) => [(4, .int x10)]) (fun (t11 : Int32) => [.int t11]) (fun t11 => ?_) ?_
  · refine r_iload (pc := 39) C dX0_distance_39 rfl ?_
    refine r_if_ge (pc := 41) C (tgt := 50) dX0_distance_41 rfl (fun _ => ?_) (fun _ => ?_)
    · refine r_iload (pc := 50) C dX0_distance_50 rfl ?_
      refine r_iadd (pc := 52) C dX0_distance_52 ?_
      exact r_iret (pc := 53) C dX0_distance_53
    · refine r_iload (pc := 44) C dX0_distance_44 rfl ?_
      refine r_ineg (pc := 46) C dX0_distance_46 ?_
      refine r_goto (pc := 47) C (tgt := 52) dX0_distance_47 rfl ?_
      refine r_iadd (pc := 52) C dX0_distance_52 ?_
      exact r_iret (pc := 53) C dX0_distance_53
  · refine r_if_ge (pc := 30) C (tgt := 38) dX0_distance_30 rfl (fun _ => ?_) (fun _ => ?_)
    · refine r_iload_n (pc := 38) C dX0_distance_38 rfl rfl ?_
      refine r_sub [(4, .int x10)] rfl ?_
      exact r_br (τ := Int32) x5
    · refine r_iload_n (pc := 33) C dX0_distance_33 rfl rfl ?_
      refine r_ineg (pc := 34) C dX0_distance_34 ?_
      refine r_goto (pc := 35) C (tgt := 39) dX0_distance_35 rfl ?_
      refine r_sub [(4, .int x10)] rfl ?_
      exact r_br (τ := Int32) ((-x5))
noncomputable def p_X0_riderMinutes (a : Nat) (p1 : Int32) (p2 : Int32) : zP Int32 := (z_bd (z_cv 0 a (p_X0_distance a p1 p2)) (fun r1 => (z_bd (z_gI 0 a 13) (fun v2 => (z_pu (1 + ((r1 * v2) / 10)))))))
set_option maxHeartbeats 4000000 in
set_option maxRecDepth 100000 in
theorem s_X0_riderMinutes (a : Nat) (p1 : Int32) (p2 : Int32) : z_Sound yX0_riderMinutes cX0_riderMinutes 3 (some .int) 2 44 (fun D b => [.ref (b + a), .int p1, .int p2]) z_ivI (p_X0_riderMinutes a p1 p2) := by
  refine z_ofSim rfl (by intro D b; exact Nat.le_of_ble_eq_true rfl) (fun X C hT => ?_)
  unfold p_X0_riderMinutes
  refine r_sub [(0, .ref (x_b X + a)), (1, .int p1), (2, .int p2)] rfl ?_
  refine r_iconst (pc := 0) C dX0_riderMinutes_0 ki_1 ?_
  refine r_aload_n (pc := 1) C dX0_riderMinutes_1 rfl rfl ?_
  refine r_iload_n (pc := 2) C dX0_riderMinutes_2 rfl rfl ?_
  refine r_iload_n (pc := 3) C dX0_riderMinutes_3 rfl rfl ?_
  refine r_cVI (pc := 4) C [.int p1, .int p2] [.int 1] (z_KX.zero hT) (s_X0_distance a p1 p2) mt_X0_distance zc_0 dX0_riderMinutes_4 ml_X0_79 im_X0_distance se_X0_distance rfl rfl rfl (Nat.le_of_ble_eq_true rfl) ⟨Nat.le_of_ble_eq_true rfl, Nat.le_of_ble_eq_true rfl⟩ (fun r1 => ?_)
  refine r_aload_n (pc := 7) C dX0_riderMinutes_7 rfl rfl ?_
  refine r_getI (pc := 8) C dX0_riderMinutes_8 fl_X0_59 rfl (fun v2 => ?_)
  refine r_imul (pc := 11) C dX0_riderMinutes_11 ?_
  refine r_bipush (pc := 12) C dX0_riderMinutes_12 kb_10 ?_
  refine r_idiv (pc := 14) C dX0_riderMinutes_14 (by decide) ?_
  refine r_iadd (pc := 15) C dX0_riderMinutes_15 ?_
  exact r_iret (pc := 16) C dX0_riderMinutes_16
noncomputable def p_X0_truckMinutes (a : Nat) (p1 : Int32) (p2 : Int32) : zP Int32 := (z_bd (z_cv 0 a (p_X0_distance a p1 p2)) (fun r1 => (z_bd (z_gI 0 a 14) (fun v2 => (z_pu (1 + ((r1 * v2) / 10)))))))
set_option maxHeartbeats 4000000 in
set_option maxRecDepth 100000 in
theorem s_X0_truckMinutes (a : Nat) (p1 : Int32) (p2 : Int32) : z_Sound yX0_truckMinutes cX0_truckMinutes 3 (some .int) 2 44 (fun D b => [.ref (b + a), .int p1, .int p2]) z_ivI (p_X0_truckMinutes a p1 p2) := by
  refine z_ofSim rfl (by intro D b; exact Nat.le_of_ble_eq_true rfl) (fun X C hT => ?_)
  unfold p_X0_truckMinutes
  refine r_sub [(0, .ref (x_b X + a)), (1, .int p1), (2, .int p2)] rfl ?_
  refine r_iconst (pc := 0) C dX0_truckMinutes_0 ki_1 ?_
  refine r_aload_n (pc := 1) C dX0_truckMinutes_1 rfl rfl ?_
  refine r_iload_n (pc := 2) C dX0_truckMinutes_2 rfl rfl ?_
  refine r_iload_n (pc := 3) C dX0_truckMinutes_3 rfl rfl ?_
  refine r_cVI (pc := 4) C [.int p1, .int p2] [.int 1] (z_KX.zero hT) (s_X0_distance a p1 p2) mt_X0_distance zc_0 dX0_truckMinutes_4 ml_X0_79 im_X0_distance se_X0_distance rfl rfl rfl (Nat.le_of_ble_eq_true rfl) ⟨Nat.le_of_ble_eq_true rfl, Nat.le_of_ble_eq_true rfl⟩ (fun r1 => ?_)
  refine r_aload_n (pc := 7) C dX0_truckMinutes_7 rfl rfl ?_
  refine r_getI (pc := 8) C dX0_truckMinutes_8 fl_X0_62 rfl (fun v2 => ?_)
  refine r_imul (pc := 11) C dX0_truckMinutes_11 ?_
  refine r_bipush (pc := 12) C dX0_truckMinutes_12 kb_10 ?_
  refine r_idiv (pc := 14) C dX0_truckMinutes_14 (by decide) ?_
  refine r_iadd (pc := 15) C dX0_truckMinutes_15 ?_
  exact r_iret (pc := 16) C dX0_truckMinutes_16
