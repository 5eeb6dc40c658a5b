noncomputable def p_X8_init (a : Nat) : zP Unit := (z_bd (z_na 10 700) (fun q1 => (z_bd (z_pR 8 a 0 (some q1)) (fun _ => (z_bd (z_nw 1 14) (fun q2 => (z_bd (p_X1_init q2) (fun _ => (z_bd (z_pR 8 a 1 (some q2)) (fun _ => (z_bd (z_nw 3 3) (fun q4 => (z_bd (p_X3_init q4) (fun _ => (z_bd (z_pR 8 a 2 (some q4)) (fun _ => (z_bd (z_nw 6 12) (fun q6 => (z_bd (p_X6_init q6) (fun _ => (z_bd (z_pR 8 a 3 (some q6)) (fun _ => (z_bd (z_na 13 2) (fun q8 => (z_bd (z_pR 8 a 4 (some q8)) (fun _ => (z_bd (z_na 12 2) (fun q9 => (z_bd (z_pR 8 a 5 (some q9)) (fun _ => (z_bd (z_nw 0 18) (fun q10 => (z_bd (p_X0_init q10) (fun _ => (z_bd (z_pR 8 a 9 (some q10)) (fun _ => (z_bd (z_nw 0 18) (fun q12 => (z_bd (p_X0_init q12) (fun _ => (z_bd (z_pR 8 a 10 (some q12)) (fun _ => (z_bd (z_nw 5 13) (fun q14 => (z_bd (p_X5_init q14 q10) (fun _ => (z_bd (z_pR 8 a 6 (some q14)) (fun _ => (z_bd (z_nw 5 13) (fun q16 => (z_bd (p_X5_init q16 q10) (fun _ => (z_bd (z_pR 8 a 7 (some q16)) (fun _ => (z_pu ())))))))))))))))))))))))))))))))))))))))))))))))))))))))
set_option maxHeartbeats 4000000 in
set_option maxRecDepth 100000 in
theorem s_X8_init (a : Nat) : z_Sound yX8_init cX8_init 2 none 4 87 (fun D b => [.ref (b + a)]) z_ivV (p_X8_init a) := by
  refine z_ofSim rfl (by intro D b; exact Nat.le_of_ble_eq_true rfl) (fun X C hT => ?_)
  unfold p_X8_init
  refine r_sub [(0, .ref (x_b X + a))] rfl ?_
  refine r_aload_n (pc := 0) C dX8_init_0 rfl rfl ?_
  refine r_objInit (pc := 1) C dX8_init_1 ml_X8_1 im_obj cd_obj (Nat.le_of_ble_eq_true rfl) (Nat.le_of_ble_eq_true rfl) ?_
  refine r_aload_n (pc := 4) C dX8_init_4 rfl rfl ?_
  refine r_sipush (pc := 5) C dX8_init_5 ks_700 ?_
  refine r_newa (pc := 8) C (c := 10) (by decide) dX8_init_8 ac_byte (fun q1 => ?_)
  refine r_putA (pc := 10) C dX8_init_10 fl_X8_9 rfl (Or.inr ⟨rfl, rfl⟩) ?_
  refine r_aload_n (pc := 13) C dX8_init_13 rfl rfl ?_
  refine r_new (pc := 14) C dX8_init_14 zc_1 zb_1 cl_X8_13 ins_X1 ini_X1 (fun q2 => ?_)
  refine r_dup (pc := 17) C dX8_init_17 rfl ?_
  refine r_cIN (pc := 18) C [] [.ref (x_b X + q2), .ref (x_b X + a)] (z_KX.zero hT) (s_X1_init q2) mt_X1_init dX8_init_18 (by decide) im_X1_init rfl rfl rfl rfl (Nat.le_of_ble_eq_true rfl) ⟨Nat.le_of_ble_eq_true rfl, Nat.le_of_ble_eq_true rfl⟩ ?_
  refine r_putA (pc := 21) C dX8_init_21 fl_X8_16 rfl (Or.inr ⟨rfl, rfl⟩) ?_
  refine r_aload_n (pc := 24) C dX8_init_24 rfl rfl ?_
  refine r_new (pc := 25) C dX8_init_25 zc_3 zb_3 cl_X8_20 ins_X3 ini_X3 (fun q4 => ?_)
  refine r_dup (pc := 28) C dX8_init_28 rfl ?_
  refine r_cIN (pc := 29) C [] [.ref (x_b X + q4), .ref (x_b X + a)] (z_KX.zero hT) (s_X3_init q4) mt_X3_init dX8_init_29 (by decide) im_X3_init rfl rfl rfl rfl (Nat.le_of_ble_eq_true rfl) ⟨Nat.le_of_ble_eq_true rfl, Nat.le_of_ble_eq_true rfl⟩ ?_
  refine r_putA (pc := 32) C dX8_init_32 fl_X8_23 rfl (Or.inr ⟨rfl, rfl⟩) ?_
  refine r_aload_n (pc := 35) C dX8_init_35 rfl rfl ?_
  refine r_new (pc := 36) C dX8_init_36 zc_6 zb_6 cl_X8_27 ins_X6 ini_X6 (fun q6 => ?_)
  refine r_dup (pc := 39) C dX8_init_39 rfl ?_
  refine r_cIN (pc := 40) C [] [.ref (x_b X + q6), .ref (x_b X + a)] (z_KX.zero hT) (s_X6_init q6) mt_X6_init dX8_init_40 (by decide) im_X6_init rfl rfl rfl rfl (Nat.le_of_ble_eq_true rfl) ⟨Nat.le_of_ble_eq_true rfl, Nat.le_of_ble_eq_true rfl⟩ ?_
  refine r_putA (pc := 43) C dX8_init_43 fl_X8_30 rfl (Or.inr ⟨rfl, rfl⟩) ?_
  refine r_aload_n (pc := 46) C dX8_init_46 rfl rfl ?_
  refine r_iconst (pc := 47) C dX8_init_47 ki_2 ?_
  refine r_anewa (pc := 48) C (Or.inl ⟨rfl, rfl⟩) dX8_init_48 cl_X8_34 (fun q8 => ?_)
  refine r_putA (pc := 51) C dX8_init_51 fl_X8_36 rfl (Or.inr ⟨rfl, rfl⟩) ?_
  refine r_aload_n (pc := 54) C dX8_init_54 rfl rfl ?_
  refine r_iconst (pc := 55) C dX8_init_55 ki_2 ?_
  refine r_newa (pc := 56) C (c := 12) (by decide) dX8_init_56 ac_boolean (fun q9 => ?_)
  refine r_putA (pc := 58) C dX8_init_58 fl_X8_40 rfl (Or.inr ⟨rfl, rfl⟩) ?_
  refine r_new (pc := 61) C dX8_init_61 zc_0 zb_0 cl_X8_44 ins_X0 ini_X0 (fun q10 => ?_)
  refine r_dup (pc := 64) C dX8_init_64 rfl ?_
  refine r_cI (pc := 65) C [] [.ref (x_b X + q10)] (z_KX.zero hT) (s_X0_init q10) mt_X0_init dX8_init_65 ml_X8_46 im_X0_init rfl rfl rfl rfl (Nat.le_of_ble_eq_true rfl) ⟨Nat.le_of_ble_eq_true rfl, Nat.le_of_ble_eq_true rfl⟩ ?_
  refine r_sta_n (pc := 68) C 1 [(0, .ref (x_b X + a)), (1, .ref (x_b X + q10))] dX8_init_68 rfl (by decide) rfl ?_
  refine r_aload_n (pc := 69) C dX8_init_69 rfl rfl ?_
  refine r_aload_n (pc := 70) C dX8_init_70 rfl rfl ?_
  refine r_putA (pc := 71) C dX8_init_71 fl_X8_47 rfl (Or.inl rfl) ?_
  refine r_aload_n (pc := 74) C dX8_init_74 rfl rfl ?_
  refine r_new (pc := 75) C dX8_init_75 zc_0 zb_0 cl_X8_44 ins_X0 ini_X0 (fun q12 => ?_)
  refine r_dup (pc := 78) C dX8_init_78 rfl ?_
  refine r_cI (pc := 79) C [] [.ref (x_b X + q12), .ref (x_b X + a)] (z_KX.zero hT) (s_X0_init q12) mt_X0_init dX8_init_79 ml_X8_46 im_X0_init rfl rfl rfl rfl (Nat.le_of_ble_eq_true rfl) ⟨Nat.le_of_ble_eq_true rfl, Nat.le_of_ble_eq_true rfl⟩ ?_
  refine r_putA (pc := 82) C dX8_init_82 fl_X8_51 rfl (Or.inl rfl) ?_
  refine r_aload_n (pc := 85) C dX8_init_85 rfl rfl ?_
  refine r_new (pc := 86) C dX8_init_86 zc_5 zb_5 cl_X8_34 ins_X5 ini_X5 (fun q14 => ?_)
  refine r_dup (pc := 89) C dX8_init_89 rfl ?_
  refine r_aload_n (pc := 90) C dX8_init_90 rfl rfl ?_
  refine r_cI (pc := 91) C [.ref (x_b X + q10)] [.ref (x_b X + q14), .ref (x_b X + a)] (z_KX.zero hT) (s_X5_init q14 q10) mt_X5_init dX8_init_91 ml_X8_54 im_X5_init rfl rfl rfl rfl (Nat.le_of_ble_eq_true rfl) ⟨Nat.le_of_ble_eq_true rfl, Nat.le_of_ble_eq_true rfl⟩ ?_
  refine r_putA (pc := 94) C dX8_init_94 fl_X8_57 rfl (Or.inr ⟨rfl, rfl⟩) ?_
  refine r_aload_n (pc := 97) C dX8_init_97 rfl rfl ?_
  refine r_new (pc := 98) C dX8_init_98 zc_5 zb_5 cl_X8_34 ins_X5 ini_X5 (fun q16 => ?_)
  refine r_dup (pc := 101) C dX8_init_101 rfl ?_
  refine r_aload_n (pc := 102) C dX8_init_102 rfl rfl ?_
  refine r_cI (pc := 103) C [.ref (x_b X + q10)] [.ref (x_b X + q16), .ref (x_b X + a)] (z_KX.zero hT) (s_X5_init q16 q10) mt_X5_init dX8_init_103 ml_X8_54 im_X5_init rfl rfl rfl rfl (Nat.le_of_ble_eq_true rfl) ⟨Nat.le_of_ble_eq_true rfl, Nat.le_of_ble_eq_true rfl⟩ ?_
  refine r_putA (pc := 106) C dX8_init_106 fl_X8_61 rfl (Or.inr ⟨rfl, rfl⟩) ?_
  exact r_vret (pc := 109) C dX8_init_109
noncomputable def p_X8_appendWord (a : Nat) (p1 : Int32) : zP Unit := (z_lp (fun (t1 : Int32) => (if t1 < 0 then (z_pu (.inr ())) else (z_bd (z_gI 8 a 8) (fun v2 => (if 700 ≤ v2 then (z_pu (.inr ())) else (z_bd (z_gA 8 a 0) (fun v3 => (z_bd (z_gI 8 a 8) (fun v4 => (z_bd (z_sB v3 v4 (((p1 >>> (t1 &&& 31)) : Int32).toInt8.toInt32)) (fun _ => (z_bd (z_gI 8 a 8) (fun v5 => (z_bd (z_pI 8 a 8 (v5 + 1)) (fun _ => (z_pu (.inl ((t1 + (-8)))))))))))))))))))) 24)
set_option maxHeartbeats 4000000 in
set_option maxRecDepth 100000 in
theorem s_X8_appendWord (a : Nat) (p1 : Int32) : z_Sound yX8_appendWord cX8_appendWord 3 none 1 20 (fun D b => [.ref (b + a), .int p1]) z_ivV (p_X8_appendWord a p1) := by
  refine z_ofSim rfl (by intro D b; exact Nat.le_of_ble_eq_true rfl) (fun X C hT => ?_)
  unfold p_X8_appendWord
  refine r_sub [(0, .ref (x_b X + a)), (1, .int p1)] rfl ?_
  refine r_bipush (pc := 0) C dX8_appendWord_0 kb_24 ?_
  refine r_sti_n (pc := 2) C 2 [(0, .ref (x_b X + a)), (1, .int p1), (2, .int 24)] dX8_appendWord_2 rfl (by decide) rfl ?_
  refine r_sub [(0, .ref (x_b X + a)), (1, .int p1), (2, .int 24)] rfl ?_
  refine r_lp (pc := 3) (fun (t1 : Int32) => [(0, .ref (x_b X + a)), (1, .int p1), (2, .int t1)]) (fun t1 => ?_) 24
  refine r_iload_n (pc := 3) C dX8_appendWord_3 rfl rfl ?_
  refine r_if_lt (pc := 4) C (tgt := 46) dX8_appendWord_4 rfl (fun _ => ?_) (fun _ => ?_)
  · exact r_up (r_vret (pc := 46) C dX8_appendWord_46)
  · refine r_aload_n (pc := 7) C dX8_appendWord_7 rfl rfl ?_
    refine r_getI (pc := 8) C dX8_appendWord_8 fl_X8_64 rfl (fun v2 => ?_)
    refine r_sipush (pc := 11) C dX8_appendWord_11 ks_700 ?_
    refine r_icmp_ge (pc := 14) C (tgt := 46) dX8_appendWord_14 rfl (fun _ => ?_) (fun _ => ?_)
    · exact r_up (r_vret (pc := 46) C dX8_appendWord_46)
    · refine r_aload_n (pc := 17) C dX8_appendWord_17 rfl rfl ?_
      refine r_getA (pc := 18) C dX8_appendWord_18 fl_X8_9 rfl (fun v3 => ?_)
      refine r_aload_n (pc := 21) C dX8_appendWord_21 rfl rfl ?_
      refine r_getI (pc := 22) C dX8_appendWord_22 fl_X8_64 rfl (fun v4 => ?_)
      refine r_iload_n (pc := 25) C dX8_appendWord_25 rfl rfl ?_
      refine r_iload_n (pc := 26) C dX8_appendWord_26 rfl rfl ?_
      refine r_ishr (pc := 27) C dX8_appendWord_27 ?_
      refine r_i2b (pc := 28) C dX8_appendWord_28 ?_
      refine r_bast (pc := 29) C dX8_appendWord_29 ?_
      refine r_aload_n (pc := 30) C dX8_appendWord_30 rfl rfl ?_
      refine r_dup (pc := 31) C dX8_appendWord_31 rfl ?_
      refine r_getI (pc := 32) C dX8_appendWord_32 fl_X8_64 rfl (fun v5 => ?_)
      refine r_iconst (pc := 35) C dX8_appendWord_35 ki_1 ?_
      refine r_iadd (pc := 36) C dX8_appendWord_36 ?_
      refine r_putI (pc := 37) C dX8_appendWord_37 fl_X8_64 rfl rfl ?_
      refine r_inc (pc := 40) C (-8) [(0, .ref (x_b X + a)), (1, .int p1), (2, .int (t1 + (-8)))] dX8_appendWord_40 rfl ki_m8 (by decide) rfl ?_
      refine r_goto (pc := 43) C (tgt := 3) dX8_appendWord_43 rfl ?_
      refine r_sub [(0, .ref (x_b X + a)), (1, .int p1), (2, .int (t1 + (-8)))] rfl ?_
      exact r_br (τ := Int32) ((t1 + (-8)))
noncomputable def p_X8_append (a : Nat) (p1 : Int32) (p2 : Int32) (p3 : Int32) (p4 : Int32) (p5 : Int32) : zP Int32 := (z_bd (z_gI 8 a 8) (fun v1 => (if (v1 + 20) ≤ 700 then (z_bd (z_cv 8 a (p_X8_appendWord a p1)) (fun _ => (z_bd (z_cv 8 a (p_X8_appendWord a p2)) (fun _ => (z_bd (z_cv 8 a (p_X8_appendWord a p3)) (fun _ => (z_bd (z_cv 8 a (p_X8_appendWord a p4)) (fun _ => (z_bd (z_cv 8 a (p_X8_appendWord a p5)) (fun _ => (z_bd (z_gI 8 a 8) (fun v7 => (z_pu v7))))))))))))) else (z_pu (-1)))))
set_option maxHeartbeats 4000000 in
set_option maxRecDepth 100000 in
theorem s_X8_append (a : Nat) (p1 : Int32) (p2 : Int32) (p3 : Int32) (p4 : Int32) (p5 : Int32) : z_Sound yX8_append cX8_append 6 (some .int) 2 42 (fun D b => [.ref (b + a), .int p1, .int p2, .int p3, .int p4, .int p5]) z_ivI (p_X8_append a p1 p2 p3 p4 p5) := by
  refine z_ofSim rfl (by intro D b; exact Nat.le_of_ble_eq_true rfl) (fun X C hT => ?_)
  unfold p_X8_append
  refine r_sub [(0, .ref (x_b X + a)), (1, .int p1), (2, .int p2), (3, .int p3), (4, .int p4), (5, .int p5)] rfl ?_
  refine r_aload_n (pc := 0) C dX8_append_0 rfl rfl ?_
  refine r_getI (pc := 1) C dX8_append_1 fl_X8_64 rfl (fun v1 => ?_)
  refine r_bipush (pc := 4) C dX8_append_4 kb_20 ?_
  refine r_iadd (pc := 6) C dX8_append_6 ?_
  refine r_sipush (pc := 7) C dX8_append_7 ks_700 ?_
  refine r_icmp_le (pc := 10) C (tgt := 15) dX8_append_10 rfl (fun _ => ?_) (fun _ => ?_)
  · refine r_aload_n (pc := 15) C dX8_append_15 rfl rfl ?_
    refine r_iload_n (pc := 16) C dX8_append_16 rfl rfl ?_
    refine r_cVV (pc := 17) C [.int p1] [] (z_KX.zero hT) (s_X8_appendWord a p1) mt_X8_appendWord zc_8 dX8_append_17 ml_X8_68 im_X8_appendWord se_X8_appendWord rfl rfl rfl (Nat.le_of_ble_eq_true rfl) ⟨Nat.le_of_ble_eq_true rfl, Nat.le_of_ble_eq_true rfl⟩ ?_
    refine r_aload_n (pc := 20) C dX8_append_20 rfl rfl ?_
    refine r_iload_n (pc := 21) C dX8_append_21 rfl rfl ?_
    refine r_cVV (pc := 22) C [.int p2] [] (z_KX.zero hT) (s_X8_appendWord a p2) mt_X8_appendWord zc_8 dX8_append_22 ml_X8_68 im_X8_appendWord se_X8_appendWord rfl rfl rfl (Nat.le_of_ble_eq_true rfl) ⟨Nat.le_of_ble_eq_true rfl, Nat.le_of_ble_eq_true rfl⟩ ?_
    refine r_aload_n (pc := 25) C dX8_append_25 rfl rfl ?_
    refine r_iload_n (pc := 26) C dX8_append_26 rfl rfl ?_
    refine r_cVV (pc := 27) C [.int p3] [] (z_KX.zero hT) (s_X8_appendWord a p3) mt_X8_appendWord zc_8 dX8_append_27 ml_X8_68 im_X8_appendWord se_X8_appendWord rfl rfl rfl (Nat.le_of_ble_eq_true rfl) ⟨Nat.le_of_ble_eq_true rfl, Nat.le_of_ble_eq_true rfl⟩ ?_
    refine r_aload_n (pc := 30) C dX8_append_30 rfl rfl ?_
    refine r_iload (pc := 31) C dX8_append_31 rfl ?_
    refine r_cVV (pc := 33) C [.int p4] [] (z_KX.zero hT) (s_X8_appendWord a p4) mt_X8_appendWord zc_8 dX8_append_33 ml_X8_68 im_X8_appendWord se_X8_appendWord rfl rfl rfl (Nat.le_of_ble_eq_true rfl) ⟨Nat.le_of_ble_eq_true rfl, Nat.le_of_ble_eq_true rfl⟩ ?_
    refine r_aload_n (pc := 36) C dX8_append_36 rfl rfl ?_
    refine r_iload (pc := 37) C dX8_append_37 rfl ?_
    refine r_cVV (pc := 39) C [.int p5] [] (z_KX.zero hT) (s_X8_appendWord a p5) mt_X8_appendWord zc_8 dX8_append_39 ml_X8_68 im_X8_appendWord se_X8_appendWord rfl rfl rfl (Nat.le_of_ble_eq_true rfl) ⟨Nat.le_of_ble_eq_true rfl, Nat.le_of_ble_eq_true rfl⟩ ?_
    refine r_aload_n (pc := 42) C dX8_append_42 rfl rfl ?_
    refine r_getI (pc := 43) C dX8_append_43 fl_X8_64 rfl (fun v7 => ?_)
    exact r_iret (pc := 46) C dX8_append_46
  · refine r_iconst (pc := 13) C dX8_append_13 ki_m1 ?_
    exact r_iret (pc := 14) C dX8_append_14
noncomputable def p_X8_parse (a : Nat) (p1 : Int32) : zP Int32 := (if p1 < 0 then (z_th "java/lang/IllegalArgumentException") else (z_bd (z_gI 8 a 8) (fun v1 => (if p1 ≤ v1 then (z_bd (z_gA 8 a 1) (fun v2 => (z_bd (z_gA 8 a 0) (fun v3 => (z_bd (z_gA 8 a 10) (fun v4 => (z_bd (z_cv 1 v2 (p_X1_readCity v2 v3 p1 v4)) (fun r5 => (z_bd (z_pI 8 a 8 0) (fun _ => (if r5 = 0 then (z_bd (z_gA 8 a 10) (fun v6 => (z_bd (z_gA 8 a 9) (fun v7 => (z_bd (z_pR 8 a 10 (some v7)) (fun _ => (z_bd (z_pR 8 a 9 (some v6)) (fun _ => (z_bd (z_gA 8 a 6) (fun v8 => (z_bd (z_gA 8 a 9) (fun v9 => (z_bd (z_cv 5 v8 (p_X5_begin v8 v9)) (fun _ => (z_bd (z_gA 8 a 2) (fun v11 => (z_bd (z_cv 3 v11 (p_X3_clear v11)) (fun _ => (z_jn (τ := Unit) (z_lp (fun (t14 : Int32) => (if 2 ≤ t14 then (z_pu (.inr (.inl ()))) else (z_bd (z_gA 8 a 5) (fun v15 => (z_bd (z_sZ v15 t14 0) (fun _ => (z_pu (.inl ((t14 + 1)))))))))) 0) (fun t13 => (z_bd (z_gA 8 a 9) (fun v16 => (z_bd (z_gI 0 v16 10) (fun v17 => (z_pu v17))))))))))))))))))))))))) else (z_pu ((-2) - r5))))))))))))) else (z_th "java/lang/IllegalArgumentException")))))
set_option maxHeartbeats 4000000 in
set_option maxRecDepth 100000 in
theorem s_X8_parse (a : Nat) (p1 : Int32) : z_Sound yX8_parse cX8_parse 5 (some .int) 13 309 (fun D b => [.ref (b + a), .int p1]) z_ivI (p_X8_parse a p1) := by
  refine z_ofSim rfl (by intro D b; exact Nat.le_of_ble_eq_true rfl) (fun X C hT => ?_)
  unfold p_X8_parse
  refine r_sub [(0, .ref (x_b X + a)), (1, .int p1)] rfl ?_
  refine r_iload_n (pc := 0) C dX8_parse_0 rfl rfl ?_
  refine r_if_lt (pc := 1) C (tgt := 12) dX8_parse_1 rfl (fun _ => ?_) (fun _ => ?_)
  · exact r_throw (pc := 12) (i := 0) C (z_KX.zero hT) dX8_parse_12 dX8_parse_15 dX8_parse_16 dX8_parse_18 dX8_parse_21 (by decide) rfl cl_X8_72 ti_IAE tw_IAE to_IAE tt_IAE (by decide) (Nat.le_of_ble_eq_true rfl) (Nat.le_of_ble_eq_true rfl)
  · refine r_iload_n (pc := 4) C dX8_parse_4 rfl rfl ?_
    refine r_aload_n (pc := 5) C dX8_parse_5 rfl rfl ?_
    refine r_getI (pc := 6) C dX8_parse_6 fl_X8_64 rfl (fun v1 => ?_)
    refine r_icmp_le (pc := 9) C (tgt := 22) dX8_parse_9 rfl (fun _ => ?_) (fun _ => ?_)
    · refine r_aload_n (pc := 22) C dX8_parse_22 rfl rfl ?_
      refine r_getA (pc := 23) C dX8_parse_23 fl_X8_16 rfl (fun v2 => ?_)
      refine r_aload_n (pc := 26) C dX8_parse_26 rfl rfl ?_
      refine r_getA (pc := 27) C dX8_parse_27 fl_X8_9 rfl (fun v3 => ?_)
      refine r_iload_n (pc := 30) C dX8_parse_30 rfl rfl ?_
      refine r_aload_n (pc := 31) C dX8_parse_31 rfl rfl ?_
      refine r_getA (pc := 32) C dX8_parse_32 fl_X8_51 rfl (fun v4 => ?_)
      refine r_cVI (pc := 35) C [.ref (x_b X + v3), .int p1, .ref (x_b X + v4)] [] (z_KX.zero hT) (s_X1_readCity v2 v3 p1 v4) mt_X1_readCity zc_1 dX8_parse_35 ml_X8_79 im_X1_readCity se_X1_readCity rfl rfl rfl (Nat.le_of_ble_eq_true rfl) ⟨Nat.le_of_ble_eq_true rfl, Nat.le_of_ble_eq_true rfl⟩ (fun r5 => ?_)
      refine r_sti_n (pc := 38) C 2 [(0, .ref (x_b X + a)), (2, .int r5)] dX8_parse_38 rfl (by decide) rfl ?_
      refine r_aload_n (pc := 39) C dX8_parse_39 rfl rfl ?_
      refine r_iconst (pc := 40) C dX8_parse_40 ki_0 ?_
      refine r_putI (pc := 41) C dX8_parse_41 fl_X8_64 rfl rfl ?_
      refine r_iload_n (pc := 44) C dX8_parse_44 rfl rfl ?_
      refine r_if_eq (pc := 45) C (tgt := 53) dX8_parse_45 rfl (fun _ => ?_) (fun _ => ?_)
      · refine r_aload_n (pc := 53) C dX8_parse_53 rfl rfl ?_
        refine r_getA (pc := 54) C dX8_parse_54 fl_X8_51 rfl (fun v6 => ?_)
        refine r_sta_n (pc := 57) C 3 [(0, .ref (x_b X + a)), (3, .ref (x_b X + v6))] dX8_parse_57 rfl (by decide) rfl ?_
        refine r_aload_n (pc := 58) C dX8_parse_58 rfl rfl ?_
        refine r_aload_n (pc := 59) C dX8_parse_59 rfl rfl ?_
        refine r_getA (pc := 60) C dX8_parse_60 fl_X8_47 rfl (fun v7 => ?_)
        refine r_putA (pc := 63) C dX8_parse_63 fl_X8_51 rfl (Or.inl rfl) ?_
        refine r_aload_n (pc := 66) C dX8_parse_66 rfl rfl ?_
        refine r_aload_n (pc := 67) C dX8_parse_67 rfl rfl ?_
        refine r_putA (pc := 68) C dX8_parse_68 fl_X8_47 rfl (Or.inl rfl) ?_
        refine r_aload_n (pc := 71) C dX8_parse_71 rfl rfl ?_
        refine r_getA (pc := 72) C dX8_parse_72 fl_X8_57 rfl (fun v8 => ?_)
        refine r_aload_n (pc := 75) C dX8_parse_75 rfl rfl ?_
        refine r_getA (pc := 76) C dX8_parse_76 fl_X8_47 rfl (fun v9 => ?_)
        refine r_cVV (pc := 79) C [.ref (x_b X + v9)] [] (z_KX.zero hT) (s_X5_begin v8 v9) mt_X5_begin zc_5 dX8_parse_79 ml_X8_83 im_X5_begin se_X5_begin rfl rfl rfl (Nat.le_of_ble_eq_true rfl) ⟨Nat.le_of_ble_eq_true rfl, Nat.le_of_ble_eq_true rfl⟩ ?_
        refine r_aload_n (pc := 82) C dX8_parse_82 rfl rfl ?_
        refine r_getA (pc := 83) C dX8_parse_83 fl_X8_23 rfl (fun v11 => ?_)
        refine r_cVV (pc := 86) C [] [] (z_KX.zero hT) (s_X3_clear v11) mt_X3_clear zc_3 dX8_parse_86 ml_X8_86 im_X3_clear se_X3_clear rfl rfl rfl (Nat.le_of_ble_eq_true rfl) ⟨Nat.le_of_ble_eq_true rfl, Nat.le_of_ble_eq_true rfl⟩ ?_
        refine r_iconst (pc := 89) C dX8_parse_89 ki_0 ?_
        refine r_sti (pc := 90) C [(0, .ref (x_b X + a)), (4, .int 0)] dX8_parse_90 (by decide) rfl ?_
        refine r_jn 112 (fun (t13 : Unit) => [(0, .ref (x_b X + a))]) (fun (t13 : Unit) => []) (fun t13 => ?_) ?_
        · refine r_aload_n (pc := 112) C dX8_parse_112 rfl rfl ?_
          refine r_getA (pc := 113) C dX8_parse_113 fl_X8_47 rfl (fun v16 => ?_)
          refine r_getI (pc := 116) C dX8_parse_116 fl_X8_89 rfl (fun v17 => ?_)
          exact r_iret (pc := 119) C dX8_parse_119
        · refine r_sub [(0, .ref (x_b X + a)), (4, .int 0)] rfl ?_
          refine r_lp (pc := 92) (fun (t14 : Int32) => [(0, .ref (x_b X + a)), (4, .int t14)]) (fun t14 => ?_) 0
          refine r_iload (pc := 92) C dX8_parse_92 rfl ?_
          refine r_iconst (pc := 94) C dX8_parse_94 ki_2 ?_
          refine r_icmp_ge (pc := 95) C (tgt := 112) dX8_parse_95 rfl (fun _ => ?_) (fun _ => ?_)
          · refine r_sub [(0, .ref (x_b X + a))] rfl ?_
            exact r_up (r_br (τ := Unit) ())
          · refine r_aload_n (pc := 98) C dX8_parse_98 rfl rfl ?_
            refine r_getA (pc := 99) C dX8_parse_99 fl_X8_40 rfl (fun v15 => ?_)
            refine r_iload (pc := 102) C dX8_parse_102 rfl ?_
            refine r_iconst (pc := 104) C dX8_parse_104 ki_0 ?_
            refine r_zast (pc := 105) C dX8_parse_105 ?_
            refine r_inc (pc := 106) C 1 [(0, .ref (x_b X + a)), (4, .int (t14 + 1))] dX8_parse_106 rfl ki_1 (by decide) rfl ?_
            refine r_goto (pc := 109) C (tgt := 92) dX8_parse_109 rfl ?_
            refine r_sub [(0, .ref (x_b X + a)), (4, .int (t14 + 1))] rfl ?_
            exact r_br (τ := Int32) ((t14 + 1))
      · refine r_bipush (pc := 48) C dX8_parse_48 kb_m2 ?_
        refine r_iload_n (pc := 50) C dX8_parse_50 rfl rfl ?_
        refine r_isub (pc := 51) C dX8_parse_51 ?_
        exact r_iret (pc := 52) C dX8_parse_52
    · exact r_throw (pc := 12) (i := 0) C (z_KX.zero hT) dX8_parse_12 dX8_parse_15 dX8_parse_16 dX8_parse_18 dX8_parse_21 (by decide) rfl cl_X8_72 ti_IAE tw_IAE to_IAE tt_IAE (by decide) (Nat.le_of_ble_eq_true rfl) (Nat.le_of_ble_eq_true rfl)
noncomputable def p_X8_size (a : Nat) (p1 : Int32) : zP Int32 := (if p1 = 0 then (z_bd (z_gA 8 a 9) (fun v1 => (z_bd (z_gI 0 v1 10) (fun v2 => (z_pu v2))))) else (if p1 = 1 then (z_bd (z_gA 8 a 9) (fun v3 => (z_bd (z_gI 0 v3 11) (fun v4 => (z_pu v4))))) else (if p1 = 2 then (z_bd (z_gA 8 a 9) (fun v5 => (z_bd (z_gI 0 v5 12) (fun v6 => (z_pu v6))))) else (z_th "java/lang/IllegalArgumentException"))))
set_option maxHeartbeats 4000000 in
set_option maxRecDepth 100000 in
theorem s_X8_size (a : Nat) (p1 : Int32) : z_Sound yX8_size cX8_size 2 (some .int) 6 82 (fun D b => [.ref (b + a), .int p1]) z_ivI (p_X8_size a p1) := by
  refine z_ofSim rfl (by intro D b; exact Nat.le_of_ble_eq_true rfl) (fun X C hT => ?_)
  unfold p_X8_size
  refine r_sub [(0, .ref (x_b X + a)), (1, .int p1)] rfl ?_
  refine r_iload_n (pc := 0) C dX8_size_0 rfl rfl ?_
  refine r_ite (fun h1_0 => ?_) (fun h1_0 => ?_)
  · refine r_tin (pc := 1) C (k := 0) (off := 27) (tgt := 28) dX8_size_1 h1_0 (by decide) rfl ?_
    refine r_aload_n (pc := 28) C dX8_size_28 rfl rfl ?_
    refine r_getA (pc := 29) C dX8_size_29 fl_X8_47 rfl (fun v1 => ?_)
    refine r_getI (pc := 32) C dX8_size_32 fl_X8_89 rfl (fun v2 => ?_)
    exact r_iret (pc := 35) C dX8_size_35
  · refine r_ite (fun h1_1 => ?_) (fun h1_1 => ?_)
    · refine r_tin (pc := 1) C (k := 1) (off := 35) (tgt := 36) dX8_size_1 h1_1 (by decide) rfl ?_
      refine r_aload_n (pc := 36) C dX8_size_36 rfl rfl ?_
      refine r_getA (pc := 37) C dX8_size_37 fl_X8_47 rfl (fun v3 => ?_)
      refine r_getI (pc := 40) C dX8_size_40 fl_X8_92 rfl (fun v4 => ?_)
      exact r_iret (pc := 43) C dX8_size_43
    · refine r_ite (fun h1_2 => ?_) (fun h1_2 => ?_)
      · refine r_tin (pc := 1) C (k := 2) (off := 43) (tgt := 44) dX8_size_1 h1_2 (by decide) rfl ?_
        refine r_aload_n (pc := 44) C dX8_size_44 rfl rfl ?_
        refine r_getA (pc := 45) C dX8_size_45 fl_X8_47 rfl (fun v5 => ?_)
        refine r_getI (pc := 48) C dX8_size_48 fl_X8_95 rfl (fun v6 => ?_)
        exact r_iret (pc := 51) C dX8_size_51
      · refine r_tout (pc := 1) C (tgt := 52) dX8_size_1 (by have q0 := lv_neT h1_0 (a := 0) (by decide); have q1 := lv_neT h1_1 (a := 1) (by decide); have q2 := lv_neT h1_2 (a := 2) (by decide); omega) rfl ?_
        exact r_throw (pc := 52) (i := 12) C (z_KX.zero hT) dX8_size_52 dX8_size_55 dX8_size_56 dX8_size_58 dX8_size_61 (by decide) rfl cl_X8_72 ti_IAE tw_IAE to_IAE tt_IAE (by decide) (Nat.le_of_ble_eq_true rfl) (Nat.le_of_ble_eq_true rfl)
noncomputable def p_X8_time (a : Nat) : zP Int32 := (z_bd (z_gA 8 a 6) (fun v1 => (z_bd (z_gI 5 v1 7) (fun v2 => (z_pu v2)))))
set_option maxHeartbeats 4000000 in
set_option maxRecDepth 100000 in
theorem s_X8_time (a : Nat) : z_Sound yX8_time cX8_time 1 (some .int) 1 20 (fun D b => [.ref (b + a)]) z_ivI (p_X8_time a) := by
  refine z_ofSim rfl (by intro D b; exact Nat.le_of_ble_eq_true rfl) (fun X C hT => ?_)
  unfold p_X8_time
  refine r_sub [(0, .ref (x_b X + a))] rfl ?_
  refine r_aload_n (pc := 0) C dX8_time_0 rfl rfl ?_
  refine r_getA (pc := 1) C dX8_time_1 fl_X8_57 rfl (fun v1 => ?_)
  refine r_getI (pc := 4) C dX8_time_4 fl_X8_100 rfl (fun v2 => ?_)
  exact r_iret (pc := 7) C dX8_time_7
noncomputable def p_X8_fleet (a : Nat) : zP Int32 := (z_bd (z_gA 8 a 6) (fun v1 => (z_bd (z_cv 5 v1 (p_X5_allBikes v1)) (fun r2 => (z_pu r2)))))
set_option maxHeartbeats 4000000 in
set_option maxRecDepth 100000 in
theorem s_X8_fleet (a : Nat) : z_Sound yX8_fleet cX8_fleet 1 (some .int) 3 64 (fun D b => [.ref (b + a)]) z_ivI (p_X8_fleet a) := by
  refine z_ofSim rfl (by intro D b; exact Nat.le_of_ble_eq_true rfl) (fun X C hT => ?_)
  unfold p_X8_fleet
  refine r_sub [(0, .ref (x_b X + a))] rfl ?_
  refine r_aload_n (pc := 0) C dX8_fleet_0 rfl rfl ?_
  refine r_getA (pc := 1) C dX8_fleet_1 fl_X8_57 rfl (fun v1 => ?_)
  refine r_cVI (pc := 4) C [] [] (z_KX.zero hT) (s_X5_allBikes v1) mt_X5_allBikes zc_5 dX8_fleet_4 ml_X8_103 im_X5_allBikes se_X5_allBikes rfl rfl rfl (Nat.le_of_ble_eq_true rfl) ⟨Nat.le_of_ble_eq_true rfl, Nat.le_of_ble_eq_true rfl⟩ (fun r2 => ?_)
  exact r_iret (pc := 7) C dX8_fleet_7
noncomputable def p_X8_checkStation (a : Nat) (p1 : Int32) : zP Unit := (if p1 < 0 then (z_th "java/lang/IndexOutOfBoundsException") else (z_bd (z_gA 8 a 9) (fun v1 => (z_bd (z_gI 0 v1 10) (fun v2 => (if p1 < v2 then (z_pu ()) else (z_th "java/lang/IndexOutOfBoundsException")))))))
set_option maxHeartbeats 4000000 in
set_option maxRecDepth 100000 in
theorem s_X8_checkStation (a : Nat) (p1 : Int32) : z_Sound yX8_checkStation cX8_checkStation 2 none 6 82 (fun D b => [.ref (b + a), .int p1]) z_ivV (p_X8_checkStation a p1) := by
  refine z_ofSim rfl (by intro D b; exact Nat.le_of_ble_eq_true rfl) (fun X C hT => ?_)
  unfold p_X8_checkStation
  refine r_sub [(0, .ref (x_b X + a)), (1, .int p1)] rfl ?_
  refine r_iload_n (pc := 0) C dX8_checkStation_0 rfl rfl ?_
  refine r_if_lt (pc := 1) C (tgt := 15) dX8_checkStation_1 rfl (fun _ => ?_) (fun _ => ?_)
  · exact r_throwW (pc := 15) (i := 13) C (z_KX.zero hT) dX8_checkStation_15 dX8_checkStation_18 dX8_checkStation_19 dX8_checkStation_22 dX8_checkStation_25 (by decide) rfl cl_X8_147 ti_IOB tw_IOB to_IOB tt_IOB (by decide) (Nat.le_of_ble_eq_true rfl) (Nat.le_of_ble_eq_true rfl)
  · refine r_iload_n (pc := 4) C dX8_checkStation_4 rfl rfl ?_
    refine r_aload_n (pc := 5) C dX8_checkStation_5 rfl rfl ?_
    refine r_getA (pc := 6) C dX8_checkStation_6 fl_X8_47 rfl (fun v1 => ?_)
    refine r_getI (pc := 9) C dX8_checkStation_9 fl_X8_89 rfl (fun v2 => ?_)
    refine r_icmp_lt (pc := 12) C (tgt := 26) dX8_checkStation_12 rfl (fun _ => ?_) (fun _ => ?_)
    · exact r_vret (pc := 26) C dX8_checkStation_26
    · exact r_throwW (pc := 15) (i := 13) C (z_KX.zero hT) dX8_checkStation_15 dX8_checkStation_18 dX8_checkStation_19 dX8_checkStation_22 dX8_checkStation_25 (by decide) rfl cl_X8_147 ti_IOB tw_IOB to_IOB tt_IOB (by decide) (Nat.le_of_ble_eq_true rfl) (Nat.le_of_ble_eq_true rfl)
noncomputable def p_X8_bikes (a : Nat) (p1 : Int32) : zP Int32 := (z_bd (z_cv 8 a (p_X8_checkStation a p1)) (fun _ => (z_bd (z_gA 8 a 6) (fun v2 => (z_bd (z_gA 5 v2 0) (fun v3 => (z_bd (z_aI 11 v3 p1) (fun v4 => (z_pu v4)))))))))
set_option maxHeartbeats 4000000 in
set_option maxRecDepth 100000 in
theorem s_X8_bikes (a : Nat) (p1 : Int32) : z_Sound yX8_bikes cX8_bikes 2 (some .int) 7 103 (fun D b => [.ref (b + a), .int p1]) z_ivI (p_X8_bikes a p1) := by
  refine z_ofSim rfl (by intro D b; exact Nat.le_of_ble_eq_true rfl) (fun X C hT => ?_)
  unfold p_X8_bikes
  refine r_sub [(0, .ref (x_b X + a)), (1, .int p1)] rfl ?_
  refine r_aload_n (pc := 0) C dX8_bikes_0 rfl rfl ?_
  refine r_iload_n (pc := 1) C dX8_bikes_1 rfl rfl ?_
  refine r_cVV (pc := 2) C [.int p1] [] (z_KX.zero hT) (s_X8_checkStation a p1) mt_X8_checkStation zc_8 dX8_bikes_2 ml_X8_107 im_X8_checkStation se_X8_checkStation rfl rfl rfl (Nat.le_of_ble_eq_true rfl) ⟨Nat.le_of_ble_eq_true rfl, Nat.le_of_ble_eq_true rfl⟩ ?_
  refine r_aload_n (pc := 5) C dX8_bikes_5 rfl rfl ?_
  refine r_getA (pc := 6) C dX8_bikes_6 fl_X8_57 rfl (fun v2 => ?_)
  refine r_getA (pc := 9) C dX8_bikes_9 fl_X8_110 rfl (fun v3 => ?_)
  refine r_iload_n (pc := 12) C dX8_bikes_12 rfl rfl ?_
  refine r_iald (pc := 13) C dX8_bikes_13 (fun v4 => ?_)
  exact r_iret (pc := 14) C dX8_bikes_14
noncomputable def p_X8_freeDocks (a : Nat) (p1 : Int32) : zP Int32 := (z_bd (z_cv 8 a (p_X8_checkStation a p1)) (fun _ => (z_bd (z_gA 8 a 6) (fun v2 => (z_bd (z_cv 5 v2 (p_X5_free v2 p1)) (fun r3 => (z_pu r3)))))))
set_option maxHeartbeats 4000000 in
set_option maxRecDepth 100000 in
theorem s_X8_freeDocks (a : Nat) (p1 : Int32) : z_Sound yX8_freeDocks cX8_freeDocks 2 (some .int) 7 103 (fun D b => [.ref (b + a), .int p1]) z_ivI (p_X8_freeDocks a p1) := by
  refine z_ofSim rfl (by intro D b; exact Nat.le_of_ble_eq_true rfl) (fun X C hT => ?_)
  unfold p_X8_freeDocks
  refine r_sub [(0, .ref (x_b X + a)), (1, .int p1)] rfl ?_
  refine r_aload_n (pc := 0) C dX8_freeDocks_0 rfl rfl ?_
  refine r_iload_n (pc := 1) C dX8_freeDocks_1 rfl rfl ?_
  refine r_cVV (pc := 2) C [.int p1] [] (z_KX.zero hT) (s_X8_checkStation a p1) mt_X8_checkStation zc_8 dX8_freeDocks_2 ml_X8_107 im_X8_checkStation se_X8_checkStation rfl rfl rfl (Nat.le_of_ble_eq_true rfl) ⟨Nat.le_of_ble_eq_true rfl, Nat.le_of_ble_eq_true rfl⟩ ?_
  refine r_aload_n (pc := 5) C dX8_freeDocks_5 rfl rfl ?_
  refine r_getA (pc := 6) C dX8_freeDocks_6 fl_X8_57 rfl (fun v2 => ?_)
  refine r_iload_n (pc := 9) C dX8_freeDocks_9 rfl rfl ?_
  refine r_cVI (pc := 10) C [.int p1] [] (z_KX.zero hT) (s_X5_free v2 p1) mt_X5_free zc_5 dX8_freeDocks_10 ml_X8_114 im_X5_free se_X5_free rfl rfl rfl (Nat.le_of_ble_eq_true rfl) ⟨Nat.le_of_ble_eq_true rfl, Nat.le_of_ble_eq_true rfl⟩ (fun r3 => ?_)
  exact r_iret (pc := 13) C dX8_freeDocks_13
noncomputable def p_X8_brokenDocks (a : Nat) (p1 : Int32) : zP Int32 := (z_bd (z_cv 8 a (p_X8_checkStation a p1)) (fun _ => (z_bd (z_gA 8 a 6) (fun v2 => (z_bd (z_gA 5 v2 1) (fun v3 => (z_bd (z_aI 11 v3 p1) (fun v4 => (z_pu v4)))))))))
set_option maxHeartbeats 4000000 in
set_option maxRecDepth 100000 in
theorem s_X8_brokenDocks (a : Nat) (p1 : Int32) : z_Sound yX8_brokenDocks cX8_brokenDocks 2 (some .int) 7 103 (fun D b => [.ref (b + a), .int p1]) z_ivI (p_X8_brokenDocks a p1) := by
  refine z_ofSim rfl (by intro D b; exact Nat.le_of_ble_eq_true rfl) (fun X C hT => ?_)
  unfold p_X8_brokenDocks
  refine r_sub [(0, .ref (x_b X + a)), (1, .int p1)] rfl ?_
  refine r_aload_n (pc := 0) C dX8_brokenDocks_0 rfl rfl ?_
  refine r_iload_n (pc := 1) C dX8_brokenDocks_1 rfl rfl ?_
  refine r_cVV (pc := 2) C [.int p1] [] (z_KX.zero hT) (s_X8_checkStation a p1) mt_X8_checkStation zc_8 dX8_brokenDocks_2 ml_X8_107 im_X8_checkStation se_X8_checkStation rfl rfl rfl (Nat.le_of_ble_eq_true rfl) ⟨Nat.le_of_ble_eq_true rfl, Nat.le_of_ble_eq_true rfl⟩ ?_
  refine r_aload_n (pc := 5) C dX8_brokenDocks_5 rfl rfl ?_
  refine r_getA (pc := 6) C dX8_brokenDocks_6 fl_X8_57 rfl (fun v2 => ?_)
  refine r_getA (pc := 9) C dX8_brokenDocks_9 fl_X8_118 rfl (fun v3 => ?_)
  refine r_iload_n (pc := 12) C dX8_brokenDocks_12 rfl rfl ?_
  refine r_iald (pc := 13) C dX8_brokenDocks_13 (fun v4 => ?_)
  exact r_iret (pc := 14) C dX8_brokenDocks_14
noncomputable def p_X8_isBalanced (a : Nat) (p1 : Int32) : zP Int32 := (z_bd (z_cv 8 a (p_X8_checkStation a p1)) (fun _ => (z_bd (z_gA 8 a 6) (fun v2 => (z_bd (z_cv 5 v2 (p_X5_missing v2 p1)) (fun r3 => (if r3 = 0 then (z_pu 1) else (z_pu 0))))))))
set_option maxHeartbeats 4000000 in
set_option maxRecDepth 100000 in
theorem s_X8_isBalanced (a : Nat) (p1 : Int32) : z_Sound yX8_isBalanced cX8_isBalanced 2 (some .boolean) 7 103 (fun D b => [.ref (b + a), .int p1]) z_ivI (p_X8_isBalanced a p1) := by
  refine z_ofSim rfl (by intro D b; exact Nat.le_of_ble_eq_true rfl) (fun X C hT => ?_)
  unfold p_X8_isBalanced
  refine r_sub [(0, .ref (x_b X + a)), (1, .int p1)] rfl ?_
  refine r_aload_n (pc := 0) C dX8_isBalanced_0 rfl rfl ?_
  refine r_iload_n (pc := 1) C dX8_isBalanced_1 rfl rfl ?_
  refine r_cVV (pc := 2) C [.int p1] [] (z_KX.zero hT) (s_X8_checkStation a p1) mt_X8_checkStation zc_8 dX8_isBalanced_2 ml_X8_107 im_X8_checkStation se_X8_checkStation rfl rfl rfl (Nat.le_of_ble_eq_true rfl) ⟨Nat.le_of_ble_eq_true rfl, Nat.le_of_ble_eq_true rfl⟩ ?_
  refine r_aload_n (pc := 5) C dX8_isBalanced_5 rfl rfl ?_
  refine r_getA (pc := 6) C dX8_isBalanced_6 fl_X8_57 rfl (fun v2 => ?_)
  refine r_iload_n (pc := 9) C dX8_isBalanced_9 rfl rfl ?_
  refine r_cVI (pc := 10) C [.int p1] [] (z_KX.zero hT) (s_X5_missing v2 p1) mt_X5_missing zc_5 dX8_isBalanced_10 ml_X8_121 im_X5_missing se_X5_missing rfl rfl rfl (Nat.le_of_ble_eq_true rfl) ⟨Nat.le_of_ble_eq_true rfl, Nat.le_of_ble_eq_true rfl⟩ (fun r3 => ?_)
  refine r_if_ne (pc := 13) C (tgt := 20) dX8_isBalanced_13 rfl (fun _ => ?_) (fun _ => ?_)
  · refine r_iconst (pc := 16) C dX8_isBalanced_16 ki_1 ?_
    refine r_goto (pc := 17) C (tgt := 21) dX8_isBalanced_17 rfl ?_
    exact r_zret1 (pc := 21) C dX8_isBalanced_21 (by decide)
  · refine r_iconst (pc := 20) C dX8_isBalanced_20 ki_0 ?_
    exact r_zret1 (pc := 21) C dX8_isBalanced_21 (by decide)
noncomputable def p_X8_imbalance (a : Nat) : zP Int32 := (z_lp (fun (t1 : Int32 × Int32) => (z_bd (z_gA 8 a 9) (fun v2 => (z_bd (z_gI 0 v2 10) (fun v3 => (if v3 ≤ t1.2 then (z_pu (.inr t1.1)) else (z_bd (z_gA 8 a 6) (fun v4 => (z_bd (z_cv 5 v4 (p_X5_missing v4 t1.2)) (fun r5 => (z_bd (z_pu ((t1.1 + r5))) (fun x6 => (z_pu (.inl (x6, (t1.2 + 1)))))))))))))))) (0, 0))
set_option maxHeartbeats 4000000 in
set_option maxRecDepth 100000 in
theorem s_X8_imbalance (a : Nat) : z_Sound yX8_imbalance cX8_imbalance 3 (some .int) 4 84 (fun D b => [.ref (b + a)]) z_ivI (p_X8_imbalance a) := by
  refine z_ofSim rfl (by intro D b; exact Nat.le_of_ble_eq_true rfl) (fun X C hT => ?_)
  unfold p_X8_imbalance
  refine r_sub [(0, .ref (x_b X + a))] rfl ?_
  refine r_iconst (pc := 0) C dX8_imbalance_0 ki_0 ?_
  refine r_sti_n (pc := 1) C 1 [(0, .ref (x_b X + a)), (1, .int 0)] dX8_imbalance_1 rfl (by decide) rfl ?_
  refine r_iconst (pc := 2) C dX8_imbalance_2 ki_0 ?_
  refine r_sti_n (pc := 3) C 2 [(0, .ref (x_b X + a)), (1, .int 0), (2, .int 0)] dX8_imbalance_3 rfl (by decide) rfl ?_
  refine r_sub [(0, .ref (x_b X + a)), (1, .int 0), (2, .int 0)] rfl ?_
  refine r_lp (pc := 4) (fun (t1 : Int32 × Int32) => [(0, .ref (x_b X + a)), (1, .int t1.1), (2, .int t1.2)]) (fun t1 => ?_) (0, 0)
  refine r_iload_n (pc := 4) C dX8_imbalance_4 rfl rfl ?_
  refine r_aload_n (pc := 5) C dX8_imbalance_5 rfl rfl ?_
  refine r_getA (pc := 6) C dX8_imbalance_6 fl_X8_47 rfl (fun v2 => ?_)
  refine r_getI (pc := 9) C dX8_imbalance_9 fl_X8_89 rfl (fun v3 => ?_)
  refine r_icmp_ge (pc := 12) C (tgt := 32) dX8_imbalance_12 rfl (fun _ => ?_) (fun _ => ?_)
  · refine r_iload_n (pc := 32) C dX8_imbalance_32 rfl rfl ?_
    exact r_up (r_iret (pc := 33) C dX8_imbalance_33)
  · refine r_iload_n (pc := 15) C dX8_imbalance_15 rfl rfl ?_
    refine r_aload_n (pc := 16) C dX8_imbalance_16 rfl rfl ?_
    refine r_getA (pc := 17) C dX8_imbalance_17 fl_X8_57 rfl (fun v4 => ?_)
    refine r_iload_n (pc := 20) C dX8_imbalance_20 rfl rfl ?_
    refine r_cVI (pc := 21) C [.int t1.2] [.int t1.1] (z_KX.up (z_KX.zero hT)) (s_X5_missing v4 t1.2) mt_X5_missing zc_5 dX8_imbalance_21 ml_X8_121 im_X5_missing se_X5_missing rfl rfl rfl (Nat.le_of_ble_eq_true rfl) ⟨Nat.le_of_ble_eq_true rfl, Nat.le_of_ble_eq_true rfl⟩ (fun r5 => ?_)
    refine r_iadd (pc := 24) C dX8_imbalance_24 ?_
    refine r_sti_n (pc := 25) C 1 [(0, .ref (x_b X + a)), (1, .int (t1.1 + r5)), (2, .int t1.2)] dX8_imbalance_25 rfl (by decide) rfl ?_
    refine r_let ((t1.1 + r5)) (fun x6 => [(0, .ref (x_b X + a)), (1, .int x6), (2, .int t1.2)]) (fun x6 => []) (fun x6 => ?_)
    refine r_inc (pc := 26) C 1 [(0, .ref (x_b X + a)), (1, .int x6), (2, .int (t1.2 + 1))] dX8_imbalance_26 rfl ki_1 (by decide) rfl ?_
    refine r_goto (pc := 29) C (tgt := 4) dX8_imbalance_29 rfl ?_
    refine r_sub [(0, .ref (x_b X + a)), (1, .int x6), (2, .int (t1.2 + 1))] rfl ?_
    exact r_br (τ := Int32 × Int32) (x6, (t1.2 + 1))
noncomputable def p_X8_nearest (a : Nat) (p1 : Int32) (p2 : Int32) : zP Int32 := (z_bd (z_cv 8 a (p_X8_checkStation a p1)) (fun _ => (z_bd (z_gA 8 a 6) (fun v2 => (z_bd (z_cv 5 v2 (p_X5_nearestOther v2 p1 p2)) (fun r3 => (z_pu r3)))))))
set_option maxHeartbeats 4000000 in
set_option maxRecDepth 100000 in
theorem s_X8_nearest (a : Nat) (p1 : Int32) (p2 : Int32) : z_Sound yX8_nearest cX8_nearest 3 (some .int) 7 103 (fun D b => [.ref (b + a), .int p1, .int p2]) z_ivI (p_X8_nearest a p1 p2) := by
  refine z_ofSim rfl (by intro D b; exact Nat.le_of_ble_eq_true rfl) (fun X C hT => ?_)
  unfold p_X8_nearest
  refine r_sub [(0, .ref (x_b X + a)), (1, .int p1), (2, .int p2)] rfl ?_
  refine r_aload_n (pc := 0) C dX8_nearest_0 rfl rfl ?_
  refine r_iload_n (pc := 1) C dX8_nearest_1 rfl rfl ?_
  refine r_cVV (pc := 2) C [.int p1] [] (z_KX.zero hT) (s_X8_checkStation a p1) mt_X8_checkStation zc_8 dX8_nearest_2 ml_X8_107 im_X8_checkStation se_X8_checkStation rfl rfl rfl (Nat.le_of_ble_eq_true rfl) ⟨Nat.le_of_ble_eq_true rfl, Nat.le_of_ble_eq_true rfl⟩ ?_
  refine r_aload_n (pc := 5) C dX8_nearest_5 rfl rfl ?_
  refine r_getA (pc := 6) C dX8_nearest_6 fl_X8_57 rfl (fun v2 => ?_)
  refine r_iload_n (pc := 9) C dX8_nearest_9 rfl rfl ?_
  refine r_iload_n (pc := 10) C dX8_nearest_10 rfl rfl ?_
  refine r_cVI (pc := 11) C [.int p1, .int p2] [] (z_KX.zero hT) (s_X5_nearestOther v2 p1 p2) mt_X5_nearestOther zc_5 dX8_nearest_11 ml_X8_124 im_X5_nearestOther se_X5_nearestOther rfl rfl rfl (Nat.le_of_ble_eq_true rfl) ⟨Nat.le_of_ble_eq_true rfl, Nat.le_of_ble_eq_true rfl⟩ (fun r3 => ?_)
  exact r_iret (pc := 14) C dX8_nearest_14
noncomputable def p_X8_rideMinutes (a : Nat) (p1 : Int32) (p2 : Int32) : zP Int32 := (z_bd (z_cv 8 a (p_X8_checkStation a p1)) (fun _ => (z_bd (z_cv 8 a (p_X8_checkStation a p2)) (fun _ => (z_bd (z_gA 8 a 9) (fun v3 => (z_bd (z_cv 0 v3 (p_X0_riderMinutes v3 p1 p2)) (fun r4 => (z_pu r4)))))))))
set_option maxHeartbeats 4000000 in
set_option maxRecDepth 100000 in
theorem s_X8_rideMinutes (a : Nat) (p1 : Int32) (p2 : Int32) : z_Sound yX8_rideMinutes cX8_rideMinutes 3 (some .int) 7 103 (fun D b => [.ref (b + a), .int p1, .int p2]) z_ivI (p_X8_rideMinutes a p1 p2) := by
  refine z_ofSim rfl (by intro D b; exact Nat.le_of_ble_eq_true rfl) (fun X C hT => ?_)
  unfold p_X8_rideMinutes
  refine r_sub [(0, .ref (x_b X + a)), (1, .int p1), (2, .int p2)] rfl ?_
  refine r_aload_n (pc := 0) C dX8_rideMinutes_0 rfl rfl ?_
  refine r_iload_n (pc := 1) C dX8_rideMinutes_1 rfl rfl ?_
  refine r_cVV (pc := 2) C [.int p1] [] (z_KX.zero hT) (s_X8_checkStation a p1) mt_X8_checkStation zc_8 dX8_rideMinutes_2 ml_X8_107 im_X8_checkStation se_X8_checkStation rfl rfl rfl (Nat.le_of_ble_eq_true rfl) ⟨Nat.le_of_ble_eq_true rfl, Nat.le_of_ble_eq_true rfl⟩ ?_
  refine r_aload_n (pc := 5) C dX8_rideMinutes_5 rfl rfl ?_
  refine r_iload_n (pc := 6) C dX8_rideMinutes_6 rfl rfl ?_
  refine r_cVV (pc := 7) C [.int p2] [] (z_KX.zero hT) (s_X8_checkStation a p2) mt_X8_checkStation zc_8 dX8_rideMinutes_7 ml_X8_107 im_X8_checkStation se_X8_checkStation rfl rfl rfl (Nat.le_of_ble_eq_true rfl) ⟨Nat.le_of_ble_eq_true rfl, Nat.le_of_ble_eq_true rfl⟩ ?_
  refine r_aload_n (pc := 10) C dX8_rideMinutes_10 rfl rfl ?_
  refine r_getA (pc := 11) C dX8_rideMinutes_11 fl_X8_47 rfl (fun v3 => ?_)
  refine r_iload_n (pc := 14) C dX8_rideMinutes_14 rfl rfl ?_
  refine r_iload_n (pc := 15) C dX8_rideMinutes_15 rfl rfl ?_
  refine r_cVI (pc := 16) C [.int p1, .int p2] [] (z_KX.zero hT) (s_X0_riderMinutes v3 p1 p2) mt_X0_riderMinutes zc_0 dX8_rideMinutes_16 ml_X8_128 im_X0_riderMinutes se_X0_riderMinutes rfl rfl rfl (Nat.le_of_ble_eq_true rfl) ⟨Nat.le_of_ble_eq_true rfl, Nat.le_of_ble_eq_true rfl⟩ (fun r4 => ?_)
  exact r_iret (pc := 19) C dX8_rideMinutes_19
noncomputable def p_X8_quote (a : Nat) (p1 : Int32) (p2 : Int32) : zP Int32 := (z_bd (z_cv 8 a (p_X8_checkStation a p1)) (fun _ => (z_bd (z_cv 8 a (p_X8_checkStation a p2)) (fun _ => (z_bd (z_gA 8 a 6) (fun v3 => (z_bd (z_cv 5 v3 (p_X5_fareNow v3 p1 p2)) (fun r4 => (z_pu r4)))))))))
set_option maxHeartbeats 4000000 in
set_option maxRecDepth 100000 in
theorem s_X8_quote (a : Nat) (p1 : Int32) (p2 : Int32) : z_Sound yX8_quote cX8_quote 3 (some .int) 7 103 (fun D b => [.ref (b + a), .int p1, .int p2]) z_ivI (p_X8_quote a p1 p2) := by
  refine z_ofSim rfl (by intro D b; exact Nat.le_of_ble_eq_true rfl) (fun X C hT => ?_)
  unfold p_X8_quote
  refine r_sub [(0, .ref (x_b X + a)), (1, .int p1), (2, .int p2)] rfl ?_
  refine r_aload_n (pc := 0) C dX8_quote_0 rfl rfl ?_
  refine r_iload_n (pc := 1) C dX8_quote_1 rfl rfl ?_
  refine r_cVV (pc := 2) C [.int p1] [] (z_KX.zero hT) (s_X8_checkStation a p1) mt_X8_checkStation zc_8 dX8_quote_2 ml_X8_107 im_X8_checkStation se_X8_checkStation rfl rfl rfl (Nat.le_of_ble_eq_true rfl) ⟨Nat.le_of_ble_eq_true rfl, Nat.le_of_ble_eq_true rfl⟩ ?_
  refine r_aload_n (pc := 5) C dX8_quote_5 rfl rfl ?_
  refine r_iload_n (pc := 6) C dX8_quote_6 rfl rfl ?_
  refine r_cVV (pc := 7) C [.int p2] [] (z_KX.zero hT) (s_X8_checkStation a p2) mt_X8_checkStation zc_8 dX8_quote_7 ml_X8_107 im_X8_checkStation se_X8_checkStation rfl rfl rfl (Nat.le_of_ble_eq_true rfl) ⟨Nat.le_of_ble_eq_true rfl, Nat.le_of_ble_eq_true rfl⟩ ?_
  refine r_aload_n (pc := 10) C dX8_quote_10 rfl rfl ?_
  refine r_getA (pc := 11) C dX8_quote_11 fl_X8_57 rfl (fun v3 => ?_)
  refine r_iload_n (pc := 14) C dX8_quote_14 rfl rfl ?_
  refine r_iload_n (pc := 15) C dX8_quote_15 rfl rfl ?_
  refine r_cVI (pc := 16) C [.int p1, .int p2] [] (z_KX.zero hT) (s_X5_fareNow v3 p1 p2) mt_X5_fareNow zc_5 dX8_quote_16 ml_X8_132 im_X5_fareNow se_X5_fareNow rfl rfl rfl (Nat.le_of_ble_eq_true rfl) ⟨Nat.le_of_ble_eq_true rfl, Nat.le_of_ble_eq_true rfl⟩ (fun r4 => ?_)
  exact r_iret (pc := 19) C dX8_quote_19
noncomputable def p_X8_bonusAt (a : Nat) (p1 : Int32) : zP Int32 := (z_bd (z_cv 8 a (p_X8_checkStation a p1)) (fun _ => (z_bd (z_gA 8 a 6) (fun v2 => (z_bd (z_cv 5 v2 (p_X5_bonusNow v2 p1)) (fun r3 => (z_pu r3)))))))
set_option maxHeartbeats 4000000 in
set_option maxRecDepth 100000 in
theorem s_X8_bonusAt (a : Nat) (p1 : Int32) : z_Sound yX8_bonusAt cX8_bonusAt 2 (some .int) 7 103 (fun D b => [.ref (b + a), .int p1]) z_ivI (p_X8_bonusAt a p1) := by
  refine z_ofSim rfl (by intro D b; exact Nat.le_of_ble_eq_true rfl) (fun X C hT => ?_)
  unfold p_X8_bonusAt
  refine r_sub [(0, .ref (x_b X + a)), (1, .int p1)] rfl ?_
  refine r_aload_n (pc := 0) C dX8_bonusAt_0 rfl rfl ?_
  refine r_iload_n (pc := 1) C dX8_bonusAt_1 rfl rfl ?_
  refine r_cVV (pc := 2) C [.int p1] [] (z_KX.zero hT) (s_X8_checkStation a p1) mt_X8_checkStation zc_8 dX8_bonusAt_2 ml_X8_107 im_X8_checkStation se_X8_checkStation rfl rfl rfl (Nat.le_of_ble_eq_true rfl) ⟨Nat.le_of_ble_eq_true rfl, Nat.le_of_ble_eq_true rfl⟩ ?_
  refine r_aload_n (pc := 5) C dX8_bonusAt_5 rfl rfl ?_
  refine r_getA (pc := 6) C dX8_bonusAt_6 fl_X8_57 rfl (fun v2 => ?_)
  refine r_iload_n (pc := 9) C dX8_bonusAt_9 rfl rfl ?_
  refine r_cVI (pc := 10) C [.int p1] [] (z_KX.zero hT) (s_X5_bonusNow v2 p1) mt_X5_bonusNow zc_5 dX8_bonusAt_10 ml_X8_135 im_X5_bonusNow se_X5_bonusNow rfl rfl rfl (Nat.le_of_ble_eq_true rfl) ⟨Nat.le_of_ble_eq_true rfl, Nat.le_of_ble_eq_true rfl⟩ (fun r3 => ?_)
  exact r_iret (pc := 13) C dX8_bonusAt_13
noncomputable def p_X8_bestDeal (a : Nat) (p1 : Int32) : zP Int32 := (z_bd (z_cv 8 a (p_X8_checkStation a p1)) (fun _ => (z_lp (fun (t2 : Int32 × Int32 × Int32) => (z_bd (z_gA 8 a 9) (fun v3 => (z_bd (z_gI 0 v3 10) (fun v4 => (if v4 ≤ t2.2.2 then (z_pu (.inr t2.1)) else (if t2.2.2 = p1 then (z_pu (.inl (t2.1, t2.2.1, (t2.2.2 + 1)))) else (z_bd (z_gA 8 a 6) (fun v5 => (z_bd (z_cv 5 v5 (p_X5_free v5 t2.2.2)) (fun r6 => (if r6 = 0 then (z_pu (.inl (t2.1, t2.2.1, (t2.2.2 + 1)))) else (z_bd (z_gA 8 a 6) (fun v7 => (z_bd (z_cv 5 v7 (p_X5_fareNow v7 p1 t2.2.2)) (fun r8 => (z_bd (z_gA 8 a 6) (fun v9 => (z_bd (z_cv 5 v9 (p_X5_bonusNow v9 t2.2.2)) (fun r10 => (z_bd (z_pu ((r8 - r10))) (fun x11 => (if t2.1 = (-1) then (z_pu (.inl (t2.2.2, x11, (t2.2.2 + 1)))) else (if t2.2.1 ≤ x11 then (z_pu (.inl (t2.1, t2.2.1, (t2.2.2 + 1)))) else (z_pu (.inl (t2.2.2, x11, (t2.2.2 + 1)))))))))))))))))))))))))))) ((-1), 0, 0))))
set_option maxHeartbeats 4000000 in
set_option maxRecDepth 100000 in
theorem s_X8_bestDeal (a : Nat) (p1 : Int32) : z_Sound yX8_bestDeal cX8_bestDeal 6 (some .int) 7 103 (fun D b => [.ref (b + a), .int p1]) z_ivI (p_X8_bestDeal a p1) := by
  refine z_ofSim rfl (by intro D b; exact Nat.le_of_ble_eq_true rfl) (fun X C hT => ?_)
  unfold p_X8_bestDeal
  refine r_sub [(0, .ref (x_b X + a)), (1, .int p1)] rfl ?_
  refine r_aload_n (pc := 0) C dX8_bestDeal_0 rfl rfl ?_
  refine r_iload_n (pc := 1) C dX8_bestDeal_1 rfl rfl ?_
  refine r_cVV (pc := 2) C [.int p1] [] (z_KX.zero hT) (s_X8_checkStation a p1) mt_X8_checkStation zc_8 dX8_bestDeal_2 ml_X8_107 im_X8_checkStation se_X8_checkStation rfl rfl rfl (Nat.le_of_ble_eq_true rfl) ⟨Nat.le_of_ble_eq_true rfl, Nat.le_of_ble_eq_true rfl⟩ ?_
  refine r_iconst (pc := 5) C dX8_bestDeal_5 ki_m1 ?_
  refine r_sti_n (pc := 6) C 2 [(0, .ref (x_b X + a)), (1, .int p1), (2, .int (-1))] dX8_bestDeal_6 rfl (by decide) rfl ?_
  refine r_iconst (pc := 7) C dX8_bestDeal_7 ki_0 ?_
  refine r_sti_n (pc := 8) C 3 [(0, .ref (x_b X + a)), (1, .int p1), (2, .int (-1)), (3, .int 0)] dX8_bestDeal_8 rfl (by decide) rfl ?_
  refine r_iconst (pc := 9) C dX8_bestDeal_9 ki_0 ?_
  refine r_sti (pc := 10) C [(0, .ref (x_b X + a)), (1, .int p1), (2, .int (-1)), (3, .int 0), (4, .int 0)] dX8_bestDeal_10 (by decide) rfl ?_
  refine r_sub [(0, .ref (x_b X + a)), (1, .int p1), (2, .int (-1)), (3, .int 0), (4, .int 0)] rfl ?_
  refine r_lp (pc := 12) (fun (t2 : Int32 × Int32 × Int32) => [(0, .ref (x_b X + a)), (1, .int p1), (2, .int t2.1), (3, .int t2.2.1), (4, .int t2.2.2)]) (fun t2 => ?_) ((-1), 0, 0)
  refine r_iload (pc := 12) C dX8_bestDeal_12 rfl ?_
  refine r_aload_n (pc := 14) C dX8_bestDeal_14 rfl rfl ?_
  refine r_getA (pc := 15) C dX8_bestDeal_15 fl_X8_47 rfl (fun v3 => ?_)
  refine r_getI (pc := 18) C dX8_bestDeal_18 fl_X8_89 rfl (fun v4 => ?_)
  refine r_icmp_ge (pc := 21) C (tgt := 90) dX8_bestDeal_21 rfl (fun _ => ?_) (fun _ => ?_)
  · refine r_iload_n (pc := 90) C dX8_bestDeal_90 rfl rfl ?_
    exact r_up (r_iret (pc := 91) C dX8_bestDeal_91)
  · refine r_iload (pc := 24) C dX8_bestDeal_24 rfl ?_
    refine r_iload_n (pc := 26) C dX8_bestDeal_26 rfl rfl ?_
    refine r_icmp_eq (pc := 27) C (tgt := 84) dX8_bestDeal_27 rfl (fun _ => ?_) (fun _ => ?_)
    · refine r_inc (pc := 84) C 1 [(0, .ref (x_b X + a)), (1, .int p1), (2, .int t2.1), (3, .int t2.2.1), (4, .int (t2.2.2 + 1))] dX8_bestDeal_84 rfl ki_1 (by decide) rfl ?_
      refine r_goto (pc := 87) C (tgt := 12) dX8_bestDeal_87 rfl ?_
      refine r_sub [(0, .ref (x_b X + a)), (1, .int p1), (2, .int t2.1), (3, .int t2.2.1), (4, .int (t2.2.2 + 1))] rfl ?_
      exact r_br (τ := Int32 × Int32 × Int32) (t2.1, t2.2.1, (t2.2.2 + 1))
    · refine r_aload_n (pc := 30) C dX8_bestDeal_30 rfl rfl ?_
      refine r_getA (pc := 31) C dX8_bestDeal_31 fl_X8_57 rfl (fun v5 => ?_)
      refine r_iload (pc := 34) C dX8_bestDeal_34 rfl ?_
      refine r_cVI (pc := 36) C [.int t2.2.2] [] (z_KX.up (z_KX.zero hT)) (s_X5_free v5 t2.2.2) mt_X5_free zc_5 dX8_bestDeal_36 ml_X8_114 im_X5_free se_X5_free rfl rfl rfl (Nat.le_of_ble_eq_true rfl) ⟨Nat.le_of_ble_eq_true rfl, Nat.le_of_ble_eq_true rfl⟩ (fun r6 => ?_)
      refine r_if_ne (pc := 39) C (tgt := 45) dX8_bestDeal_39 rfl (fun _ => ?_) (fun _ => ?_)
      · refine r_goto (pc := 42) C (tgt := 84) dX8_bestDeal_42 rfl ?_
        refine r_inc (pc := 84) C 1 [(0, .ref (x_b X + a)), (1, .int p1), (2, .int t2.1), (3, .int t2.2.1), (4, .int (t2.2.2 + 1))] dX8_bestDeal_84 rfl ki_1 (by decide) rfl ?_
        refine r_goto (pc := 87) C (tgt := 12) dX8_bestDeal_87 rfl ?_
        refine r_sub [(0, .ref (x_b X + a)), (1, .int p1), (2, .int t2.1), (3, .int t2.2.1), (4, .int (t2.2.2 + 1))] rfl ?_
        exact r_br (τ := Int32 × Int32 × Int32) (t2.1, t2.2.1, (t2.2.2 + 1))
      · refine r_aload_n (pc := 45) C dX8_bestDeal_45 rfl rfl ?_
        refine r_getA (pc := 46) C dX8_bestDeal_46 fl_X8_57 rfl (fun v7 => ?_)
        refine r_iload_n (pc := 49) C dX8_bestDeal_49 rfl rfl ?_
        refine r_iload (pc := 50) C dX8_bestDeal_50 rfl ?_
        refine r_cVI (pc := 52) C [.int p1, .int t2.2.2] [] (z_KX.up (z_KX.zero hT)) (s_X5_fareNow v7 p1 t2.2.2) mt_X5_fareNow zc_5 dX8_bestDeal_52 ml_X8_132 im_X5_fareNow se_X5_fareNow rfl rfl rfl (Nat.le_of_ble_eq_true rfl) ⟨Nat.le_of_ble_eq_true rfl, Nat.le_of_ble_eq_true rfl⟩ (fun r8 => ?_)
        refine r_aload_n (pc := 55) C dX8_bestDeal_55 rfl rfl ?_
        refine r_getA (pc := 56) C dX8_bestDeal_56 fl_X8_57 rfl (fun v9 => ?_)
        refine r_iload (pc := 59) C dX8_bestDeal_59 rfl ?_
        refine r_cVI (pc := 61) C [.int t2.2.2] [.int r8] (z_KX.up (z_KX.zero hT)) (s_X5_bonusNow v9 t2.2.2) mt_X5_bonusNow zc_5 dX8_bestDeal_61 ml_X8_135 im_X5_bonusNow se_X5_bonusNow rfl rfl rfl (Nat.le_of_ble_eq_true rfl) ⟨Nat.le_of_ble_eq_true rfl, Nat.le_of_ble_eq_true rfl⟩ (fun r10 => ?_)
        refine r_isub (pc := 64) C dX8_bestDeal_64 ?_
        refine r_sti (pc := 65) C [(0, .ref (x_b X + a)), (1, .int p1), (2, .int t2.1), (3, .int t2.2.1), (4, .int t2.2.2), (5, .int (r8 - r10))] dX8_bestDeal_65 (by decide) rfl ?_
        refine r_let ((r8 - r10)) (fun x11 => [(0, .ref (x_b X + a)), (1, .int p1), (2, .int t2.1), (3, .int t2.2.1), (4, .int t2.2.2), (5, .int x11)]) (fun x11 => []) (fun x11 => ?_)
        refine r_iload_n (pc := 67) C dX8_bestDeal_67 rfl rfl ?_
        refine r_iconst (pc := 68) C dX8_bestDeal_68 ki_m1 ?_
        refine r_icmp_eq (pc := 69) C (tgt := 78) dX8_bestDeal_69 rfl (fun _ => ?_) (fun _ => ?_)
        · refine r_iload (pc := 78) C dX8_bestDeal_78 rfl ?_
          refine r_sti_n (pc := 80) C 2 [(0, .ref (x_b X + a)), (1, .int p1), (2, .int t2.2.2), (4, .int t2.2.2), (5, .int x11)] dX8_bestDeal_80 rfl (by decide) rfl ?_
          refine r_iload (pc := 81) C dX8_bestDeal_81 rfl ?_
          refine r_sti_n (pc := 83) C 3 [(0, .ref (x_b X + a)), (1, .int p1), (2, .int t2.2.2), (3, .int x11), (4, .int t2.2.2)] dX8_bestDeal_83 rfl (by decide) rfl ?_
          refine r_inc (pc := 84) C 1 [(0, .ref (x_b X + a)), (1, .int p1), (2, .int t2.2.2), (3, .int x11), (4, .int (t2.2.2 + 1))] dX8_bestDeal_84 rfl ki_1 (by decide) rfl ?_
          refine r_goto (pc := 87) C (tgt := 12) dX8_bestDeal_87 rfl ?_
          refine r_sub [(0, .ref (x_b X + a)), (1, .int p1), (2, .int t2.2.2), (3, .int x11), (4, .int (t2.2.2 + 1))] rfl ?_
          exact r_br (τ := Int32 × Int32 × Int32) (t2.2.2, x11, (t2.2.2 + 1))
        · refine r_iload (pc := 72) C dX8_bestDeal_72 rfl ?_
          refine r_iload_n (pc := 74) C dX8_bestDeal_74 rfl rfl ?_
          refine r_icmp_ge (pc := 75) C (tgt := 84) dX8_bestDeal_75 rfl (fun _ => ?_) (fun _ => ?_)
          · refine r_inc (pc := 84) C 1 [(0, .ref (x_b X + a)), (1, .int p1), (2, .int t2.1), (3, .int t2.2.1), (4, .int (t2.2.2 + 1))] dX8_bestDeal_84 rfl ki_1 (by decide) rfl ?_
            refine r_goto (pc := 87) C (tgt := 12) dX8_bestDeal_87 rfl ?_
            refine r_sub [(0, .ref (x_b X + a)), (1, .int p1), (2, .int t2.1), (3, .int t2.2.1), (4, .int (t2.2.2 + 1))] rfl ?_
            exact r_br (τ := Int32 × Int32 × Int32) (t2.1, t2.2.1, (t2.2.2 + 1))
          · refine r_iload (pc := 78) C dX8_bestDeal_78 rfl ?_
            refine r_sti_n (pc := 80) C 2 [(0, .ref (x_b X + a)), (1, .int p1), (2, .int t2.2.2), (4, .int t2.2.2), (5, .int x11)] dX8_bestDeal_80 rfl (by decide) rfl ?_
            refine r_iload (pc := 81) C dX8_bestDeal_81 rfl ?_
            refine r_sti_n (pc := 83) C 3 [(0, .ref (x_b X + a)), (1, .int p1), (2, .int t2.2.2), (3, .int x11), (4, .int t2.2.2)] dX8_bestDeal_83 rfl (by decide) rfl ?_
            refine r_inc (pc := 84) C 1 [(0, .ref (x_b X + a)), (1, .int p1), (2, .int t2.2.2), (3, .int x11), (4, .int (t2.2.2 + 1))] dX8_bestDeal_84 rfl ki_1 (by decide) rfl ?_
            refine r_goto (pc := 87) C (tgt := 12) dX8_bestDeal_87 rfl ?_
            refine r_sub [(0, .ref (x_b X + a)), (1, .int p1), (2, .int t2.2.2), (3, .int x11), (4, .int (t2.2.2 + 1))] rfl ?_
            exact r_br (τ := Int32 × Int32 × Int32) (t2.2.2, x11, (t2.2.2 + 1))
noncomputable def p_X8_riders (a : Nat) : zP Int32 := (z_bd (z_gA 8 a 6) (fun v1 => (z_bd (z_gA 5 v1 5) (fun v2 => (z_bd (z_gI 4 v2 1) (fun v3 => (z_pu v3)))))))
set_option maxHeartbeats 4000000 in
set_option maxRecDepth 100000 in
theorem s_X8_riders (a : Nat) : z_Sound yX8_riders cX8_riders 1 (some .int) 1 20 (fun D b => [.ref (b + a)]) z_ivI (p_X8_riders a) := by
  refine z_ofSim rfl (by intro D b; exact Nat.le_of_ble_eq_true rfl) (fun X C hT => ?_)
  unfold p_X8_riders
  refine r_sub [(0, .ref (x_b X + a))] rfl ?_
  refine r_aload_n (pc := 0) C dX8_riders_0 rfl rfl ?_
  refine r_getA (pc := 1) C dX8_riders_1 fl_X8_57 rfl (fun v1 => ?_)
  refine r_getA (pc := 4) C dX8_riders_4 fl_X8_138 rfl (fun v2 => ?_)
  refine r_getI (pc := 7) C dX8_riders_7 fl_X8_142 rfl (fun v3 => ?_)
  exact r_iret (pc := 10) C dX8_riders_10
noncomputable def p_X8_rider (a : Nat) (p1 : Int32) (p2 : Int32) : zP Int32 := (if p1 < 0 then (z_th "java/lang/IndexOutOfBoundsException") else (z_bd (z_gA 8 a 6) (fun v1 => (z_bd (z_gA 5 v1 5) (fun v2 => (z_bd (z_gI 4 v2 1) (fun v3 => (if p1 < v3 then (z_bd (z_gA 8 a 6) (fun v4 => (z_bd (z_gA 5 v4 5) (fun v5 => (z_bd (z_gA 4 v5 0) (fun v6 => (z_bd (z_aI 11 v6 p1) (fun v7 => (if p2 = 0 then (z_bd (p_X4_arrival v7) (fun r8 => (z_pu r8))) else (if p2 = 1 then (z_bd (p_X4_target v7) (fun r9 => (z_pu r9))) else (if p2 = 2 then (z_bd (p_X4_origin v7) (fun r10 => (z_pu r10))) else (z_th "java/lang/IllegalArgumentException")))))))))))) else (z_th "java/lang/IndexOutOfBoundsException")))))))))
set_option maxHeartbeats 4000000 in
set_option maxRecDepth 100000 in
theorem s_X8_rider (a : Nat) (p1 : Int32) (p2 : Int32) : z_Sound yX8_rider cX8_rider 4 (some .int) 6 82 (fun D b => [.ref (b + a), .int p1, .int p2]) z_ivI (p_X8_rider a p1 p2) := by
  refine z_ofSim rfl (by intro D b; exact Nat.le_of_ble_eq_true rfl) (fun X C hT => ?_)
  unfold p_X8_rider
  refine r_sub [(0, .ref (x_b X + a)), (1, .int p1), (2, .int p2)] rfl ?_
  refine r_iload_n (pc := 0) C dX8_rider_0 rfl rfl ?_
  refine r_if_lt (pc := 1) C (tgt := 18) dX8_rider_1 rfl (fun _ => ?_) (fun _ => ?_)
  · exact r_throw (pc := 18) (i := 14) C (z_KX.zero hT) dX8_rider_18 dX8_rider_21 dX8_rider_22 dX8_rider_24 dX8_rider_27 (by decide) rfl cl_X8_147 ti_IOB tw_IOB to_IOB tt_IOB (by decide) (Nat.le_of_ble_eq_true rfl) (Nat.le_of_ble_eq_true rfl)
  · refine r_iload_n (pc := 4) C dX8_rider_4 rfl rfl ?_
    refine r_aload_n (pc := 5) C dX8_rider_5 rfl rfl ?_
    refine r_getA (pc := 6) C dX8_rider_6 fl_X8_57 rfl (fun v1 => ?_)
    refine r_getA (pc := 9) C dX8_rider_9 fl_X8_138 rfl (fun v2 => ?_)
    refine r_getI (pc := 12) C dX8_rider_12 fl_X8_142 rfl (fun v3 => ?_)
    refine r_icmp_lt (pc := 15) C (tgt := 28) dX8_rider_15 rfl (fun _ => ?_) (fun _ => ?_)
    · refine r_aload_n (pc := 28) C dX8_rider_28 rfl rfl ?_
      refine r_getA (pc := 29) C dX8_rider_29 fl_X8_57 rfl (fun v4 => ?_)
      refine r_getA (pc := 32) C dX8_rider_32 fl_X8_138 rfl (fun v5 => ?_)
      refine r_getA (pc := 35) C dX8_rider_35 fl_X8_152 rfl (fun v6 => ?_)
      refine r_iload_n (pc := 38) C dX8_rider_38 rfl rfl ?_
      refine r_iald (pc := 39) C dX8_rider_39 (fun v7 => ?_)
      refine r_sti_n (pc := 40) C 3 [(2, .int p2), (3, .int v7)] dX8_rider_40 rfl (by decide) rfl ?_
      refine r_iload_n (pc := 41) C dX8_rider_41 rfl rfl ?_
      refine r_ite (fun h42_0 => ?_) (fun h42_0 => ?_)
      · refine r_tin (pc := 42) C (k := 0) (off := 26) (tgt := 68) dX8_rider_42 h42_0 (by decide) rfl ?_
        refine r_iload_n (pc := 68) C dX8_rider_68 rfl rfl ?_
        refine r_cSI (pc := 69) C [.int v7] [] (z_KX.zero hT) (s_X4_arrival v7) mt_X4_arrival dX8_rider_69 ml_X8_155 sm_X4_arrival rfl rfl rfl (Nat.le_of_ble_eq_true rfl) ⟨Nat.le_of_ble_eq_true rfl, Nat.le_of_ble_eq_true rfl⟩ (fun r8 => ?_)
        exact r_iret (pc := 72) C dX8_rider_72
      · refine r_ite (fun h42_1 => ?_) (fun h42_1 => ?_)
        · refine r_tin (pc := 42) C (k := 1) (off := 31) (tgt := 73) dX8_rider_42 h42_1 (by decide) rfl ?_
          refine r_iload_n (pc := 73) C dX8_rider_73 rfl rfl ?_
          refine r_cSI (pc := 74) C [.int v7] [] (z_KX.zero hT) (s_X4_target v7) mt_X4_target dX8_rider_74 ml_X8_158 sm_X4_target rfl rfl rfl (Nat.le_of_ble_eq_true rfl) ⟨Nat.le_of_ble_eq_true rfl, Nat.le_of_ble_eq_true rfl⟩ (fun r9 => ?_)
          exact r_iret (pc := 77) C dX8_rider_77
        · refine r_ite (fun h42_2 => ?_) (fun h42_2 => ?_)
          · refine r_tin (pc := 42) C (k := 2) (off := 36) (tgt := 78) dX8_rider_42 h42_2 (by decide) rfl ?_
            refine r_iload_n (pc := 78) C dX8_rider_78 rfl rfl ?_
            refine r_cSI (pc := 79) C [.int v7] [] (z_KX.zero hT) (s_X4_origin v7) mt_X4_origin dX8_rider_79 ml_X8_161 sm_X4_origin rfl rfl rfl (Nat.le_of_ble_eq_true rfl) ⟨Nat.le_of_ble_eq_true rfl, Nat.le_of_ble_eq_true rfl⟩ (fun r10 => ?_)
            exact r_iret (pc := 82) C dX8_rider_82
          · refine r_tout (pc := 42) C (tgt := 83) dX8_rider_42 (by have q0 := lv_neT h42_0 (a := 0) (by decide); have q1 := lv_neT h42_1 (a := 1) (by decide); have q2 := lv_neT h42_2 (a := 2) (by decide); omega) rfl ?_
            exact r_throw (pc := 83) (i := 12) C (z_KX.zero hT) dX8_rider_83 dX8_rider_86 dX8_rider_87 dX8_rider_89 dX8_rider_92 (by decide) rfl cl_X8_72 ti_IAE tw_IAE to_IAE tt_IAE (by decide) (Nat.le_of_ble_eq_true rfl) (Nat.le_of_ble_eq_true rfl)
    · exact r_throw (pc := 18) (i := 14) C (z_KX.zero hT) dX8_rider_18 dX8_rider_21 dX8_rider_22 dX8_rider_24 dX8_rider_27 (by decide) rfl cl_X8_147 ti_IOB tw_IOB to_IOB tt_IOB (by decide) (Nat.le_of_ble_eq_true rfl) (Nat.le_of_ble_eq_true rfl)
noncomputable def p_X8_ridesBetween (a : Nat) (p1 : Int32) (p2 : Int32) : zP Int32 := (z_bd (z_cv 8 a (p_X8_checkStation a p1)) (fun _ => (z_bd (z_cv 8 a (p_X8_checkStation a p2)) (fun _ => (z_bd (z_gA 8 a 6) (fun v3 => (z_bd (z_gA 5 v3 2) (fun v4 => (z_bd (z_aI 11 v4 ((8 * p1) + p2)) (fun v5 => (z_pu v5)))))))))))
set_option maxHeartbeats 4000000 in
set_option maxRecDepth 100000 in
theorem s_X8_ridesBetween (a : Nat) (p1 : Int32) (p2 : Int32) : z_Sound yX8_ridesBetween cX8_ridesBetween 3 (some .int) 7 103 (fun D b => [.ref (b + a), .int p1, .int p2]) z_ivI (p_X8_ridesBetween a p1 p2) := by
  refine z_ofSim rfl (by intro D b; exact Nat.le_of_ble_eq_true rfl) (fun X C hT => ?_)
  unfold p_X8_ridesBetween
  refine r_sub [(0, .ref (x_b X + a)), (1, .int p1), (2, .int p2)] rfl ?_
  refine r_aload_n (pc := 0) C dX8_ridesBetween_0 rfl rfl ?_
  refine r_iload_n (pc := 1) C dX8_ridesBetween_1 rfl rfl ?_
  refine r_cVV (pc := 2) C [.int p1] [] (z_KX.zero hT) (s_X8_checkStation a p1) mt_X8_checkStation zc_8 dX8_ridesBetween_2 ml_X8_107 im_X8_checkStation se_X8_checkStation rfl rfl rfl (Nat.le_of_ble_eq_true rfl) ⟨Nat.le_of_ble_eq_true rfl, Nat.le_of_ble_eq_true rfl⟩ ?_
  refine r_aload_n (pc := 5) C dX8_ridesBetween_5 rfl rfl ?_
  refine r_iload_n (pc := 6) C dX8_ridesBetween_6 rfl rfl ?_
  refine r_cVV (pc := 7) C [.int p2] [] (z_KX.zero hT) (s_X8_checkStation a p2) mt_X8_checkStation zc_8 dX8_ridesBetween_7 ml_X8_107 im_X8_checkStation se_X8_checkStation rfl rfl rfl (Nat.le_of_ble_eq_true rfl) ⟨Nat.le_of_ble_eq_true rfl, Nat.le_of_ble_eq_true rfl⟩ ?_
  refine r_aload_n (pc := 10) C dX8_ridesBetween_10 rfl rfl ?_
  refine r_getA (pc := 11) C dX8_ridesBetween_11 fl_X8_57 rfl (fun v3 => ?_)
  refine r_getA (pc := 14) C dX8_ridesBetween_14 fl_X8_164 rfl (fun v4 => ?_)
  refine r_bipush (pc := 17) C dX8_ridesBetween_17 kb_8 ?_
  refine r_iload_n (pc := 19) C dX8_ridesBetween_19 rfl rfl ?_
  refine r_imul (pc := 20) C dX8_ridesBetween_20 ?_
  refine r_iload_n (pc := 21) C dX8_ridesBetween_21 rfl rfl ?_
  refine r_iadd (pc := 22) C dX8_ridesBetween_22 ?_
  refine r_iald (pc := 23) C dX8_ridesBetween_23 (fun v5 => ?_)
  exact r_iret (pc := 24) C dX8_ridesBetween_24
noncomputable def p_X8_busiestPair (a : Nat) : zP Int32 := (z_bd (z_gA 8 a 6) (fun v1 => (z_bd (z_cv 5 v1 (p_X5_busiest v1)) (fun r2 => (z_pu r2)))))
set_option maxHeartbeats 4000000 in
set_option maxRecDepth 100000 in
theorem s_X8_busiestPair (a : Nat) : z_Sound yX8_busiestPair cX8_busiestPair 1 (some .int) 3 64 (fun D b => [.ref (b + a)]) z_ivI (p_X8_busiestPair a) := by
  refine z_ofSim rfl (by intro D b; exact Nat.le_of_ble_eq_true rfl) (fun X C hT => ?_)
  unfold p_X8_busiestPair
  refine r_sub [(0, .ref (x_b X + a))] rfl ?_
  refine r_aload_n (pc := 0) C dX8_busiestPair_0 rfl rfl ?_
  refine r_getA (pc := 1) C dX8_busiestPair_1 fl_X8_57 rfl (fun v1 => ?_)
  refine r_cVI (pc := 4) C [] [] (z_KX.zero hT) (s_X5_busiest v1) mt_X5_busiest zc_5 dX8_busiestPair_4 ml_X8_167 im_X5_busiest se_X5_busiest rfl rfl rfl (Nat.le_of_ble_eq_true rfl) ⟨Nat.le_of_ble_eq_true rfl, Nat.le_of_ble_eq_true rfl⟩ (fun r2 => ?_)
  exact r_iret (pc := 7) C dX8_busiestPair_7
noncomputable def p_X8_checkTruck (a : Nat) (p1 : Int32) : zP Unit := (if p1 < 0 then (z_th "java/lang/IndexOutOfBoundsException") else (z_bd (z_gA 8 a 9) (fun v1 => (z_bd (z_gI 0 v1 11) (fun v2 => (if p1 < v2 then (z_pu ()) else (z_th "java/lang/IndexOutOfBoundsException")))))))
set_option maxHeartbeats 4000000 in
set_option maxRecDepth 100000 in
theorem s_X8_checkTruck (a : Nat) (p1 : Int32) : z_Sound yX8_checkTruck cX8_checkTruck 2 none 6 82 (fun D b => [.ref (b + a), .int p1]) z_ivV (p_X8_checkTruck a p1) := by
  refine z_ofSim rfl (by intro D b; exact Nat.le_of_ble_eq_true rfl) (fun X C hT => ?_)
  unfold p_X8_checkTruck
  refine r_sub [(0, .ref (x_b X + a)), (1, .int p1)] rfl ?_
  refine r_iload_n (pc := 0) C dX8_checkTruck_0 rfl rfl ?_
  refine r_if_lt (pc := 1) C (tgt := 15) dX8_checkTruck_1 rfl (fun _ => ?_) (fun _ => ?_)
  · exact r_throwW (pc := 15) (i := 15) C (z_KX.zero hT) dX8_checkTruck_15 dX8_checkTruck_18 dX8_checkTruck_19 dX8_checkTruck_22 dX8_checkTruck_25 (by decide) rfl cl_X8_147 ti_IOB tw_IOB to_IOB tt_IOB (by decide) (Nat.le_of_ble_eq_true rfl) (Nat.le_of_ble_eq_true rfl)
  · refine r_iload_n (pc := 4) C dX8_checkTruck_4 rfl rfl ?_
    refine r_aload_n (pc := 5) C dX8_checkTruck_5 rfl rfl ?_
    refine r_getA (pc := 6) C dX8_checkTruck_6 fl_X8_47 rfl (fun v1 => ?_)
    refine r_getI (pc := 9) C dX8_checkTruck_9 fl_X8_92 rfl (fun v2 => ?_)
    refine r_icmp_lt (pc := 12) C (tgt := 26) dX8_checkTruck_12 rfl (fun _ => ?_) (fun _ => ?_)
    · exact r_vret (pc := 26) C dX8_checkTruck_26
    · exact r_throwW (pc := 15) (i := 15) C (z_KX.zero hT) dX8_checkTruck_15 dX8_checkTruck_18 dX8_checkTruck_19 dX8_checkTruck_22 dX8_checkTruck_25 (by decide) rfl cl_X8_147 ti_IOB tw_IOB to_IOB tt_IOB (by decide) (Nat.le_of_ble_eq_true rfl) (Nat.le_of_ble_eq_true rfl)
noncomputable def p_X8_truck (a : Nat) (p1 : Int32) (p2 : Int32) : zP Int32 := (z_bd (z_cv 8 a (p_X8_checkTruck a p1)) (fun _ => (z_bd (z_gA 8 a 6) (fun v2 => (z_bd (z_gA 5 v2 4) (fun v3 => (z_bd (z_aA 14 v3 p1) (fun v4 => (if p2 = 0 then (z_bd (z_cv 7 v4 (p_X7_drives v4)) (fun r5 => (if r5 = 0 then (z_bd (z_gI 7 v4 5) (fun v6 => (z_pu v6))) else (z_pu (-1))))) else (if p2 = 1 then (z_bd (z_cv 7 v4 (p_X7_drives v4)) (fun r7 => (if r7 = 0 then (z_pu (-1)) else (z_bd (z_gI 7 v4 5) (fun v8 => (z_pu v8)))))) else (if p2 = 2 then (z_bd (z_gI 7 v4 6) (fun v9 => (z_pu v9))) else (if p2 = 3 then (z_bd (z_gI 7 v4 4) (fun v10 => (z_pu v10))) else (if p2 = 4 then (z_bd (z_gI 7 v4 3) (fun v11 => (z_pu v11))) else (if p2 = 5 then (z_bd (z_gI 7 v4 2) (fun v12 => (z_pu v12))) else (z_th "java/lang/IllegalArgumentException")))))))))))))))
set_option maxHeartbeats 4000000 in
set_option maxRecDepth 100000 in
theorem s_X8_truck (a : Nat) (p1 : Int32) (p2 : Int32) : z_Sound yX8_truck cX8_truck 4 (some .int) 7 103 (fun D b => [.ref (b + a), .int p1, .int p2]) z_ivI (p_X8_truck a p1 p2) := by
  refine z_ofSim rfl (by intro D b; exact Nat.le_of_ble_eq_true rfl) (fun X C hT => ?_)
  unfold p_X8_truck
  refine r_sub [(0, .ref (x_b X + a)), (1, .int p1), (2, .int p2)] rfl ?_
  refine r_aload_n (pc := 0) C dX8_truck_0 rfl rfl ?_
  refine r_iload_n (pc := 1) C dX8_truck_1 rfl rfl ?_
  refine r_cVV (pc := 2) C [.int p1] [] (z_KX.zero hT) (s_X8_checkTruck a p1) mt_X8_checkTruck zc_8 dX8_truck_2 ml_X8_170 im_X8_checkTruck se_X8_checkTruck rfl rfl rfl (Nat.le_of_ble_eq_true rfl) ⟨Nat.le_of_ble_eq_true rfl, Nat.le_of_ble_eq_true rfl⟩ ?_
  refine r_aload_n (pc := 5) C dX8_truck_5 rfl rfl ?_
  refine r_getA (pc := 6) C dX8_truck_6 fl_X8_57 rfl (fun v2 => ?_)
  refine r_getA (pc := 9) C dX8_truck_9 fl_X8_173 rfl (fun v3 => ?_)
  refine r_iload_n (pc := 12) C dX8_truck_12 rfl rfl ?_
  refine r_aald (pc := 13) C (by decide) dX8_truck_13 (fun v4 => ?_)
  refine r_sta_n (pc := 14) C 3 [(2, .int p2), (3, .ref (x_b X + v4))] dX8_truck_14 rfl (by decide) rfl ?_
  refine r_iload_n (pc := 15) C dX8_truck_15 rfl rfl ?_
  refine r_ite (fun h16_0 => ?_) (fun h16_0 => ?_)
  · refine r_tin (pc := 16) C (k := 0) (off := 40) (tgt := 56) dX8_truck_16 h16_0 (by decide) rfl ?_
    refine r_aload_n (pc := 56) C dX8_truck_56 rfl rfl ?_
    refine r_cVI (pc := 57) C [] [] (z_KX.zero hT) (s_X7_drives v4) mt_X7_drives zc_7 dX8_truck_57 ml_X8_176 im_X7_drives se_X7_drives rfl rfl rfl (Nat.le_of_ble_eq_true rfl) ⟨Nat.le_of_ble_eq_true rfl, Nat.le_of_ble_eq_true rfl⟩ (fun r5 => ?_)
    refine r_if_eq (pc := 60) C (tgt := 67) dX8_truck_60 rfl (fun _ => ?_) (fun _ => ?_)
    · refine r_aload_n (pc := 67) C dX8_truck_67 rfl rfl ?_
      refine r_getI (pc := 68) C dX8_truck_68 fl_X8_182 rfl (fun v6 => ?_)
      exact r_iret (pc := 71) C dX8_truck_71
    · refine r_iconst (pc := 63) C dX8_truck_63 ki_m1 ?_
      refine r_goto (pc := 64) C (tgt := 71) dX8_truck_64 rfl ?_
      exact r_iret (pc := 71) C dX8_truck_71
  · refine r_ite (fun h16_1 => ?_) (fun h16_1 => ?_)
    · refine r_tin (pc := 16) C (k := 1) (off := 56) (tgt := 72) dX8_truck_16 h16_1 (by decide) rfl ?_
      refine r_aload_n (pc := 72) C dX8_truck_72 rfl rfl ?_
      refine r_cVI (pc := 73) C [] [] (z_KX.zero hT) (s_X7_drives v4) mt_X7_drives zc_7 dX8_truck_73 ml_X8_176 im_X7_drives se_X7_drives rfl rfl rfl (Nat.le_of_ble_eq_true rfl) ⟨Nat.le_of_ble_eq_true rfl, Nat.le_of_ble_eq_true rfl⟩ (fun r7 => ?_)
      refine r_if_eq (pc := 76) C (tgt := 86) dX8_truck_76 rfl (fun _ => ?_) (fun _ => ?_)
      · refine r_iconst (pc := 86) C dX8_truck_86 ki_m1 ?_
        exact r_iret (pc := 87) C dX8_truck_87
      · refine r_aload_n (pc := 79) C dX8_truck_79 rfl rfl ?_
        refine r_getI (pc := 80) C dX8_truck_80 fl_X8_182 rfl (fun v8 => ?_)
        refine r_goto (pc := 83) C (tgt := 87) dX8_truck_83 rfl ?_
        exact r_iret (pc := 87) C dX8_truck_87
    · refine r_ite (fun h16_2 => ?_) (fun h16_2 => ?_)
      · refine r_tin (pc := 16) C (k := 2) (off := 72) (tgt := 88) dX8_truck_16 h16_2 (by decide) rfl ?_
        refine r_aload_n (pc := 88) C dX8_truck_88 rfl rfl ?_
        refine r_getI (pc := 89) C dX8_truck_89 fl_X8_185 rfl (fun v9 => ?_)
        exact r_iret (pc := 92) C dX8_truck_92
      · refine r_ite (fun h16_3 => ?_) (fun h16_3 => ?_)
        · refine r_tin (pc := 16) C (k := 3) (off := 77) (tgt := 93) dX8_truck_16 h16_3 (by decide) rfl ?_
          refine r_aload_n (pc := 93) C dX8_truck_93 rfl rfl ?_
          refine r_getI (pc := 94) C dX8_truck_94 fl_X8_188 rfl (fun v10 => ?_)
          exact r_iret (pc := 97) C dX8_truck_97
        · refine r_ite (fun h16_4 => ?_) (fun h16_4 => ?_)
          · refine r_tin (pc := 16) C (k := 4) (off := 82) (tgt := 98) dX8_truck_16 h16_4 (by decide) rfl ?_
            refine r_aload_n (pc := 98) C dX8_truck_98 rfl rfl ?_
            refine r_getI (pc := 99) C dX8_truck_99 fl_X8_191 rfl (fun v11 => ?_)
            exact r_iret (pc := 102) C dX8_truck_102
          · refine r_ite (fun h16_5 => ?_) (fun h16_5 => ?_)
            · refine r_tin (pc := 16) C (k := 5) (off := 87) (tgt := 103) dX8_truck_16 h16_5 (by decide) rfl ?_
              refine r_aload_n (pc := 103) C dX8_truck_103 rfl rfl ?_
              refine r_getI (pc := 104) C dX8_truck_104 fl_X8_194 rfl (fun v12 => ?_)
              exact r_iret (pc := 107) C dX8_truck_107
            · refine r_tout (pc := 16) C (tgt := 108) dX8_truck_16 (by have q0 := lv_neT h16_0 (a := 0) (by decide); have q1 := lv_neT h16_1 (a := 1) (by decide); have q2 := lv_neT h16_2 (a := 2) (by decide); have q3 := lv_neT h16_3 (a := 3) (by decide); have q4 := lv_neT h16_4 (a := 4) (by decide); have q5 := lv_neT h16_5 (a := 5) (by decide); omega) rfl ?_
              exact r_throw (pc := 108) (i := 12) C (z_KX.zero hT) dX8_truck_108 dX8_truck_111 dX8_truck_112 dX8_truck_114 dX8_truck_117 (by decide) rfl cl_X8_72 ti_IAE tw_IAE to_IAE tt_IAE (by decide) (Nat.le_of_ble_eq_true rfl) (Nat.le_of_ble_eq_true rfl)
noncomputable def p_X8_checkParked (a : Nat) (p1 : Int32) : zP Unit := (z_bd (z_gA 8 a 6) (fun v1 => (z_bd (z_gA 5 v1 4) (fun v2 => (z_bd (z_aA 14 v2 p1) (fun v3 => (z_bd (z_cv 7 v3 (p_X7_drives v3)) (fun r4 => (if r4 = 0 then (z_pu ()) else (z_th "java/lang/IllegalStateException"))))))))))
set_option maxHeartbeats 4000000 in
set_option maxRecDepth 100000 in
theorem s_X8_checkParked (a : Nat) (p1 : Int32) : z_Sound yX8_checkParked cX8_checkParked 2 none 6 82 (fun D b => [.ref (b + a), .int p1]) z_ivV (p_X8_checkParked a p1) := by
  refine z_ofSim rfl (by intro D b; exact Nat.le_of_ble_eq_true rfl) (fun X C hT => ?_)
  unfold p_X8_checkParked
  refine r_sub [(0, .ref (x_b X + a)), (1, .int p1)] rfl ?_
  refine r_aload_n (pc := 0) C dX8_checkParked_0 rfl rfl ?_
  refine r_getA (pc := 1) C dX8_checkParked_1 fl_X8_57 rfl (fun v1 => ?_)
  refine r_getA (pc := 4) C dX8_checkParked_4 fl_X8_173 rfl (fun v2 => ?_)
  refine r_iload_n (pc := 7) C dX8_checkParked_7 rfl rfl ?_
  refine r_aald (pc := 8) C (by decide) dX8_checkParked_8 (fun v3 => ?_)
  refine r_cVI (pc := 9) C [] [] (z_KX.zero hT) (s_X7_drives v3) mt_X7_drives zc_7 dX8_checkParked_9 ml_X8_176 im_X7_drives se_X7_drives rfl rfl rfl (Nat.le_of_ble_eq_true rfl) ⟨Nat.le_of_ble_eq_true rfl, Nat.le_of_ble_eq_true rfl⟩ (fun r4 => ?_)
  refine r_if_eq (pc := 12) C (tgt := 26) dX8_checkParked_12 rfl (fun _ => ?_) (fun _ => ?_)
  · exact r_vret (pc := 26) C dX8_checkParked_26
  · exact r_throwW (pc := 15) (i := 16) C (z_KX.zero hT) dX8_checkParked_15 dX8_checkParked_18 dX8_checkParked_19 dX8_checkParked_22 dX8_checkParked_25 (by decide) rfl cl_X8_233 ti_ISE tw_ISE to_ISE tt_ISE (by decide) (Nat.le_of_ble_eq_true rfl) (Nat.le_of_ble_eq_true rfl)
noncomputable def p_X8_tourMinutes (a : Nat) (p1 : Int32) : zP Int32 := (z_bd (z_cv 8 a (p_X8_checkTruck a p1)) (fun _ => (z_bd (z_cv 8 a (p_X8_checkParked a p1)) (fun _ => (z_bd (z_gA 8 a 3) (fun v3 => (z_bd (z_gA 8 a 6) (fun v4 => (z_bd (z_gA 8 a 6) (fun v5 => (z_bd (z_gA 5 v5 4) (fun v6 => (z_bd (z_aA 14 v6 p1) (fun v7 => (z_bd (z_cv 6 v3 (p_X6_search v3 v4 v7)) (fun _ => (z_bd (z_gA 8 a 3) (fun v9 => (z_bd (z_gI 6 v9 10) (fun v10 => (z_pu v10)))))))))))))))))))))
set_option maxHeartbeats 4000000 in
set_option maxRecDepth 100000 in
theorem s_X8_tourMinutes (a : Nat) (p1 : Int32) : z_Sound yX8_tourMinutes cX8_tourMinutes 2 (some .int) 16 454 (fun D b => [.ref (b + a), .int p1]) z_ivI (p_X8_tourMinutes a p1) := by
  refine z_ofSim rfl (by intro D b; exact Nat.le_of_ble_eq_true rfl) (fun X C hT => ?_)
  unfold p_X8_tourMinutes
  refine r_sub [(0, .ref (x_b X + a)), (1, .int p1)] rfl ?_
  refine r_aload_n (pc := 0) C dX8_tourMinutes_0 rfl rfl ?_
  refine r_iload_n (pc := 1) C dX8_tourMinutes_1 rfl rfl ?_
  refine r_cVV (pc := 2) C [.int p1] [] (z_KX.zero hT) (s_X8_checkTruck a p1) mt_X8_checkTruck zc_8 dX8_tourMinutes_2 ml_X8_170 im_X8_checkTruck se_X8_checkTruck rfl rfl rfl (Nat.le_of_ble_eq_true rfl) ⟨Nat.le_of_ble_eq_true rfl, Nat.le_of_ble_eq_true rfl⟩ ?_
  refine r_aload_n (pc := 5) C dX8_tourMinutes_5 rfl rfl ?_
  refine r_iload_n (pc := 6) C dX8_tourMinutes_6 rfl rfl ?_
  refine r_cVV (pc := 7) C [.int p1] [] (z_KX.zero hT) (s_X8_checkParked a p1) mt_X8_checkParked zc_8 dX8_tourMinutes_7 ml_X8_197 im_X8_checkParked se_X8_checkParked rfl rfl rfl (Nat.le_of_ble_eq_true rfl) ⟨Nat.le_of_ble_eq_true rfl, Nat.le_of_ble_eq_true rfl⟩ ?_
  refine r_aload_n (pc := 10) C dX8_tourMinutes_10 rfl rfl ?_
  refine r_getA (pc := 11) C dX8_tourMinutes_11 fl_X8_30 rfl (fun v3 => ?_)
  refine r_aload_n (pc := 14) C dX8_tourMinutes_14 rfl rfl ?_
  refine r_getA (pc := 15) C dX8_tourMinutes_15 fl_X8_57 rfl (fun v4 => ?_)
  refine r_aload_n (pc := 18) C dX8_tourMinutes_18 rfl rfl ?_
  refine r_getA (pc := 19) C dX8_tourMinutes_19 fl_X8_57 rfl (fun v5 => ?_)
  refine r_getA (pc := 22) C dX8_tourMinutes_22 fl_X8_173 rfl (fun v6 => ?_)
  refine r_iload_n (pc := 25) C dX8_tourMinutes_25 rfl rfl ?_
  refine r_aald (pc := 26) C (by decide) dX8_tourMinutes_26 (fun v7 => ?_)
  refine r_cVV (pc := 27) C [.ref (x_b X + v4), .ref (x_b X + v7)] [] (z_KX.zero hT) (s_X6_search v3 v4 v7) mt_X6_search zc_6 dX8_tourMinutes_27 ml_X8_200 im_X6_search se_X6_search rfl rfl rfl (Nat.le_of_ble_eq_true rfl) ⟨Nat.le_of_ble_eq_true rfl, Nat.le_of_ble_eq_true rfl⟩ ?_
  refine r_aload_n (pc := 30) C dX8_tourMinutes_30 rfl rfl ?_
  refine r_getA (pc := 31) C dX8_tourMinutes_31 fl_X8_30 rfl (fun v9 => ?_)
  refine r_getI (pc := 34) C dX8_tourMinutes_34 fl_X8_204 rfl (fun v10 => ?_)
  exact r_iret (pc := 37) C dX8_tourMinutes_37
noncomputable def p_X8_tourStop (a : Nat) (p1 : Int32) (p2 : Int32) : zP Int32 := (z_bd (z_cv 8 a (p_X8_checkTruck a p1)) (fun _ => (z_bd (z_cv 8 a (p_X8_checkParked a p1)) (fun _ => (z_bd (z_gA 8 a 3) (fun v3 => (z_bd (z_gA 8 a 6) (fun v4 => (z_bd (z_gA 8 a 6) (fun v5 => (z_bd (z_gA 5 v5 4) (fun v6 => (z_bd (z_aA 14 v6 p1) (fun v7 => (z_bd (z_cv 6 v3 (p_X6_search v3 v4 v7)) (fun _ => (if p2 < 0 then (z_pu (-1)) else (z_bd (z_gA 8 a 3) (fun v9 => (z_bd (z_gI 6 v9 11) (fun v10 => (if p2 < v10 then (z_bd (z_gA 8 a 3) (fun v11 => (z_bd (z_gA 6 v11 0) (fun v12 => (z_bd (z_aI 11 v12 p2) (fun v13 => (z_pu v13))))))) else (z_pu (-1))))))))))))))))))))))))
set_option maxHeartbeats 4000000 in
set_option maxRecDepth 100000 in
theorem s_X8_tourStop (a : Nat) (p1 : Int32) (p2 : Int32) : z_Sound yX8_tourStop cX8_tourStop 3 (some .int) 16 454 (fun D b => [.ref (b + a), .int p1, .int p2]) z_ivI (p_X8_tourStop a p1 p2) := by
  refine z_ofSim rfl (by intro D b; exact Nat.le_of_ble_eq_true rfl) (fun X C hT => ?_)
  unfold p_X8_tourStop
  refine r_sub [(0, .ref (x_b X + a)), (1, .int p1), (2, .int p2)] rfl ?_
  refine r_aload_n (pc := 0) C dX8_tourStop_0 rfl rfl ?_
  refine r_iload_n (pc := 1) C dX8_tourStop_1 rfl rfl ?_
  refine r_cVV (pc := 2) C [.int p1] [] (z_KX.zero hT) (s_X8_checkTruck a p1) mt_X8_checkTruck zc_8 dX8_tourStop_2 ml_X8_170 im_X8_checkTruck se_X8_checkTruck rfl rfl rfl (Nat.le_of_ble_eq_true rfl) ⟨Nat.le_of_ble_eq_true rfl, Nat.le_of_ble_eq_true rfl⟩ ?_
  refine r_aload_n (pc := 5) C dX8_tourStop_5 rfl rfl ?_
  refine r_iload_n (pc := 6) C dX8_tourStop_6 rfl rfl ?_
  refine r_cVV (pc := 7) C [.int p1] [] (z_KX.zero hT) (s_X8_checkParked a p1) mt_X8_checkParked zc_8 dX8_tourStop_7 ml_X8_197 im_X8_checkParked se_X8_checkParked rfl rfl rfl (Nat.le_of_ble_eq_true rfl) ⟨Nat.le_of_ble_eq_true rfl, Nat.le_of_ble_eq_true rfl⟩ ?_
  refine r_aload_n (pc := 10) C dX8_tourStop_10 rfl rfl ?_
  refine r_getA (pc := 11) C dX8_tourStop_11 fl_X8_30 rfl (fun v3 => ?_)
  refine r_aload_n (pc := 14) C dX8_tourStop_14 rfl rfl ?_
  refine r_getA (pc := 15) C dX8_tourStop_15 fl_X8_57 rfl (fun v4 => ?_)
  refine r_aload_n (pc := 18) C dX8_tourStop_18 rfl rfl ?_
  refine r_getA (pc := 19) C dX8_tourStop_19 fl_X8_57 rfl (fun v5 => ?_)
  refine r_getA (pc := 22) C dX8_tourStop_22 fl_X8_173 rfl (fun v6 => ?_)
  refine r_iload_n (pc := 25) C dX8_tourStop_25 rfl rfl ?_
  refine r_aald (pc := 26) C (by decide) dX8_tourStop_26 (fun v7 => ?_)
  refine r_cVV (pc := 27) C [.ref (x_b X + v4), .ref (x_b X + v7)] [] (z_KX.zero hT) (s_X6_search v3 v4 v7) mt_X6_search zc_6 dX8_tourStop_27 ml_X8_200 im_X6_search se_X6_search rfl rfl rfl (Nat.le_of_ble_eq_true rfl) ⟨Nat.le_of_ble_eq_true rfl, Nat.le_of_ble_eq_true rfl⟩ ?_
  refine r_iload_n (pc := 30) C dX8_tourStop_30 rfl rfl ?_
  refine r_if_lt (pc := 31) C (tgt := 45) dX8_tourStop_31 rfl (fun _ => ?_) (fun _ => ?_)
  · refine r_iconst (pc := 45) C dX8_tourStop_45 ki_m1 ?_
    refine r_goto (pc := 46) C (tgt := 58) dX8_tourStop_46 rfl ?_
    exact r_iret (pc := 58) C dX8_tourStop_58
  · refine r_iload_n (pc := 34) C dX8_tourStop_34 rfl rfl ?_
    refine r_aload_n (pc := 35) C dX8_tourStop_35 rfl rfl ?_
    refine r_getA (pc := 36) C dX8_tourStop_36 fl_X8_30 rfl (fun v9 => ?_)
    refine r_getI (pc := 39) C dX8_tourStop_39 fl_X8_207 rfl (fun v10 => ?_)
    refine r_icmp_lt (pc := 42) C (tgt := 49) dX8_tourStop_42 rfl (fun _ => ?_) (fun _ => ?_)
    · refine r_aload_n (pc := 49) C dX8_tourStop_49 rfl rfl ?_
      refine r_getA (pc := 50) C dX8_tourStop_50 fl_X8_30 rfl (fun v11 => ?_)
      refine r_getA (pc := 53) C dX8_tourStop_53 fl_X8_210 rfl (fun v12 => ?_)
      refine r_iload_n (pc := 56) C dX8_tourStop_56 rfl rfl ?_
      refine r_iald (pc := 57) C dX8_tourStop_57 (fun v13 => ?_)
      exact r_iret (pc := 58) C dX8_tourStop_58
    · refine r_iconst (pc := 45) C dX8_tourStop_45 ki_m1 ?_
      refine r_goto (pc := 46) C (tgt := 58) dX8_tourStop_46 rfl ?_
      exact r_iret (pc := 58) C dX8_tourStop_58
noncomputable def p_X8_checkRange (p1 : Int32) (p2 : Int32) (p3 : Int32) : zP Unit := (if p1 < p2 then (z_th "java/lang/IllegalArgumentException") else (if p1 ≤ p3 then (z_pu ()) else (z_th "java/lang/IllegalArgumentException")))
set_option maxHeartbeats 4000000 in
set_option maxRecDepth 100000 in
theorem s_X8_checkRange (p1 : Int32) (p2 : Int32) (p3 : Int32) : z_Sound yX8_checkRange cX8_checkRange 3 none 6 82 (fun D b => [.int p1, .int p2, .int p3]) z_ivV (p_X8_checkRange p1 p2 p3) := by
  refine z_ofSim rfl (by intro D b; exact Nat.le_of_ble_eq_true rfl) (fun X C hT => ?_)
  unfold p_X8_checkRange
  refine r_sub [(0, .int p1), (1, .int p2), (2, .int p3)] rfl ?_
  refine r_iload_n (pc := 0) C dX8_checkRange_0 rfl rfl ?_
  refine r_iload_n (pc := 1) C dX8_checkRange_1 rfl rfl ?_
  refine r_icmp_lt (pc := 2) C (tgt := 10) dX8_checkRange_2 rfl (fun _ => ?_) (fun _ => ?_)
  · exact r_throwW (pc := 10) (i := 17) C (z_KX.zero hT) dX8_checkRange_10 dX8_checkRange_13 dX8_checkRange_14 dX8_checkRange_17 dX8_checkRange_20 (by decide) rfl cl_X8_72 ti_IAE tw_IAE to_IAE tt_IAE (by decide) (Nat.le_of_ble_eq_true rfl) (Nat.le_of_ble_eq_true rfl)
  · refine r_iload_n (pc := 5) C dX8_checkRange_5 rfl rfl ?_
    refine r_iload_n (pc := 6) C dX8_checkRange_6 rfl rfl ?_
    refine r_icmp_le (pc := 7) C (tgt := 21) dX8_checkRange_7 rfl (fun _ => ?_) (fun _ => ?_)
    · exact r_vret (pc := 21) C dX8_checkRange_21
    · exact r_throwW (pc := 10) (i := 17) C (z_KX.zero hT) dX8_checkRange_10 dX8_checkRange_13 dX8_checkRange_14 dX8_checkRange_17 dX8_checkRange_20 (by decide) rfl cl_X8_72 ti_IAE tw_IAE to_IAE tt_IAE (by decide) (Nat.le_of_ble_eq_true rfl) (Nat.le_of_ble_eq_true rfl)
noncomputable def p_X8_checkTotal (p1 : Int32) : zP Unit := (z_bd (p_X8_checkRange p1 0 5) (fun _ => (z_pu ())))
set_option maxHeartbeats 4000000 in
set_option maxRecDepth 100000 in
theorem s_X8_checkTotal (p1 : Int32) : z_Sound yX8_checkTotal cX8_checkTotal 1 none 7 104 (fun D b => [.int p1]) z_ivV (p_X8_checkTotal p1) := by
  refine z_ofSim rfl (by intro D b; exact Nat.le_of_ble_eq_true rfl) (fun X C hT => ?_)
  unfold p_X8_checkTotal
  refine r_sub [(0, .int p1)] rfl ?_
  refine r_iload_n (pc := 0) C dX8_checkTotal_0 rfl rfl ?_
  refine r_iconst (pc := 1) C dX8_checkTotal_1 ki_0 ?_
  refine r_iconst (pc := 2) C dX8_checkTotal_2 ki_5 ?_
  refine r_cSV (pc := 3) C [.int p1, .int 0, .int 5] [] (z_KX.zero hT) (s_X8_checkRange p1 0 5) mt_X8_checkRange dX8_checkTotal_3 ml_X8_219 sm_X8_checkRange rfl rfl rfl (Nat.le_of_ble_eq_true rfl) ⟨Nat.le_of_ble_eq_true rfl, Nat.le_of_ble_eq_true rfl⟩ ?_
  exact r_vret (pc := 6) C dX8_checkTotal_6
noncomputable def p_X8_total (a : Nat) (p1 : Int32) : zP Int32 := (z_bd (p_X8_checkTotal p1) (fun _ => (z_bd (z_gA 8 a 6) (fun v2 => (z_bd (z_cv 5 v2 (p_X5_sum v2 p1)) (fun r3 => (z_pu r3)))))))
set_option maxHeartbeats 4000000 in
set_option maxRecDepth 100000 in
theorem s_X8_total (a : Nat) (p1 : Int32) : z_Sound yX8_total cX8_total 2 (some .int) 8 124 (fun D b => [.ref (b + a), .int p1]) z_ivI (p_X8_total a p1) := by
  refine z_ofSim rfl (by intro D b; exact Nat.le_of_ble_eq_true rfl) (fun X C hT => ?_)
  unfold p_X8_total
  refine r_sub [(0, .ref (x_b X + a)), (1, .int p1)] rfl ?_
  refine r_iload_n (pc := 0) C dX8_total_0 rfl rfl ?_
  refine r_cSV (pc := 1) C [.int p1] [] (z_KX.zero hT) (s_X8_checkTotal p1) mt_X8_checkTotal dX8_total_1 ml_X8_213 sm_X8_checkTotal rfl rfl rfl (Nat.le_of_ble_eq_true rfl) ⟨Nat.le_of_ble_eq_true rfl, Nat.le_of_ble_eq_true rfl⟩ ?_
  refine r_aload_n (pc := 4) C dX8_total_4 rfl rfl ?_
  refine r_getA (pc := 5) C dX8_total_5 fl_X8_57 rfl (fun v2 => ?_)
  refine r_iload_n (pc := 8) C dX8_total_8 rfl rfl ?_
  refine r_cVI (pc := 9) C [.int p1] [] (z_KX.zero hT) (s_X5_sum v2 p1) mt_X5_sum zc_5 dX8_total_9 ml_X8_216 im_X5_sum se_X5_sum rfl rfl rfl (Nat.le_of_ble_eq_true rfl) ⟨Nat.le_of_ble_eq_true rfl, Nat.le_of_ble_eq_true rfl⟩ (fun r3 => ?_)
  exact r_iret (pc := 12) C dX8_total_12
noncomputable def p_X8_forecast (a : Nat) (p1 : Int32) (p2 : Int32) : zP Int32 := (z_bd (p_X8_checkTotal p2) (fun _ => (z_bd (p_X8_checkRange p1 0 1440) (fun _ => (z_bd (z_gA 8 a 7) (fun v3 => (z_bd (z_gA 8 a 6) (fun v4 => (z_bd (z_cv 5 v3 (p_X5_copy v3 v4)) (fun _ => (z_bd (z_gA 8 a 7) (fun v6 => (z_bd (z_cv 5 v6 (p_X5_advance v6 p1)) (fun r7 => (z_bd (z_gA 8 a 7) (fun v8 => (z_bd (z_cv 5 v8 (p_X5_sum v8 p2)) (fun r9 => (z_pu r9)))))))))))))))))))
set_option maxHeartbeats 4000000 in
set_option maxRecDepth 100000 in
theorem s_X8_forecast (a : Nat) (p1 : Int32) (p2 : Int32) : z_Sound yX8_forecast cX8_forecast 3 (some .int) 8 165 (fun D b => [.ref (b + a), .int p1, .int p2]) z_ivI (p_X8_forecast a p1 p2) := by
  refine z_ofSim rfl (by intro D b; exact Nat.le_of_ble_eq_true rfl) (fun X C hT => ?_)
  unfold p_X8_forecast
  refine r_sub [(0, .ref (x_b X + a)), (1, .int p1), (2, .int p2)] rfl ?_
  refine r_iload_n (pc := 0) C dX8_forecast_0 rfl rfl ?_
  refine r_cSV (pc := 1) C [.int p2] [] (z_KX.zero hT) (s_X8_checkTotal p2) mt_X8_checkTotal dX8_forecast_1 ml_X8_213 sm_X8_checkTotal rfl rfl rfl (Nat.le_of_ble_eq_true rfl) ⟨Nat.le_of_ble_eq_true rfl, Nat.le_of_ble_eq_true rfl⟩ ?_
  refine r_iload_n (pc := 4) C dX8_forecast_4 rfl rfl ?_
  refine r_iconst (pc := 5) C dX8_forecast_5 ki_0 ?_
  refine r_sipush (pc := 6) C dX8_forecast_6 ks_1440 ?_
  refine r_cSV (pc := 9) C [.int p1, .int 0, .int 1440] [] (z_KX.zero hT) (s_X8_checkRange p1 0 1440) mt_X8_checkRange dX8_forecast_9 ml_X8_219 sm_X8_checkRange rfl rfl rfl (Nat.le_of_ble_eq_true rfl) ⟨Nat.le_of_ble_eq_true rfl, Nat.le_of_ble_eq_true rfl⟩ ?_
  refine r_aload_n (pc := 12) C dX8_forecast_12 rfl rfl ?_
  refine r_getA (pc := 13) C dX8_forecast_13 fl_X8_61 rfl (fun v3 => ?_)
  refine r_aload_n (pc := 16) C dX8_forecast_16 rfl rfl ?_
  refine r_getA (pc := 17) C dX8_forecast_17 fl_X8_57 rfl (fun v4 => ?_)
  refine r_cVV (pc := 20) C [.ref (x_b X + v4)] [] (z_KX.zero hT) (s_X5_copy v3 v4) mt_X5_copy zc_5 dX8_forecast_20 ml_X8_223 im_X5_copy se_X5_copy rfl rfl rfl (Nat.le_of_ble_eq_true rfl) ⟨Nat.le_of_ble_eq_true rfl, Nat.le_of_ble_eq_true rfl⟩ ?_
  refine r_aload_n (pc := 23) C dX8_forecast_23 rfl rfl ?_
  refine r_getA (pc := 24) C dX8_forecast_24 fl_X8_61 rfl (fun v6 => ?_)
  refine r_iload_n (pc := 27) C dX8_forecast_27 rfl rfl ?_
  refine r_cVI (pc := 28) C [.int p1] [] (z_KX.zero hT) (s_X5_advance v6 p1) mt_X5_advance zc_5 dX8_forecast_28 ml_X8_227 im_X5_advance se_X5_advance rfl rfl rfl (Nat.le_of_ble_eq_true rfl) ⟨Nat.le_of_ble_eq_true rfl, Nat.le_of_ble_eq_true rfl⟩ (fun r7 => ?_)
  refine r_pop (pc := 31) C dX8_forecast_31 rfl ?_
  refine r_aload_n (pc := 32) C dX8_forecast_32 rfl rfl ?_
  refine r_getA (pc := 33) C dX8_forecast_33 fl_X8_61 rfl (fun v8 => ?_)
  refine r_iload_n (pc := 36) C dX8_forecast_36 rfl rfl ?_
  refine r_cVI (pc := 37) C [.int p2] [] (z_KX.zero hT) (s_X5_sum v8 p2) mt_X5_sum zc_5 dX8_forecast_37 ml_X8_216 im_X5_sum se_X5_sum rfl rfl rfl (Nat.le_of_ble_eq_true rfl) ⟨Nat.le_of_ble_eq_true rfl, Nat.le_of_ble_eq_true rfl⟩ (fun r9 => ?_)
  exact r_iret (pc := 40) C dX8_forecast_40
noncomputable def p_X8_runsOut (a : Nat) (p1 : Int32) (p2 : Int32) : zP Int32 := (z_bd (z_cv 8 a (p_X8_checkStation a p1)) (fun _ => (z_bd (z_gA 8 a 7) (fun v2 => (z_bd (z_gA 8 a 6) (fun v3 => (z_bd (z_cv 5 v2 (p_X5_copy v2 v3)) (fun _ => (z_bd (z_gA 8 a 7) (fun v5 => (z_bd (z_cv 5 v5 (p_X5_minutesUntilOut v5 p1 p2)) (fun r6 => (z_pu r6)))))))))))))
set_option maxHeartbeats 4000000 in
set_option maxRecDepth 100000 in
theorem s_X8_runsOut (a : Nat) (p1 : Int32) (p2 : Int32) : z_Sound yX8_runsOut cX8_runsOut 3 (some .int) 7 165 (fun D b => [.ref (b + a), .int p1, .int p2]) z_ivI (p_X8_runsOut a p1 p2) := by
  refine z_ofSim rfl (by intro D b; exact Nat.le_of_ble_eq_true rfl) (fun X C hT => ?_)
  unfold p_X8_runsOut
  refine r_sub [(0, .ref (x_b X + a)), (1, .int p1), (2, .int p2)] rfl ?_
  refine r_aload_n (pc := 0) C dX8_runsOut_0 rfl rfl ?_
  refine r_iload_n (pc := 1) C dX8_runsOut_1 rfl rfl ?_
  refine r_cVV (pc := 2) C [.int p1] [] (z_KX.zero hT) (s_X8_checkStation a p1) mt_X8_checkStation zc_8 dX8_runsOut_2 ml_X8_107 im_X8_checkStation se_X8_checkStation rfl rfl rfl (Nat.le_of_ble_eq_true rfl) ⟨Nat.le_of_ble_eq_true rfl, Nat.le_of_ble_eq_true rfl⟩ ?_
  refine r_aload_n (pc := 5) C dX8_runsOut_5 rfl rfl ?_
  refine r_getA (pc := 6) C dX8_runsOut_6 fl_X8_61 rfl (fun v2 => ?_)
  refine r_aload_n (pc := 9) C dX8_runsOut_9 rfl rfl ?_
  refine r_getA (pc := 10) C dX8_runsOut_10 fl_X8_57 rfl (fun v3 => ?_)
  refine r_cVV (pc := 13) C [.ref (x_b X + v3)] [] (z_KX.zero hT) (s_X5_copy v2 v3) mt_X5_copy zc_5 dX8_runsOut_13 ml_X8_223 im_X5_copy se_X5_copy rfl rfl rfl (Nat.le_of_ble_eq_true rfl) ⟨Nat.le_of_ble_eq_true rfl, Nat.le_of_ble_eq_true rfl⟩ ?_
  refine r_aload_n (pc := 16) C dX8_runsOut_16 rfl rfl ?_
  refine r_getA (pc := 17) C dX8_runsOut_17 fl_X8_61 rfl (fun v5 => ?_)
  refine r_iload_n (pc := 20) C dX8_runsOut_20 rfl rfl ?_
  refine r_iload_n (pc := 21) C dX8_runsOut_21 rfl rfl ?_
  refine r_cVI (pc := 22) C [.int p1, .int p2] [] (z_KX.zero hT) (s_X5_minutesUntilOut v5 p1 p2) mt_X5_minutesUntilOut zc_5 dX8_runsOut_22 ml_X8_230 im_X5_minutesUntilOut se_X5_minutesUntilOut rfl rfl rfl (Nat.le_of_ble_eq_true rfl) ⟨Nat.le_of_ble_eq_true rfl, Nat.le_of_ble_eq_true rfl⟩ (fun r6 => ?_)
  exact r_iret (pc := 25) C dX8_runsOut_25
noncomputable def p_X8_pass (a : Nat) (p1 : Int32) : zP Int32 := (z_bd (p_X8_checkRange p1 1 1440) (fun _ => (z_bd (z_gA 8 a 6) (fun v2 => (z_bd (z_gI 5 v2 7) (fun v3 => (if (v3 + p1) ≤ 9999 then (z_bd (z_gA 8 a 2) (fun v4 => (z_bd (z_gA 8 a 6) (fun v5 => (z_bd (z_cv 3 v4 (p_X3_remember v4 v5)) (fun _ => (z_bd (z_gA 8 a 6) (fun v7 => (z_bd (z_cv 5 v7 (p_X5_advance v7 p1)) (fun r8 => (z_pu r8))))))))))) else (z_th "java/lang/IllegalStateException"))))))))
set_option maxHeartbeats 4000000 in
set_option maxRecDepth 100000 in
theorem s_X8_pass (a : Nat) (p1 : Int32) : z_Sound yX8_pass cX8_pass 2 (some .int) 7 165 (fun D b => [.ref (b + a), .int p1]) z_ivI (p_X8_pass a p1) := by
  refine z_ofSim rfl (by intro D b; exact Nat.le_of_ble_eq_true rfl) (fun X C hT => ?_)
  unfold p_X8_pass
  refine r_sub [(0, .ref (x_b X + a)), (1, .int p1)] rfl ?_
  refine r_iload_n (pc := 0) C dX8_pass_0 rfl rfl ?_
  refine r_iconst (pc := 1) C dX8_pass_1 ki_1 ?_
  refine r_sipush (pc := 2) C dX8_pass_2 ks_1440 ?_
  refine r_cSV (pc := 5) C [.int p1, .int 1, .int 1440] [] (z_KX.zero hT) (s_X8_checkRange p1 1 1440) mt_X8_checkRange dX8_pass_5 ml_X8_219 sm_X8_checkRange rfl rfl rfl (Nat.le_of_ble_eq_true rfl) ⟨Nat.le_of_ble_eq_true rfl, Nat.le_of_ble_eq_true rfl⟩ ?_
  refine r_aload_n (pc := 8) C dX8_pass_8 rfl rfl ?_
  refine r_getA (pc := 9) C dX8_pass_9 fl_X8_57 rfl (fun v2 => ?_)
  refine r_getI (pc := 12) C dX8_pass_12 fl_X8_100 rfl (fun v3 => ?_)
  refine r_iload_n (pc := 15) C dX8_pass_15 rfl rfl ?_
  refine r_iadd (pc := 16) C dX8_pass_16 ?_
  refine r_sipush (pc := 17) C dX8_pass_17 ks_9999 ?_
  refine r_icmp_le (pc := 20) C (tgt := 33) dX8_pass_20 rfl (fun _ => ?_) (fun _ => ?_)
  · refine r_aload_n (pc := 33) C dX8_pass_33 rfl rfl ?_
    refine r_getA (pc := 34) C dX8_pass_34 fl_X8_23 rfl (fun v4 => ?_)
    refine r_aload_n (pc := 37) C dX8_pass_37 rfl rfl ?_
    refine r_getA (pc := 38) C dX8_pass_38 fl_X8_57 rfl (fun v5 => ?_)
    refine r_cVV (pc := 41) C [.ref (x_b X + v5)] [] (z_KX.zero hT) (s_X3_remember v4 v5) mt_X3_remember zc_3 dX8_pass_41 ml_X8_238 im_X3_remember se_X3_remember rfl rfl rfl (Nat.le_of_ble_eq_true rfl) ⟨Nat.le_of_ble_eq_true rfl, Nat.le_of_ble_eq_true rfl⟩ ?_
    refine r_aload_n (pc := 44) C dX8_pass_44 rfl rfl ?_
    refine r_getA (pc := 45) C dX8_pass_45 fl_X8_57 rfl (fun v7 => ?_)
    refine r_iload_n (pc := 48) C dX8_pass_48 rfl rfl ?_
    refine r_cVI (pc := 49) C [.int p1] [] (z_KX.zero hT) (s_X5_advance v7 p1) mt_X5_advance zc_5 dX8_pass_49 ml_X8_227 im_X5_advance se_X5_advance rfl rfl rfl (Nat.le_of_ble_eq_true rfl) ⟨Nat.le_of_ble_eq_true rfl, Nat.le_of_ble_eq_true rfl⟩ (fun r8 => ?_)
    exact r_iret (pc := 52) C dX8_pass_52
  · exact r_throw (pc := 23) (i := 18) C (z_KX.zero hT) dX8_pass_23 dX8_pass_26 dX8_pass_27 dX8_pass_29 dX8_pass_32 (by decide) rfl cl_X8_233 ti_ISE tw_ISE to_ISE tt_ISE (by decide) (Nat.le_of_ble_eq_true rfl) (Nat.le_of_ble_eq_true rfl)
noncomputable def p_X8_rent (a : Nat) (p1 : Int32) (p2 : Int32) : zP Int32 := (z_bd (z_cv 8 a (p_X8_checkStation a p1)) (fun _ => (z_bd (z_cv 8 a (p_X8_checkStation a p2)) (fun _ => (z_bd (z_gA 8 a 6) (fun v3 => (z_bd (z_cv 5 v3 (p_X5_canRide v3 p1)) (fun r4 => (if r4 = 0 then (z_th "java/lang/IllegalStateException") else (z_bd (z_gA 8 a 2) (fun v5 => (z_bd (z_gA 8 a 6) (fun v6 => (z_bd (z_cv 3 v5 (p_X3_remember v5 v6)) (fun _ => (z_bd (z_gA 8 a 6) (fun v8 => (z_bd (z_cv 5 v8 (p_X5_startRide v8 p1 p2)) (fun _ => (z_bd (z_gA 8 a 6) (fun v10 => (z_bd (z_gI 5 v10 7) (fun v11 => (z_bd (z_gA 8 a 9) (fun v12 => (z_bd (z_cv 0 v12 (p_X0_riderMinutes v12 p1 p2)) (fun r13 => (z_pu (v11 + r13)))))))))))))))))))))))))))))
set_option maxHeartbeats 4000000 in
set_option maxRecDepth 100000 in
theorem s_X8_rent (a : Nat) (p1 : Int32) (p2 : Int32) : z_Sound yX8_rent cX8_rent 3 (some .int) 7 118 (fun D b => [.ref (b + a), .int p1, .int p2]) z_ivI (p_X8_rent a p1 p2) := by
  refine z_ofSim rfl (by intro D b; exact Nat.le_of_ble_eq_true rfl) (fun X C hT => ?_)
  unfold p_X8_rent
  refine r_sub [(0, .ref (x_b X + a)), (1, .int p1), (2, .int p2)] rfl ?_
  refine r_aload_n (pc := 0) C dX8_rent_0 rfl rfl ?_
  refine r_iload_n (pc := 1) C dX8_rent_1 rfl rfl ?_
  refine r_cVV (pc := 2) C [.int p1] [] (z_KX.zero hT) (s_X8_checkStation a p1) mt_X8_checkStation zc_8 dX8_rent_2 ml_X8_107 im_X8_checkStation se_X8_checkStation rfl rfl rfl (Nat.le_of_ble_eq_true rfl) ⟨Nat.le_of_ble_eq_true rfl, Nat.le_of_ble_eq_true rfl⟩ ?_
  refine r_aload_n (pc := 5) C dX8_rent_5 rfl rfl ?_
  refine r_iload_n (pc := 6) C dX8_rent_6 rfl rfl ?_
  refine r_cVV (pc := 7) C [.int p2] [] (z_KX.zero hT) (s_X8_checkStation a p2) mt_X8_checkStation zc_8 dX8_rent_7 ml_X8_107 im_X8_checkStation se_X8_checkStation rfl rfl rfl (Nat.le_of_ble_eq_true rfl) ⟨Nat.le_of_ble_eq_true rfl, Nat.le_of_ble_eq_true rfl⟩ ?_
  refine r_aload_n (pc := 10) C dX8_rent_10 rfl rfl ?_
  refine r_getA (pc := 11) C dX8_rent_11 fl_X8_57 rfl (fun v3 => ?_)
  refine r_iload_n (pc := 14) C dX8_rent_14 rfl rfl ?_
  refine r_cVI (pc := 15) C [.int p1] [] (z_KX.zero hT) (s_X5_canRide v3 p1) mt_X5_canRide zc_5 dX8_rent_15 ml_X8_241 im_X5_canRide se_X5_canRide rfl rfl rfl (Nat.le_of_ble_eq_true rfl) ⟨Nat.le_of_ble_eq_true rfl, Nat.le_of_ble_eq_true rfl⟩ (fun r4 => ?_)
  refine r_if_ne (pc := 18) C (tgt := 31) dX8_rent_18 rfl (fun _ => ?_) (fun _ => ?_)
  · exact r_throw (pc := 21) (i := 19) C (z_KX.zero hT) dX8_rent_21 dX8_rent_24 dX8_rent_25 dX8_rent_27 dX8_rent_30 (by decide) rfl cl_X8_233 ti_ISE tw_ISE to_ISE tt_ISE (by decide) (Nat.le_of_ble_eq_true rfl) (Nat.le_of_ble_eq_true rfl)
  · refine r_aload_n (pc := 31) C dX8_rent_31 rfl rfl ?_
    refine r_getA (pc := 32) C dX8_rent_32 fl_X8_23 rfl (fun v5 => ?_)
    refine r_aload_n (pc := 35) C dX8_rent_35 rfl rfl ?_
    refine r_getA (pc := 36) C dX8_rent_36 fl_X8_57 rfl (fun v6 => ?_)
    refine r_cVV (pc := 39) C [.ref (x_b X + v6)] [] (z_KX.zero hT) (s_X3_remember v5 v6) mt_X3_remember zc_3 dX8_rent_39 ml_X8_238 im_X3_remember se_X3_remember rfl rfl rfl (Nat.le_of_ble_eq_true rfl) ⟨Nat.le_of_ble_eq_true rfl, Nat.le_of_ble_eq_true rfl⟩ ?_
    refine r_aload_n (pc := 42) C dX8_rent_42 rfl rfl ?_
    refine r_getA (pc := 43) C dX8_rent_43 fl_X8_57 rfl (fun v8 => ?_)
    refine r_iload_n (pc := 46) C dX8_rent_46 rfl rfl ?_
    refine r_iload_n (pc := 47) C dX8_rent_47 rfl rfl ?_
    refine r_cVV (pc := 48) C [.int p1, .int p2] [] (z_KX.zero hT) (s_X5_startRide v8 p1 p2) mt_X5_startRide zc_5 dX8_rent_48 ml_X8_247 im_X5_startRide se_X5_startRide rfl rfl rfl (Nat.le_of_ble_eq_true rfl) ⟨Nat.le_of_ble_eq_true rfl, Nat.le_of_ble_eq_true rfl⟩ ?_
    refine r_aload_n (pc := 51) C dX8_rent_51 rfl rfl ?_
    refine r_getA (pc := 52) C dX8_rent_52 fl_X8_57 rfl (fun v10 => ?_)
    refine r_getI (pc := 55) C dX8_rent_55 fl_X8_100 rfl (fun v11 => ?_)
    refine r_aload_n (pc := 58) C dX8_rent_58 rfl rfl ?_
    refine r_getA (pc := 59) C dX8_rent_59 fl_X8_47 rfl (fun v12 => ?_)
    refine r_iload_n (pc := 62) C dX8_rent_62 rfl rfl ?_
    refine r_iload_n (pc := 63) C dX8_rent_63 rfl rfl ?_
    refine r_cVI (pc := 64) C [.int p1, .int p2] [.int v11] (z_KX.zero hT) (s_X0_riderMinutes v12 p1 p2) mt_X0_riderMinutes zc_0 dX8_rent_64 ml_X8_128 im_X0_riderMinutes se_X0_riderMinutes rfl rfl rfl (Nat.le_of_ble_eq_true rfl) ⟨Nat.le_of_ble_eq_true rfl, Nat.le_of_ble_eq_true rfl⟩ (fun r13 => ?_)
    refine r_iadd (pc := 67) C dX8_rent_67 ?_
    exact r_iret (pc := 68) C dX8_rent_68
noncomputable def p_X8_dispatch (a : Nat) (p1 : Int32) (p2 : Int32) (p3 : Int32) : zP Int32 := (z_bd (z_cv 8 a (p_X8_checkTruck a p1)) (fun _ => (z_bd (z_cv 8 a (p_X8_checkStation a p2)) (fun _ => (z_bd (p_X8_checkRange p3 0 20) (fun _ => (z_bd (z_gA 8 a 6) (fun v4 => (z_bd (z_gA 5 v4 4) (fun v5 => (z_bd (z_aA 14 v5 p1) (fun v6 => (z_bd (z_gI 7 v6 2) (fun v7 => (if v7 < 6 then (z_bd (z_gA 8 a 2) (fun v8 => (z_bd (z_gA 8 a 6) (fun v9 => (z_bd (z_cv 3 v8 (p_X3_remember v8 v9)) (fun _ => (z_bd (z_cv 7 v6 (p_X7_addOrder v6 p2 p3)) (fun _ => (z_bd (z_gA 8 a 6) (fun v12 => (z_bd (z_cv 5 v12 (p_X5_goOn v12 v6)) (fun _ => (z_bd (z_gI 7 v6 2) (fun v14 => (z_pu v14))))))))))))))) else (z_th "java/lang/IllegalStateException"))))))))))))))))
set_option maxHeartbeats 4000000 in
set_option maxRecDepth 100000 in
theorem s_X8_dispatch (a : Nat) (p1 : Int32) (p2 : Int32) (p3 : Int32) : z_Sound yX8_dispatch cX8_dispatch 5 (some .int) 7 109 (fun D b => [.ref (b + a), .int p1, .int p2, .int p3]) z_ivI (p_X8_dispatch a p1 p2 p3) := by
  refine z_ofSim rfl (by intro D b; exact Nat.le_of_ble_eq_true rfl) (fun X C hT => ?_)
  unfold p_X8_dispatch
  refine r_sub [(0, .ref (x_b X + a)), (1, .int p1), (2, .int p2), (3, .int p3)] rfl ?_
  refine r_aload_n (pc := 0) C dX8_dispatch_0 rfl rfl ?_
  refine r_iload_n (pc := 1) C dX8_dispatch_1 rfl rfl ?_
  refine r_cVV (pc := 2) C [.int p1] [] (z_KX.zero hT) (s_X8_checkTruck a p1) mt_X8_checkTruck zc_8 dX8_dispatch_2 ml_X8_170 im_X8_checkTruck se_X8_checkTruck rfl rfl rfl (Nat.le_of_ble_eq_true rfl) ⟨Nat.le_of_ble_eq_true rfl, Nat.le_of_ble_eq_true rfl⟩ ?_
  refine r_aload_n (pc := 5) C dX8_dispatch_5 rfl rfl ?_
  refine r_iload_n (pc := 6) C dX8_dispatch_6 rfl rfl ?_
  refine r_cVV (pc := 7) C [.int p2] [] (z_KX.zero hT) (s_X8_checkStation a p2) mt_X8_checkStation zc_8 dX8_dispatch_7 ml_X8_107 im_X8_checkStation se_X8_checkStation rfl rfl rfl (Nat.le_of_ble_eq_true rfl) ⟨Nat.le_of_ble_eq_true rfl, Nat.le_of_ble_eq_true rfl⟩ ?_
  refine r_iload_n (pc := 10) C dX8_dispatch_10 rfl rfl ?_
  refine r_iconst (pc := 11) C dX8_dispatch_11 ki_0 ?_
  refine r_bipush (pc := 12) C dX8_dispatch_12 kb_20 ?_
  refine r_cSV (pc := 14) C [.int p3, .int 0, .int 20] [] (z_KX.zero hT) (s_X8_checkRange p3 0 20) mt_X8_checkRange dX8_dispatch_14 ml_X8_219 sm_X8_checkRange rfl rfl rfl (Nat.le_of_ble_eq_true rfl) ⟨Nat.le_of_ble_eq_true rfl, Nat.le_of_ble_eq_true rfl⟩ ?_
  refine r_aload_n (pc := 17) C dX8_dispatch_17 rfl rfl ?_
  refine r_getA (pc := 18) C dX8_dispatch_18 fl_X8_57 rfl (fun v4 => ?_)
  refine r_getA (pc := 21) C dX8_dispatch_21 fl_X8_173 rfl (fun v5 => ?_)
  refine r_iload_n (pc := 24) C dX8_dispatch_24 rfl rfl ?_
  refine r_aald (pc := 25) C (by decide) dX8_dispatch_25 (fun v6 => ?_)
  refine r_sta (pc := 26) C [(0, .ref (x_b X + a)), (2, .int p2), (3, .int p3), (4, .ref (x_b X + v6))] dX8_dispatch_26 (by decide) rfl ?_
  refine r_aload (pc := 28) C dX8_dispatch_28 rfl ?_
  refine r_getI (pc := 30) C dX8_dispatch_30 fl_X8_194 rfl (fun v7 => ?_)
  refine r_bipush (pc := 33) C dX8_dispatch_33 kb_6 ?_
  refine r_icmp_lt (pc := 35) C (tgt := 48) dX8_dispatch_35 rfl (fun _ => ?_) (fun _ => ?_)
  · refine r_aload_n (pc := 48) C dX8_dispatch_48 rfl rfl ?_
    refine r_getA (pc := 49) C dX8_dispatch_49 fl_X8_23 rfl (fun v8 => ?_)
    refine r_aload_n (pc := 52) C dX8_dispatch_52 rfl rfl ?_
    refine r_getA (pc := 53) C dX8_dispatch_53 fl_X8_57 rfl (fun v9 => ?_)
    refine r_cVV (pc := 56) C [.ref (x_b X + v9)] [] (z_KX.zero hT) (s_X3_remember v8 v9) mt_X3_remember zc_3 dX8_dispatch_56 ml_X8_238 im_X3_remember se_X3_remember rfl rfl rfl (Nat.le_of_ble_eq_true rfl) ⟨Nat.le_of_ble_eq_true rfl, Nat.le_of_ble_eq_true rfl⟩ ?_
    refine r_aload (pc := 59) C dX8_dispatch_59 rfl ?_
    refine r_iload_n (pc := 61) C dX8_dispatch_61 rfl rfl ?_
    refine r_iload_n (pc := 62) C dX8_dispatch_62 rfl rfl ?_
    refine r_cVV (pc := 63) C [.int p2, .int p3] [] (z_KX.zero hT) (s_X7_addOrder v6 p2 p3) mt_X7_addOrder zc_7 dX8_dispatch_63 ml_X8_253 im_X7_addOrder se_X7_addOrder rfl rfl rfl (Nat.le_of_ble_eq_true rfl) ⟨Nat.le_of_ble_eq_true rfl, Nat.le_of_ble_eq_true rfl⟩ ?_
    refine r_aload_n (pc := 66) C dX8_dispatch_66 rfl rfl ?_
    refine r_getA (pc := 67) C dX8_dispatch_67 fl_X8_57 rfl (fun v12 => ?_)
    refine r_aload (pc := 70) C dX8_dispatch_70 rfl ?_
    refine r_cVV (pc := 72) C [.ref (x_b X + v6)] [] (z_KX.zero hT) (s_X5_goOn v12 v6) mt_X5_goOn zc_5 dX8_dispatch_72 ml_X8_256 im_X5_goOn se_X5_goOn rfl rfl rfl (Nat.le_of_ble_eq_true rfl) ⟨Nat.le_of_ble_eq_true rfl, Nat.le_of_ble_eq_true rfl⟩ ?_
    refine r_aload (pc := 75) C dX8_dispatch_75 rfl ?_
    refine r_getI (pc := 77) C dX8_dispatch_77 fl_X8_194 rfl (fun v14 => ?_)
    exact r_iret (pc := 80) C dX8_dispatch_80
  · exact r_throw (pc := 38) (i := 20) C (z_KX.zero hT) dX8_dispatch_38 dX8_dispatch_41 dX8_dispatch_42 dX8_dispatch_44 dX8_dispatch_47 (by decide) rfl cl_X8_233 ti_ISE tw_ISE to_ISE tt_ISE (by decide) (Nat.le_of_ble_eq_true rfl) (Nat.le_of_ble_eq_true rfl)
noncomputable def p_X8_cancel (a : Nat) (p1 : Int32) : zP Int32 := (z_bd (z_cv 8 a (p_X8_checkTruck a p1)) (fun _ => (z_bd (z_gA 8 a 2) (fun v2 => (z_bd (z_gA 8 a 6) (fun v3 => (z_bd (z_cv 3 v2 (p_X3_remember v2 v3)) (fun _ => (z_bd (z_gA 8 a 6) (fun v5 => (z_bd (z_gA 5 v5 4) (fun v6 => (z_bd (z_aA 14 v6 p1) (fun v7 => (z_bd (z_gI 7 v7 2) (fun v8 => (z_bd (z_gA 8 a 6) (fun v9 => (z_bd (z_gA 5 v9 4) (fun v10 => (z_bd (z_aA 14 v10 p1) (fun v11 => (z_bd (z_pI 7 v11 2 0) (fun _ => (z_pu v8)))))))))))))))))))))))))
set_option maxHeartbeats 4000000 in
set_option maxRecDepth 100000 in
theorem s_X8_cancel (a : Nat) (p1 : Int32) : z_Sound yX8_cancel cX8_cancel 3 (some .int) 7 109 (fun D b => [.ref (b + a), .int p1]) z_ivI (p_X8_cancel a p1) := by
  refine z_ofSim rfl (by intro D b; exact Nat.le_of_ble_eq_true rfl) (fun X C hT => ?_)
  unfold p_X8_cancel
  refine r_sub [(0, .ref (x_b X + a)), (1, .int p1)] rfl ?_
  refine r_aload_n (pc := 0) C dX8_cancel_0 rfl rfl ?_
  refine r_iload_n (pc := 1) C dX8_cancel_1 rfl rfl ?_
  refine r_cVV (pc := 2) C [.int p1] [] (z_KX.zero hT) (s_X8_checkTruck a p1) mt_X8_checkTruck zc_8 dX8_cancel_2 ml_X8_170 im_X8_checkTruck se_X8_checkTruck rfl rfl rfl (Nat.le_of_ble_eq_true rfl) ⟨Nat.le_of_ble_eq_true rfl, Nat.le_of_ble_eq_true rfl⟩ ?_
  refine r_aload_n (pc := 5) C dX8_cancel_5 rfl rfl ?_
  refine r_getA (pc := 6) C dX8_cancel_6 fl_X8_23 rfl (fun v2 => ?_)
  refine r_aload_n (pc := 9) C dX8_cancel_9 rfl rfl ?_
  refine r_getA (pc := 10) C dX8_cancel_10 fl_X8_57 rfl (fun v3 => ?_)
  refine r_cVV (pc := 13) C [.ref (x_b X + v3)] [] (z_KX.zero hT) (s_X3_remember v2 v3) mt_X3_remember zc_3 dX8_cancel_13 ml_X8_238 im_X3_remember se_X3_remember rfl rfl rfl (Nat.le_of_ble_eq_true rfl) ⟨Nat.le_of_ble_eq_true rfl, Nat.le_of_ble_eq_true rfl⟩ ?_
  refine r_aload_n (pc := 16) C dX8_cancel_16 rfl rfl ?_
  refine r_getA (pc := 17) C dX8_cancel_17 fl_X8_57 rfl (fun v5 => ?_)
  refine r_getA (pc := 20) C dX8_cancel_20 fl_X8_173 rfl (fun v6 => ?_)
  refine r_iload_n (pc := 23) C dX8_cancel_23 rfl rfl ?_
  refine r_aald (pc := 24) C (by decide) dX8_cancel_24 (fun v7 => ?_)
  refine r_getI (pc := 25) C dX8_cancel_25 fl_X8_194 rfl (fun v8 => ?_)
  refine r_sti_n (pc := 28) C 2 [(0, .ref (x_b X + a)), (1, .int p1), (2, .int v8)] dX8_cancel_28 rfl (by decide) rfl ?_
  refine r_aload_n (pc := 29) C dX8_cancel_29 rfl rfl ?_
  refine r_getA (pc := 30) C dX8_cancel_30 fl_X8_57 rfl (fun v9 => ?_)
  refine r_getA (pc := 33) C dX8_cancel_33 fl_X8_173 rfl (fun v10 => ?_)
  refine r_iload_n (pc := 36) C dX8_cancel_36 rfl rfl ?_
  refine r_aald (pc := 37) C (by decide) dX8_cancel_37 (fun v11 => ?_)
  refine r_iconst (pc := 38) C dX8_cancel_38 ki_0 ?_
  refine r_putI (pc := 39) C dX8_cancel_39 fl_X8_194 rfl rfl ?_
  refine r_iload_n (pc := 42) C dX8_cancel_42 rfl rfl ?_
  exact r_iret (pc := 43) C dX8_cancel_43
noncomputable def p_X8_breakDock (a : Nat) (p1 : Int32) : zP Int32 := (z_bd (z_cv 8 a (p_X8_checkStation a p1)) (fun _ => (z_bd (z_gA 8 a 6) (fun v2 => (z_bd (z_cv 5 v2 (p_X5_free v2 p1)) (fun r3 => (if r3 = 0 then (z_th "java/lang/IllegalStateException") else (z_bd (z_gA 8 a 2) (fun v4 => (z_bd (z_gA 8 a 6) (fun v5 => (z_bd (z_cv 3 v4 (p_X3_remember v4 v5)) (fun _ => (z_bd (z_gA 8 a 6) (fun v7 => (z_bd (z_gA 5 v7 1) (fun v8 => (z_bd (z_aI 11 v8 p1) (fun v9 => (z_bd (z_sI 11 v8 p1 (v9 + 1)) (fun _ => (z_bd (z_gA 8 a 6) (fun v10 => (z_bd (z_gA 5 v10 1) (fun v11 => (z_bd (z_aI 11 v11 p1) (fun v12 => (z_pu v12))))))))))))))))))))))))))))
set_option maxHeartbeats 4000000 in
set_option maxRecDepth 100000 in
theorem s_X8_breakDock (a : Nat) (p1 : Int32) : z_Sound yX8_breakDock cX8_breakDock 2 (some .int) 7 109 (fun D b => [.ref (b + a), .int p1]) z_ivI (p_X8_breakDock a p1) := by
  refine z_ofSim rfl (by intro D b; exact Nat.le_of_ble_eq_true rfl) (fun X C hT => ?_)
  unfold p_X8_breakDock
  refine r_sub [(0, .ref (x_b X + a)), (1, .int p1)] rfl ?_
  refine r_aload_n (pc := 0) C dX8_breakDock_0 rfl rfl ?_
  refine r_iload_n (pc := 1) C dX8_breakDock_1 rfl rfl ?_
  refine r_cVV (pc := 2) C [.int p1] [] (z_KX.zero hT) (s_X8_checkStation a p1) mt_X8_checkStation zc_8 dX8_breakDock_2 ml_X8_107 im_X8_checkStation se_X8_checkStation rfl rfl rfl (Nat.le_of_ble_eq_true rfl) ⟨Nat.le_of_ble_eq_true rfl, Nat.le_of_ble_eq_true rfl⟩ ?_
  refine r_aload_n (pc := 5) C dX8_breakDock_5 rfl rfl ?_
  refine r_getA (pc := 6) C dX8_breakDock_6 fl_X8_57 rfl (fun v2 => ?_)
  refine r_iload_n (pc := 9) C dX8_breakDock_9 rfl rfl ?_
  refine r_cVI (pc := 10) C [.int p1] [] (z_KX.zero hT) (s_X5_free v2 p1) mt_X5_free zc_5 dX8_breakDock_10 ml_X8_114 im_X5_free se_X5_free rfl rfl rfl (Nat.le_of_ble_eq_true rfl) ⟨Nat.le_of_ble_eq_true rfl, Nat.le_of_ble_eq_true rfl⟩ (fun r3 => ?_)
  refine r_if_ne (pc := 13) C (tgt := 27) dX8_breakDock_13 rfl (fun _ => ?_) (fun _ => ?_)
  · exact r_throwW (pc := 16) (i := 21) C (z_KX.zero hT) dX8_breakDock_16 dX8_breakDock_19 dX8_breakDock_20 dX8_breakDock_23 dX8_breakDock_26 (by decide) rfl cl_X8_233 ti_ISE tw_ISE to_ISE tt_ISE (by decide) (Nat.le_of_ble_eq_true rfl) (Nat.le_of_ble_eq_true rfl)
  · refine r_aload_n (pc := 27) C dX8_breakDock_27 rfl rfl ?_
    refine r_getA (pc := 28) C dX8_breakDock_28 fl_X8_23 rfl (fun v4 => ?_)
    refine r_aload_n (pc := 31) C dX8_breakDock_31 rfl rfl ?_
    refine r_getA (pc := 32) C dX8_breakDock_32 fl_X8_57 rfl (fun v5 => ?_)
    refine r_cVV (pc := 35) C [.ref (x_b X + v5)] [] (z_KX.zero hT) (s_X3_remember v4 v5) mt_X3_remember zc_3 dX8_breakDock_35 ml_X8_238 im_X3_remember se_X3_remember rfl rfl rfl (Nat.le_of_ble_eq_true rfl) ⟨Nat.le_of_ble_eq_true rfl, Nat.le_of_ble_eq_true rfl⟩ ?_
    refine r_aload_n (pc := 38) C dX8_breakDock_38 rfl rfl ?_
    refine r_getA (pc := 39) C dX8_breakDock_39 fl_X8_57 rfl (fun v7 => ?_)
    refine r_getA (pc := 42) C dX8_breakDock_42 fl_X8_118 rfl (fun v8 => ?_)
    refine r_iload_n (pc := 45) C dX8_breakDock_45 rfl rfl ?_
    refine r_dup2 (pc := 46) C dX8_breakDock_46 rfl rfl ?_
    refine r_iald (pc := 47) C dX8_breakDock_47 (fun v9 => ?_)
    refine r_iconst (pc := 48) C dX8_breakDock_48 ki_1 ?_
    refine r_iadd (pc := 49) C dX8_breakDock_49 ?_
    refine r_iast (pc := 50) C dX8_breakDock_50 ?_
    refine r_aload_n (pc := 51) C dX8_breakDock_51 rfl rfl ?_
    refine r_getA (pc := 52) C dX8_breakDock_52 fl_X8_57 rfl (fun v10 => ?_)
    refine r_getA (pc := 55) C dX8_breakDock_55 fl_X8_118 rfl (fun v11 => ?_)
    refine r_iload_n (pc := 58) C dX8_breakDock_58 rfl rfl ?_
    refine r_iald (pc := 59) C dX8_breakDock_59 (fun v12 => ?_)
    exact r_iret (pc := 60) C dX8_breakDock_60
