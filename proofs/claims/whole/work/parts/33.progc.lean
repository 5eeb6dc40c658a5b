noncomputable def p_X5_begin (a : Nat) (p1 : Nat) : zP Unit := (z_bd (z_pR 5 a 6 (some p1)) (fun _ => (z_bd (z_pI 5 a 7 0) (fun _ => (z_bd (z_pI 5 a 8 0) (fun _ => (z_bd (z_pI 5 a 9 0) (fun _ => (z_bd (z_pI 5 a 10 0) (fun _ => (z_bd (z_pI 5 a 11 0) (fun _ => (z_bd (z_pI 5 a 12 0) (fun _ => (z_bd (z_gA 5 a 5) (fun v1 => (z_bd (z_pI 4 v1 1 0) (fun _ => (z_bd (z_gA 5 a 6) (fun v2 => (z_bd (z_gA 0 v2 3) (fun v3 => (z_bd (z_gA 5 a 0) (fun v4 => (z_bd (z_cp v3 0 v4 0 8) (fun _ => (z_bd (z_gA 5 a 1) (fun v5 => (z_bd (p_J7_fill_53178 v5 0) (fun _ => (z_bd (z_gA 5 a 2) (fun v7 => (z_bd (p_J7_fill_53178 v7 0) (fun _ => (z_bd (z_gA 5 a 3) (fun v9 => (z_bd (p_J7_fill_53178 v9 0) (fun _ => (z_lp (fun (t11 : Int32) => (if 3 ≤ t11 then (z_pu (.inr ())) else (z_bd (z_gA 5 a 4) (fun v12 => (z_bd (z_aA 14 v12 t11) (fun v13 => (z_bd (z_gA 5 a 6) (fun v14 => (z_bd (z_gA 0 v14 4) (fun v15 => (z_bd (z_aI 11 v15 t11) (fun v16 => (z_bd (z_gA 5 a 6) (fun v17 => (z_bd (z_gA 0 v17 5) (fun v18 => (z_bd (z_aI 11 v18 t11) (fun v19 => (z_bd (z_cv 7 v13 (p_X7_begin v13 v16 v19)) (fun _ => (z_pu (.inl ((t11 + 1)))))))))))))))))))))))) 0)))))))))))))))))))))))))))))))))))))))
set_option maxHeartbeats 4000000 in
set_option maxRecDepth 100000 in
theorem s_X5_begin (a : Nat) (p1 : Nat) : z_Sound yX5_begin cX5_begin 3 none 2 43 (fun D b => [.ref (b + a), .ref (b + p1)]) z_ivV (p_X5_begin a p1) := by
  refine z_ofSim rfl (by intro D b; exact Nat.le_of_ble_eq_true rfl) (fun X C hT => ?_)
  unfold p_X5_begin
  refine r_sub [(0, .ref (x_b X + a)), (1, .ref (x_b X + p1))] rfl ?_
  refine r_aload_n (pc := 0) C dX5_begin_0 rfl rfl ?_
  refine r_aload_n (pc := 1) C dX5_begin_1 rfl rfl ?_
  refine r_putA (pc := 2) C dX5_begin_2 fl_X5_42 rfl (Or.inl rfl) ?_
  refine r_aload_n (pc := 5) C dX5_begin_5 rfl rfl ?_
  refine r_iconst (pc := 6) C dX5_begin_6 ki_0 ?_
  refine r_putI (pc := 7) C dX5_begin_7 fl_X5_46 rfl rfl ?_
  refine r_aload_n (pc := 10) C dX5_begin_10 rfl rfl ?_
  refine r_iconst (pc := 11) C dX5_begin_11 ki_0 ?_
  refine r_putI (pc := 12) C dX5_begin_12 fl_X5_50 rfl rfl ?_
  refine r_aload_n (pc := 15) C dX5_begin_15 rfl rfl ?_
  refine r_iconst (pc := 16) C dX5_begin_16 ki_0 ?_
  refine r_putI (pc := 17) C dX5_begin_17 fl_X5_53 rfl rfl ?_
  refine r_aload_n (pc := 20) C dX5_begin_20 rfl rfl ?_
  refine r_iconst (pc := 21) C dX5_begin_21 ki_0 ?_
  refine r_putI (pc := 22) C dX5_begin_22 fl_X5_56 rfl rfl ?_
  refine r_aload_n (pc := 25) C dX5_begin_25 rfl rfl ?_
  refine r_iconst (pc := 26) C dX5_begin_26 ki_0 ?_
  refine r_putI (pc := 27) C dX5_begin_27 fl_X5_59 rfl rfl ?_
  refine r_aload_n (pc := 30) C dX5_begin_30 rfl rfl ?_
  refine r_iconst (pc := 31) C dX5_begin_31 ki_0 ?_
  refine r_putI (pc := 32) C dX5_begin_32 fl_X5_62 rfl rfl ?_
  refine r_aload_n (pc := 35) C dX5_begin_35 rfl rfl ?_
  refine r_getA (pc := 36) C dX5_begin_36 fl_X5_33 rfl (fun v1 => ?_)
  refine r_iconst (pc := 39) C dX5_begin_39 ki_0 ?_
  refine r_putI (pc := 40) C dX5_begin_40 fl_X5_65 rfl rfl ?_
  refine r_aload_n (pc := 43) C dX5_begin_43 rfl rfl ?_
  refine r_getA (pc := 44) C dX5_begin_44 fl_X5_42 rfl (fun v2 => ?_)
  refine r_getA (pc := 47) C dX5_begin_47 fl_X5_68 rfl (fun v3 => ?_)
  refine r_iconst (pc := 50) C dX5_begin_50 ki_0 ?_
  refine r_aload_n (pc := 51) C dX5_begin_51 rfl rfl ?_
  refine r_getA (pc := 52) C dX5_begin_52 fl_X5_9 rfl (fun v4 => ?_)
  refine r_iconst (pc := 55) C dX5_begin_55 ki_0 ?_
  refine r_bipush (pc := 56) C dX5_begin_56 kb_8 ?_
  refine r_copy (pc := 58) C dX5_begin_58 ml_X5_71 na_acopy sm_acopy ini_sys (Nat.le_of_ble_eq_true rfl) (Nat.le_of_ble_eq_true rfl) ?_
  refine r_aload_n (pc := 61) C dX5_begin_61 rfl rfl ?_
  refine r_getA (pc := 62) C dX5_begin_62 fl_X5_15 rfl (fun v5 => ?_)
  refine r_iconst (pc := 65) C dX5_begin_65 ki_0 ?_
  refine r_cSV (pc := 66) C [.ref (x_b X + v5), .int 0] [] (z_KX.zero hT) (s_J7_fill_53178 v5 0) mt_J7_fill_53178 dX5_begin_66 ml_X5_77 sm_J7_fill_53178 rfl rfl rfl (Nat.le_of_ble_eq_true rfl) ⟨Nat.le_of_ble_eq_true rfl, Nat.le_of_ble_eq_true rfl⟩ ?_
  refine r_aload_n (pc := 69) C dX5_begin_69 rfl rfl ?_
  refine r_getA (pc := 70) C dX5_begin_70 fl_X5_18 rfl (fun v7 => ?_)
  refine r_iconst (pc := 73) C dX5_begin_73 ki_0 ?_
  refine r_cSV (pc := 74) C [.ref (x_b X + v7), .int 0] [] (z_KX.zero hT) (s_J7_fill_53178 v7 0) mt_J7_fill_53178 dX5_begin_74 ml_X5_77 sm_J7_fill_53178 rfl rfl rfl (Nat.le_of_ble_eq_true rfl) ⟨Nat.le_of_ble_eq_true rfl, Nat.le_of_ble_eq_true rfl⟩ ?_
  refine r_aload_n (pc := 77) C dX5_begin_77 rfl rfl ?_
  refine r_getA (pc := 78) C dX5_begin_78 fl_X5_21 rfl (fun v9 => ?_)
  refine r_iconst (pc := 81) C dX5_begin_81 ki_0 ?_
  refine r_cSV (pc := 82) C [.ref (x_b X + v9), .int 0] [] (z_KX.zero hT) (s_J7_fill_53178 v9 0) mt_J7_fill_53178 dX5_begin_82 ml_X5_77 sm_J7_fill_53178 rfl rfl rfl (Nat.le_of_ble_eq_true rfl) ⟨Nat.le_of_ble_eq_true rfl, Nat.le_of_ble_eq_true rfl⟩ ?_
  refine r_iconst (pc := 85) C dX5_begin_85 ki_0 ?_
  refine r_sti_n (pc := 86) C 2 [(0, .ref (x_b X + a)), (2, .int 0)] dX5_begin_86 rfl (by decide) rfl ?_
  refine r_sub [(0, .ref (x_b X + a)), (2, .int 0)] rfl ?_
  refine r_lp (pc := 87) (fun (t11 : Int32) => [(0, .ref (x_b X + a)), (2, .int t11)]) (fun t11 => ?_) 0
  refine r_iload_n (pc := 87) C dX5_begin_87 rfl rfl ?_
  refine r_iconst (pc := 88) C dX5_begin_88 ki_3 ?_
  refine r_icmp_ge (pc := 89) C (tgt := 125) dX5_begin_89 rfl (fun _ => ?_) (fun _ => ?_)
  · exact r_up (r_vret (pc := 125) C dX5_begin_125)
  · refine r_aload_n (pc := 92) C dX5_begin_92 rfl rfl ?_
    refine r_getA (pc := 93) C dX5_begin_93 fl_X5_26 rfl (fun v12 => ?_)
    refine r_iload_n (pc := 96) C dX5_begin_96 rfl rfl ?_
    refine r_aald (pc := 97) C (by decide) dX5_begin_97 (fun v13 => ?_)
    refine r_aload_n (pc := 98) C dX5_begin_98 rfl rfl ?_
    refine r_getA (pc := 99) C dX5_begin_99 fl_X5_42 rfl (fun v14 => ?_)
    refine r_getA (pc := 102) C dX5_begin_102 fl_X5_83 rfl (fun v15 => ?_)
    refine r_iload_n (pc := 105) C dX5_begin_105 rfl rfl ?_
    refine r_iald (pc := 106) C dX5_begin_106 (fun v16 => ?_)
    refine r_aload_n (pc := 107) C dX5_begin_107 rfl rfl ?_
    refine r_getA (pc := 108) C dX5_begin_108 fl_X5_42 rfl (fun v17 => ?_)
    refine r_getA (pc := 111) C dX5_begin_111 fl_X5_86 rfl (fun v18 => ?_)
    refine r_iload_n (pc := 114) C dX5_begin_114 rfl rfl ?_
    refine r_iald (pc := 115) C dX5_begin_115 (fun v19 => ?_)
    refine r_cVV (pc := 116) C [.int v16, .int v19] [] (z_KX.up (z_KX.zero hT)) (s_X7_begin v13 v16 v19) mt_X7_begin zc_7 dX5_begin_116 ml_X5_89 im_X7_begin se_X7_begin rfl rfl rfl (Nat.le_of_ble_eq_true rfl) ⟨Nat.le_of_ble_eq_true rfl, Nat.le_of_ble_eq_true rfl⟩ ?_
    refine r_inc (pc := 119) C 1 [(0, .ref (x_b X + a)), (2, .int (t11 + 1))] dX5_begin_119 rfl ki_1 (by decide) rfl ?_
    refine r_goto (pc := 122) C (tgt := 87) dX5_begin_122 rfl ?_
    refine r_sub [(0, .ref (x_b X + a)), (2, .int (t11 + 1))] rfl ?_
    exact r_br (τ := Int32) ((t11 + 1))
noncomputable def p_X5_init (a : Nat) (p1 : Nat) : zP Unit := (z_bd (z_na 11 8) (fun q1 => (z_bd (z_pR 5 a 0 (some q1)) (fun _ => (z_bd (z_na 11 8) (fun q2 => (z_bd (z_pR 5 a 1 (some q2)) (fun _ => (z_bd (z_na 11 64) (fun q3 => (z_bd (z_pR 5 a 2 (some q3)) (fun _ => (z_bd (z_na 11 64) (fun q4 => (z_bd (z_pR 5 a 3 (some q4)) (fun _ => (z_bd (z_na 14 3) (fun q5 => (z_bd (z_pR 5 a 4 (some q5)) (fun _ => (z_bd (z_nw 4 2) (fun q6 => (z_bd (p_X4_init q6) (fun _ => (z_bd (z_pR 5 a 5 (some q6)) (fun _ => (z_jn (τ := Unit) (z_lp (fun (t9 : Int32) => (if 3 ≤ t9 then (z_pu (.inr (.inl ()))) else (z_bd (z_gA 5 a 4) (fun v10 => (z_bd (z_nw 7 8) (fun q11 => (z_bd (p_X7_init q11) (fun _ => (z_bd (z_sR 14 7 v10 t9 q11) (fun _ => (z_pu (.inl ((t9 + 1)))))))))))))) 0) (fun t8 => (z_bd (z_cv 5 a (p_X5_begin a p1)) (fun _ => (z_pu ())))))))))))))))))))))))))))))))
set_option maxHeartbeats 4000000 in
set_option maxRecDepth 100000 in
theorem s_X5_init (a : Nat) (p1 : Nat) : z_Sound yX5_init cX5_init 3 none 3 65 (fun D b => [.ref (b + a), .ref (b + p1)]) z_ivV (p_X5_init a p1) := by
  refine z_ofSim rfl (by intro D b; exact Nat.le_of_ble_eq_true rfl) (fun X C hT => ?_)
  unfold p_X5_init
  refine r_sub [(0, .ref (x_b X + a)), (1, .ref (x_b X + p1))] rfl ?_
  refine r_aload_n (pc := 0) C dX5_init_0 rfl rfl ?_
  refine r_objInit (pc := 1) C dX5_init_1 ml_X5_3 im_obj cd_obj (Nat.le_of_ble_eq_true rfl) (Nat.le_of_ble_eq_true rfl) ?_
  refine r_aload_n (pc := 4) C dX5_init_4 rfl rfl ?_
  refine r_bipush (pc := 5) C dX5_init_5 kb_8 ?_
  refine r_newa (pc := 7) C (c := 11) (by decide) dX5_init_7 ac_int (fun q1 => ?_)
  refine r_putA (pc := 9) C dX5_init_9 fl_X5_9 rfl (Or.inr ⟨rfl, rfl⟩) ?_
  refine r_aload_n (pc := 12) C dX5_init_12 rfl rfl ?_
  refine r_bipush (pc := 13) C dX5_init_13 kb_8 ?_
  refine r_newa (pc := 15) C (c := 11) (by decide) dX5_init_15 ac_int (fun q2 => ?_)
  refine r_putA (pc := 17) C dX5_init_17 fl_X5_15 rfl (Or.inr ⟨rfl, rfl⟩) ?_
  refine r_aload_n (pc := 20) C dX5_init_20 rfl rfl ?_
  refine r_bipush (pc := 21) C dX5_init_21 kb_64 ?_
  refine r_newa (pc := 23) C (c := 11) (by decide) dX5_init_23 ac_int (fun q3 => ?_)
  refine r_putA (pc := 25) C dX5_init_25 fl_X5_18 rfl (Or.inr ⟨rfl, rfl⟩) ?_
  refine r_aload_n (pc := 28) C dX5_init_28 rfl rfl ?_
  refine r_bipush (pc := 29) C dX5_init_29 kb_64 ?_
  refine r_newa (pc := 31) C (c := 11) (by decide) dX5_init_31 ac_int (fun q4 => ?_)
  refine r_putA (pc := 33) C dX5_init_33 fl_X5_21 rfl (Or.inr ⟨rfl, rfl⟩) ?_
  refine r_aload_n (pc := 36) C dX5_init_36 rfl rfl ?_
  refine r_iconst (pc := 37) C dX5_init_37 ki_3 ?_
  refine r_anewa (pc := 38) C (Or.inr ⟨rfl, rfl⟩) dX5_init_38 cl_X5_24 (fun q5 => ?_)
  refine r_putA (pc := 41) C dX5_init_41 fl_X5_26 rfl (Or.inr ⟨rfl, rfl⟩) ?_
  refine r_aload_n (pc := 44) C dX5_init_44 rfl rfl ?_
  refine r_new (pc := 45) C dX5_init_45 zc_4 zb_4 cl_X5_30 ins_X4 ini_X4 (fun q6 => ?_)
  refine r_dup (pc := 48) C dX5_init_48 rfl ?_
  refine r_cIN (pc := 49) C [] [.ref (x_b X + q6), .ref (x_b X + a)] (z_KX.zero hT) (s_X4_init q6) mt_X4_init dX5_init_49 (by decide) im_X4_init rfl rfl rfl rfl (Nat.le_of_ble_eq_true rfl) ⟨Nat.le_of_ble_eq_true rfl, Nat.le_of_ble_eq_true rfl⟩ ?_
  refine r_putA (pc := 52) C dX5_init_52 fl_X5_33 rfl (Or.inr ⟨rfl, rfl⟩) ?_
  refine r_iconst (pc := 55) C dX5_init_55 ki_0 ?_
  refine r_sti_n (pc := 56) C 2 [(0, .ref (x_b X + a)), (1, .ref (x_b X + p1)), (2, .int 0)] dX5_init_56 rfl (by decide) rfl ?_
  refine r_jn 81 (fun (t8 : Unit) => [(0, .ref (x_b X + a)), (1, .ref (x_b X + p1))]) (fun (t8 : Unit) => []) (fun t8 => ?_) ?_
  · refine r_aload_n (pc := 81) C dX5_init_81 rfl rfl ?_
    refine r_aload_n (pc := 82) C dX5_init_82 rfl rfl ?_
    refine r_cVV (pc := 83) C [.ref (x_b X + p1)] [] (z_KX.zero hT) (s_X5_begin a p1) mt_X5_begin zc_5 dX5_init_83 ml_X5_38 im_X5_begin se_X5_begin rfl rfl rfl (Nat.le_of_ble_eq_true rfl) ⟨Nat.le_of_ble_eq_true rfl, Nat.le_of_ble_eq_true rfl⟩ ?_
    exact r_vret (pc := 86) C dX5_init_86
  · refine r_sub [(0, .ref (x_b X + a)), (1, .ref (x_b X + p1)), (2, .int 0)] rfl ?_
    refine r_lp (pc := 57) (fun (t9 : Int32) => [(0, .ref (x_b X + a)), (1, .ref (x_b X + p1)), (2, .int t9)]) (fun t9 => ?_) 0
    refine r_iload_n (pc := 57) C dX5_init_57 rfl rfl ?_
    refine r_iconst (pc := 58) C dX5_init_58 ki_3 ?_
    refine r_icmp_ge (pc := 59) C (tgt := 81) dX5_init_59 rfl (fun _ => ?_) (fun _ => ?_)
    · refine r_sub [(0, .ref (x_b X + a)), (1, .ref (x_b X + p1))] rfl ?_
      exact r_up (r_br (τ := Unit) ())
    · refine r_aload_n (pc := 62) C dX5_init_62 rfl rfl ?_
      refine r_getA (pc := 63) C dX5_init_63 fl_X5_26 rfl (fun v10 => ?_)
      refine r_iload_n (pc := 66) C dX5_init_66 rfl rfl ?_
      refine r_new (pc := 67) C dX5_init_67 zc_7 zb_7 cl_X5_24 ins_X7 ini_X7 (fun q11 => ?_)
      refine r_dup (pc := 70) C dX5_init_70 rfl ?_
      refine r_cIN (pc := 71) C [] [.ref (x_b X + q11), .int t9, .ref (x_b X + v10)] (z_KX.up (z_KX.up (z_KX.zero hT))) (s_X7_init q11) mt_X7_init dX5_init_71 (by decide) im_X7_init rfl rfl rfl rfl (Nat.le_of_ble_eq_true rfl) ⟨Nat.le_of_ble_eq_true rfl, Nat.le_of_ble_eq_true rfl⟩ ?_
      refine r_aast (pc := 74) C (Or.inr ⟨rfl, rfl⟩) ⟨_, _, _, zc_7⟩ dX5_init_74 ?_
      refine r_inc (pc := 75) C 1 [(0, .ref (x_b X + a)), (1, .ref (x_b X + p1)), (2, .int (t9 + 1))] dX5_init_75 rfl ki_1 (by decide) rfl ?_
      refine r_goto (pc := 78) C (tgt := 57) dX5_init_78 rfl ?_
      refine r_sub [(0, .ref (x_b X + a)), (1, .ref (x_b X + p1)), (2, .int (t9 + 1))] rfl ?_
      exact r_br (τ := Int32) ((t9 + 1))
noncomputable def p_X5_copy (a : Nat) (p1 : Nat) : zP Unit := (z_bd (z_gA 5 p1 6) (fun v1 => (z_bd (z_pR 5 a 6 (some v1)) (fun _ => (z_bd (z_gI 5 p1 7) (fun v2 => (z_bd (z_pI 5 a 7 v2) (fun _ => (z_bd (z_gI 5 p1 8) (fun v3 => (z_bd (z_pI 5 a 8 v3) (fun _ => (z_bd (z_gI 5 p1 9) (fun v4 => (z_bd (z_pI 5 a 9 v4) (fun _ => (z_bd (z_gI 5 p1 10) (fun v5 => (z_bd (z_pI 5 a 10 v5) (fun _ => (z_bd (z_gI 5 p1 11) (fun v6 => (z_bd (z_pI 5 a 11 v6) (fun _ => (z_bd (z_gI 5 p1 12) (fun v7 => (z_bd (z_pI 5 a 12 v7) (fun _ => (z_bd (z_gA 5 a 5) (fun v8 => (z_bd (z_gA 5 p1 5) (fun v9 => (z_bd (z_cv 4 v8 (p_X4_copy v8 v9)) (fun _ => (z_bd (z_gA 5 p1 0) (fun v11 => (z_bd (z_gA 5 a 0) (fun v12 => (z_bd (z_cp v11 0 v12 0 8) (fun _ => (z_bd (z_gA 5 p1 1) (fun v13 => (z_bd (z_gA 5 a 1) (fun v14 => (z_bd (z_cp v13 0 v14 0 8) (fun _ => (z_bd (z_gA 5 p1 2) (fun v15 => (z_bd (z_gA 5 a 2) (fun v16 => (z_bd (z_gA 5 a 2) (fun v17 => (z_bd (z_al 11 v17) (fun v18 => (z_bd (z_cp v15 0 v16 0 v18) (fun _ => (z_bd (z_gA 5 p1 3) (fun v19 => (z_bd (z_gA 5 a 3) (fun v20 => (z_bd (z_gA 5 a 3) (fun v21 => (z_bd (z_al 11 v21) (fun v22 => (z_bd (z_cp v19 0 v20 0 v22) (fun _ => (z_lp (fun (t23 : Int32) => (if 3 ≤ t23 then (z_pu (.inr ())) else (z_bd (z_gA 5 a 4) (fun v24 => (z_bd (z_aA 14 v24 t23) (fun v25 => (z_bd (z_gA 5 p1 4) (fun v26 => (z_bd (z_aA 14 v26 t23) (fun v27 => (z_bd (z_cv 7 v25 (p_X7_copy v25 v27)) (fun _ => (z_pu (.inl ((t23 + 1)))))))))))))))) 0)))))))))))))))))))))))))))))))))))))))))))))))))))))))))))))))))))
set_option maxHeartbeats 4000000 in
set_option maxRecDepth 100000 in
theorem s_X5_copy (a : Nat) (p1 : Nat) : z_Sound yX5_copy cX5_copy 3 none 2 41 (fun D b => [.ref (b + a), .ref (b + p1)]) z_ivV (p_X5_copy a p1) := by
  refine z_ofSim rfl (by intro D b; exact Nat.le_of_ble_eq_true rfl) (fun X C hT => ?_)
  unfold p_X5_copy
  refine r_sub [(0, .ref (x_b X + a)), (1, .ref (x_b X + p1))] rfl ?_
  refine r_aload_n (pc := 0) C dX5_copy_0 rfl rfl ?_
  refine r_aload_n (pc := 1) C dX5_copy_1 rfl rfl ?_
  refine r_getA (pc := 2) C dX5_copy_2 fl_X5_42 rfl (fun v1 => ?_)
  refine r_putA (pc := 5) C dX5_copy_5 fl_X5_42 rfl (Or.inl rfl) ?_
  refine r_aload_n (pc := 8) C dX5_copy_8 rfl rfl ?_
  refine r_aload_n (pc := 9) C dX5_copy_9 rfl rfl ?_
  refine r_getI (pc := 10) C dX5_copy_10 fl_X5_46 rfl (fun v2 => ?_)
  refine r_putI (pc := 13) C dX5_copy_13 fl_X5_46 rfl rfl ?_
  refine r_aload_n (pc := 16) C dX5_copy_16 rfl rfl ?_
  refine r_aload_n (pc := 17) C dX5_copy_17 rfl rfl ?_
  refine r_getI (pc := 18) C dX5_copy_18 fl_X5_50 rfl (fun v3 => ?_)
  refine r_putI (pc := 21) C dX5_copy_21 fl_X5_50 rfl rfl ?_
  refine r_aload_n (pc := 24) C dX5_copy_24 rfl rfl ?_
  refine r_aload_n (pc := 25) C dX5_copy_25 rfl rfl ?_
  refine r_getI (pc := 26) C dX5_copy_26 fl_X5_53 rfl (fun v4 => ?_)
  refine r_putI (pc := 29) C dX5_copy_29 fl_X5_53 rfl rfl ?_
  refine r_aload_n (pc := 32) C dX5_copy_32 rfl rfl ?_
  refine r_aload_n (pc := 33) C dX5_copy_33 rfl rfl ?_
  refine r_getI (pc := 34) C dX5_copy_34 fl_X5_56 rfl (fun v5 => ?_)
  refine r_putI (pc := 37) C dX5_copy_37 fl_X5_56 rfl rfl ?_
  refine r_aload_n (pc := 40) C dX5_copy_40 rfl rfl ?_
  refine r_aload_n (pc := 41) C dX5_copy_41 rfl rfl ?_
  refine r_getI (pc := 42) C dX5_copy_42 fl_X5_59 rfl (fun v6 => ?_)
  refine r_putI (pc := 45) C dX5_copy_45 fl_X5_59 rfl rfl ?_
  refine r_aload_n (pc := 48) C dX5_copy_48 rfl rfl ?_
  refine r_aload_n (pc := 49) C dX5_copy_49 rfl rfl ?_
  refine r_getI (pc := 50) C dX5_copy_50 fl_X5_62 rfl (fun v7 => ?_)
  refine r_putI (pc := 53) C dX5_copy_53 fl_X5_62 rfl rfl ?_
  refine r_aload_n (pc := 56) C dX5_copy_56 rfl rfl ?_
  refine r_getA (pc := 57) C dX5_copy_57 fl_X5_33 rfl (fun v8 => ?_)
  refine r_aload_n (pc := 60) C dX5_copy_60 rfl rfl ?_
  refine r_getA (pc := 61) C dX5_copy_61 fl_X5_33 rfl (fun v9 => ?_)
  refine r_cVV (pc := 64) C [.ref (x_b X + v9)] [] (z_KX.zero hT) (s_X4_copy v8 v9) mt_X4_copy zc_4 dX5_copy_64 ml_X5_92 im_X4_copy se_X4_copy rfl rfl rfl (Nat.le_of_ble_eq_true rfl) ⟨Nat.le_of_ble_eq_true rfl, Nat.le_of_ble_eq_true rfl⟩ ?_
  refine r_aload_n (pc := 67) C dX5_copy_67 rfl rfl ?_
  refine r_getA (pc := 68) C dX5_copy_68 fl_X5_9 rfl (fun v11 => ?_)
  refine r_iconst (pc := 71) C dX5_copy_71 ki_0 ?_
  refine r_aload_n (pc := 72) C dX5_copy_72 rfl rfl ?_
  refine r_getA (pc := 73) C dX5_copy_73 fl_X5_9 rfl (fun v12 => ?_)
  refine r_iconst (pc := 76) C dX5_copy_76 ki_0 ?_
  refine r_bipush (pc := 77) C dX5_copy_77 kb_8 ?_
  refine r_copy (pc := 79) C dX5_copy_79 ml_X5_71 na_acopy sm_acopy ini_sys (Nat.le_of_ble_eq_true rfl) (Nat.le_of_ble_eq_true rfl) ?_
  refine r_aload_n (pc := 82) C dX5_copy_82 rfl rfl ?_
  refine r_getA (pc := 83) C dX5_copy_83 fl_X5_15 rfl (fun v13 => ?_)
  refine r_iconst (pc := 86) C dX5_copy_86 ki_0 ?_
  refine r_aload_n (pc := 87) C dX5_copy_87 rfl rfl ?_
  refine r_getA (pc := 88) C dX5_copy_88 fl_X5_15 rfl (fun v14 => ?_)
  refine r_iconst (pc := 91) C dX5_copy_91 ki_0 ?_
  refine r_bipush (pc := 92) C dX5_copy_92 kb_8 ?_
  refine r_copy (pc := 94) C dX5_copy_94 ml_X5_71 na_acopy sm_acopy ini_sys (Nat.le_of_ble_eq_true rfl) (Nat.le_of_ble_eq_true rfl) ?_
  refine r_aload_n (pc := 97) C dX5_copy_97 rfl rfl ?_
  refine r_getA (pc := 98) C dX5_copy_98 fl_X5_18 rfl (fun v15 => ?_)
  refine r_iconst (pc := 101) C dX5_copy_101 ki_0 ?_
  refine r_aload_n (pc := 102) C dX5_copy_102 rfl rfl ?_
  refine r_getA (pc := 103) C dX5_copy_103 fl_X5_18 rfl (fun v16 => ?_)
  refine r_iconst (pc := 106) C dX5_copy_106 ki_0 ?_
  refine r_aload_n (pc := 107) C dX5_copy_107 rfl rfl ?_
  refine r_getA (pc := 108) C dX5_copy_108 fl_X5_18 rfl (fun v17 => ?_)
  refine r_alen (pc := 111) C (by decide) dX5_copy_111 (fun v18 => ?_)
  refine r_copy (pc := 112) C dX5_copy_112 ml_X5_71 na_acopy sm_acopy ini_sys (Nat.le_of_ble_eq_true rfl) (Nat.le_of_ble_eq_true rfl) ?_
  refine r_aload_n (pc := 115) C dX5_copy_115 rfl rfl ?_
  refine r_getA (pc := 116) C dX5_copy_116 fl_X5_21 rfl (fun v19 => ?_)
  refine r_iconst (pc := 119) C dX5_copy_119 ki_0 ?_
  refine r_aload_n (pc := 120) C dX5_copy_120 rfl rfl ?_
  refine r_getA (pc := 121) C dX5_copy_121 fl_X5_21 rfl (fun v20 => ?_)
  refine r_iconst (pc := 124) C dX5_copy_124 ki_0 ?_
  refine r_aload_n (pc := 125) C dX5_copy_125 rfl rfl ?_
  refine r_getA (pc := 126) C dX5_copy_126 fl_X5_21 rfl (fun v21 => ?_)
  refine r_alen (pc := 129) C (by decide) dX5_copy_129 (fun v22 => ?_)
  refine r_copy (pc := 130) C dX5_copy_130 ml_X5_71 na_acopy sm_acopy ini_sys (Nat.le_of_ble_eq_true rfl) (Nat.le_of_ble_eq_true rfl) ?_
  refine r_iconst (pc := 133) C dX5_copy_133 ki_0 ?_
  refine r_sti_n (pc := 134) C 2 [(0, .ref (x_b X + a)), (1, .ref (x_b X + p1)), (2, .int 0)] dX5_copy_134 rfl (by decide) rfl ?_
  refine r_sub [(0, .ref (x_b X + a)), (1, .ref (x_b X + p1)), (2, .int 0)] rfl ?_
  refine r_lp (pc := 135) (fun (t23 : Int32) => [(0, .ref (x_b X + a)), (1, .ref (x_b X + p1)), (2, .int t23)]) (fun t23 => ?_) 0
  refine r_iload_n (pc := 135) C dX5_copy_135 rfl rfl ?_
  refine r_iconst (pc := 136) C dX5_copy_136 ki_3 ?_
  refine r_icmp_ge (pc := 137) C (tgt := 161) dX5_copy_137 rfl (fun _ => ?_) (fun _ => ?_)
  · exact r_up (r_vret (pc := 161) C dX5_copy_161)
  · refine r_aload_n (pc := 140) C dX5_copy_140 rfl rfl ?_
    refine r_getA (pc := 141) C dX5_copy_141 fl_X5_26 rfl (fun v24 => ?_)
    refine r_iload_n (pc := 144) C dX5_copy_144 rfl rfl ?_
    refine r_aald (pc := 145) C (by decide) dX5_copy_145 (fun v25 => ?_)
    refine r_aload_n (pc := 146) C dX5_copy_146 rfl rfl ?_
    refine r_getA (pc := 147) C dX5_copy_147 fl_X5_26 rfl (fun v26 => ?_)
    refine r_iload_n (pc := 150) C dX5_copy_150 rfl rfl ?_
    refine r_aald (pc := 151) C (by decide) dX5_copy_151 (fun v27 => ?_)
    refine r_cVV (pc := 152) C [.ref (x_b X + v27)] [] (z_KX.up (z_KX.zero hT)) (s_X7_copy v25 v27) mt_X7_copy zc_7 dX5_copy_152 ml_X5_96 im_X7_copy se_X7_copy rfl rfl rfl (Nat.le_of_ble_eq_true rfl) ⟨Nat.le_of_ble_eq_true rfl, Nat.le_of_ble_eq_true rfl⟩ ?_
    refine r_inc (pc := 155) C 1 [(0, .ref (x_b X + a)), (1, .ref (x_b X + p1)), (2, .int (t23 + 1))] dX5_copy_155 rfl ki_1 (by decide) rfl ?_
    refine r_goto (pc := 158) C (tgt := 135) dX5_copy_158 rfl ?_
    refine r_sub [(0, .ref (x_b X + a)), (1, .ref (x_b X + p1)), (2, .int (t23 + 1))] rfl ?_
    exact r_br (τ := Int32) ((t23 + 1))
noncomputable def p_X5_working (a : Nat) (p1 : Int32) : zP Int32 := (z_bd (z_gA 5 a 6) (fun v1 => (z_bd (z_gA 0 v1 2) (fun v2 => (z_bd (z_aI 11 v2 p1) (fun v3 => (z_bd (z_gA 5 a 1) (fun v4 => (z_bd (z_aI 11 v4 p1) (fun v5 => (z_pu (v3 - v5))))))))))))
set_option maxHeartbeats 4000000 in
set_option maxRecDepth 100000 in
theorem s_X5_working (a : Nat) (p1 : Int32) : z_Sound yX5_working cX5_working 2 (some .int) 1 20 (fun D b => [.ref (b + a), .int p1]) z_ivI (p_X5_working a p1) := by
  refine z_ofSim rfl (by intro D b; exact Nat.le_of_ble_eq_true rfl) (fun X C hT => ?_)
  unfold p_X5_working
  refine r_sub [(0, .ref (x_b X + a)), (1, .int p1)] rfl ?_
  refine r_aload_n (pc := 0) C dX5_working_0 rfl rfl ?_
  refine r_getA (pc := 1) C dX5_working_1 fl_X5_42 rfl (fun v1 => ?_)
  refine r_getA (pc := 4) C dX5_working_4 fl_X5_99 rfl (fun v2 => ?_)
  refine r_iload_n (pc := 7) C dX5_working_7 rfl rfl ?_
  refine r_iald (pc := 8) C dX5_working_8 (fun v3 => ?_)
  refine r_aload_n (pc := 9) C dX5_working_9 rfl rfl ?_
  refine r_getA (pc := 10) C dX5_working_10 fl_X5_15 rfl (fun v4 => ?_)
  refine r_iload_n (pc := 13) C dX5_working_13 rfl rfl ?_
  refine r_iald (pc := 14) C dX5_working_14 (fun v5 => ?_)
  refine r_isub (pc := 15) C dX5_working_15 ?_
  exact r_iret (pc := 16) C dX5_working_16
noncomputable def p_X5_free (a : Nat) (p1 : Int32) : zP Int32 := (z_bd (z_gA 5 a 6) (fun v1 => (z_bd (z_gA 0 v1 2) (fun v2 => (z_bd (z_aI 11 v2 p1) (fun v3 => (z_bd (z_gA 5 a 1) (fun v4 => (z_bd (z_aI 11 v4 p1) (fun v5 => (z_bd (z_gA 5 a 0) (fun v6 => (z_bd (z_aI 11 v6 p1) (fun v7 => (z_pu ((v3 - v5) - v7))))))))))))))))
set_option maxHeartbeats 4000000 in
set_option maxRecDepth 100000 in
theorem s_X5_free (a : Nat) (p1 : Int32) : z_Sound yX5_free cX5_free 2 (some .int) 1 20 (fun D b => [.ref (b + a), .int p1]) z_ivI (p_X5_free a p1) := by
  refine z_ofSim rfl (by intro D b; exact Nat.le_of_ble_eq_true rfl) (fun X C hT => ?_)
  unfold p_X5_free
  refine r_sub [(0, .ref (x_b X + a)), (1, .int p1)] rfl ?_
  refine r_aload_n (pc := 0) C dX5_free_0 rfl rfl ?_
  refine r_getA (pc := 1) C dX5_free_1 fl_X5_42 rfl (fun v1 => ?_)
  refine r_getA (pc := 4) C dX5_free_4 fl_X5_99 rfl (fun v2 => ?_)
  refine r_iload_n (pc := 7) C dX5_free_7 rfl rfl ?_
  refine r_iald (pc := 8) C dX5_free_8 (fun v3 => ?_)
  refine r_aload_n (pc := 9) C dX5_free_9 rfl rfl ?_
  refine r_getA (pc := 10) C dX5_free_10 fl_X5_15 rfl (fun v4 => ?_)
  refine r_iload_n (pc := 13) C dX5_free_13 rfl rfl ?_
  refine r_iald (pc := 14) C dX5_free_14 (fun v5 => ?_)
  refine r_isub (pc := 15) C dX5_free_15 ?_
  refine r_aload_n (pc := 16) C dX5_free_16 rfl rfl ?_
  refine r_getA (pc := 17) C dX5_free_17 fl_X5_9 rfl (fun v6 => ?_)
  refine r_iload_n (pc := 20) C dX5_free_20 rfl rfl ?_
  refine r_iald (pc := 21) C dX5_free_21 (fun v7 => ?_)
  refine r_isub (pc := 22) C dX5_free_22 ?_
  exact r_iret (pc := 23) C dX5_free_23
noncomputable def p_X5_mark (a : Nat) (p1 : Int32) : zP Int32 := (z_bd (z_cv 5 a (p_X5_working a p1)) (fun r1 => (z_bd (z_gA 5 a 6) (fun v2 => (z_bd (z_gI 0 v2 15) (fun v3 => (z_pu ((r1 * v3) / 100))))))))
set_option maxHeartbeats 4000000 in
set_option maxRecDepth 100000 in
theorem s_X5_mark (a : Nat) (p1 : Int32) : z_Sound yX5_mark cX5_mark 2 (some .int) 2 41 (fun D b => [.ref (b + a), .int p1]) z_ivI (p_X5_mark a p1) := by
  refine z_ofSim rfl (by intro D b; exact Nat.le_of_ble_eq_true rfl) (fun X C hT => ?_)
  unfold p_X5_mark
  refine r_sub [(0, .ref (x_b X + a)), (1, .int p1)] rfl ?_
  refine r_aload_n (pc := 0) C dX5_mark_0 rfl rfl ?_
  refine r_iload_n (pc := 1) C dX5_mark_1 rfl rfl ?_
  refine r_cVI (pc := 2) C [.int p1] [] (z_KX.zero hT) (s_X5_working a p1) mt_X5_working zc_5 dX5_mark_2 ml_X5_102 im_X5_working se_X5_working rfl rfl rfl (Nat.le_of_ble_eq_true rfl) ⟨Nat.le_of_ble_eq_true rfl, Nat.le_of_ble_eq_true rfl⟩ (fun r1 => ?_)
  refine r_aload_n (pc := 5) C dX5_mark_5 rfl rfl ?_
  refine r_getA (pc := 6) C dX5_mark_6 fl_X5_42 rfl (fun v2 => ?_)
  refine r_getI (pc := 9) C dX5_mark_9 fl_X5_106 rfl (fun v3 => ?_)
  refine r_imul (pc := 12) C dX5_mark_12 ?_
  refine r_bipush (pc := 13) C dX5_mark_13 kb_100 ?_
  refine r_idiv (pc := 15) C dX5_mark_15 (by decide) ?_
  exact r_iret (pc := 16) C dX5_mark_16
noncomputable def p_X5_missing (a : Nat) (p1 : Int32) : zP Int32 := (z_bd (z_cv 5 a (p_X5_mark a p1)) (fun r1 => (z_bd (z_gA 5 a 0) (fun v2 => (z_bd (z_aI 11 v2 p1) (fun v3 => (z_bd (z_pu (if (0 : Int32) < (r1 - v3) then (r1 - v3) else 0)) (fun x4 => (z_bd (z_cv 5 a (p_X5_free a p1)) (fun r5 => (z_bd (z_pu (if (0 : Int32) < (r1 - r5) then (r1 - r5) else 0)) (fun x6 => (z_pu (x4 + x6))))))))))))))
set_option maxHeartbeats 4000000 in
set_option maxRecDepth 100000 in
theorem s_X5_missing (a : Nat) (p1 : Int32) : z_Sound yX5_missing cX5_missing 3 (some .int) 3 62 (fun D b => [.ref (b + a), .int p1]) z_ivI (p_X5_missing a p1) := by
  refine z_ofSim rfl (by intro D b; exact Nat.le_of_ble_eq_true rfl) (fun X C hT => ?_)
  unfold p_X5_missing
  refine r_sub [(0, .ref (x_b X + a)), (1, .int p1)] rfl ?_
  refine r_aload_n (pc := 0) C dX5_missing_0 rfl rfl ?_
  refine r_iload_n (pc := 1) C dX5_missing_1 rfl rfl ?_
  refine r_cVI (pc := 2) C [.int p1] [] (z_KX.zero hT) (s_X5_mark a p1) mt_X5_mark zc_5 dX5_missing_2 ml_X5_109 im_X5_mark se_X5_mark rfl rfl rfl (Nat.le_of_ble_eq_true rfl) ⟨Nat.le_of_ble_eq_true rfl, Nat.le_of_ble_eq_true rfl⟩ (fun r1 => ?_)
  refine r_sti_n (pc := 5) C 2 [(0, .ref (x_b X + a)), (1, .int p1), (2, .int r1)] dX5_missing_5 rfl (by decide) rfl ?_
  refine r_iconst (pc := 6) C dX5_missing_6 ki_0 ?_
  refine r_iload_n (pc := 7) C dX5_missing_7 rfl rfl ?_
  refine r_aload_n (pc := 8) C dX5_missing_8 rfl rfl ?_
  refine r_getA (pc := 9) C dX5_missing_9 fl_X5_9 rfl (fun v2 => ?_)
  refine r_iload_n (pc := 12) C dX5_missing_12 rfl rfl ?_
  refine r_iald (pc := 13) C dX5_missing_13 (fun v3 => ?_)
  refine r_isub (pc := 14) C dX5_missing_14 ?_
  refine r_max (pc := 15) C dX5_missing_15 ml_X5_112 sm_max ini_math cd_max (Nat.le_of_ble_eq_true rfl) (Nat.le_of_ble_eq_true rfl) ?_
  refine r_sub [(0, .ref (x_b X + a)), (1, .int p1), (2, .int r1)] rfl ?_
  refine r_let (if (0 : Int32) < (r1 - v3) then (r1 - v3) else 0) (fun x4 => [(0, .ref (x_b X + a)), (1, .int p1), (2, .int r1)]) (fun x4 => [.int x4]) (fun x4 => ?_)
  refine r_iconst (pc := 18) C dX5_missing_18 ki_0 ?_
  refine r_iload_n (pc := 19) C dX5_missing_19 rfl rfl ?_
  refine r_aload_n (pc := 20) C dX5_missing_20 rfl rfl ?_
  refine r_iload_n (pc := 21) C dX5_missing_21 rfl rfl ?_
  refine r_cVI (pc := 22) C [.int p1] [.int r1, .int 0, .int x4] (z_KX.zero hT) (s_X5_free a p1) mt_X5_free zc_5 dX5_missing_22 ml_X5_118 im_X5_free se_X5_free rfl rfl rfl (Nat.le_of_ble_eq_true rfl) ⟨Nat.le_of_ble_eq_true rfl, Nat.le_of_ble_eq_true rfl⟩ (fun r5 => ?_)
  refine r_isub (pc := 25) C dX5_missing_25 ?_
  refine r_max (pc := 26) C dX5_missing_26 ml_X5_112 sm_max ini_math cd_max (Nat.le_of_ble_eq_true rfl) (Nat.le_of_ble_eq_true rfl) ?_
  refine r_sub [] rfl ?_
  refine r_let (if (0 : Int32) < (r1 - r5) then (r1 - r5) else 0) (fun x6 => []) (fun x6 => [.int x6, .int x4]) (fun x6 => ?_)
  refine r_iadd (pc := 29) C dX5_missing_29 ?_
  exact r_iret (pc := 30) C dX5_missing_30
noncomputable def p_X5_isOut (a : Nat) (p1 : Int32) (p2 : Int32) : zP Int32 := (z_jn (τ := Int32) (if p2 = 0 then (z_bd (z_gA 5 a 0) (fun v2 => (z_bd (z_aI 11 v2 p1) (fun v3 => (z_pu (.inl v3)))))) else (z_bd (z_cv 5 a (p_X5_free a p1)) (fun r4 => (z_pu (.inl r4))))) (fun t1 => (if t1 = 0 then (z_pu 1) else (z_pu 0))))
set_option maxHeartbeats 4000000 in
set_option maxRecDepth 100000 in
theorem s_X5_isOut (a : Nat) (p1 : Int32) (p2 : Int32) : z_Sound yX5_isOut cX5_isOut 3 (some .boolean) 2 41 (fun D b => [.ref (b + a), .int p1, .int p2]) z_ivI (p_X5_isOut a p1 p2) := by
  refine z_ofSim rfl (by intro D b; exact Nat.le_of_ble_eq_true rfl) (fun X C hT => ?_)
  unfold p_X5_isOut
  refine r_sub [(0, .ref (x_b X + a)), (1, .int p1), (2, .int p2)] rfl ?_
  refine r_iload_n (pc := 0) C dX5_isOut_0 rfl rfl ?_
  refine r_jn 18 (fun (t1 : Int32) => []) (fun (t1 : Int32) => [.int t1]) (fun t1 => ?_) ?_
  · refine r_if_ne (pc := 18) C (tgt := 25) dX5_isOut_18 rfl (fun _ => ?_) (fun _ => ?_)
    · refine r_iconst (pc := 21) C dX5_isOut_21 ki_1 ?_
      refine r_goto (pc := 22) C (tgt := 26) dX5_isOut_22 rfl ?_
      exact r_zret1 (pc := 26) C dX5_isOut_26 (by decide)
    · refine r_iconst (pc := 25) C dX5_isOut_25 ki_0 ?_
      exact r_zret1 (pc := 26) C dX5_isOut_26 (by decide)
  · refine r_if_eq (pc := 1) C (tgt := 12) dX5_isOut_1 rfl (fun _ => ?_) (fun _ => ?_)
    · refine r_aload_n (pc := 12) C dX5_isOut_12 rfl rfl ?_
      refine r_getA (pc := 13) C dX5_isOut_13 fl_X5_9 rfl (fun v2 => ?_)
      refine r_iload_n (pc := 16) C dX5_isOut_16 rfl rfl ?_
      refine r_iald (pc := 17) C dX5_isOut_17 (fun v3 => ?_)
      refine r_sub [] rfl ?_
      exact r_br (τ := Int32) v3
    · refine r_aload_n (pc := 4) C dX5_isOut_4 rfl rfl ?_
      refine r_iload_n (pc := 5) C dX5_isOut_5 rfl rfl ?_
      refine r_cVI (pc := 6) C [.int p1] [] (z_KX.up (z_KX.zero hT)) (s_X5_free a p1) mt_X5_free zc_5 dX5_isOut_6 ml_X5_118 im_X5_free se_X5_free rfl rfl rfl (Nat.le_of_ble_eq_true rfl) ⟨Nat.le_of_ble_eq_true rfl, Nat.le_of_ble_eq_true rfl⟩ (fun r4 => ?_)
      refine r_goto (pc := 9) C (tgt := 18) dX5_isOut_9 rfl ?_
      refine r_sub [] rfl ?_
      exact r_br (τ := Int32) r4
noncomputable def p_X5_nearestOther (a : Nat) (p1 : Int32) (p2 : Int32) : zP Int32 := (z_lp (fun (t1 : Int32 × Int32 × Int32) => (z_bd (z_gA 5 a 6) (fun v2 => (z_bd (z_gI 0 v2 10) (fun v3 => (if v3 ≤ t1.2.2 then (z_pu (.inr t1.1)) else (if t1.2.2 = p1 then (z_pu (.inl (t1.1, t1.2.1, (t1.2.2 + 1)))) else (z_jn (τ := Int32) (if p2 = 0 then (z_bd (z_gA 5 a 0) (fun v5 => (z_bd (z_aI 11 v5 t1.2.2) (fun v6 => (z_pu (.inl v6)))))) else (z_bd (z_cv 5 a (p_X5_free a t1.2.2)) (fun r7 => (z_pu (.inl r7))))) (fun t4 => (if t4 = 0 then (z_pu (.inl (t1.1, t1.2.1, (t1.2.2 + 1)))) else (z_bd (z_gA 5 a 6) (fun v8 => (z_bd (z_cv 0 v8 (p_X0_distance v8 p1 t1.2.2)) (fun r9 => (if t1.1 = (-1) then (z_pu (.inl (t1.2.2, r9, (t1.2.2 + 1)))) else (if t1.2.1 ≤ r9 then (z_pu (.inl (t1.1, t1.2.1, (t1.2.2 + 1)))) else (z_pu (.inl (t1.2.2, r9, (t1.2.2 + 1)))))))))))))))))))) ((-1), 0, 0))
set_option maxHeartbeats 4000000 in
set_option maxRecDepth 100000 in
theorem s_X5_nearestOther (a : Nat) (p1 : Int32) (p2 : Int32) : z_Sound yX5_nearestOther cX5_nearestOther 7 (some .int) 2 44 (fun D b => [.ref (b + a), .int p1, .int p2]) z_ivI (p_X5_nearestOther a p1 p2) := by
  refine z_ofSim rfl (by intro D b; exact Nat.le_of_ble_eq_true rfl) (fun X C hT => ?_)
  unfold p_X5_nearestOther
  refine r_sub [(0, .ref (x_b X + a)), (1, .int p1), (2, .int p2)] rfl ?_
  refine r_iconst (pc := 0) C dX5_nearestOther_0 ki_m1 ?_
  refine r_sti_n (pc := 1) C 3 [(0, .ref (x_b X + a)), (1, .int p1), (2, .int p2), (3, .int (-1))] dX5_nearestOther_1 rfl (by decide) rfl ?_
  refine r_iconst (pc := 2) C dX5_nearestOther_2 ki_0 ?_
  refine r_sti (pc := 3) C [(0, .ref (x_b X + a)), (1, .int p1), (2, .int p2), (3, .int (-1)), (4, .int 0)] dX5_nearestOther_3 (by decide) rfl ?_
  refine r_iconst (pc := 5) C dX5_nearestOther_5 ki_0 ?_
  refine r_sti (pc := 6) C [(0, .ref (x_b X + a)), (1, .int p1), (2, .int p2), (3, .int (-1)), (4, .int 0), (5, .int 0)] dX5_nearestOther_6 (by decide) rfl ?_
  refine r_sub [(0, .ref (x_b X + a)), (1, .int p1), (2, .int p2), (3, .int (-1)), (4, .int 0), (5, .int 0)] rfl ?_
  refine r_lp (pc := 8) (fun (t1 : Int32 × Int32 × Int32) => [(0, .ref (x_b X + a)), (1, .int p1), (2, .int p2), (3, .int t1.1), (4, .int t1.2.1), (5, .int t1.2.2)]) (fun t1 => ?_) ((-1), 0, 0)
  refine r_iload (pc := 8) C dX5_nearestOther_8 rfl ?_
  refine r_aload_n (pc := 10) C dX5_nearestOther_10 rfl rfl ?_
  refine r_getA (pc := 11) C dX5_nearestOther_11 fl_X5_42 rfl (fun v2 => ?_)
  refine r_getI (pc := 14) C dX5_nearestOther_14 fl_X5_121 rfl (fun v3 => ?_)
  refine r_icmp_ge (pc := 17) C (tgt := 89) dX5_nearestOther_17 rfl (fun _ => ?_) (fun _ => ?_)
  · refine r_iload_n (pc := 89) C dX5_nearestOther_89 rfl rfl ?_
    exact r_up (r_iret (pc := 90) C dX5_nearestOther_90)
  · refine r_iload (pc := 20) C dX5_nearestOther_20 rfl ?_
    refine r_iload_n (pc := 22) C dX5_nearestOther_22 rfl rfl ?_
    refine r_icmp_eq (pc := 23) C (tgt := 83) dX5_nearestOther_23 rfl (fun _ => ?_) (fun _ => ?_)
    · refine r_inc (pc := 83) C 1 [(0, .ref (x_b X + a)), (1, .int p1), (2, .int p2), (3, .int t1.1), (4, .int t1.2.1), (5, .int (t1.2.2 + 1))] dX5_nearestOther_83 rfl ki_1 (by decide) rfl ?_
      refine r_goto (pc := 86) C (tgt := 8) dX5_nearestOther_86 rfl ?_
      refine r_sub [(0, .ref (x_b X + a)), (1, .int p1), (2, .int p2), (3, .int t1.1), (4, .int t1.2.1), (5, .int (t1.2.2 + 1))] rfl ?_
      exact r_br (τ := Int32 × Int32 × Int32) (t1.1, t1.2.1, (t1.2.2 + 1))
    · refine r_iload_n (pc := 26) C dX5_nearestOther_26 rfl rfl ?_
      refine r_jn 46 (fun (t4 : Int32) => [(0, .ref (x_b X + a)), (1, .int p1), (2, .int p2), (3, .int t1.1), (4, .int t1.2.1), (5, .int t1.2.2)]) (fun (t4 : Int32) => [.int t4]) (fun t4 => ?_) ?_
      · refine r_if_ne (pc := 46) C (tgt := 52) dX5_nearestOther_46 rfl (fun _ => ?_) (fun _ => ?_)
        · refine r_goto (pc := 49) C (tgt := 83) dX5_nearestOther_49 rfl ?_
          refine r_inc (pc := 83) C 1 [(0, .ref (x_b X + a)), (1, .int p1), (2, .int p2), (3, .int t1.1), (4, .int t1.2.1), (5, .int (t1.2.2 + 1))] dX5_nearestOther_83 rfl ki_1 (by decide) rfl ?_
          refine r_goto (pc := 86) C (tgt := 8) dX5_nearestOther_86 rfl ?_
          refine r_sub [(0, .ref (x_b X + a)), (1, .int p1), (2, .int p2), (3, .int t1.1), (4, .int t1.2.1), (5, .int (t1.2.2 + 1))] rfl ?_
          exact r_br (τ := Int32 × Int32 × Int32) (t1.1, t1.2.1, (t1.2.2 + 1))
        · refine r_aload_n (pc := 52) C dX5_nearestOther_52 rfl rfl ?_
          refine r_getA (pc := 53) C dX5_nearestOther_53 fl_X5_42 rfl (fun v8 => ?_)
          refine r_iload_n (pc := 56) C dX5_nearestOther_56 rfl rfl ?_
          refine r_iload (pc := 57) C dX5_nearestOther_57 rfl ?_
          refine r_cVI (pc := 59) C [.int p1, .int t1.2.2] [] (z_KX.up (z_KX.zero hT)) (s_X0_distance v8 p1 t1.2.2) mt_X0_distance zc_0 dX5_nearestOther_59 ml_X5_124 im_X0_distance se_X0_distance rfl rfl rfl (Nat.le_of_ble_eq_true rfl) ⟨Nat.le_of_ble_eq_true rfl, Nat.le_of_ble_eq_true rfl⟩ (fun r9 => ?_)
          refine r_sti (pc := 62) C [(0, .ref (x_b X + a)), (1, .int p1), (2, .int p2), (3, .int t1.1), (4, .int t1.2.1), (5, .int t1.2.2), (6, .int r9)] dX5_nearestOther_62 (by decide) rfl ?_
          refine r_iload_n (pc := 64) C dX5_nearestOther_64 rfl rfl ?_
          refine r_iconst (pc := 65) C dX5_nearestOther_65 ki_m1 ?_
          refine r_icmp_eq (pc := 66) C (tgt := 76) dX5_nearestOther_66 rfl (fun _ => ?_) (fun _ => ?_)
          · refine r_iload (pc := 76) C dX5_nearestOther_76 rfl ?_
            refine r_sti_n (pc := 78) C 3 [(0, .ref (x_b X + a)), (1, .int p1), (2, .int p2), (3, .int t1.2.2), (5, .int t1.2.2), (6, .int r9)] dX5_nearestOther_78 rfl (by decide) rfl ?_
            refine r_iload (pc := 79) C dX5_nearestOther_79 rfl ?_
            refine r_sti (pc := 81) C [(0, .ref (x_b X + a)), (1, .int p1), (2, .int p2), (3, .int t1.2.2), (4, .int r9), (5, .int t1.2.2)] dX5_nearestOther_81 (by decide) rfl ?_
            refine r_inc (pc := 83) C 1 [(0, .ref (x_b X + a)), (1, .int p1), (2, .int p2), (3, .int t1.2.2), (4, .int r9), (5, .int (t1.2.2 + 1))] dX5_nearestOther_83 rfl ki_1 (by decide) rfl ?_
            refine r_goto (pc := 86) C (tgt := 8) dX5_nearestOther_86 rfl ?_
            refine r_sub [(0, .ref (x_b X + a)), (1, .int p1), (2, .int p2), (3, .int t1.2.2), (4, .int r9), (5, .int (t1.2.2 + 1))] rfl ?_
            exact r_br (τ := Int32 × Int32 × Int32) (t1.2.2, r9, (t1.2.2 + 1))
          · refine r_iload (pc := 69) C dX5_nearestOther_69 rfl ?_
            refine r_iload (pc := 71) C dX5_nearestOther_71 rfl ?_
            refine r_icmp_ge (pc := 73) C (tgt := 83) dX5_nearestOther_73 rfl (fun _ => ?_) (fun _ => ?_)
            · refine r_inc (pc := 83) C 1 [(0, .ref (x_b X + a)), (1, .int p1), (2, .int p2), (3, .int t1.1), (4, .int t1.2.1), (5, .int (t1.2.2 + 1))] dX5_nearestOther_83 rfl ki_1 (by decide) rfl ?_
              refine r_goto (pc := 86) C (tgt := 8) dX5_nearestOther_86 rfl ?_
              refine r_sub [(0, .ref (x_b X + a)), (1, .int p1), (2, .int p2), (3, .int t1.1), (4, .int t1.2.1), (5, .int (t1.2.2 + 1))] rfl ?_
              exact r_br (τ := Int32 × Int32 × Int32) (t1.1, t1.2.1, (t1.2.2 + 1))
            · refine r_iload (pc := 76) C dX5_nearestOther_76 rfl ?_
              refine r_sti_n (pc := 78) C 3 [(0, .ref (x_b X + a)), (1, .int p1), (2, .int p2), (3, .int t1.2.2), (5, .int t1.2.2), (6, .int r9)] dX5_nearestOther_78 rfl (by decide) rfl ?_
              refine r_iload (pc := 79) C dX5_nearestOther_79 rfl ?_
              refine r_sti (pc := 81) C [(0, .ref (x_b X + a)), (1, .int p1), (2, .int p2), (3, .int t1.2.2), (4, .int r9), (5, .int t1.2.2)] dX5_nearestOther_81 (by decide) rfl ?_
              refine r_inc (pc := 83) C 1 [(0, .ref (x_b X + a)), (1, .int p1), (2, .int p2), (3, .int t1.2.2), (4, .int r9), (5, .int (t1.2.2 + 1))] dX5_nearestOther_83 rfl ki_1 (by decide) rfl ?_
              refine r_goto (pc := 86) C (tgt := 8) dX5_nearestOther_86 rfl ?_
              refine r_sub [(0, .ref (x_b X + a)), (1, .int p1), (2, .int p2), (3, .int t1.2.2), (4, .int r9), (5, .int (t1.2.2 + 1))] rfl ?_
              exact r_br (τ := Int32 × Int32 × Int32) (t1.2.2, r9, (t1.2.2 + 1))
      · refine r_if_eq (pc := 27) C (tgt := 39) dX5_nearestOther_27 rfl (fun _ => ?_) (fun _ => ?_)
        · refine r_aload_n (pc := 39) C dX5_nearestOther_39 rfl rfl ?_
          refine r_getA (pc := 40) C dX5_nearestOther_40 fl_X5_9 rfl (fun v5 => ?_)
          refine r_iload (pc := 43) C dX5_nearestOther_43 rfl ?_
          refine r_iald (pc := 45) C dX5_nearestOther_45 (fun v6 => ?_)
          refine r_sub [(0, .ref (x_b X + a)), (1, .int p1), (2, .int p2), (3, .int t1.1), (4, .int t1.2.1), (5, .int t1.2.2)] rfl ?_
          exact r_br (τ := Int32) v6
        · refine r_aload_n (pc := 30) C dX5_nearestOther_30 rfl rfl ?_
          refine r_iload (pc := 31) C dX5_nearestOther_31 rfl ?_
          refine r_cVI (pc := 33) C [.int t1.2.2] [] (z_KX.up (z_KX.up (z_KX.zero hT))) (s_X5_free a t1.2.2) mt_X5_free zc_5 dX5_nearestOther_33 ml_X5_118 im_X5_free se_X5_free rfl rfl rfl (Nat.le_of_ble_eq_true rfl) ⟨Nat.le_of_ble_eq_true rfl, Nat.le_of_ble_eq_true rfl⟩ (fun r7 => ?_)
          refine r_goto (pc := 36) C (tgt := 46) dX5_nearestOther_36 rfl ?_
          refine r_sub [(0, .ref (x_b X + a)), (1, .int p1), (2, .int p2), (3, .int t1.1), (4, .int t1.2.1), (5, .int t1.2.2)] rfl ?_
          exact r_br (τ := Int32) r7
noncomputable def p_X5_bonusNow (a : Nat) (p1 : Int32) : zP Int32 := (z_bd (z_gA 5 a 0) (fun v1 => (z_bd (z_aI 11 v1 p1) (fun v2 => (z_bd (z_gA 5 a 6) (fun v3 => (z_bd (z_gI 0 v3 16) (fun v4 => (z_bd (z_cv 5 a (p_X5_working a p1)) (fun r5 => (if (v4 * r5) ≤ (v2 * 100) then (z_pu 0) else (z_bd (z_gA 5 a 6) (fun v6 => (z_bd (z_gI 0 v6 17) (fun v7 => (z_pu v7))))))))))))))))
set_option maxHeartbeats 4000000 in
set_option maxRecDepth 100000 in
theorem s_X5_bonusNow (a : Nat) (p1 : Int32) : z_Sound yX5_bonusNow cX5_bonusNow 2 (some .int) 2 41 (fun D b => [.ref (b + a), .int p1]) z_ivI (p_X5_bonusNow a p1) := by
  refine z_ofSim rfl (by intro D b; exact Nat.le_of_ble_eq_true rfl) (fun X C hT => ?_)
  unfold p_X5_bonusNow
  refine r_sub [(0, .ref (x_b X + a)), (1, .int p1)] rfl ?_
  refine r_aload_n (pc := 0) C dX5_bonusNow_0 rfl rfl ?_
  refine r_getA (pc := 1) C dX5_bonusNow_1 fl_X5_9 rfl (fun v1 => ?_)
  refine r_iload_n (pc := 4) C dX5_bonusNow_4 rfl rfl ?_
  refine r_iald (pc := 5) C dX5_bonusNow_5 (fun v2 => ?_)
  refine r_bipush (pc := 6) C dX5_bonusNow_6 kb_100 ?_
  refine r_imul (pc := 8) C dX5_bonusNow_8 ?_
  refine r_aload_n (pc := 9) C dX5_bonusNow_9 rfl rfl ?_
  refine r_getA (pc := 10) C dX5_bonusNow_10 fl_X5_42 rfl (fun v3 => ?_)
  refine r_getI (pc := 13) C dX5_bonusNow_13 fl_X5_127 rfl (fun v4 => ?_)
  refine r_aload_n (pc := 16) C dX5_bonusNow_16 rfl rfl ?_
  refine r_iload_n (pc := 17) C dX5_bonusNow_17 rfl rfl ?_
  refine r_cVI (pc := 18) C [.int p1] [.int v4, .int (v2 * 100)] (z_KX.zero hT) (s_X5_working a p1) mt_X5_working zc_5 dX5_bonusNow_18 ml_X5_102 im_X5_working se_X5_working rfl rfl rfl (Nat.le_of_ble_eq_true rfl) ⟨Nat.le_of_ble_eq_true rfl, Nat.le_of_ble_eq_true rfl⟩ (fun r5 => ?_)
  refine r_imul (pc := 21) C dX5_bonusNow_21 ?_
  refine r_icmp_ge (pc := 22) C (tgt := 35) dX5_bonusNow_22 rfl (fun _ => ?_) (fun _ => ?_)
  · refine r_iconst (pc := 35) C dX5_bonusNow_35 ki_0 ?_
    exact r_iret (pc := 36) C dX5_bonusNow_36
  · refine r_aload_n (pc := 25) C dX5_bonusNow_25 rfl rfl ?_
    refine r_getA (pc := 26) C dX5_bonusNow_26 fl_X5_42 rfl (fun v6 => ?_)
    refine r_getI (pc := 29) C dX5_bonusNow_29 fl_X5_130 rfl (fun v7 => ?_)
    refine r_goto (pc := 32) C (tgt := 36) dX5_bonusNow_32 rfl ?_
    exact r_iret (pc := 36) C dX5_bonusNow_36
noncomputable def p_X5_truckBikes (a : Nat) : zP Int32 := (z_lp (fun (t1 : Int32 × Int32) => (z_bd (z_gA 5 a 6) (fun v2 => (z_bd (z_gI 0 v2 11) (fun v3 => (if v3 ≤ t1.2 then (z_pu (.inr t1.1)) else (z_bd (z_gA 5 a 4) (fun v4 => (z_bd (z_aA 14 v4 t1.2) (fun v5 => (z_bd (z_gI 7 v5 4) (fun v6 => (z_bd (z_pu ((t1.1 + v6))) (fun x7 => (z_pu (.inl (x7, (t1.2 + 1)))))))))))))))))) (0, 0))
set_option maxHeartbeats 4000000 in
set_option maxRecDepth 100000 in
theorem s_X5_truckBikes (a : Nat) : z_Sound yX5_truckBikes cX5_truckBikes 3 (some .int) 1 20 (fun D b => [.ref (b + a)]) z_ivI (p_X5_truckBikes a) := by
  refine z_ofSim rfl (by intro D b; exact Nat.le_of_ble_eq_true rfl) (fun X C hT => ?_)
  unfold p_X5_truckBikes
  refine r_sub [(0, .ref (x_b X + a))] rfl ?_
  refine r_iconst (pc := 0) C dX5_truckBikes_0 ki_0 ?_
  refine r_sti_n (pc := 1) C 1 [(0, .ref (x_b X + a)), (1, .int 0)] dX5_truckBikes_1 rfl (by decide) rfl ?_
  refine r_iconst (pc := 2) C dX5_truckBikes_2 ki_0 ?_
  refine r_sti_n (pc := 3) C 2 [(0, .ref (x_b X + a)), (1, .int 0), (2, .int 0)] dX5_truckBikes_3 rfl (by decide) rfl ?_
  refine r_sub [(0, .ref (x_b X + a)), (1, .int 0), (2, .int 0)] rfl ?_
  refine r_lp (pc := 4) (fun (t1 : Int32 × Int32) => [(0, .ref (x_b X + a)), (1, .int t1.1), (2, .int t1.2)]) (fun t1 => ?_) (0, 0)
  refine r_iload_n (pc := 4) C dX5_truckBikes_4 rfl rfl ?_
  refine r_aload_n (pc := 5) C dX5_truckBikes_5 rfl rfl ?_
  refine r_getA (pc := 6) C dX5_truckBikes_6 fl_X5_42 rfl (fun v2 => ?_)
  refine r_getI (pc := 9) C dX5_truckBikes_9 fl_X5_137 rfl (fun v3 => ?_)
  refine r_icmp_ge (pc := 12) C (tgt := 33) dX5_truckBikes_12 rfl (fun _ => ?_) (fun _ => ?_)
  · refine r_iload_n (pc := 33) C dX5_truckBikes_33 rfl rfl ?_
    exact r_up (r_iret (pc := 34) C dX5_truckBikes_34)
  · refine r_iload_n (pc := 15) C dX5_truckBikes_15 rfl rfl ?_
    refine r_aload_n (pc := 16) C dX5_truckBikes_16 rfl rfl ?_
    refine r_getA (pc := 17) C dX5_truckBikes_17 fl_X5_26 rfl (fun v4 => ?_)
    refine r_iload_n (pc := 20) C dX5_truckBikes_20 rfl rfl ?_
    refine r_aald (pc := 21) C (by decide) dX5_truckBikes_21 (fun v5 => ?_)
    refine r_getI (pc := 22) C dX5_truckBikes_22 fl_X5_139 rfl (fun v6 => ?_)
    refine r_iadd (pc := 25) C dX5_truckBikes_25 ?_
    refine r_sti_n (pc := 26) C 1 [(0, .ref (x_b X + a)), (1, .int (t1.1 + v6)), (2, .int t1.2)] dX5_truckBikes_26 rfl (by decide) rfl ?_
    refine r_let ((t1.1 + v6)) (fun x7 => [(0, .ref (x_b X + a)), (1, .int x7), (2, .int t1.2)]) (fun x7 => []) (fun x7 => ?_)
    refine r_inc (pc := 27) C 1 [(0, .ref (x_b X + a)), (1, .int x7), (2, .int (t1.2 + 1))] dX5_truckBikes_27 rfl ki_1 (by decide) rfl ?_
    refine r_goto (pc := 30) C (tgt := 4) dX5_truckBikes_30 rfl ?_
    refine r_sub [(0, .ref (x_b X + a)), (1, .int x7), (2, .int (t1.2 + 1))] rfl ?_
    exact r_br (τ := Int32 × Int32) (x7, (t1.2 + 1))
noncomputable def p_X5_sum (a : Nat) (p1 : Int32) : zP Int32 := (if p1 = 0 then (z_bd (z_gI 5 a 8) (fun v1 => (z_pu v1))) else (if p1 = 1 then (z_bd (z_gI 5 a 9) (fun v2 => (z_pu v2))) else (if p1 = 2 then (z_bd (z_gI 5 a 10) (fun v3 => (z_pu v3))) else (if p1 = 3 then (z_bd (z_gI 5 a 11) (fun v4 => (z_pu v4))) else (if p1 = 4 then (z_bd (z_gI 5 a 12) (fun v5 => (z_pu v5))) else (z_bd (z_cv 5 a (p_X5_truckBikes a)) (fun r6 => (z_pu r6))))))))
set_option maxHeartbeats 4000000 in
set_option maxRecDepth 100000 in
theorem s_X5_sum (a : Nat) (p1 : Int32) : z_Sound yX5_sum cX5_sum 2 (some .int) 2 42 (fun D b => [.ref (b + a), .int p1]) z_ivI (p_X5_sum a p1) := by
  refine z_ofSim rfl (by intro D b; exact Nat.le_of_ble_eq_true rfl) (fun X C hT => ?_)
  unfold p_X5_sum
  refine r_sub [(0, .ref (x_b X + a)), (1, .int p1)] rfl ?_
  refine r_iload_n (pc := 0) C dX5_sum_0 rfl rfl ?_
  refine r_ite (fun h1_0 => ?_) (fun h1_0 => ?_)
  · refine r_tin (pc := 1) C (k := 0) (off := 35) (tgt := 36) dX5_sum_1 h1_0 (by decide) rfl ?_
    refine r_aload_n (pc := 36) C dX5_sum_36 rfl rfl ?_
    refine r_getI (pc := 37) C dX5_sum_37 fl_X5_50 rfl (fun v1 => ?_)
    exact r_iret (pc := 40) C dX5_sum_40
  · refine r_ite (fun h1_1 => ?_) (fun h1_1 => ?_)
    · refine r_tin (pc := 1) C (k := 1) (off := 40) (tgt := 41) dX5_sum_1 h1_1 (by decide) rfl ?_
      refine r_aload_n (pc := 41) C dX5_sum_41 rfl rfl ?_
      refine r_getI (pc := 42) C dX5_sum_42 fl_X5_53 rfl (fun v2 => ?_)
      exact r_iret (pc := 45) C dX5_sum_45
    · refine r_ite (fun h1_2 => ?_) (fun h1_2 => ?_)
      · refine r_tin (pc := 1) C (k := 2) (off := 45) (tgt := 46) dX5_sum_1 h1_2 (by decide) rfl ?_
        refine r_aload_n (pc := 46) C dX5_sum_46 rfl rfl ?_
        refine r_getI (pc := 47) C dX5_sum_47 fl_X5_56 rfl (fun v3 => ?_)
        exact r_iret (pc := 50) C dX5_sum_50
      · refine r_ite (fun h1_3 => ?_) (fun h1_3 => ?_)
        · refine r_tin (pc := 1) C (k := 3) (off := 50) (tgt := 51) dX5_sum_1 h1_3 (by decide) rfl ?_
          refine r_aload_n (pc := 51) C dX5_sum_51 rfl rfl ?_
          refine r_getI (pc := 52) C dX5_sum_52 fl_X5_59 rfl (fun v4 => ?_)
          exact r_iret (pc := 55) C dX5_sum_55
        · refine r_ite (fun h1_4 => ?_) (fun h1_4 => ?_)
          · refine r_tin (pc := 1) C (k := 4) (off := 55) (tgt := 56) dX5_sum_1 h1_4 (by decide) rfl ?_
            refine r_aload_n (pc := 56) C dX5_sum_56 rfl rfl ?_
            refine r_getI (pc := 57) C dX5_sum_57 fl_X5_62 rfl (fun v5 => ?_)
            exact r_iret (pc := 60) C dX5_sum_60
          · refine r_tout (pc := 1) C (tgt := 61) dX5_sum_1 (by have q0 := lv_neT h1_0 (a := 0) (by decide); have q1 := lv_neT h1_1 (a := 1) (by decide); have q2 := lv_neT h1_2 (a := 2) (by decide); have q3 := lv_neT h1_3 (a := 3) (by decide); have q4 := lv_neT h1_4 (a := 4) (by decide); omega) rfl ?_
            refine r_aload_n (pc := 61) C dX5_sum_61 rfl rfl ?_
            refine r_cVI (pc := 62) C [] [] (z_KX.zero hT) (s_X5_truckBikes a) mt_X5_truckBikes zc_5 dX5_sum_62 ml_X5_133 im_X5_truckBikes se_X5_truckBikes rfl rfl rfl (Nat.le_of_ble_eq_true rfl) ⟨Nat.le_of_ble_eq_true rfl, Nat.le_of_ble_eq_true rfl⟩ (fun r6 => ?_)
            exact r_iret (pc := 65) C dX5_sum_65
noncomputable def p_X5_allBikes (a : Nat) : zP Int32 := (z_bd (z_cv 5 a (p_X5_truckBikes a)) (fun r1 => (z_bd (z_gA 5 a 5) (fun v2 => (z_bd (z_gI 4 v2 1) (fun v3 => (z_bd (z_pu ((r1 + v3))) (fun x4 => (z_lp (fun (t5 : Int32 × Int32) => (z_bd (z_gA 5 a 6) (fun v6 => (z_bd (z_gI 0 v6 10) (fun v7 => (if v7 ≤ t5.2 then (z_pu (.inr t5.1)) else (z_bd (z_gA 5 a 0) (fun v8 => (z_bd (z_aI 11 v8 t5.2) (fun v9 => (z_bd (z_pu ((t5.1 + v9))) (fun x10 => (z_pu (.inl (x10, (t5.2 + 1)))))))))))))))) (x4, 0))))))))))
set_option maxHeartbeats 4000000 in
set_option maxRecDepth 100000 in
theorem s_X5_allBikes (a : Nat) : z_Sound yX5_allBikes cX5_allBikes 3 (some .int) 2 42 (fun D b => [.ref (b + a)]) z_ivI (p_X5_allBikes a) := by
  refine z_ofSim rfl (by intro D b; exact Nat.le_of_ble_eq_true rfl) (fun X C hT => ?_)
  unfold p_X5_allBikes
  refine r_sub [(0, .ref (x_b X + a))] rfl ?_
  refine r_aload_n (pc := 0) C dX5_allBikes_0 rfl rfl ?_
  refine r_cVI (pc := 1) C [] [] (z_KX.zero hT) (s_X5_truckBikes a) mt_X5_truckBikes zc_5 dX5_allBikes_1 ml_X5_133 im_X5_truckBikes se_X5_truckBikes rfl rfl rfl (Nat.le_of_ble_eq_true rfl) ⟨Nat.le_of_ble_eq_true rfl, Nat.le_of_ble_eq_true rfl⟩ (fun r1 => ?_)
  refine r_aload_n (pc := 4) C dX5_allBikes_4 rfl rfl ?_
  refine r_getA (pc := 5) C dX5_allBikes_5 fl_X5_33 rfl (fun v2 => ?_)
  refine r_getI (pc := 8) C dX5_allBikes_8 fl_X5_65 rfl (fun v3 => ?_)
  refine r_iadd (pc := 11) C dX5_allBikes_11 ?_
  refine r_sti_n (pc := 12) C 1 [(0, .ref (x_b X + a)), (1, .int (r1 + v3))] dX5_allBikes_12 rfl (by decide) rfl ?_
  refine r_let ((r1 + v3)) (fun x4 => [(0, .ref (x_b X + a)), (1, .int x4)]) (fun x4 => []) (fun x4 => ?_)
  refine r_iconst (pc := 13) C dX5_allBikes_13 ki_0 ?_
  refine r_sti_n (pc := 14) C 2 [(0, .ref (x_b X + a)), (1, .int x4), (2, .int 0)] dX5_allBikes_14 rfl (by decide) rfl ?_
  refine r_sub [(0, .ref (x_b X + a)), (1, .int x4), (2, .int 0)] rfl ?_
  refine r_lp (pc := 15) (fun (t5 : Int32 × Int32) => [(0, .ref (x_b X + a)), (1, .int t5.1), (2, .int t5.2)]) (fun t5 => ?_) (x4, 0)
  refine r_iload_n (pc := 15) C dX5_allBikes_15 rfl rfl ?_
  refine r_aload_n (pc := 16) C dX5_allBikes_16 rfl rfl ?_
  refine r_getA (pc := 17) C dX5_allBikes_17 fl_X5_42 rfl (fun v6 => ?_)
  refine r_getI (pc := 20) C dX5_allBikes_20 fl_X5_121 rfl (fun v7 => ?_)
  refine r_icmp_ge (pc := 23) C (tgt := 41) dX5_allBikes_23 rfl (fun _ => ?_) (fun _ => ?_)
  · refine r_iload_n (pc := 41) C dX5_allBikes_41 rfl rfl ?_
    exact r_up (r_iret (pc := 42) C dX5_allBikes_42)
  · refine r_iload_n (pc := 26) C dX5_allBikes_26 rfl rfl ?_
    refine r_aload_n (pc := 27) C dX5_allBikes_27 rfl rfl ?_
    refine r_getA (pc := 28) C dX5_allBikes_28 fl_X5_9 rfl (fun v8 => ?_)
    refine r_iload_n (pc := 31) C dX5_allBikes_31 rfl rfl ?_
    refine r_iald (pc := 32) C dX5_allBikes_32 (fun v9 => ?_)
    refine r_iadd (pc := 33) C dX5_allBikes_33 ?_
    refine r_sti_n (pc := 34) C 1 [(0, .ref (x_b X + a)), (1, .int (t5.1 + v9)), (2, .int t5.2)] dX5_allBikes_34 rfl (by decide) rfl ?_
    refine r_let ((t5.1 + v9)) (fun x10 => [(0, .ref (x_b X + a)), (1, .int x10), (2, .int t5.2)]) (fun x10 => []) (fun x10 => ?_)
    refine r_inc (pc := 35) C 1 [(0, .ref (x_b X + a)), (1, .int x10), (2, .int (t5.2 + 1))] dX5_allBikes_35 rfl ki_1 (by decide) rfl ?_
    refine r_goto (pc := 38) C (tgt := 15) dX5_allBikes_38 rfl ?_
    refine r_sub [(0, .ref (x_b X + a)), (1, .int x10), (2, .int (t5.2 + 1))] rfl ?_
    exact r_br (τ := Int32 × Int32) (x10, (t5.2 + 1))
noncomputable def p_X5_isBusier (a : Nat) (p1 : Int32) (p2 : Int32) : zP Int32 := (z_bd (z_gA 5 a 2) (fun v1 => (z_bd (z_aI 11 v1 p1) (fun v2 => (z_bd (z_gA 5 a 2) (fun v3 => (z_bd (z_aI 11 v3 p2) (fun v4 => (if v4 < v2 then (z_pu 1) else (z_bd (z_gA 5 a 2) (fun v5 => (z_bd (z_aI 11 v5 p1) (fun v6 => (z_bd (z_gA 5 a 2) (fun v7 => (z_bd (z_aI 11 v7 p2) (fun v8 => (if v6 = v8 then (z_bd (z_gA 5 a 3) (fun v9 => (z_bd (z_aI 11 v9 p1) (fun v10 => (z_bd (z_gA 5 a 3) (fun v11 => (z_bd (z_aI 11 v11 p2) (fun v12 => (if v12 ≤ v10 then (z_pu 0) else (z_pu 1)))))))))) else (z_pu 0)))))))))))))))))))
set_option maxHeartbeats 4000000 in
set_option maxRecDepth 100000 in
theorem s_X5_isBusier (a : Nat) (p1 : Int32) (p2 : Int32) : z_Sound yX5_isBusier cX5_isBusier 3 (some .boolean) 1 20 (fun D b => [.ref (b + a), .int p1, .int p2]) z_ivI (p_X5_isBusier a p1 p2) := by
  refine z_ofSim rfl (by intro D b; exact Nat.le_of_ble_eq_true rfl) (fun X C hT => ?_)
  unfold p_X5_isBusier
  refine r_sub [(0, .ref (x_b X + a)), (1, .int p1), (2, .int p2)] rfl ?_
  refine r_aload_n (pc := 0) C dX5_isBusier_0 rfl rfl ?_
  refine r_getA (pc := 1) C dX5_isBusier_1 fl_X5_18 rfl (fun v1 => ?_)
  refine r_iload_n (pc := 4) C dX5_isBusier_4 rfl rfl ?_
  refine r_iald (pc := 5) C dX5_isBusier_5 (fun v2 => ?_)
  refine r_aload_n (pc := 6) C dX5_isBusier_6 rfl rfl ?_
  refine r_getA (pc := 7) C dX5_isBusier_7 fl_X5_18 rfl (fun v3 => ?_)
  refine r_iload_n (pc := 10) C dX5_isBusier_10 rfl rfl ?_
  refine r_iald (pc := 11) C dX5_isBusier_11 (fun v4 => ?_)
  refine r_icmp_gt (pc := 12) C (tgt := 45) dX5_isBusier_12 rfl (fun _ => ?_) (fun _ => ?_)
  · refine r_iconst (pc := 45) C dX5_isBusier_45 ki_1 ?_
    refine r_goto (pc := 46) C (tgt := 50) dX5_isBusier_46 rfl ?_
    exact r_zret1 (pc := 50) C dX5_isBusier_50 (by decide)
  · refine r_aload_n (pc := 15) C dX5_isBusier_15 rfl rfl ?_
    refine r_getA (pc := 16) C dX5_isBusier_16 fl_X5_18 rfl (fun v5 => ?_)
    refine r_iload_n (pc := 19) C dX5_isBusier_19 rfl rfl ?_
    refine r_iald (pc := 20) C dX5_isBusier_20 (fun v6 => ?_)
    refine r_aload_n (pc := 21) C dX5_isBusier_21 rfl rfl ?_
    refine r_getA (pc := 22) C dX5_isBusier_22 fl_X5_18 rfl (fun v7 => ?_)
    refine r_iload_n (pc := 25) C dX5_isBusier_25 rfl rfl ?_
    refine r_iald (pc := 26) C dX5_isBusier_26 (fun v8 => ?_)
    refine r_icmp_ne (pc := 27) C (tgt := 49) dX5_isBusier_27 rfl (fun _ => ?_) (fun _ => ?_)
    · refine r_aload_n (pc := 30) C dX5_isBusier_30 rfl rfl ?_
      refine r_getA (pc := 31) C dX5_isBusier_31 fl_X5_21 rfl (fun v9 => ?_)
      refine r_iload_n (pc := 34) C dX5_isBusier_34 rfl rfl ?_
      refine r_iald (pc := 35) C dX5_isBusier_35 (fun v10 => ?_)
      refine r_aload_n (pc := 36) C dX5_isBusier_36 rfl rfl ?_
      refine r_getA (pc := 37) C dX5_isBusier_37 fl_X5_21 rfl (fun v11 => ?_)
      refine r_iload_n (pc := 40) C dX5_isBusier_40 rfl rfl ?_
      refine r_iald (pc := 41) C dX5_isBusier_41 (fun v12 => ?_)
      refine r_icmp_ge (pc := 42) C (tgt := 49) dX5_isBusier_42 rfl (fun _ => ?_) (fun _ => ?_)
      · refine r_iconst (pc := 49) C dX5_isBusier_49 ki_0 ?_
        exact r_zret1 (pc := 50) C dX5_isBusier_50 (by decide)
      · refine r_iconst (pc := 45) C dX5_isBusier_45 ki_1 ?_
        refine r_goto (pc := 46) C (tgt := 50) dX5_isBusier_46 rfl ?_
        exact r_zret1 (pc := 50) C dX5_isBusier_50 (by decide)
    · refine r_iconst (pc := 49) C dX5_isBusier_49 ki_0 ?_
      exact r_zret1 (pc := 50) C dX5_isBusier_50 (by decide)
noncomputable def p_X5_busiest (a : Nat) : zP Int32 := (z_lp (fun (t1 : Int32 × Int32) => (z_bd (z_gA 5 a 2) (fun v2 => (z_bd (z_al 11 v2) (fun v3 => (if v3 ≤ t1.2 then (z_pu (.inr t1.1)) else (z_bd (z_gA 5 a 2) (fun v4 => (z_bd (z_aI 11 v4 t1.2) (fun v5 => (if v5 ≤ 0 then (z_pu (.inl (t1.1, (t1.2 + 1)))) else (if t1.1 = (-1) then (z_pu (.inl (t1.2, (t1.2 + 1)))) else (z_bd (z_cv 5 a (p_X5_isBusier a t1.2 t1.1)) (fun r6 => (if r6 = 0 then (z_pu (.inl (t1.1, (t1.2 + 1)))) else (z_pu (.inl (t1.2, (t1.2 + 1))))))))))))))))))) ((-1), 0))
set_option maxHeartbeats 4000000 in
set_option maxRecDepth 100000 in
theorem s_X5_busiest (a : Nat) : z_Sound yX5_busiest cX5_busiest 3 (some .int) 2 42 (fun D b => [.ref (b + a)]) z_ivI (p_X5_busiest a) := by
  refine z_ofSim rfl (by intro D b; exact Nat.le_of_ble_eq_true rfl) (fun X C hT => ?_)
  unfold p_X5_busiest
  refine r_sub [(0, .ref (x_b X + a))] rfl ?_
  refine r_iconst (pc := 0) C dX5_busiest_0 ki_m1 ?_
  refine r_sti_n (pc := 1) C 1 [(0, .ref (x_b X + a)), (1, .int (-1))] dX5_busiest_1 rfl (by decide) rfl ?_
  refine r_iconst (pc := 2) C dX5_busiest_2 ki_0 ?_
  refine r_sti_n (pc := 3) C 2 [(0, .ref (x_b X + a)), (1, .int (-1)), (2, .int 0)] dX5_busiest_3 rfl (by decide) rfl ?_
  refine r_sub [(0, .ref (x_b X + a)), (1, .int (-1)), (2, .int 0)] rfl ?_
  refine r_lp (pc := 4) (fun (t1 : Int32 × Int32) => [(0, .ref (x_b X + a)), (1, .int t1.1), (2, .int t1.2)]) (fun t1 => ?_) ((-1), 0)
  refine r_iload_n (pc := 4) C dX5_busiest_4 rfl rfl ?_
  refine r_aload_n (pc := 5) C dX5_busiest_5 rfl rfl ?_
  refine r_getA (pc := 6) C dX5_busiest_6 fl_X5_18 rfl (fun v2 => ?_)
  refine r_alen (pc := 9) C (by decide) dX5_busiest_9 (fun v3 => ?_)
  refine r_icmp_ge (pc := 10) C (tgt := 44) dX5_busiest_10 rfl (fun _ => ?_) (fun _ => ?_)
  · refine r_iload_n (pc := 44) C dX5_busiest_44 rfl rfl ?_
    exact r_up (r_iret (pc := 45) C dX5_busiest_45)
  · refine r_aload_n (pc := 13) C dX5_busiest_13 rfl rfl ?_
    refine r_getA (pc := 14) C dX5_busiest_14 fl_X5_18 rfl (fun v4 => ?_)
    refine r_iload_n (pc := 17) C dX5_busiest_17 rfl rfl ?_
    refine r_iald (pc := 18) C dX5_busiest_18 (fun v5 => ?_)
    refine r_if_le (pc := 19) C (tgt := 38) dX5_busiest_19 rfl (fun _ => ?_) (fun _ => ?_)
    · refine r_inc (pc := 38) C 1 [(0, .ref (x_b X + a)), (1, .int t1.1), (2, .int (t1.2 + 1))] dX5_busiest_38 rfl ki_1 (by decide) rfl ?_
      refine r_goto (pc := 41) C (tgt := 4) dX5_busiest_41 rfl ?_
      refine r_sub [(0, .ref (x_b X + a)), (1, .int t1.1), (2, .int (t1.2 + 1))] rfl ?_
      exact r_br (τ := Int32 × Int32) (t1.1, (t1.2 + 1))
    · refine r_iload_n (pc := 22) C dX5_busiest_22 rfl rfl ?_
      refine r_iconst (pc := 23) C dX5_busiest_23 ki_m1 ?_
      refine r_icmp_eq (pc := 24) C (tgt := 36) dX5_busiest_24 rfl (fun _ => ?_) (fun _ => ?_)
      · refine r_iload_n (pc := 36) C dX5_busiest_36 rfl rfl ?_
        refine r_sti_n (pc := 37) C 1 [(0, .ref (x_b X + a)), (1, .int t1.2), (2, .int t1.2)] dX5_busiest_37 rfl (by decide) rfl ?_
        refine r_inc (pc := 38) C 1 [(0, .ref (x_b X + a)), (1, .int t1.2), (2, .int (t1.2 + 1))] dX5_busiest_38 rfl ki_1 (by decide) rfl ?_
        refine r_goto (pc := 41) C (tgt := 4) dX5_busiest_41 rfl ?_
        refine r_sub [(0, .ref (x_b X + a)), (1, .int t1.2), (2, .int (t1.2 + 1))] rfl ?_
        exact r_br (τ := Int32 × Int32) (t1.2, (t1.2 + 1))
      · refine r_aload_n (pc := 27) C dX5_busiest_27 rfl rfl ?_
        refine r_iload_n (pc := 28) C dX5_busiest_28 rfl rfl ?_
        refine r_iload_n (pc := 29) C dX5_busiest_29 rfl rfl ?_
        refine r_cVI (pc := 30) C [.int t1.2, .int t1.1] [] (z_KX.up (z_KX.zero hT)) (s_X5_isBusier a t1.2 t1.1) mt_X5_isBusier zc_5 dX5_busiest_30 ml_X5_142 im_X5_isBusier se_X5_isBusier rfl rfl rfl (Nat.le_of_ble_eq_true rfl) ⟨Nat.le_of_ble_eq_true rfl, Nat.le_of_ble_eq_true rfl⟩ (fun r6 => ?_)
        refine r_if_eq (pc := 33) C (tgt := 38) dX5_busiest_33 rfl (fun _ => ?_) (fun _ => ?_)
        · refine r_inc (pc := 38) C 1 [(0, .ref (x_b X + a)), (1, .int t1.1), (2, .int (t1.2 + 1))] dX5_busiest_38 rfl ki_1 (by decide) rfl ?_
          refine r_goto (pc := 41) C (tgt := 4) dX5_busiest_41 rfl ?_
          refine r_sub [(0, .ref (x_b X + a)), (1, .int t1.1), (2, .int (t1.2 + 1))] rfl ?_
          exact r_br (τ := Int32 × Int32) (t1.1, (t1.2 + 1))
        · refine r_iload_n (pc := 36) C dX5_busiest_36 rfl rfl ?_
          refine r_sti_n (pc := 37) C 1 [(0, .ref (x_b X + a)), (1, .int t1.2), (2, .int t1.2)] dX5_busiest_37 rfl (by decide) rfl ?_
          refine r_inc (pc := 38) C 1 [(0, .ref (x_b X + a)), (1, .int t1.2), (2, .int (t1.2 + 1))] dX5_busiest_38 rfl ki_1 (by decide) rfl ?_
          refine r_goto (pc := 41) C (tgt := 4) dX5_busiest_41 rfl ?_
          refine r_sub [(0, .ref (x_b X + a)), (1, .int t1.2), (2, .int (t1.2 + 1))] rfl ?_
          exact r_br (τ := Int32 × Int32) (t1.2, (t1.2 + 1))
noncomputable def p_X5_fareNow (a : Nat) (p1 : Int32) (p2 : Int32) : zP Int32 := (z_bd (z_gA 5 a 6) (fun v1 => (z_bd (z_cv 0 v1 (p_X0_riderMinutes v1 p1 p2)) (fun r2 => (z_bd (z_gA 5 a 6) (fun v3 => (z_bd (z_gA 0 v3 9) (fun v4 => (z_bd (z_gA 5 a 0) (fun v5 => (z_bd (z_aI 11 v5 p1) (fun v6 => (z_bd (z_cv 5 a (p_X5_free a p2)) (fun r7 => (z_bd (z_gI 5 a 7) (fun v8 => (z_bd (z_pu ((v8 / 60))) (fun x9 => (z_bd (z_cv 2 v4 (p_X2_worth v4 r2 v6 r7 (x9 - x9 / 24 * 24))) (fun r10 => (z_bd (z_pu (if r10 < 9999 then r10 else 9999)) (fun x11 => (z_bd (z_pu (if (0 : Int32) < x11 then x11 else 0)) (fun x12 => (z_pu x12)))))))))))))))))))))))))
set_option maxHeartbeats 4000000 in
set_option maxRecDepth 100000 in
theorem s_X5_fareNow (a : Nat) (p1 : Int32) (p2 : Int32) : z_Sound yX5_fareNow cX5_fareNow 5 (some .int) 3 71 (fun D b => [.ref (b + a), .int p1, .int p2]) z_ivI (p_X5_fareNow a p1 p2) := by
  refine z_ofSim rfl (by intro D b; exact Nat.le_of_ble_eq_true rfl) (fun X C hT => ?_)
  unfold p_X5_fareNow
  refine r_sub [(0, .ref (x_b X + a)), (1, .int p1), (2, .int p2)] rfl ?_
  refine r_aload_n (pc := 0) C dX5_fareNow_0 rfl rfl ?_
  refine r_getA (pc := 1) C dX5_fareNow_1 fl_X5_42 rfl (fun v1 => ?_)
  refine r_iload_n (pc := 4) C dX5_fareNow_4 rfl rfl ?_
  refine r_iload_n (pc := 5) C dX5_fareNow_5 rfl rfl ?_
  refine r_cVI (pc := 6) C [.int p1, .int p2] [] (z_KX.zero hT) (s_X0_riderMinutes v1 p1 p2) mt_X0_riderMinutes zc_0 dX5_fareNow_6 ml_X5_146 im_X0_riderMinutes se_X0_riderMinutes rfl rfl rfl (Nat.le_of_ble_eq_true rfl) ⟨Nat.le_of_ble_eq_true rfl, Nat.le_of_ble_eq_true rfl⟩ (fun r2 => ?_)
  refine r_sti_n (pc := 9) C 3 [(0, .ref (x_b X + a)), (1, .int p1), (2, .int p2), (3, .int r2)] dX5_fareNow_9 rfl (by decide) rfl ?_
  refine r_aload_n (pc := 10) C dX5_fareNow_10 rfl rfl ?_
  refine r_getA (pc := 11) C dX5_fareNow_11 fl_X5_42 rfl (fun v3 => ?_)
  refine r_getA (pc := 14) C dX5_fareNow_14 fl_X5_149 rfl (fun v4 => ?_)
  refine r_iload_n (pc := 17) C dX5_fareNow_17 rfl rfl ?_
  refine r_aload_n (pc := 18) C dX5_fareNow_18 rfl rfl ?_
  refine r_getA (pc := 19) C dX5_fareNow_19 fl_X5_9 rfl (fun v5 => ?_)
  refine r_iload_n (pc := 22) C dX5_fareNow_22 rfl rfl ?_
  refine r_iald (pc := 23) C dX5_fareNow_23 (fun v6 => ?_)
  refine r_aload_n (pc := 24) C dX5_fareNow_24 rfl rfl ?_
  refine r_iload_n (pc := 25) C dX5_fareNow_25 rfl rfl ?_
  refine r_cVI (pc := 26) C [.int p2] [.int v6, .int r2, .ref (x_b X + v4)] (z_KX.zero hT) (s_X5_free a p2) mt_X5_free zc_5 dX5_fareNow_26 ml_X5_118 im_X5_free se_X5_free rfl rfl rfl (Nat.le_of_ble_eq_true rfl) ⟨Nat.le_of_ble_eq_true rfl, Nat.le_of_ble_eq_true rfl⟩ (fun r7 => ?_)
  refine r_aload_n (pc := 29) C dX5_fareNow_29 rfl rfl ?_
  refine r_getI (pc := 30) C dX5_fareNow_30 fl_X5_46 rfl (fun v8 => ?_)
  refine r_bipush (pc := 33) C dX5_fareNow_33 kb_60 ?_
  refine r_idiv (pc := 35) C dX5_fareNow_35 (by decide) ?_
  refine r_bipush (pc := 36) C dX5_fareNow_36 kb_24 ?_
  refine r_sub [] rfl ?_
  refine r_let ((v8 / 60)) (fun x9 => []) (fun x9 => [.int 24, .int x9, .int r7, .int v6, .int r2, .ref (x_b X + v4)]) (fun x9 => ?_)
  refine r_irem (pc := 38) C dX5_fareNow_38 (by decide) ?_
  refine r_cVI (pc := 39) C [.int r2, .int v6, .int r7, .int (x9 - x9 / 24 * 24)] [] (z_KX.zero hT) (s_X2_worth v4 r2 v6 r7 (x9 - x9 / 24 * 24)) mt_X2_worth zc_2 dX5_fareNow_39 ml_X5_153 im_X2_worth se_X2_worth rfl rfl rfl (Nat.le_of_ble_eq_true rfl) ⟨Nat.le_of_ble_eq_true rfl, Nat.le_of_ble_eq_true rfl⟩ (fun r10 => ?_)
  refine r_sti (pc := 42) C [(4, .int r10)] dX5_fareNow_42 (by decide) rfl ?_
  refine r_iconst (pc := 44) C dX5_fareNow_44 ki_0 ?_
  refine r_sipush (pc := 45) C dX5_fareNow_45 ks_9999 ?_
  refine r_iload (pc := 48) C dX5_fareNow_48 rfl ?_
  refine r_min (pc := 50) C dX5_fareNow_50 ml_X5_159 sm_min ini_math cd_min (Nat.le_of_ble_eq_true rfl) (Nat.le_of_ble_eq_true rfl) ?_
  refine r_sub [] rfl ?_
  refine r_let (if r10 < 9999 then r10 else 9999) (fun x11 => []) (fun x11 => [.int x11, .int 0]) (fun x11 => ?_)
  refine r_max (pc := 53) C dX5_fareNow_53 ml_X5_112 sm_max ini_math cd_max (Nat.le_of_ble_eq_true rfl) (Nat.le_of_ble_eq_true rfl) ?_
  refine r_sub [] rfl ?_
  refine r_let (if (0 : Int32) < x11 then x11 else 0) (fun x12 => []) (fun x12 => [.int x12]) (fun x12 => ?_)
  exact r_iret (pc := 56) C dX5_fareNow_56
noncomputable def p_X5_canRide (a : Nat) (p1 : Int32) : zP Int32 := (z_bd (z_gA 5 a 0) (fun v1 => (z_bd (z_aI 11 v1 p1) (fun v2 => (if v2 ≤ 0 then (z_pu 0) else (z_bd (z_gI 5 a 10) (fun v3 => (if 768 ≤ v3 then (z_pu 0) else (z_pu 1)))))))))
set_option maxHeartbeats 4000000 in
set_option maxRecDepth 100000 in
theorem s_X5_canRide (a : Nat) (p1 : Int32) : z_Sound yX5_canRide cX5_canRide 2 (some .boolean) 1 20 (fun D b => [.ref (b + a), .int p1]) z_ivI (p_X5_canRide a p1) := by
  refine z_ofSim rfl (by intro D b; exact Nat.le_of_ble_eq_true rfl) (fun X C hT => ?_)
  unfold p_X5_canRide
  refine r_sub [(0, .ref (x_b X + a)), (1, .int p1)] rfl ?_
  refine r_aload_n (pc := 0) C dX5_canRide_0 rfl rfl ?_
  refine r_getA (pc := 1) C dX5_canRide_1 fl_X5_9 rfl (fun v1 => ?_)
  refine r_iload_n (pc := 4) C dX5_canRide_4 rfl rfl ?_
  refine r_iald (pc := 5) C dX5_canRide_5 (fun v2 => ?_)
  refine r_if_le (pc := 6) C (tgt := 23) dX5_canRide_6 rfl (fun _ => ?_) (fun _ => ?_)
  · refine r_iconst (pc := 23) C dX5_canRide_23 ki_0 ?_
    exact r_zret1 (pc := 24) C dX5_canRide_24 (by decide)
  · refine r_aload_n (pc := 9) C dX5_canRide_9 rfl rfl ?_
    refine r_getI (pc := 10) C dX5_canRide_10 fl_X5_56 rfl (fun v3 => ?_)
    refine r_sipush (pc := 13) C dX5_canRide_13 ks_768 ?_
    refine r_icmp_ge (pc := 16) C (tgt := 23) dX5_canRide_16 rfl (fun _ => ?_) (fun _ => ?_)
    · refine r_iconst (pc := 23) C dX5_canRide_23 ki_0 ?_
      exact r_zret1 (pc := 24) C dX5_canRide_24 (by decide)
    · refine r_iconst (pc := 19) C dX5_canRide_19 ki_1 ?_
      refine r_goto (pc := 20) C (tgt := 24) dX5_canRide_20 rfl ?_
      exact r_zret1 (pc := 24) C dX5_canRide_24 (by decide)
noncomputable def p_X5_startRide (a : Nat) (p1 : Int32) (p2 : Int32) : zP Unit := (z_bd (z_pu (((8 * p1) + p2))) (fun x1 => (z_bd (z_gA 5 a 2) (fun v2 => (z_bd (z_aI 11 v2 x1) (fun v3 => (z_jn (τ := Unit) (if v3 = 0 then (z_bd (z_gA 5 a 3) (fun v5 => (z_bd (z_gI 5 a 10) (fun v6 => (z_bd (z_sI 11 v5 x1 v6) (fun _ => (z_pu (.inl ())))))))) else (z_pu (.inl ()))) (fun t4 => (z_bd (z_gA 5 a 2) (fun v7 => (z_bd (z_aI 11 v7 x1) (fun v8 => (z_bd (z_sI 11 v7 x1 (v8 + 1)) (fun _ => (z_bd (z_gI 5 a 8) (fun v9 => (z_bd (z_cv 5 a (p_X5_fareNow a p1 p2)) (fun r10 => (z_bd (z_pI 5 a 8 (v9 + r10)) (fun _ => (z_bd (z_gA 5 a 0) (fun v11 => (z_bd (z_aI 11 v11 p1) (fun v12 => (z_bd (z_sI 11 v11 p1 (v12 - 1)) (fun _ => (z_bd (z_gA 5 a 5) (fun v13 => (z_bd (z_gI 5 a 7) (fun v14 => (z_bd (z_gA 5 a 6) (fun v15 => (z_bd (z_cv 0 v15 (p_X0_riderMinutes v15 p1 p2)) (fun r16 => (z_bd (z_gI 5 a 10) (fun v17 => (z_bd (p_X4_code (v14 + r16) v17 p1 p2) (fun r18 => (z_bd (z_cv 4 v13 (p_X4_add v13 r18)) (fun _ => (z_bd (z_gI 5 a 10) (fun v20 => (z_bd (z_pI 5 a 10 (v20 + 1)) (fun _ => (z_pu ())))))))))))))))))))))))))))))))))))))))))))))
set_option maxHeartbeats 4000000 in
set_option maxRecDepth 100000 in
theorem s_X5_startRide (a : Nat) (p1 : Int32) (p2 : Int32) : z_Sound yX5_startRide cX5_startRide 4 none 4 95 (fun D b => [.ref (b + a), .int p1, .int p2]) z_ivV (p_X5_startRide a p1 p2) := by
  refine z_ofSim rfl (by intro D b; exact Nat.le_of_ble_eq_true rfl) (fun X C hT => ?_)
  unfold p_X5_startRide
  refine r_sub [(0, .ref (x_b X + a)), (1, .int p1), (2, .int p2)] rfl ?_
  refine r_bipush (pc := 0) C dX5_startRide_0 kb_8 ?_
  refine r_iload_n (pc := 2) C dX5_startRide_2 rfl rfl ?_
  refine r_imul (pc := 3) C dX5_startRide_3 ?_
  refine r_iload_n (pc := 4) C dX5_startRide_4 rfl rfl ?_
  refine r_iadd (pc := 5) C dX5_startRide_5 ?_
  refine r_sti_n (pc := 6) C 3 [(0, .ref (x_b X + a)), (1, .int p1), (2, .int p2), (3, .int ((8 * p1) + p2))] dX5_startRide_6 rfl (by decide) rfl ?_
  refine r_let (((8 * p1) + p2)) (fun x1 => [(0, .ref (x_b X + a)), (1, .int p1), (2, .int p2), (3, .int x1)]) (fun x1 => []) (fun x1 => ?_)
  refine r_aload_n (pc := 7) C dX5_startRide_7 rfl rfl ?_
  refine r_getA (pc := 8) C dX5_startRide_8 fl_X5_18 rfl (fun v2 => ?_)
  refine r_iload_n (pc := 11) C dX5_startRide_11 rfl rfl ?_
  refine r_iald (pc := 12) C dX5_startRide_12 (fun v3 => ?_)
  refine r_jn 26 (fun (t4 : Unit) => [(0, .ref (x_b X + a)), (1, .int p1), (2, .int p2), (3, .int x1)]) (fun (t4 : Unit) => []) (fun t4 => ?_) ?_
  · refine r_aload_n (pc := 26) C dX5_startRide_26 rfl rfl ?_
    refine r_getA (pc := 27) C dX5_startRide_27 fl_X5_18 rfl (fun v7 => ?_)
    refine r_iload_n (pc := 30) C dX5_startRide_30 rfl rfl ?_
    refine r_dup2 (pc := 31) C dX5_startRide_31 rfl rfl ?_
    refine r_iald (pc := 32) C dX5_startRide_32 (fun v8 => ?_)
    refine r_iconst (pc := 33) C dX5_startRide_33 ki_1 ?_
    refine r_iadd (pc := 34) C dX5_startRide_34 ?_
    refine r_iast (pc := 35) C dX5_startRide_35 ?_
    refine r_aload_n (pc := 36) C dX5_startRide_36 rfl rfl ?_
    refine r_dup (pc := 37) C dX5_startRide_37 rfl ?_
    refine r_getI (pc := 38) C dX5_startRide_38 fl_X5_50 rfl (fun v9 => ?_)
    refine r_aload_n (pc := 41) C dX5_startRide_41 rfl rfl ?_
    refine r_iload_n (pc := 42) C dX5_startRide_42 rfl rfl ?_
    refine r_iload_n (pc := 43) C dX5_startRide_43 rfl rfl ?_
    refine r_cVI (pc := 44) C [.int p1, .int p2] [.int v9, .ref (x_b X + a)] (z_KX.zero hT) (s_X5_fareNow a p1 p2) mt_X5_fareNow zc_5 dX5_startRide_44 ml_X5_162 im_X5_fareNow se_X5_fareNow rfl rfl rfl (Nat.le_of_ble_eq_true rfl) ⟨Nat.le_of_ble_eq_true rfl, Nat.le_of_ble_eq_true rfl⟩ (fun r10 => ?_)
    refine r_iadd (pc := 47) C dX5_startRide_47 ?_
    refine r_putI (pc := 48) C dX5_startRide_48 fl_X5_50 rfl rfl ?_
    refine r_aload_n (pc := 51) C dX5_startRide_51 rfl rfl ?_
    refine r_getA (pc := 52) C dX5_startRide_52 fl_X5_9 rfl (fun v11 => ?_)
    refine r_iload_n (pc := 55) C dX5_startRide_55 rfl rfl ?_
    refine r_dup2 (pc := 56) C dX5_startRide_56 rfl rfl ?_
    refine r_iald (pc := 57) C dX5_startRide_57 (fun v12 => ?_)
    refine r_iconst (pc := 58) C dX5_startRide_58 ki_1 ?_
    refine r_isub (pc := 59) C dX5_startRide_59 ?_
    refine r_iast (pc := 60) C dX5_startRide_60 ?_
    refine r_aload_n (pc := 61) C dX5_startRide_61 rfl rfl ?_
    refine r_getA (pc := 62) C dX5_startRide_62 fl_X5_33 rfl (fun v13 => ?_)
    refine r_aload_n (pc := 65) C dX5_startRide_65 rfl rfl ?_
    refine r_getI (pc := 66) C dX5_startRide_66 fl_X5_46 rfl (fun v14 => ?_)
    refine r_aload_n (pc := 69) C dX5_startRide_69 rfl rfl ?_
    refine r_getA (pc := 70) C dX5_startRide_70 fl_X5_42 rfl (fun v15 => ?_)
    refine r_iload_n (pc := 73) C dX5_startRide_73 rfl rfl ?_
    refine r_iload_n (pc := 74) C dX5_startRide_74 rfl rfl ?_
    refine r_cVI (pc := 75) C [.int p1, .int p2] [.int v14, .ref (x_b X + v13)] (z_KX.zero hT) (s_X0_riderMinutes v15 p1 p2) mt_X0_riderMinutes zc_0 dX5_startRide_75 ml_X5_146 im_X0_riderMinutes se_X0_riderMinutes rfl rfl rfl (Nat.le_of_ble_eq_true rfl) ⟨Nat.le_of_ble_eq_true rfl, Nat.le_of_ble_eq_true rfl⟩ (fun r16 => ?_)
    refine r_iadd (pc := 78) C dX5_startRide_78 ?_
    refine r_aload_n (pc := 79) C dX5_startRide_79 rfl rfl ?_
    refine r_getI (pc := 80) C dX5_startRide_80 fl_X5_56 rfl (fun v17 => ?_)
    refine r_iload_n (pc := 83) C dX5_startRide_83 rfl rfl ?_
    refine r_iload_n (pc := 84) C dX5_startRide_84 rfl rfl ?_
    refine r_cSI (pc := 85) C [.int (v14 + r16), .int v17, .int p1, .int p2] [.ref (x_b X + v13)] (z_KX.zero hT) (s_X4_code (v14 + r16) v17 p1 p2) mt_X4_code dX5_startRide_85 ml_X5_165 sm_X4_code rfl rfl rfl (Nat.le_of_ble_eq_true rfl) ⟨Nat.le_of_ble_eq_true rfl, Nat.le_of_ble_eq_true rfl⟩ (fun r18 => ?_)
    refine r_cVV (pc := 88) C [.int r18] [] (z_KX.zero hT) (s_X4_add v13 r18) mt_X4_add zc_4 dX5_startRide_88 ml_X5_168 im_X4_add se_X4_add rfl rfl rfl (Nat.le_of_ble_eq_true rfl) ⟨Nat.le_of_ble_eq_true rfl, Nat.le_of_ble_eq_true rfl⟩ ?_
    refine r_aload_n (pc := 91) C dX5_startRide_91 rfl rfl ?_
    refine r_dup (pc := 92) C dX5_startRide_92 rfl ?_
    refine r_getI (pc := 93) C dX5_startRide_93 fl_X5_56 rfl (fun v20 => ?_)
    refine r_iconst (pc := 96) C dX5_startRide_96 ki_1 ?_
    refine r_iadd (pc := 97) C dX5_startRide_97 ?_
    refine r_putI (pc := 98) C dX5_startRide_98 fl_X5_56 rfl rfl ?_
    exact r_vret (pc := 101) C dX5_startRide_101
  · refine r_if_ne (pc := 13) C (tgt := 26) dX5_startRide_13 rfl (fun _ => ?_) (fun _ => ?_)
    · refine r_aload_n (pc := 16) C dX5_startRide_16 rfl rfl ?_
      refine r_getA (pc := 17) C dX5_startRide_17 fl_X5_21 rfl (fun v5 => ?_)
      refine r_iload_n (pc := 20) C dX5_startRide_20 rfl rfl ?_
      refine r_aload_n (pc := 21) C dX5_startRide_21 rfl rfl ?_
      refine r_getI (pc := 22) C dX5_startRide_22 fl_X5_56 rfl (fun v6 => ?_)
      refine r_iast (pc := 25) C dX5_startRide_25 ?_
      refine r_sub [(0, .ref (x_b X + a)), (1, .int p1), (2, .int p2), (3, .int x1)] rfl ?_
      exact r_br (τ := Unit) ()
    · refine r_sub [(0, .ref (x_b X + a)), (1, .int p1), (2, .int p2), (3, .int x1)] rfl ?_
      exact r_br (τ := Unit) ()
noncomputable def p_X5_turnAway (a : Nat) (p1 : Int32) (p2 : Int32) : zP Int32 := (z_bd (z_gI 5 a 12) (fun v1 => (z_bd (z_pI 5 a 12 (v1 + 1)) (fun _ => (z_bd (z_cv 5 a (p_X5_nearestOther a p2 1)) (fun r2 => (if r2 = (-1) then (z_bd (z_gI 5 a 7) (fun v7 => (z_bd (p_X4_redirected p1 (v7 + 1) p2) (fun r8 => (z_pu r8))))) else (z_bd (z_gI 5 a 7) (fun v3 => (z_bd (z_gA 5 a 6) (fun v4 => (z_bd (z_cv 0 v4 (p_X0_riderMinutes v4 p2 r2)) (fun r5 => (z_bd (p_X4_redirected p1 (v3 + r5) r2) (fun r6 => (z_pu r6))))))))))))))))
set_option maxHeartbeats 4000000 in
set_option maxRecDepth 100000 in
theorem s_X5_turnAway (a : Nat) (p1 : Int32) (p2 : Int32) : z_Sound yX5_turnAway cX5_turnAway 4 (some .int) 3 70 (fun D b => [.ref (b + a), .int p1, .int p2]) z_ivI (p_X5_turnAway a p1 p2) := by
  refine z_ofSim rfl (by intro D b; exact Nat.le_of_ble_eq_true rfl) (fun X C hT => ?_)
  unfold p_X5_turnAway
  refine r_sub [(0, .ref (x_b X + a)), (1, .int p1), (2, .int p2)] rfl ?_
  refine r_aload_n (pc := 0) C dX5_turnAway_0 rfl rfl ?_
  refine r_dup (pc := 1) C dX5_turnAway_1 rfl ?_
  refine r_getI (pc := 2) C dX5_turnAway_2 fl_X5_62 rfl (fun v1 => ?_)
  refine r_iconst (pc := 5) C dX5_turnAway_5 ki_1 ?_
  refine r_iadd (pc := 6) C dX5_turnAway_6 ?_
  refine r_putI (pc := 7) C dX5_turnAway_7 fl_X5_62 rfl rfl ?_
  refine r_aload_n (pc := 10) C dX5_turnAway_10 rfl rfl ?_
  refine r_iload_n (pc := 11) C dX5_turnAway_11 rfl rfl ?_
  refine r_iconst (pc := 12) C dX5_turnAway_12 ki_1 ?_
  refine r_cVI (pc := 13) C [.int p2, .int 1] [] (z_KX.zero hT) (s_X5_nearestOther a p2 1) mt_X5_nearestOther zc_5 dX5_turnAway_13 ml_X5_190 im_X5_nearestOther se_X5_nearestOther rfl rfl rfl (Nat.le_of_ble_eq_true rfl) ⟨Nat.le_of_ble_eq_true rfl, Nat.le_of_ble_eq_true rfl⟩ (fun r2 => ?_)
  refine r_sti_n (pc := 16) C 3 [(0, .ref (x_b X + a)), (1, .int p1), (2, .int p2), (3, .int r2)] dX5_turnAway_16 rfl (by decide) rfl ?_
  refine r_iload_n (pc := 17) C dX5_turnAway_17 rfl rfl ?_
  refine r_iconst (pc := 18) C dX5_turnAway_18 ki_m1 ?_
  refine r_icmp_ne (pc := 19) C (tgt := 34) dX5_turnAway_19 rfl (fun _ => ?_) (fun _ => ?_)
  · refine r_iload_n (pc := 22) C dX5_turnAway_22 rfl rfl ?_
    refine r_aload_n (pc := 23) C dX5_turnAway_23 rfl rfl ?_
    refine r_getI (pc := 24) C dX5_turnAway_24 fl_X5_46 rfl (fun v7 => ?_)
    refine r_iconst (pc := 27) C dX5_turnAway_27 ki_1 ?_
    refine r_iadd (pc := 28) C dX5_turnAway_28 ?_
    refine r_iload_n (pc := 29) C dX5_turnAway_29 rfl rfl ?_
    refine r_cSI (pc := 30) C [.int p1, .int (v7 + 1), .int p2] [] (z_KX.zero hT) (s_X4_redirected p1 (v7 + 1) p2) mt_X4_redirected dX5_turnAway_30 ml_X5_194 sm_X4_redirected rfl rfl rfl (Nat.le_of_ble_eq_true rfl) ⟨Nat.le_of_ble_eq_true rfl, Nat.le_of_ble_eq_true rfl⟩ (fun r8 => ?_)
    exact r_iret (pc := 33) C dX5_turnAway_33
  · refine r_iload_n (pc := 34) C dX5_turnAway_34 rfl rfl ?_
    refine r_aload_n (pc := 35) C dX5_turnAway_35 rfl rfl ?_
    refine r_getI (pc := 36) C dX5_turnAway_36 fl_X5_46 rfl (fun v3 => ?_)
    refine r_aload_n (pc := 39) C dX5_turnAway_39 rfl rfl ?_
    refine r_getA (pc := 40) C dX5_turnAway_40 fl_X5_42 rfl (fun v4 => ?_)
    refine r_iload_n (pc := 43) C dX5_turnAway_43 rfl rfl ?_
    refine r_iload_n (pc := 44) C dX5_turnAway_44 rfl rfl ?_
    refine r_cVI (pc := 45) C [.int p2, .int r2] [.int v3, .int p1] (z_KX.zero hT) (s_X0_riderMinutes v4 p2 r2) mt_X0_riderMinutes zc_0 dX5_turnAway_45 ml_X5_146 im_X0_riderMinutes se_X0_riderMinutes rfl rfl rfl (Nat.le_of_ble_eq_true rfl) ⟨Nat.le_of_ble_eq_true rfl, Nat.le_of_ble_eq_true rfl⟩ (fun r5 => ?_)
    refine r_iadd (pc := 48) C dX5_turnAway_48 ?_
    refine r_iload_n (pc := 49) C dX5_turnAway_49 rfl rfl ?_
    refine r_cSI (pc := 50) C [.int p1, .int (v3 + r5), .int r2] [] (z_KX.zero hT) (s_X4_redirected p1 (v3 + r5) r2) mt_X4_redirected dX5_turnAway_50 ml_X5_194 sm_X4_redirected rfl rfl rfl (Nat.le_of_ble_eq_true rfl) ⟨Nat.le_of_ble_eq_true rfl, Nat.le_of_ble_eq_true rfl⟩ (fun r6 => ?_)
    exact r_iret (pc := 53) C dX5_turnAway_53
noncomputable def p_X5_landRiders (a : Nat) : zP Int32 := (z_bd (z_gA 5 a 5) (fun v1 => (z_bd (z_gI 5 a 7) (fun v2 => (z_bd (z_cv 4 v1 (p_X4_arrivedBy v1 v2)) (fun r3 => (z_jn (τ := Int32) (z_lp (fun (t5 : Int32 × Int32) => (if r3 ≤ t5.2 then (z_pu (.inr (.inl t5.1))) else (z_bd (z_gA 5 a 5) (fun v6 => (z_bd (z_gA 4 v6 0) (fun v7 => (z_bd (z_aI 11 v7 t5.2) (fun v8 => (z_bd (p_X4_target v8) (fun r9 => (z_bd (z_cv 5 a (p_X5_free a r9)) (fun r10 => (if r10 ≤ 0 then (z_bd (z_gA 5 a 5) (fun v11 => (z_bd (z_gA 4 v11 0) (fun v12 => (z_bd (z_cv 5 a (p_X5_turnAway a v8 r9)) (fun r13 => (z_bd (z_sI 11 v12 t5.1 r13) (fun _ => (z_pu (.inl ((t5.1 + 1), (t5.2 + 1)))))))))))) else (z_bd (z_gI 5 a 9) (fun v14 => (z_bd (z_cv 5 a (p_X5_bonusNow a r9)) (fun r15 => (z_bd (z_pI 5 a 9 (v14 + r15)) (fun _ => (z_bd (z_gA 5 a 0) (fun v16 => (z_bd (z_aI 11 v16 r9) (fun v17 => (z_bd (z_sI 11 v16 r9 (v17 + 1)) (fun _ => (z_pu (.inl (t5.1, (t5.2 + 1))))))))))))))))))))))))))))) (0, 0)) (fun t4 => (z_bd (z_gA 5 a 5) (fun v18 => (z_bd (z_cv 4 v18 (p_X4_keepOfFront v18 r3 t4)) (fun _ => (z_pu (r3 - t4))))))))))))))
set_option maxHeartbeats 4000000 in
set_option maxRecDepth 100000 in
theorem s_X5_landRiders (a : Nat) : z_Sound yX5_landRiders cX5_landRiders 6 (some .int) 4 93 (fun D b => [.ref (b + a)]) z_ivI (p_X5_landRiders a) := by
  refine z_ofSim rfl (by intro D b; exact Nat.le_of_ble_eq_true rfl) (fun X C hT => ?_)
  unfold p_X5_landRiders
  refine r_sub [(0, .ref (x_b X + a))] rfl ?_
  refine r_aload_n (pc := 0) C dX5_landRiders_0 rfl rfl ?_
  refine r_getA (pc := 1) C dX5_landRiders_1 fl_X5_33 rfl (fun v1 => ?_)
  refine r_aload_n (pc := 4) C dX5_landRiders_4 rfl rfl ?_
  refine r_getI (pc := 5) C dX5_landRiders_5 fl_X5_46 rfl (fun v2 => ?_)
  refine r_cVI (pc := 8) C [.int v2] [] (z_KX.zero hT) (s_X4_arrivedBy v1 v2) mt_X4_arrivedBy zc_4 dX5_landRiders_8 ml_X5_172 im_X4_arrivedBy se_X4_arrivedBy rfl rfl rfl (Nat.le_of_ble_eq_true rfl) ⟨Nat.le_of_ble_eq_true rfl, Nat.le_of_ble_eq_true rfl⟩ (fun r3 => ?_)
  refine r_sti_n (pc := 11) C 1 [(0, .ref (x_b X + a)), (1, .int r3)] dX5_landRiders_11 rfl (by decide) rfl ?_
  refine r_iconst (pc := 12) C dX5_landRiders_12 ki_0 ?_
  refine r_sti_n (pc := 13) C 2 [(0, .ref (x_b X + a)), (1, .int r3), (2, .int 0)] dX5_landRiders_13 rfl (by decide) rfl ?_
  refine r_iconst (pc := 14) C dX5_landRiders_14 ki_0 ?_
  refine r_sti_n (pc := 15) C 3 [(0, .ref (x_b X + a)), (1, .int r3), (2, .int 0), (3, .int 0)] dX5_landRiders_15 rfl (by decide) rfl ?_
  refine r_jn 103 (fun (t4 : Int32) => [(0, .ref (x_b X + a)), (1, .int r3), (2, .int t4)]) (fun (t4 : Int32) => []) (fun t4 => ?_) ?_
  · refine r_aload_n (pc := 103) C dX5_landRiders_103 rfl rfl ?_
    refine r_getA (pc := 104) C dX5_landRiders_104 fl_X5_33 rfl (fun v18 => ?_)
    refine r_iload_n (pc := 107) C dX5_landRiders_107 rfl rfl ?_
    refine r_iload_n (pc := 108) C dX5_landRiders_108 rfl rfl ?_
    refine r_cVV (pc := 109) C [.int r3, .int t4] [] (z_KX.zero hT) (s_X4_keepOfFront v18 r3 t4) mt_X4_keepOfFront zc_4 dX5_landRiders_109 ml_X5_187 im_X4_keepOfFront se_X4_keepOfFront rfl rfl rfl (Nat.le_of_ble_eq_true rfl) ⟨Nat.le_of_ble_eq_true rfl, Nat.le_of_ble_eq_true rfl⟩ ?_
    refine r_iload_n (pc := 112) C dX5_landRiders_112 rfl rfl ?_
    refine r_iload_n (pc := 113) C dX5_landRiders_113 rfl rfl ?_
    refine r_isub (pc := 114) C dX5_landRiders_114 ?_
    exact r_iret (pc := 115) C dX5_landRiders_115
  · refine r_sub [(0, .ref (x_b X + a)), (1, .int r3), (2, .int 0), (3, .int 0)] rfl ?_
    refine r_lp (pc := 16) (fun (t5 : Int32 × Int32) => [(0, .ref (x_b X + a)), (1, .int r3), (2, .int t5.1), (3, .int t5.2)]) (fun t5 => ?_) (0, 0)
    refine r_iload_n (pc := 16) C dX5_landRiders_16 rfl rfl ?_
    refine r_iload_n (pc := 17) C dX5_landRiders_17 rfl rfl ?_
    refine r_icmp_ge (pc := 18) C (tgt := 103) dX5_landRiders_18 rfl (fun _ => ?_) (fun _ => ?_)
    · refine r_sub [(0, .ref (x_b X + a)), (1, .int r3), (2, .int t5.1)] rfl ?_
      exact r_up (r_br (τ := Int32) t5.1)
    · refine r_aload_n (pc := 21) C dX5_landRiders_21 rfl rfl ?_
      refine r_getA (pc := 22) C dX5_landRiders_22 fl_X5_33 rfl (fun v6 => ?_)
      refine r_getA (pc := 25) C dX5_landRiders_25 fl_X5_175 rfl (fun v7 => ?_)
      refine r_iload_n (pc := 28) C dX5_landRiders_28 rfl rfl ?_
      refine r_iald (pc := 29) C dX5_landRiders_29 (fun v8 => ?_)
      refine r_sti (pc := 30) C [(0, .ref (x_b X + a)), (1, .int r3), (2, .int t5.1), (3, .int t5.2), (4, .int v8)] dX5_landRiders_30 (by decide) rfl ?_
      refine r_iload (pc := 32) C dX5_landRiders_32 rfl ?_
      refine r_cSI (pc := 34) C [.int v8] [] (z_KX.up (z_KX.up (z_KX.zero hT))) (s_X4_target v8) mt_X4_target dX5_landRiders_34 ml_X5_178 sm_X4_target rfl rfl rfl (Nat.le_of_ble_eq_true rfl) ⟨Nat.le_of_ble_eq_true rfl, Nat.le_of_ble_eq_true rfl⟩ (fun r9 => ?_)
      refine r_sti (pc := 37) C [(0, .ref (x_b X + a)), (1, .int r3), (2, .int t5.1), (3, .int t5.2), (4, .int v8), (5, .int r9)] dX5_landRiders_37 (by decide) rfl ?_
      refine r_aload_n (pc := 39) C dX5_landRiders_39 rfl rfl ?_
      refine r_iload (pc := 40) C dX5_landRiders_40 rfl ?_
      refine r_cVI (pc := 42) C [.int r9] [] (z_KX.up (z_KX.up (z_KX.zero hT))) (s_X5_free a r9) mt_X5_free zc_5 dX5_landRiders_42 ml_X5_118 im_X5_free se_X5_free rfl rfl rfl (Nat.le_of_ble_eq_true rfl) ⟨Nat.le_of_ble_eq_true rfl, Nat.le_of_ble_eq_true rfl⟩ (fun r10 => ?_)
      refine r_if_le (pc := 45) C (tgt := 77) dX5_landRiders_45 rfl (fun _ => ?_) (fun _ => ?_)
      · refine r_aload_n (pc := 77) C dX5_landRiders_77 rfl rfl ?_
        refine r_getA (pc := 78) C dX5_landRiders_78 fl_X5_33 rfl (fun v11 => ?_)
        refine r_getA (pc := 81) C dX5_landRiders_81 fl_X5_175 rfl (fun v12 => ?_)
        refine r_iload_n (pc := 84) C dX5_landRiders_84 rfl rfl ?_
        refine r_aload_n (pc := 85) C dX5_landRiders_85 rfl rfl ?_
        refine r_iload (pc := 86) C dX5_landRiders_86 rfl ?_
        refine r_iload (pc := 88) C dX5_landRiders_88 rfl ?_
        refine r_cVI (pc := 90) C [.int v8, .int r9] [.int t5.1, .ref (x_b X + v12)] (z_KX.up (z_KX.up (z_KX.zero hT))) (s_X5_turnAway a v8 r9) mt_X5_turnAway zc_5 dX5_landRiders_90 ml_X5_184 im_X5_turnAway se_X5_turnAway rfl rfl rfl (Nat.le_of_ble_eq_true rfl) ⟨Nat.le_of_ble_eq_true rfl, Nat.le_of_ble_eq_true rfl⟩ (fun r13 => ?_)
        refine r_iast (pc := 93) C dX5_landRiders_93 ?_
        refine r_inc (pc := 94) C 1 [(0, .ref (x_b X + a)), (1, .int r3), (2, .int (t5.1 + 1)), (3, .int t5.2)] dX5_landRiders_94 rfl ki_1 (by decide) rfl ?_
        refine r_inc (pc := 97) C 1 [(0, .ref (x_b X + a)), (1, .int r3), (2, .int (t5.1 + 1)), (3, .int (t5.2 + 1))] dX5_landRiders_97 rfl ki_1 (by decide) rfl ?_
        refine r_goto (pc := 100) C (tgt := 16) dX5_landRiders_100 rfl ?_
        refine r_sub [(0, .ref (x_b X + a)), (1, .int r3), (2, .int (t5.1 + 1)), (3, .int (t5.2 + 1))] rfl ?_
        exact r_br (τ := Int32 × Int32) ((t5.1 + 1), (t5.2 + 1))
      · refine r_aload_n (pc := 48) C dX5_landRiders_48 rfl rfl ?_
        refine r_dup (pc := 49) C dX5_landRiders_49 rfl ?_
        refine r_getI (pc := 50) C dX5_landRiders_50 fl_X5_53 rfl (fun v14 => ?_)
        refine r_aload_n (pc := 53) C dX5_landRiders_53 rfl rfl ?_
        refine r_iload (pc := 54) C dX5_landRiders_54 rfl ?_
        refine r_cVI (pc := 56) C [.int r9] [.int v14, .ref (x_b X + a)] (z_KX.up (z_KX.up (z_KX.zero hT))) (s_X5_bonusNow a r9) mt_X5_bonusNow zc_5 dX5_landRiders_56 ml_X5_181 im_X5_bonusNow se_X5_bonusNow rfl rfl rfl (Nat.le_of_ble_eq_true rfl) ⟨Nat.le_of_ble_eq_true rfl, Nat.le_of_ble_eq_true rfl⟩ (fun r15 => ?_)
        refine r_iadd (pc := 59) C dX5_landRiders_59 ?_
        refine r_putI (pc := 60) C dX5_landRiders_60 fl_X5_53 rfl rfl ?_
        refine r_aload_n (pc := 63) C dX5_landRiders_63 rfl rfl ?_
        refine r_getA (pc := 64) C dX5_landRiders_64 fl_X5_9 rfl (fun v16 => ?_)
        refine r_iload (pc := 67) C dX5_landRiders_67 rfl ?_
        refine r_dup2 (pc := 69) C dX5_landRiders_69 rfl rfl ?_
        refine r_iald (pc := 70) C dX5_landRiders_70 (fun v17 => ?_)
        refine r_iconst (pc := 71) C dX5_landRiders_71 ki_1 ?_
        refine r_iadd (pc := 72) C dX5_landRiders_72 ?_
        refine r_iast (pc := 73) C dX5_landRiders_73 ?_
        refine r_goto (pc := 74) C (tgt := 97) dX5_landRiders_74 rfl ?_
        refine r_inc (pc := 97) C 1 [(0, .ref (x_b X + a)), (1, .int r3), (2, .int t5.1), (3, .int (t5.2 + 1))] dX5_landRiders_97 rfl ki_1 (by decide) rfl ?_
        refine r_goto (pc := 100) C (tgt := 16) dX5_landRiders_100 rfl ?_
        refine r_sub [(0, .ref (x_b X + a)), (1, .int r3), (2, .int t5.1), (3, .int (t5.2 + 1))] rfl ?_
        exact r_br (τ := Int32 × Int32) (t5.1, (t5.2 + 1))
noncomputable def p_X5_carryOut (a : Nat) (p1 : Nat) (p2 : Int32) : zP Unit := (z_bd (z_gI 7 p1 5) (fun v1 => (z_bd (z_gA 5 a 0) (fun v2 => (z_bd (z_aI 11 v2 v1) (fun v3 => (z_bd (z_pu ((p2 - v3))) (fun x4 => (z_jn (τ := Int32) (if x4 ≤ 0 then (z_bd (z_gI 7 p1 3) (fun v6 => (z_bd (z_gI 7 p1 4) (fun v7 => (z_bd (z_pu (if (v6 - v7) < (-x4) then (v6 - v7) else (-x4))) (fun x8 => (z_pu (.inl ((-x8)))))))))) else (z_bd (z_gI 7 p1 4) (fun v9 => (z_bd (z_cv 5 a (p_X5_free a v1)) (fun r10 => (z_bd (z_pu (if r10 < v9 then r10 else v9)) (fun x11 => (z_bd (z_pu (if x11 < x4 then x11 else x4)) (fun x12 => (z_pu (.inl x12))))))))))) (fun t5 => (z_bd (z_gA 5 a 0) (fun v13 => (z_bd (z_aI 11 v13 v1) (fun v14 => (z_bd (z_sI 11 v13 v1 (v14 + t5)) (fun _ => (z_bd (z_gI 7 p1 4) (fun v15 => (z_bd (z_pI 7 p1 4 (v15 - t5)) (fun _ => (z_pu ())))))))))))))))))))))
set_option maxHeartbeats 4000000 in
set_option maxRecDepth 100000 in
theorem s_X5_carryOut (a : Nat) (p1 : Nat) (p2 : Int32) : z_Sound yX5_carryOut cX5_carryOut 6 none 2 41 (fun D b => [.ref (b + a), .ref (b + p1), .int p2]) z_ivV (p_X5_carryOut a p1 p2) := by
  refine z_ofSim rfl (by intro D b; exact Nat.le_of_ble_eq_true rfl) (fun X C hT => ?_)
  unfold p_X5_carryOut
  refine r_sub [(0, .ref (x_b X + a)), (1, .ref (x_b X + p1)), (2, .int p2)] rfl ?_
  refine r_aload_n (pc := 0) C dX5_carryOut_0 rfl rfl ?_
  refine r_getI (pc := 1) C dX5_carryOut_1 fl_X5_214 rfl (fun v1 => ?_)
  refine r_sti_n (pc := 4) C 3 [(0, .ref (x_b X + a)), (1, .ref (x_b X + p1)), (2, .int p2), (3, .int v1)] dX5_carryOut_4 rfl (by decide) rfl ?_
  refine r_iload_n (pc := 5) C dX5_carryOut_5 rfl rfl ?_
  refine r_aload_n (pc := 6) C dX5_carryOut_6 rfl rfl ?_
  refine r_getA (pc := 7) C dX5_carryOut_7 fl_X5_9 rfl (fun v2 => ?_)
  refine r_iload_n (pc := 10) C dX5_carryOut_10 rfl rfl ?_
  refine r_iald (pc := 11) C dX5_carryOut_11 (fun v3 => ?_)
  refine r_isub (pc := 12) C dX5_carryOut_12 ?_
  refine r_sti (pc := 13) C [(0, .ref (x_b X + a)), (1, .ref (x_b X + p1)), (3, .int v1), (4, .int (p2 - v3))] dX5_carryOut_13 (by decide) rfl ?_
  refine r_let ((p2 - v3)) (fun x4 => [(0, .ref (x_b X + a)), (1, .ref (x_b X + p1)), (3, .int v1), (4, .int x4)]) (fun x4 => []) (fun x4 => ?_)
  refine r_iload (pc := 15) C dX5_carryOut_15 rfl ?_
  refine r_jn 56 (fun (t5 : Int32) => [(0, .ref (x_b X + a)), (1, .ref (x_b X + p1)), (3, .int v1)]) (fun (t5 : Int32) => [.int t5]) (fun t5 => ?_) ?_
  · refine r_sti (pc := 56) C [(0, .ref (x_b X + a)), (1, .ref (x_b X + p1)), (3, .int v1), (5, .int t5)] dX5_carryOut_56 (by decide) rfl ?_
    refine r_aload_n (pc := 58) C dX5_carryOut_58 rfl rfl ?_
    refine r_getA (pc := 59) C dX5_carryOut_59 fl_X5_9 rfl (fun v13 => ?_)
    refine r_iload_n (pc := 62) C dX5_carryOut_62 rfl rfl ?_
    refine r_dup2 (pc := 63) C dX5_carryOut_63 rfl rfl ?_
    refine r_iald (pc := 64) C dX5_carryOut_64 (fun v14 => ?_)
    refine r_iload (pc := 65) C dX5_carryOut_65 rfl ?_
    refine r_iadd (pc := 67) C dX5_carryOut_67 ?_
    refine r_iast (pc := 68) C dX5_carryOut_68 ?_
    refine r_aload_n (pc := 69) C dX5_carryOut_69 rfl rfl ?_
    refine r_dup (pc := 70) C dX5_carryOut_70 rfl ?_
    refine r_getI (pc := 71) C dX5_carryOut_71 fl_X5_139 rfl (fun v15 => ?_)
    refine r_iload (pc := 74) C dX5_carryOut_74 rfl ?_
    refine r_isub (pc := 76) C dX5_carryOut_76 ?_
    refine r_putI (pc := 77) C dX5_carryOut_77 fl_X5_139 rfl rfl ?_
    exact r_vret (pc := 80) C dX5_carryOut_80
  · refine r_if_le (pc := 17) C (tgt := 40) dX5_carryOut_17 rfl (fun _ => ?_) (fun _ => ?_)
    · refine r_iload (pc := 40) C dX5_carryOut_40 rfl ?_
      refine r_ineg (pc := 42) C dX5_carryOut_42 ?_
      refine r_aload_n (pc := 43) C dX5_carryOut_43 rfl rfl ?_
      refine r_getI (pc := 44) C dX5_carryOut_44 fl_X5_230 rfl (fun v6 => ?_)
      refine r_aload_n (pc := 47) C dX5_carryOut_47 rfl rfl ?_
      refine r_getI (pc := 48) C dX5_carryOut_48 fl_X5_139 rfl (fun v7 => ?_)
      refine r_isub (pc := 51) C dX5_carryOut_51 ?_
      refine r_min (pc := 52) C dX5_carryOut_52 ml_X5_159 sm_min ini_math cd_min (Nat.le_of_ble_eq_true rfl) (Nat.le_of_ble_eq_true rfl) ?_
      refine r_sub [(0, .ref (x_b X + a)), (1, .ref (x_b X + p1)), (3, .int v1)] rfl ?_
      refine r_let (if (v6 - v7) < (-x4) then (v6 - v7) else (-x4)) (fun x8 => [(0, .ref (x_b X + a)), (1, .ref (x_b X + p1)), (3, .int v1)]) (fun x8 => [.int x8]) (fun x8 => ?_)
      refine r_ineg (pc := 55) C dX5_carryOut_55 ?_
      refine r_sub [(0, .ref (x_b X + a)), (1, .ref (x_b X + p1)), (3, .int v1)] rfl ?_
      exact r_br (τ := Int32) ((-x8))
    · refine r_iload (pc := 20) C dX5_carryOut_20 rfl ?_
      refine r_aload_n (pc := 22) C dX5_carryOut_22 rfl rfl ?_
      refine r_getI (pc := 23) C dX5_carryOut_23 fl_X5_139 rfl (fun v9 => ?_)
      refine r_aload_n (pc := 26) C dX5_carryOut_26 rfl rfl ?_
      refine r_iload_n (pc := 27) C dX5_carryOut_27 rfl rfl ?_
      refine r_cVI (pc := 28) C [.int v1] [.int v9, .int x4] (z_KX.up (z_KX.zero hT)) (s_X5_free a v1) mt_X5_free zc_5 dX5_carryOut_28 ml_X5_118 im_X5_free se_X5_free rfl rfl rfl (Nat.le_of_ble_eq_true rfl) ⟨Nat.le_of_ble_eq_true rfl, Nat.le_of_ble_eq_true rfl⟩ (fun r10 => ?_)
      refine r_min (pc := 31) C dX5_carryOut_31 ml_X5_159 sm_min ini_math cd_min (Nat.le_of_ble_eq_true rfl) (Nat.le_of_ble_eq_true rfl) ?_
      refine r_sub [(0, .ref (x_b X + a)), (1, .ref (x_b X + p1)), (3, .int v1)] rfl ?_
      refine r_let (if r10 < v9 then r10 else v9) (fun x11 => [(0, .ref (x_b X + a)), (1, .ref (x_b X + p1)), (3, .int v1)]) (fun x11 => [.int x11, .int x4]) (fun x11 => ?_)
      refine r_min (pc := 34) C dX5_carryOut_34 ml_X5_159 sm_min ini_math cd_min (Nat.le_of_ble_eq_true rfl) (Nat.le_of_ble_eq_true rfl) ?_
      refine r_sub [(0, .ref (x_b X + a)), (1, .ref (x_b X + p1)), (3, .int v1)] rfl ?_
      refine r_let (if x11 < x4 then x11 else x4) (fun x12 => [(0, .ref (x_b X + a)), (1, .ref (x_b X + p1)), (3, .int v1)]) (fun x12 => [.int x12]) (fun x12 => ?_)
      refine r_goto (pc := 37) C (tgt := 56) dX5_carryOut_37 rfl ?_
      refine r_sub [(0, .ref (x_b X + a)), (1, .ref (x_b X + p1)), (3, .int v1)] rfl ?_
      exact r_br (τ := Int32) x12
