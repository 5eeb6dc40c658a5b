noncomputable def p_X9_tripLine (a : Nat) : zP Unit := (z_bd (z_cv 9 a (p_X9_begins a 2 30)) (fun r1 => (if r1 = 0 then (z_pu ()) else (z_bd (z_gA 9 a 10) (fun v2 => (z_bd (z_aI 11 v2 2) (fun v3 => (z_bd (z_gA 9 a 10) (fun v4 => (z_bd (z_gA 9 a 10) (fun v5 => (z_bd (z_aI 11 v5 0) (fun v6 => (z_bd (z_cv 9 a (p_X9_read a 0 (v6 - 1))) (fun r7 => (z_bd (z_sI 11 v4 (48 + v3) r7) (fun _ => (z_bd (z_gA 9 a 10) (fun v8 => (z_bd (z_gA 9 a 10) (fun v9 => (z_bd (z_aI 11 v9 0) (fun v10 => (z_bd (z_cv 9 a (p_X9_read a 0 (v10 - 1))) (fun r11 => (z_bd (z_sI 11 v8 (78 + v3) r11) (fun _ => (z_bd (z_gA 9 a 10) (fun v12 => (z_bd (z_cv 9 a (p_X9_read a 0 1439)) (fun r13 => (z_bd (z_sI 11 v12 (108 + v3) r13) (fun _ => (z_bd (z_gA 9 a 10) (fun v14 => (z_bd (z_aI 11 v14 2) (fun v15 => (z_bd (z_sI 11 v14 2 (v15 + 1)) (fun _ => (z_pu ()))))))))))))))))))))))))))))))))))))))))
set_option maxHeartbeats 4000000 in
set_option maxRecDepth 100000 in
theorem s_X9_tripLine (a : Nat) : z_Sound yX9_tripLine cX9_tripLine 2 none 4 86 (fun D b => [.ref (b + a)]) z_ivV (p_X9_tripLine a) := by
  refine z_ofSim rfl (by intro D b; exact Nat.le_of_ble_eq_true rfl) (fun X C hT => ?_)
  unfold p_X9_tripLine
  refine r_sub [(0, .ref (x_b X + a))] rfl ?_
  refine r_aload_n (pc := 0) C dX9_tripLine_0 rfl rfl ?_
  refine r_iconst (pc := 1) C dX9_tripLine_1 ki_2 ?_
  refine r_bipush (pc := 2) C dX9_tripLine_2 kb_30 ?_
  refine r_cVI (pc := 4) C [.int 2, .int 30] [] (z_KX.zero hT) (s_X9_begins a 2 30) mt_X9_begins zc_9 dX9_tripLine_4 ml_X9_139 im_X9_begins se_X9_begins rfl rfl rfl (Nat.le_of_ble_eq_true rfl) ⟨Nat.le_of_ble_eq_true rfl, Nat.le_of_ble_eq_true rfl⟩ (fun r1 => ?_)
  refine r_if_ne (pc := 7) C (tgt := 11) dX9_tripLine_7 rfl (fun _ => ?_) (fun _ => ?_)
  · exact r_vret (pc := 10) C dX9_tripLine_10
  · refine r_aload_n (pc := 11) C dX9_tripLine_11 rfl rfl ?_
    refine r_getA (pc := 12) C dX9_tripLine_12 fl_X9_13 rfl (fun v2 => ?_)
    refine r_iconst (pc := 15) C dX9_tripLine_15 ki_2 ?_
    refine r_iald (pc := 16) C dX9_tripLine_16 (fun v3 => ?_)
    refine r_sti_n (pc := 17) C 1 [(0, .ref (x_b X + a)), (1, .int v3)] dX9_tripLine_17 rfl (by decide) rfl ?_
    refine r_aload_n (pc := 18) C dX9_tripLine_18 rfl rfl ?_
    refine r_getA (pc := 19) C dX9_tripLine_19 fl_X9_13 rfl (fun v4 => ?_)
    refine r_bipush (pc := 22) C dX9_tripLine_22 kb_48 ?_
    refine r_iload_n (pc := 24) C dX9_tripLine_24 rfl rfl ?_
    refine r_iadd (pc := 25) C dX9_tripLine_25 ?_
    refine r_aload_n (pc := 26) C dX9_tripLine_26 rfl rfl ?_
    refine r_iconst (pc := 27) C dX9_tripLine_27 ki_0 ?_
    refine r_aload_n (pc := 28) C dX9_tripLine_28 rfl rfl ?_
    refine r_getA (pc := 29) C dX9_tripLine_29 fl_X9_13 rfl (fun v5 => ?_)
    refine r_iconst (pc := 32) C dX9_tripLine_32 ki_0 ?_
    refine r_iald (pc := 33) C dX9_tripLine_33 (fun v6 => ?_)
    refine r_iconst (pc := 34) C dX9_tripLine_34 ki_1 ?_
    refine r_isub (pc := 35) C dX9_tripLine_35 ?_
    refine r_cVI (pc := 36) C [.int 0, .int (v6 - 1)] [.int (48 + v3), .ref (x_b X + v4)] (z_KX.zero hT) (s_X9_read a 0 (v6 - 1)) mt_X9_read zc_9 dX9_tripLine_36 ml_X9_143 im_X9_read se_X9_read rfl rfl rfl (Nat.le_of_ble_eq_true rfl) ⟨Nat.le_of_ble_eq_true rfl, Nat.le_of_ble_eq_true rfl⟩ (fun r7 => ?_)
    refine r_iast (pc := 39) C dX9_tripLine_39 ?_
    refine r_aload_n (pc := 40) C dX9_tripLine_40 rfl rfl ?_
    refine r_getA (pc := 41) C dX9_tripLine_41 fl_X9_13 rfl (fun v8 => ?_)
    refine r_bipush (pc := 44) C dX9_tripLine_44 kb_78 ?_
    refine r_iload_n (pc := 46) C dX9_tripLine_46 rfl rfl ?_
    refine r_iadd (pc := 47) C dX9_tripLine_47 ?_
    refine r_aload_n (pc := 48) C dX9_tripLine_48 rfl rfl ?_
    refine r_iconst (pc := 49) C dX9_tripLine_49 ki_0 ?_
    refine r_aload_n (pc := 50) C dX9_tripLine_50 rfl rfl ?_
    refine r_getA (pc := 51) C dX9_tripLine_51 fl_X9_13 rfl (fun v9 => ?_)
    refine r_iconst (pc := 54) C dX9_tripLine_54 ki_0 ?_
    refine r_iald (pc := 55) C dX9_tripLine_55 (fun v10 => ?_)
    refine r_iconst (pc := 56) C dX9_tripLine_56 ki_1 ?_
    refine r_isub (pc := 57) C dX9_tripLine_57 ?_
    refine r_cVI (pc := 58) C [.int 0, .int (v10 - 1)] [.int (78 + v3), .ref (x_b X + v8)] (z_KX.zero hT) (s_X9_read a 0 (v10 - 1)) mt_X9_read zc_9 dX9_tripLine_58 ml_X9_143 im_X9_read se_X9_read rfl rfl rfl (Nat.le_of_ble_eq_true rfl) ⟨Nat.le_of_ble_eq_true rfl, Nat.le_of_ble_eq_true rfl⟩ (fun r11 => ?_)
    refine r_iast (pc := 61) C dX9_tripLine_61 ?_
    refine r_aload_n (pc := 62) C dX9_tripLine_62 rfl rfl ?_
    refine r_getA (pc := 63) C dX9_tripLine_63 fl_X9_13 rfl (fun v12 => ?_)
    refine r_bipush (pc := 66) C dX9_tripLine_66 kb_108 ?_
    refine r_iload_n (pc := 68) C dX9_tripLine_68 rfl rfl ?_
    refine r_iadd (pc := 69) C dX9_tripLine_69 ?_
    refine r_aload_n (pc := 70) C dX9_tripLine_70 rfl rfl ?_
    refine r_iconst (pc := 71) C dX9_tripLine_71 ki_0 ?_
    refine r_sipush (pc := 72) C dX9_tripLine_72 ks_1439 ?_
    refine r_cVI (pc := 75) C [.int 0, .int 1439] [.int (108 + v3), .ref (x_b X + v12)] (z_KX.zero hT) (s_X9_read a 0 1439) mt_X9_read zc_9 dX9_tripLine_75 ml_X9_143 im_X9_read se_X9_read rfl rfl rfl (Nat.le_of_ble_eq_true rfl) ⟨Nat.le_of_ble_eq_true rfl, Nat.le_of_ble_eq_true rfl⟩ (fun r13 => ?_)
    refine r_iast (pc := 78) C dX9_tripLine_78 ?_
    refine r_aload_n (pc := 79) C dX9_tripLine_79 rfl rfl ?_
    refine r_getA (pc := 80) C dX9_tripLine_80 fl_X9_13 rfl (fun v14 => ?_)
    refine r_iconst (pc := 83) C dX9_tripLine_83 ki_2 ?_
    refine r_dup2 (pc := 84) C dX9_tripLine_84 rfl rfl ?_
    refine r_iald (pc := 85) C dX9_tripLine_85 (fun v15 => ?_)
    refine r_iconst (pc := 86) C dX9_tripLine_86 ki_1 ?_
    refine r_iadd (pc := 87) C dX9_tripLine_87 ?_
    refine r_iast (pc := 88) C dX9_tripLine_88 ?_
    exact r_vret (pc := 89) C dX9_tripLine_89
noncomputable def p_X9_emit (a : Nat) (p1 : Int32) : zP Unit := (z_bd (z_gA 9 a 12) (fun v1 => (z_bd (z_gA 9 a 10) (fun v2 => (z_bd (z_aI 11 v2 8) (fun v3 => (z_bd (z_sI 11 v1 v3 p1) (fun _ => (z_bd (z_gA 9 a 10) (fun v4 => (z_bd (z_aI 11 v4 8) (fun v5 => (z_bd (z_sI 11 v4 8 (v5 + 1)) (fun _ => (z_pu ())))))))))))))))
set_option maxHeartbeats 4000000 in
set_option maxRecDepth 100000 in
theorem s_X9_emit (a : Nat) (p1 : Int32) : z_Sound yX9_emit cX9_emit 2 none 1 20 (fun D b => [.ref (b + a), .int p1]) z_ivV (p_X9_emit a p1) := by
  refine z_ofSim rfl (by intro D b; exact Nat.le_of_ble_eq_true rfl) (fun X C hT => ?_)
  unfold p_X9_emit
  refine r_sub [(0, .ref (x_b X + a)), (1, .int p1)] rfl ?_
  refine r_aload_n (pc := 0) C dX9_emit_0 rfl rfl ?_
  refine r_getA (pc := 1) C dX9_emit_1 fl_X9_20 rfl (fun v1 => ?_)
  refine r_aload_n (pc := 4) C dX9_emit_4 rfl rfl ?_
  refine r_getA (pc := 5) C dX9_emit_5 fl_X9_13 rfl (fun v2 => ?_)
  refine r_bipush (pc := 8) C dX9_emit_8 kb_8 ?_
  refine r_iald (pc := 10) C dX9_emit_10 (fun v3 => ?_)
  refine r_iload_n (pc := 11) C dX9_emit_11 rfl rfl ?_
  refine r_iast (pc := 12) C dX9_emit_12 ?_
  refine r_aload_n (pc := 13) C dX9_emit_13 rfl rfl ?_
  refine r_getA (pc := 14) C dX9_emit_14 fl_X9_13 rfl (fun v4 => ?_)
  refine r_bipush (pc := 17) C dX9_emit_17 kb_8 ?_
  refine r_dup2 (pc := 19) C dX9_emit_19 rfl rfl ?_
  refine r_iald (pc := 20) C dX9_emit_20 (fun v5 => ?_)
  refine r_iconst (pc := 21) C dX9_emit_21 ki_1 ?_
  refine r_iadd (pc := 22) C dX9_emit_22 ?_
  refine r_iast (pc := 23) C dX9_emit_23 ?_
  exact r_vret (pc := 24) C dX9_emit_24
noncomputable def p_X9_fact (a : Nat) : zP Int32 := (z_bd (z_cv 9 a (p_X9_wordHere a)) (fun r1 => (if (lg_cmp r1 14276022451) = 0 then (z_pu (-1)) else (if (lg_cmp r1 2403507) = 0 then (z_pu (-2)) else (if (lg_cmp r1 4689267) = 0 then (z_pu (-3)) else (if (lg_cmp r1 278194) = 0 then (z_pu (-4)) else (z_pu 0)))))))
set_option maxHeartbeats 4000000 in
set_option maxRecDepth 100000 in
theorem s_X9_fact (a : Nat) : z_Sound yX9_fact cX9_fact 3 (some .int) 2 43 (fun D b => [.ref (b + a)]) z_ivI (p_X9_fact a) := by
  refine z_ofSim rfl (by intro D b; exact Nat.le_of_ble_eq_true rfl) (fun X C hT => ?_)
  unfold p_X9_fact
  refine r_sub [(0, .ref (x_b X + a))] rfl ?_
  refine r_aload_n (pc := 0) C dX9_fact_0 rfl rfl ?_
  refine r_cVJ (pc := 1) C [] [] (z_KX.zero hT) (s_X9_wordHere a) mt_X9_wordHere zc_9 dX9_fact_1 ml_X9_147 im_X9_wordHere se_X9_wordHere rfl rfl rfl (Nat.le_of_ble_eq_true rfl) ⟨Nat.le_of_ble_eq_true rfl, Nat.le_of_ble_eq_true rfl⟩ (fun r1 => ?_)
  refine r_stl_n (pc := 4) C 1 [(1, .long r1)] dX9_fact_4 rfl (by decide) rfl ?_
  refine r_lload_n (pc := 5) C dX9_fact_5 rfl rfl ?_
  refine r_ldc2 (pc := 6) C dX9_fact_6 kc_X9_190 ?_
  refine r_lcmp (pc := 9) C dX9_fact_9 ?_
  refine r_if_ne (pc := 10) C (tgt := 17) dX9_fact_10 rfl (fun _ => ?_) (fun _ => ?_)
  · refine r_iconst (pc := 13) C dX9_fact_13 ki_m1 ?_
    refine r_goto (pc := 14) C (tgt := 57) dX9_fact_14 rfl ?_
    exact r_iret (pc := 57) C dX9_fact_57
  · refine r_lload_n (pc := 17) C dX9_fact_17 rfl rfl ?_
    refine r_ldc2 (pc := 18) C dX9_fact_18 kc_X9_192 ?_
    refine r_lcmp (pc := 21) C dX9_fact_21 ?_
    refine r_if_ne (pc := 22) C (tgt := 30) dX9_fact_22 rfl (fun _ => ?_) (fun _ => ?_)
    · refine r_bipush (pc := 25) C dX9_fact_25 kb_m2 ?_
      refine r_goto (pc := 27) C (tgt := 57) dX9_fact_27 rfl ?_
      exact r_iret (pc := 57) C dX9_fact_57
    · refine r_lload_n (pc := 30) C dX9_fact_30 rfl rfl ?_
      refine r_ldc2 (pc := 31) C dX9_fact_31 kc_X9_194 ?_
      refine r_lcmp (pc := 34) C dX9_fact_34 ?_
      refine r_if_ne (pc := 35) C (tgt := 43) dX9_fact_35 rfl (fun _ => ?_) (fun _ => ?_)
      · refine r_bipush (pc := 38) C dX9_fact_38 kb_m3 ?_
        refine r_goto (pc := 40) C (tgt := 57) dX9_fact_40 rfl ?_
        exact r_iret (pc := 57) C dX9_fact_57
      · refine r_lload_n (pc := 43) C dX9_fact_43 rfl rfl ?_
        refine r_ldc2 (pc := 44) C dX9_fact_44 kc_X9_196 ?_
        refine r_lcmp (pc := 47) C dX9_fact_47 ?_
        refine r_if_ne (pc := 48) C (tgt := 56) dX9_fact_48 rfl (fun _ => ?_) (fun _ => ?_)
        · refine r_bipush (pc := 51) C dX9_fact_51 kb_m4 ?_
          refine r_goto (pc := 53) C (tgt := 57) dX9_fact_53 rfl ?_
          exact r_iret (pc := 57) C dX9_fact_57
        · refine r_iconst (pc := 56) C dX9_fact_56 ki_0 ?_
          exact r_iret (pc := 57) C dX9_fact_57
noncomputable def p_X9_factor (a : Nat) : zP Int32 := (z_bd (z_gI 9 a 6) (fun v1 => (if v1 = 40 then (z_bd (z_gI 9 a 17) (fun v12 => (z_jn (τ := Int32) (if 5 ≤ v12 then (z_pu (.inl 0)) else (z_pu (.inl 1))) (fun t13 => (z_bd (z_cv 9 a (p_X9_must a t13 4)) (fun r14 => (if r14 = 0 then (z_pu 0) else (z_bd (z_gI 9 a 17) (fun v15 => (z_bd (z_pI 9 a 17 (v15 + 1)) (fun _ => (z_bd (z_gA 9 a 15) (fun v16 => (z_bd (z_gI 9 a 16) (fun v17 => (z_bd (z_sI 11 v16 v17 40) (fun _ => (z_bd (z_gI 9 a 16) (fun v18 => (z_bd (z_pI 9 a 16 (v18 + 1)) (fun _ => (z_bd (z_cv 9 a (p_X9_nextToken a)) (fun _ => (z_pu 0)))))))))))))))))))))))) else (z_bd (z_gI 9 a 6) (fun v2 => (if v2 = 2 then (z_bd (z_gI 9 a 7) (fun v9 => (z_bd (z_cv 9 a (p_X9_emit a v9)) (fun _ => (z_bd (z_cv 9 a (p_X9_nextToken a)) (fun _ => (z_pu 1))))))) else (z_bd (z_cv 9 a (p_X9_fact a)) (fun r3 => (z_jn (τ := Int32) (if 0 ≤ r3 then (z_pu (.inl 0)) else (z_pu (.inl 1))) (fun t4 => (z_bd (z_cv 9 a (p_X9_must a t4 1)) (fun r5 => (if r5 = 0 then (z_pu 0) else (z_bd (z_cv 9 a (p_X9_fact a)) (fun r6 => (z_bd (z_cv 9 a (p_X9_emit a r6)) (fun _ => (z_bd (z_cv 9 a (p_X9_nextToken a)) (fun _ => (z_pu 1))))))))))))))))))))
set_option maxHeartbeats 4000000 in
set_option maxRecDepth 100000 in
theorem s_X9_factor (a : Nat) : z_Sound yX9_factor cX9_factor 1 (some .boolean) 3 65 (fun D b => [.ref (b + a)]) z_ivI (p_X9_factor a) := by
  refine z_ofSim rfl (by intro D b; exact Nat.le_of_ble_eq_true rfl) (fun X C hT => ?_)
  unfold p_X9_factor
  refine r_sub [(0, .ref (x_b X + a))] rfl ?_
  refine r_aload_n (pc := 0) C dX9_factor_0 rfl rfl ?_
  refine r_getI (pc := 1) C dX9_factor_1 fl_X9_100 rfl (fun v1 => ?_)
  refine r_bipush (pc := 4) C dX9_factor_4 kb_40 ?_
  refine r_icmp_ne (pc := 6) C (tgt := 69) dX9_factor_6 rfl (fun _ => ?_) (fun _ => ?_)
  · refine r_aload_n (pc := 9) C dX9_factor_9 rfl rfl ?_
    refine r_aload_n (pc := 10) C dX9_factor_10 rfl rfl ?_
    refine r_getI (pc := 11) C dX9_factor_11 fl_X9_198 rfl (fun v12 => ?_)
    refine r_iconst (pc := 14) C dX9_factor_14 ki_5 ?_
    refine r_jn 23 (fun (t13 : Int32) => [(0, .ref (x_b X + a))]) (fun (t13 : Int32) => [.int t13, .ref (x_b X + a)]) (fun t13 => ?_) ?_
    · refine r_iconst (pc := 23) C dX9_factor_23 ki_4 ?_
      refine r_cVI (pc := 24) C [.int t13, .int 4] [] (z_KX.zero hT) (s_X9_must a t13 4) mt_X9_must zc_9 dX9_factor_24 ml_X9_122 im_X9_must se_X9_must rfl rfl rfl (Nat.le_of_ble_eq_true rfl) ⟨Nat.le_of_ble_eq_true rfl, Nat.le_of_ble_eq_true rfl⟩ (fun r14 => ?_)
      refine r_if_ne (pc := 27) C (tgt := 32) dX9_factor_27 rfl (fun _ => ?_) (fun _ => ?_)
      · refine r_iconst (pc := 30) C dX9_factor_30 ki_0 ?_
        exact r_zret1 (pc := 31) C dX9_factor_31 (by decide)
      · refine r_aload_n (pc := 32) C dX9_factor_32 rfl rfl ?_
        refine r_dup (pc := 33) C dX9_factor_33 rfl ?_
        refine r_getI (pc := 34) C dX9_factor_34 fl_X9_198 rfl (fun v15 => ?_)
        refine r_iconst (pc := 37) C dX9_factor_37 ki_1 ?_
        refine r_iadd (pc := 38) C dX9_factor_38 ?_
        refine r_putI (pc := 39) C dX9_factor_39 fl_X9_198 rfl rfl ?_
        refine r_aload_n (pc := 42) C dX9_factor_42 rfl rfl ?_
        refine r_getA (pc := 43) C dX9_factor_43 fl_X9_26 rfl (fun v16 => ?_)
        refine r_aload_n (pc := 46) C dX9_factor_46 rfl rfl ?_
        refine r_getI (pc := 47) C dX9_factor_47 fl_X9_181 rfl (fun v17 => ?_)
        refine r_bipush (pc := 50) C dX9_factor_50 kb_40 ?_
        refine r_iast (pc := 52) C dX9_factor_52 ?_
        refine r_aload_n (pc := 53) C dX9_factor_53 rfl rfl ?_
        refine r_dup (pc := 54) C dX9_factor_54 rfl ?_
        refine r_getI (pc := 55) C dX9_factor_55 fl_X9_181 rfl (fun v18 => ?_)
        refine r_iconst (pc := 58) C dX9_factor_58 ki_1 ?_
        refine r_iadd (pc := 59) C dX9_factor_59 ?_
        refine r_putI (pc := 60) C dX9_factor_60 fl_X9_181 rfl rfl ?_
        refine r_aload_n (pc := 63) C dX9_factor_63 rfl rfl ?_
        refine r_cVV (pc := 64) C [] [] (z_KX.zero hT) (s_X9_nextToken a) mt_X9_nextToken zc_9 dX9_factor_64 ml_X9_126 im_X9_nextToken se_X9_nextToken rfl rfl rfl (Nat.le_of_ble_eq_true rfl) ⟨Nat.le_of_ble_eq_true rfl, Nat.le_of_ble_eq_true rfl⟩ ?_
        refine r_iconst (pc := 67) C dX9_factor_67 ki_0 ?_
        exact r_zret1 (pc := 68) C dX9_factor_68 (by decide)
    · refine r_icmp_ge (pc := 15) C (tgt := 22) dX9_factor_15 rfl (fun _ => ?_) (fun _ => ?_)
      · refine r_iconst (pc := 22) C dX9_factor_22 ki_0 ?_
        refine r_sub [(0, .ref (x_b X + a))] rfl ?_
        exact r_br (τ := Int32) 0
      · refine r_iconst (pc := 18) C dX9_factor_18 ki_1 ?_
        refine r_goto (pc := 19) C (tgt := 23) dX9_factor_19 rfl ?_
        refine r_sub [(0, .ref (x_b X + a))] rfl ?_
        exact r_br (τ := Int32) 1
  · refine r_aload_n (pc := 69) C dX9_factor_69 rfl rfl ?_
    refine r_getI (pc := 70) C dX9_factor_70 fl_X9_100 rfl (fun v2 => ?_)
    refine r_iconst (pc := 73) C dX9_factor_73 ki_2 ?_
    refine r_icmp_ne (pc := 74) C (tgt := 91) dX9_factor_74 rfl (fun _ => ?_) (fun _ => ?_)
    · refine r_aload_n (pc := 77) C dX9_factor_77 rfl rfl ?_
      refine r_aload_n (pc := 78) C dX9_factor_78 rfl rfl ?_
      refine r_getI (pc := 79) C dX9_factor_79 fl_X9_107 rfl (fun v9 => ?_)
      refine r_cVV (pc := 82) C [.int v9] [] (z_KX.zero hT) (s_X9_emit a v9) mt_X9_emit zc_9 dX9_factor_82 ml_X9_187 im_X9_emit se_X9_emit rfl rfl rfl (Nat.le_of_ble_eq_true rfl) ⟨Nat.le_of_ble_eq_true rfl, Nat.le_of_ble_eq_true rfl⟩ ?_
      refine r_aload_n (pc := 85) C dX9_factor_85 rfl rfl ?_
      refine r_cVV (pc := 86) C [] [] (z_KX.zero hT) (s_X9_nextToken a) mt_X9_nextToken zc_9 dX9_factor_86 ml_X9_126 im_X9_nextToken se_X9_nextToken rfl rfl rfl (Nat.le_of_ble_eq_true rfl) ⟨Nat.le_of_ble_eq_true rfl, Nat.le_of_ble_eq_true rfl⟩ ?_
      refine r_iconst (pc := 89) C dX9_factor_89 ki_1 ?_
      exact r_zret1 (pc := 90) C dX9_factor_90 (by decide)
    · refine r_aload_n (pc := 91) C dX9_factor_91 rfl rfl ?_
      refine r_aload_n (pc := 92) C dX9_factor_92 rfl rfl ?_
      refine r_cVI (pc := 93) C [] [.ref (x_b X + a)] (z_KX.zero hT) (s_X9_fact a) mt_X9_fact zc_9 dX9_factor_93 ml_X9_201 im_X9_fact se_X9_fact rfl rfl rfl (Nat.le_of_ble_eq_true rfl) ⟨Nat.le_of_ble_eq_true rfl, Nat.le_of_ble_eq_true rfl⟩ (fun r3 => ?_)
      refine r_jn 104 (fun (t4 : Int32) => [(0, .ref (x_b X + a))]) (fun (t4 : Int32) => [.int t4, .ref (x_b X + a)]) (fun t4 => ?_) ?_
      · refine r_iconst (pc := 104) C dX9_factor_104 ki_1 ?_
        refine r_cVI (pc := 105) C [.int t4, .int 1] [] (z_KX.zero hT) (s_X9_must a t4 1) mt_X9_must zc_9 dX9_factor_105 ml_X9_122 im_X9_must se_X9_must rfl rfl rfl (Nat.le_of_ble_eq_true rfl) ⟨Nat.le_of_ble_eq_true rfl, Nat.le_of_ble_eq_true rfl⟩ (fun r5 => ?_)
        refine r_if_ne (pc := 108) C (tgt := 113) dX9_factor_108 rfl (fun _ => ?_) (fun _ => ?_)
        · refine r_iconst (pc := 111) C dX9_factor_111 ki_0 ?_
          exact r_zret1 (pc := 112) C dX9_factor_112 (by decide)
        · refine r_aload_n (pc := 113) C dX9_factor_113 rfl rfl ?_
          refine r_aload_n (pc := 114) C dX9_factor_114 rfl rfl ?_
          refine r_cVI (pc := 115) C [] [.ref (x_b X + a)] (z_KX.zero hT) (s_X9_fact a) mt_X9_fact zc_9 dX9_factor_115 ml_X9_201 im_X9_fact se_X9_fact rfl rfl rfl (Nat.le_of_ble_eq_true rfl) ⟨Nat.le_of_ble_eq_true rfl, Nat.le_of_ble_eq_true rfl⟩ (fun r6 => ?_)
          refine r_cVV (pc := 118) C [.int r6] [] (z_KX.zero hT) (s_X9_emit a r6) mt_X9_emit zc_9 dX9_factor_118 ml_X9_187 im_X9_emit se_X9_emit rfl rfl rfl (Nat.le_of_ble_eq_true rfl) ⟨Nat.le_of_ble_eq_true rfl, Nat.le_of_ble_eq_true rfl⟩ ?_
          refine r_aload_n (pc := 121) C dX9_factor_121 rfl rfl ?_
          refine r_cVV (pc := 122) C [] [] (z_KX.zero hT) (s_X9_nextToken a) mt_X9_nextToken zc_9 dX9_factor_122 ml_X9_126 im_X9_nextToken se_X9_nextToken rfl rfl rfl (Nat.le_of_ble_eq_true rfl) ⟨Nat.le_of_ble_eq_true rfl, Nat.le_of_ble_eq_true rfl⟩ ?_
          refine r_iconst (pc := 125) C dX9_factor_125 ki_1 ?_
          exact r_zret1 (pc := 126) C dX9_factor_126 (by decide)
      · refine r_if_ge (pc := 96) C (tgt := 103) dX9_factor_96 rfl (fun _ => ?_) (fun _ => ?_)
        · refine r_iconst (pc := 103) C dX9_factor_103 ki_0 ?_
          refine r_sub [(0, .ref (x_b X + a))] rfl ?_
          exact r_br (τ := Int32) 0
        · refine r_iconst (pc := 99) C dX9_factor_99 ki_1 ?_
          refine r_goto (pc := 100) C (tgt := 104) dX9_factor_100 rfl ?_
          refine r_sub [(0, .ref (x_b X + a))] rfl ?_
          exact r_br (τ := Int32) 1
noncomputable def p_X9_rank (p1 : Int32) : zP Int32 := (if p1 = 42 then (z_pu 2) else (if p1 = 47 then (z_pu 2) else (if p1 = 43 then (z_pu 1) else (if p1 = 45 then (z_pu 1) else (z_pu 0)))))
set_option maxHeartbeats 4000000 in
set_option maxRecDepth 100000 in
theorem s_X9_rank (p1 : Int32) : z_Sound yX9_rank cX9_rank 1 (some .int) 1 20 (fun D b => [.int p1]) z_ivI (p_X9_rank p1) := by
  refine z_ofSim rfl (by intro D b; exact Nat.le_of_ble_eq_true rfl) (fun X C hT => ?_)
  unfold p_X9_rank
  refine r_sub [(0, .int p1)] rfl ?_
  refine r_iload_n (pc := 0) C dX9_rank_0 rfl rfl ?_
  refine r_bipush (pc := 1) C dX9_rank_1 kb_42 ?_
  refine r_icmp_eq (pc := 3) C (tgt := 12) dX9_rank_3 rfl (fun _ => ?_) (fun _ => ?_)
  · refine r_iconst (pc := 12) C dX9_rank_12 ki_2 ?_
    refine r_goto (pc := 13) C (tgt := 33) dX9_rank_13 rfl ?_
    exact r_iret (pc := 33) C dX9_rank_33
  · refine r_iload_n (pc := 6) C dX9_rank_6 rfl rfl ?_
    refine r_bipush (pc := 7) C dX9_rank_7 kb_47 ?_
    refine r_icmp_ne (pc := 9) C (tgt := 16) dX9_rank_9 rfl (fun _ => ?_) (fun _ => ?_)
    · refine r_iconst (pc := 12) C dX9_rank_12 ki_2 ?_
      refine r_goto (pc := 13) C (tgt := 33) dX9_rank_13 rfl ?_
      exact r_iret (pc := 33) C dX9_rank_33
    · refine r_iload_n (pc := 16) C dX9_rank_16 rfl rfl ?_
      refine r_bipush (pc := 17) C dX9_rank_17 kb_43 ?_
      refine r_icmp_eq (pc := 19) C (tgt := 28) dX9_rank_19 rfl (fun _ => ?_) (fun _ => ?_)
      · refine r_iconst (pc := 28) C dX9_rank_28 ki_1 ?_
        refine r_goto (pc := 29) C (tgt := 33) dX9_rank_29 rfl ?_
        exact r_iret (pc := 33) C dX9_rank_33
      · refine r_iload_n (pc := 22) C dX9_rank_22 rfl rfl ?_
        refine r_bipush (pc := 23) C dX9_rank_23 kb_45 ?_
        refine r_icmp_ne (pc := 25) C (tgt := 32) dX9_rank_25 rfl (fun _ => ?_) (fun _ => ?_)
        · refine r_iconst (pc := 28) C dX9_rank_28 ki_1 ?_
          refine r_goto (pc := 29) C (tgt := 33) dX9_rank_29 rfl ?_
          exact r_iret (pc := 33) C dX9_rank_33
        · refine r_iconst (pc := 32) C dX9_rank_32 ki_0 ?_
          exact r_iret (pc := 33) C dX9_rank_33
noncomputable def p_X9_settle (a : Nat) (p1 : Int32) : zP Unit := (z_lp (fun (t1 : Unit) => (z_bd (z_gI 9 a 16) (fun v2 => (if v2 ≤ 0 then (z_pu (.inr ())) else (z_bd (z_gA 9 a 15) (fun v3 => (z_bd (z_gI 9 a 16) (fun v4 => (z_bd (z_aI 11 v3 (v4 - 1)) (fun v5 => (z_bd (p_X9_rank v5) (fun r6 => (if r6 < p1 then (z_pu (.inr ())) else (z_bd (z_gI 9 a 16) (fun v7 => (z_bd (z_pI 9 a 16 (v7 - 1)) (fun _ => (z_bd (z_gA 9 a 15) (fun v8 => (z_bd (z_gI 9 a 16) (fun v9 => (z_bd (z_aI 11 v8 v9) (fun v10 => (z_bd (z_cv 9 a (p_X9_emit a (-v10))) (fun _ => (z_pu (.inl ()))))))))))))))))))))))))))) ())
set_option maxHeartbeats 4000000 in
set_option maxRecDepth 100000 in
theorem s_X9_settle (a : Nat) (p1 : Int32) : z_Sound yX9_settle cX9_settle 2 none 2 41 (fun D b => [.ref (b + a), .int p1]) z_ivV (p_X9_settle a p1) := by
  refine z_ofSim rfl (by intro D b; exact Nat.le_of_ble_eq_true rfl) (fun X C hT => ?_)
  unfold p_X9_settle
  refine r_sub [(0, .ref (x_b X + a)), (1, .int p1)] rfl ?_
  refine r_sub [(0, .ref (x_b X + a)), (1, .int p1)] rfl ?_
  refine r_lp (pc := 0) (fun (t1 : Unit) => [(0, .ref (x_b X + a)), (1, .int p1)]) (fun t1 => ?_) ()
  refine r_aload_n (pc := 0) C dX9_settle_0 rfl rfl ?_
  refine r_getI (pc := 1) C dX9_settle_1 fl_X9_181 rfl (fun v2 => ?_)
  refine r_if_le (pc := 4) C (tgt := 52) dX9_settle_4 rfl (fun _ => ?_) (fun _ => ?_)
  · exact r_up (r_vret (pc := 52) C dX9_settle_52)
  · refine r_aload_n (pc := 7) C dX9_settle_7 rfl rfl ?_
    refine r_getA (pc := 8) C dX9_settle_8 fl_X9_26 rfl (fun v3 => ?_)
    refine r_aload_n (pc := 11) C dX9_settle_11 rfl rfl ?_
    refine r_getI (pc := 12) C dX9_settle_12 fl_X9_181 rfl (fun v4 => ?_)
    refine r_iconst (pc := 15) C dX9_settle_15 ki_1 ?_
    refine r_isub (pc := 16) C dX9_settle_16 ?_
    refine r_iald (pc := 17) C dX9_settle_17 (fun v5 => ?_)
    refine r_cSI (pc := 18) C [.int v5] [] (z_KX.up (z_KX.zero hT)) (s_X9_rank v5) mt_X9_rank dX9_settle_18 ml_X9_184 sm_X9_rank rfl rfl rfl (Nat.le_of_ble_eq_true rfl) ⟨Nat.le_of_ble_eq_true rfl, Nat.le_of_ble_eq_true rfl⟩ (fun r6 => ?_)
    refine r_iload_n (pc := 21) C dX9_settle_21 rfl rfl ?_
    refine r_icmp_lt (pc := 22) C (tgt := 52) dX9_settle_22 rfl (fun _ => ?_) (fun _ => ?_)
    · exact r_up (r_vret (pc := 52) C dX9_settle_52)
    · refine r_aload_n (pc := 25) C dX9_settle_25 rfl rfl ?_
      refine r_dup (pc := 26) C dX9_settle_26 rfl ?_
      refine r_getI (pc := 27) C dX9_settle_27 fl_X9_181 rfl (fun v7 => ?_)
      refine r_iconst (pc := 30) C dX9_settle_30 ki_1 ?_
      refine r_isub (pc := 31) C dX9_settle_31 ?_
      refine r_putI (pc := 32) C dX9_settle_32 fl_X9_181 rfl rfl ?_
      refine r_aload_n (pc := 35) C dX9_settle_35 rfl rfl ?_
      refine r_aload_n (pc := 36) C dX9_settle_36 rfl rfl ?_
      refine r_getA (pc := 37) C dX9_settle_37 fl_X9_26 rfl (fun v8 => ?_)
      refine r_aload_n (pc := 40) C dX9_settle_40 rfl rfl ?_
      refine r_getI (pc := 41) C dX9_settle_41 fl_X9_181 rfl (fun v9 => ?_)
      refine r_iald (pc := 44) C dX9_settle_44 (fun v10 => ?_)
      refine r_ineg (pc := 45) C dX9_settle_45 ?_
      refine r_cVV (pc := 46) C [.int (-v10)] [] (z_KX.up (z_KX.zero hT)) (s_X9_emit a (-v10)) mt_X9_emit zc_9 dX9_settle_46 ml_X9_187 im_X9_emit se_X9_emit rfl rfl rfl (Nat.le_of_ble_eq_true rfl) ⟨Nat.le_of_ble_eq_true rfl, Nat.le_of_ble_eq_true rfl⟩ ?_
      refine r_goto (pc := 49) C (tgt := 0) dX9_settle_49 rfl ?_
      refine r_sub [(0, .ref (x_b X + a)), (1, .int p1)] rfl ?_
      exact r_br (τ := Unit) ()
noncomputable def p_X9_fare (a : Nat) : zP Unit := (z_bd (z_gA 9 a 10) (fun v1 => (z_bd (z_sI 11 v1 8 0) (fun _ => (z_bd (z_pI 9 a 16 0) (fun _ => (z_bd (z_pI 9 a 17 0) (fun _ => (z_jn (τ := Unit) (z_lp (fun (t3 : Int32 × Int32) => (if t3.2 = 0 then (z_pu (.inr (.inl ()))) else (z_bd (z_gI 9 a 8) (fun v4 => (if v4 = 0 then (if t3.1 = 0 then (z_bd (z_cv 9 a (p_X9_factor a)) (fun r25 => (z_pu (.inl (r25, t3.2))))) else (z_bd (z_gI 9 a 6) (fun v5 => (z_bd (p_X9_rank v5) (fun r6 => (if r6 ≤ 0 then (z_bd (z_gI 9 a 6) (fun v7 => (z_jn (τ := Unit) (if v7 = 41 then (z_bd (z_gI 9 a 17) (fun v9 => (if v9 ≤ 0 then (z_pu (.inl ())) else (z_bd (z_cv 9 a (p_X9_settle a 1)) (fun _ => (z_bd (z_gI 9 a 16) (fun v11 => (z_bd (z_pI 9 a 16 (v11 - 1)) (fun _ => (z_bd (z_gI 9 a 17) (fun v12 => (z_bd (z_pI 9 a 17 (v12 - 1)) (fun _ => (z_bd (z_cv 9 a (p_X9_nextToken a)) (fun _ => (z_pu (.inr (.inl (t3.1, t3.2))))))))))))))))))) else (z_pu (.inl ()))) (fun t8 => (z_bd (z_gI 9 a 17) (fun v14 => (z_jn (τ := Int32) (if v14 = 0 then (z_pu (.inl 1)) else (z_pu (.inl 0))) (fun t15 => (z_bd (z_cv 9 a (p_X9_must a t15 1)) (fun r16 => (z_pu (.inl (t3.1, 0))))))))))))) else (z_bd (z_gI 9 a 6) (fun v17 => (z_bd (p_X9_rank v17) (fun r18 => (z_bd (z_cv 9 a (p_X9_settle a r18)) (fun _ => (z_bd (z_gA 9 a 15) (fun v20 => (z_bd (z_gI 9 a 16) (fun v21 => (z_bd (z_gI 9 a 6) (fun v22 => (z_bd (z_sI 11 v20 v21 v22) (fun _ => (z_bd (z_gI 9 a 16) (fun v23 => (z_bd (z_pI 9 a 16 (v23 + 1)) (fun _ => (z_bd (z_cv 9 a (p_X9_nextToken a)) (fun _ => (z_pu (.inl (0, t3.2))))))))))))))))))))))))))))) else (z_pu (.inr (.inl ())))))))) (0, 1)) (fun t2 => (z_bd (z_cv 9 a (p_X9_settle a 1)) (fun _ => (z_pu ())))))))))))))
set_option maxHeartbeats 4000000 in
set_option maxRecDepth 100000 in
theorem s_X9_fare (a : Nat) : z_Sound yX9_fare cX9_fare 3 none 4 85 (fun D b => [.ref (b + a)]) z_ivV (p_X9_fare a) := by
  refine z_ofSim rfl (by intro D b; exact Nat.le_of_ble_eq_true rfl) (fun X C hT => ?_)
  unfold p_X9_fare
  refine r_sub [(0, .ref (x_b X + a))] rfl ?_
  refine r_aload_n (pc := 0) C dX9_fare_0 rfl rfl ?_
  refine r_getA (pc := 1) C dX9_fare_1 fl_X9_13 rfl (fun v1 => ?_)
  refine r_bipush (pc := 4) C dX9_fare_4 kb_8 ?_
  refine r_iconst (pc := 6) C dX9_fare_6 ki_0 ?_
  refine r_iast (pc := 7) C dX9_fare_7 ?_
  refine r_aload_n (pc := 8) C dX9_fare_8 rfl rfl ?_
  refine r_iconst (pc := 9) C dX9_fare_9 ki_0 ?_
  refine r_putI (pc := 10) C dX9_fare_10 fl_X9_181 rfl rfl ?_
  refine r_aload_n (pc := 13) C dX9_fare_13 rfl rfl ?_
  refine r_iconst (pc := 14) C dX9_fare_14 ki_0 ?_
  refine r_putI (pc := 15) C dX9_fare_15 fl_X9_198 rfl rfl ?_
  refine r_iconst (pc := 18) C dX9_fare_18 ki_0 ?_
  refine r_sti_n (pc := 19) C 1 [(0, .ref (x_b X + a)), (1, .int 0)] dX9_fare_19 rfl (by decide) rfl ?_
  refine r_iconst (pc := 20) C dX9_fare_20 ki_1 ?_
  refine r_sti_n (pc := 21) C 2 [(0, .ref (x_b X + a)), (1, .int 0), (2, .int 1)] dX9_fare_21 rfl (by decide) rfl ?_
  refine r_jn 169 (fun (t2 : Unit) => [(0, .ref (x_b X + a))]) (fun (t2 : Unit) => []) (fun t2 => ?_) ?_
  · refine r_aload_n (pc := 169) C dX9_fare_169 rfl rfl ?_
    refine r_iconst (pc := 170) C dX9_fare_170 ki_1 ?_
    refine r_cVV (pc := 171) C [.int 1] [] (z_KX.zero hT) (s_X9_settle a 1) mt_X9_settle zc_9 dX9_fare_171 ml_X9_209 im_X9_settle se_X9_settle rfl rfl rfl (Nat.le_of_ble_eq_true rfl) ⟨Nat.le_of_ble_eq_true rfl, Nat.le_of_ble_eq_true rfl⟩ ?_
    exact r_vret (pc := 174) C dX9_fare_174
  · refine r_sub [(0, .ref (x_b X + a)), (1, .int 0), (2, .int 1)] rfl ?_
    refine r_lp (pc := 22) (fun (t3 : Int32 × Int32) => [(0, .ref (x_b X + a)), (1, .int t3.1), (2, .int t3.2)]) (fun t3 => ?_) (0, 1)
    refine r_iload_n (pc := 22) C dX9_fare_22 rfl rfl ?_
    refine r_if_eq (pc := 23) C (tgt := 169) dX9_fare_23 rfl (fun _ => ?_) (fun _ => ?_)
    · refine r_sub [(0, .ref (x_b X + a))] rfl ?_
      exact r_up (r_br (τ := Unit) ())
    · refine r_aload_n (pc := 26) C dX9_fare_26 rfl rfl ?_
      refine r_getI (pc := 27) C dX9_fare_27 fl_X9_110 rfl (fun v4 => ?_)
      refine r_if_ne (pc := 30) C (tgt := 169) dX9_fare_30 rfl (fun _ => ?_) (fun _ => ?_)
      · refine r_iload_n (pc := 33) C dX9_fare_33 rfl rfl ?_
        refine r_if_ne (pc := 34) C (tgt := 45) dX9_fare_34 rfl (fun _ => ?_) (fun _ => ?_)
        · refine r_aload_n (pc := 37) C dX9_fare_37 rfl rfl ?_
          refine r_cVI (pc := 38) C [] [] (z_KX.up (z_KX.up (z_KX.zero hT))) (s_X9_factor a) mt_X9_factor zc_9 dX9_fare_38 ml_X9_205 im_X9_factor se_X9_factor rfl rfl rfl (Nat.le_of_ble_eq_true rfl) ⟨Nat.le_of_ble_eq_true rfl, Nat.le_of_ble_eq_true rfl⟩ (fun r25 => ?_)
          refine r_sti_n (pc := 41) C 1 [(0, .ref (x_b X + a)), (1, .int r25), (2, .int t3.2)] dX9_fare_41 rfl (by decide) rfl ?_
          refine r_goto (pc := 42) C (tgt := 22) dX9_fare_42 rfl ?_
          refine r_sub [(0, .ref (x_b X + a)), (1, .int r25), (2, .int t3.2)] rfl ?_
          exact r_br (τ := Int32 × Int32) (r25, t3.2)
        · refine r_aload_n (pc := 45) C dX9_fare_45 rfl rfl ?_
          refine r_getI (pc := 46) C dX9_fare_46 fl_X9_100 rfl (fun v5 => ?_)
          refine r_cSI (pc := 49) C [.int v5] [] (z_KX.up (z_KX.up (z_KX.zero hT))) (s_X9_rank v5) mt_X9_rank dX9_fare_49 ml_X9_184 sm_X9_rank rfl rfl rfl (Nat.le_of_ble_eq_true rfl) ⟨Nat.le_of_ble_eq_true rfl, Nat.le_of_ble_eq_true rfl⟩ (fun r6 => ?_)
          refine r_if_le (pc := 52) C (tgt := 98) dX9_fare_52 rfl (fun _ => ?_) (fun _ => ?_)
          · refine r_aload_n (pc := 98) C dX9_fare_98 rfl rfl ?_
            refine r_getI (pc := 99) C dX9_fare_99 fl_X9_100 rfl (fun v7 => ?_)
            refine r_bipush (pc := 102) C dX9_fare_102 kb_41 ?_
            refine r_jn 146 (fun (t8 : Unit) => [(0, .ref (x_b X + a)), (1, .int t3.1)]) (fun (t8 : Unit) => []) (fun t8 => ?_) ?_
            · refine r_aload_n (pc := 146) C dX9_fare_146 rfl rfl ?_
              refine r_aload_n (pc := 147) C dX9_fare_147 rfl rfl ?_
              refine r_getI (pc := 148) C dX9_fare_148 fl_X9_198 rfl (fun v14 => ?_)
              refine r_jn 159 (fun (t15 : Int32) => [(0, .ref (x_b X + a)), (1, .int t3.1)]) (fun (t15 : Int32) => [.int t15, .ref (x_b X + a)]) (fun t15 => ?_) ?_
              · refine r_iconst (pc := 159) C dX9_fare_159 ki_1 ?_
                refine r_cVI (pc := 160) C [.int t15, .int 1] [] (z_KX.up (z_KX.up (z_KX.zero hT))) (s_X9_must a t15 1) mt_X9_must zc_9 dX9_fare_160 ml_X9_122 im_X9_must se_X9_must rfl rfl rfl (Nat.le_of_ble_eq_true rfl) ⟨Nat.le_of_ble_eq_true rfl, Nat.le_of_ble_eq_true rfl⟩ (fun r16 => ?_)
                refine r_pop (pc := 163) C dX9_fare_163 rfl ?_
                refine r_iconst (pc := 164) C dX9_fare_164 ki_0 ?_
                refine r_sti_n (pc := 165) C 2 [(0, .ref (x_b X + a)), (1, .int t3.1), (2, .int 0)] dX9_fare_165 rfl (by decide) rfl ?_
                refine r_goto (pc := 166) C (tgt := 22) dX9_fare_166 rfl ?_
                refine r_sub [(0, .ref (x_b X + a)), (1, .int t3.1), (2, .int 0)] rfl ?_
                exact r_br (τ := Int32 × Int32) (t3.1, 0)
              · refine r_if_ne (pc := 151) C (tgt := 158) dX9_fare_151 rfl (fun _ => ?_) (fun _ => ?_)
                · refine r_iconst (pc := 154) C dX9_fare_154 ki_1 ?_
                  refine r_goto (pc := 155) C (tgt := 159) dX9_fare_155 rfl ?_
                  refine r_sub [(0, .ref (x_b X + a)), (1, .int t3.1)] rfl ?_
                  exact r_br (τ := Int32) 1
                · refine r_iconst (pc := 158) C dX9_fare_158 ki_0 ?_
                  refine r_sub [(0, .ref (x_b X + a)), (1, .int t3.1)] rfl ?_
                  exact r_br (τ := Int32) 0
            · refine r_icmp_ne (pc := 104) C (tgt := 146) dX9_fare_104 rfl (fun _ => ?_) (fun _ => ?_)
              · refine r_aload_n (pc := 107) C dX9_fare_107 rfl rfl ?_
                refine r_getI (pc := 108) C dX9_fare_108 fl_X9_198 rfl (fun v9 => ?_)
                refine r_if_le (pc := 111) C (tgt := 146) dX9_fare_111 rfl (fun _ => ?_) (fun _ => ?_)
                · refine r_sub [(0, .ref (x_b X + a)), (1, .int t3.1)] rfl ?_
                  exact r_br (τ := Unit) ()
                · refine r_aload_n (pc := 114) C dX9_fare_114 rfl rfl ?_
                  refine r_iconst (pc := 115) C dX9_fare_115 ki_1 ?_
                  refine r_cVV (pc := 116) C [.int 1] [] (z_KX.up (z_KX.up (z_KX.up (z_KX.zero hT)))) (s_X9_settle a 1) mt_X9_settle zc_9 dX9_fare_116 ml_X9_209 im_X9_settle se_X9_settle rfl rfl rfl (Nat.le_of_ble_eq_true rfl) ⟨Nat.le_of_ble_eq_true rfl, Nat.le_of_ble_eq_true rfl⟩ ?_
                  refine r_aload_n (pc := 119) C dX9_fare_119 rfl rfl ?_
                  refine r_dup (pc := 120) C dX9_fare_120 rfl ?_
                  refine r_getI (pc := 121) C dX9_fare_121 fl_X9_181 rfl (fun v11 => ?_)
                  refine r_iconst (pc := 124) C dX9_fare_124 ki_1 ?_
                  refine r_isub (pc := 125) C dX9_fare_125 ?_
                  refine r_putI (pc := 126) C dX9_fare_126 fl_X9_181 rfl rfl ?_
                  refine r_aload_n (pc := 129) C dX9_fare_129 rfl rfl ?_
                  refine r_dup (pc := 130) C dX9_fare_130 rfl ?_
                  refine r_getI (pc := 131) C dX9_fare_131 fl_X9_198 rfl (fun v12 => ?_)
                  refine r_iconst (pc := 134) C dX9_fare_134 ki_1 ?_
                  refine r_isub (pc := 135) C dX9_fare_135 ?_
                  refine r_putI (pc := 136) C dX9_fare_136 fl_X9_198 rfl rfl ?_
                  refine r_aload_n (pc := 139) C dX9_fare_139 rfl rfl ?_
                  refine r_cVV (pc := 140) C [] [] (z_KX.up (z_KX.up (z_KX.up (z_KX.zero hT)))) (s_X9_nextToken a) mt_X9_nextToken zc_9 dX9_fare_140 ml_X9_126 im_X9_nextToken se_X9_nextToken rfl rfl rfl (Nat.le_of_ble_eq_true rfl) ⟨Nat.le_of_ble_eq_true rfl, Nat.le_of_ble_eq_true rfl⟩ ?_
                  refine r_goto (pc := 143) C (tgt := 22) dX9_fare_143 rfl ?_
                  refine r_sub [(0, .ref (x_b X + a)), (1, .int t3.1), (2, .int t3.2)] rfl ?_
                  exact r_up (r_br (τ := Int32 × Int32) (t3.1, t3.2))
              · refine r_sub [(0, .ref (x_b X + a)), (1, .int t3.1)] rfl ?_
                exact r_br (τ := Unit) ()
          · refine r_aload_n (pc := 55) C dX9_fare_55 rfl rfl ?_
            refine r_aload_n (pc := 56) C dX9_fare_56 rfl rfl ?_
            refine r_getI (pc := 57) C dX9_fare_57 fl_X9_100 rfl (fun v17 => ?_)
            refine r_cSI (pc := 60) C [.int v17] [.ref (x_b X + a)] (z_KX.up (z_KX.up (z_KX.zero hT))) (s_X9_rank v17) mt_X9_rank dX9_fare_60 ml_X9_184 sm_X9_rank rfl rfl rfl (Nat.le_of_ble_eq_true rfl) ⟨Nat.le_of_ble_eq_true rfl, Nat.le_of_ble_eq_true rfl⟩ (fun r18 => ?_)
            refine r_cVV (pc := 63) C [.int r18] [] (z_KX.up (z_KX.up (z_KX.zero hT))) (s_X9_settle a r18) mt_X9_settle zc_9 dX9_fare_63 ml_X9_209 im_X9_settle se_X9_settle rfl rfl rfl (Nat.le_of_ble_eq_true rfl) ⟨Nat.le_of_ble_eq_true rfl, Nat.le_of_ble_eq_true rfl⟩ ?_
            refine r_aload_n (pc := 66) C dX9_fare_66 rfl rfl ?_
            refine r_getA (pc := 67) C dX9_fare_67 fl_X9_26 rfl (fun v20 => ?_)
            refine r_aload_n (pc := 70) C dX9_fare_70 rfl rfl ?_
            refine r_getI (pc := 71) C dX9_fare_71 fl_X9_181 rfl (fun v21 => ?_)
            refine r_aload_n (pc := 74) C dX9_fare_74 rfl rfl ?_
            refine r_getI (pc := 75) C dX9_fare_75 fl_X9_100 rfl (fun v22 => ?_)
            refine r_iast (pc := 78) C dX9_fare_78 ?_
            refine r_aload_n (pc := 79) C dX9_fare_79 rfl rfl ?_
            refine r_dup (pc := 80) C dX9_fare_80 rfl ?_
            refine r_getI (pc := 81) C dX9_fare_81 fl_X9_181 rfl (fun v23 => ?_)
            refine r_iconst (pc := 84) C dX9_fare_84 ki_1 ?_
            refine r_iadd (pc := 85) C dX9_fare_85 ?_
            refine r_putI (pc := 86) C dX9_fare_86 fl_X9_181 rfl rfl ?_
            refine r_iconst (pc := 89) C dX9_fare_89 ki_0 ?_
            refine r_sti_n (pc := 90) C 1 [(0, .ref (x_b X + a)), (1, .int 0), (2, .int t3.2)] dX9_fare_90 rfl (by decide) rfl ?_
            refine r_aload_n (pc := 91) C dX9_fare_91 rfl rfl ?_
            refine r_cVV (pc := 92) C [] [] (z_KX.up (z_KX.up (z_KX.zero hT))) (s_X9_nextToken a) mt_X9_nextToken zc_9 dX9_fare_92 ml_X9_126 im_X9_nextToken se_X9_nextToken rfl rfl rfl (Nat.le_of_ble_eq_true rfl) ⟨Nat.le_of_ble_eq_true rfl, Nat.le_of_ble_eq_true rfl⟩ ?_
            refine r_goto (pc := 95) C (tgt := 22) dX9_fare_95 rfl ?_
            refine r_sub [(0, .ref (x_b X + a)), (1, .int 0), (2, .int t3.2)] rfl ?_
            exact r_br (τ := Int32 × Int32) (0, t3.2)
      · refine r_sub [(0, .ref (x_b X + a))] rfl ?_
        exact r_up (r_br (τ := Unit) ())
noncomputable def p_X9_statement (a : Nat) : zP Unit := (z_bd (z_cv 9 a (p_X9_wordHere a)) (fun r1 => (if (lg_cmp r1 21073896942) = 0 then (z_bd (z_cv 9 a (p_X9_station a)) (fun _ => (z_pu ()))) else (if (lg_cmp r1 21582955) = 0 then (z_bd (z_cv 9 a (p_X9_truckLine a)) (fun _ => (z_pu ()))) else (if (lg_cmp r1 674096) = 0 then (z_bd (z_cv 9 a (p_X9_tripLine a)) (fun _ => (z_pu ()))) else (if (lg_cmp r1 525413) = 0 then (z_bd (z_cv 9 a (p_X9_once a 0)) (fun r13 => (if r13 = 0 then (z_pu ()) else (z_bd (z_gA 9 a 10) (fun v14 => (z_bd (z_cv 9 a (p_X9_read a 0 99)) (fun r15 => (z_bd (z_sI 11 v14 3 r15) (fun _ => (z_bd (z_gA 9 a 10) (fun v16 => (z_bd (z_cv 9 a (p_X9_read a 0 99)) (fun r17 => (z_bd (z_sI 11 v16 4 r17) (fun _ => (z_pu ())))))))))))))))) else (if (lg_cmp r1 2193668197) = 0 then (z_bd (z_cv 9 a (p_X9_once a 1)) (fun r10 => (if r10 = 0 then (z_pu ()) else (z_bd (z_gA 9 a 10) (fun v11 => (z_bd (z_cv 9 a (p_X9_read a 0 50)) (fun r12 => (z_bd (z_sI 11 v11 5 r12) (fun _ => (z_pu ())))))))))) else (if (lg_cmp r1 2603699) = 0 then (z_bd (z_cv 9 a (p_X9_once a 2)) (fun r5 => (if r5 = 0 then (z_pu ()) else (z_bd (z_gA 9 a 10) (fun v6 => (z_bd (z_cv 9 a (p_X9_read a 0 100)) (fun r7 => (z_bd (z_sI 11 v6 6 r7) (fun _ => (z_bd (z_gA 9 a 10) (fun v8 => (z_bd (z_cv 9 a (p_X9_read a 0 999)) (fun r9 => (z_bd (z_sI 11 v8 7 r9) (fun _ => (z_pu ())))))))))))))))) else (if (lg_cmp r1 198213) = 0 then (z_bd (z_cv 9 a (p_X9_once a 3)) (fun r3 => (if r3 = 0 then (z_pu ()) else (z_bd (z_cv 9 a (p_X9_fare a)) (fun _ => (z_pu ())))))) else (z_bd (z_cv 9 a (p_X9_must a 0 1)) (fun r2 => (z_pu ()))))))))))))
set_option maxHeartbeats 4000000 in
set_option maxRecDepth 100000 in
theorem s_X9_statement (a : Nat) : z_Sound yX9_statement cX9_statement 3 none 5 107 (fun D b => [.ref (b + a)]) z_ivV (p_X9_statement a) := by
  refine z_ofSim rfl (by intro D b; exact Nat.le_of_ble_eq_true rfl) (fun X C hT => ?_)
  unfold p_X9_statement
  refine r_sub [(0, .ref (x_b X + a))] rfl ?_
  refine r_aload_n (pc := 0) C dX9_statement_0 rfl rfl ?_
  refine r_cVJ (pc := 1) C [] [] (z_KX.zero hT) (s_X9_wordHere a) mt_X9_wordHere zc_9 dX9_statement_1 ml_X9_147 im_X9_wordHere se_X9_wordHere rfl rfl rfl (Nat.le_of_ble_eq_true rfl) ⟨Nat.le_of_ble_eq_true rfl, Nat.le_of_ble_eq_true rfl⟩ (fun r1 => ?_)
  refine r_stl_n (pc := 4) C 1 [(0, .ref (x_b X + a)), (1, .long r1)] dX9_statement_4 rfl (by decide) rfl ?_
  refine r_lload_n (pc := 5) C dX9_statement_5 rfl rfl ?_
  refine r_ldc2 (pc := 6) C dX9_statement_6 kc_X9_151 ?_
  refine r_lcmp (pc := 9) C dX9_statement_9 ?_
  refine r_if_ne (pc := 10) C (tgt := 20) dX9_statement_10 rfl (fun _ => ?_) (fun _ => ?_)
  · refine r_aload_n (pc := 13) C dX9_statement_13 rfl rfl ?_
    refine r_cVV (pc := 14) C [] [] (z_KX.zero hT) (s_X9_station a) mt_X9_station zc_9 dX9_statement_14 ml_X9_153 im_X9_station se_X9_station rfl rfl rfl (Nat.le_of_ble_eq_true rfl) ⟨Nat.le_of_ble_eq_true rfl, Nat.le_of_ble_eq_true rfl⟩ ?_
    refine r_goto (pc := 17) C (tgt := 207) dX9_statement_17 rfl ?_
    exact r_vret (pc := 207) C dX9_statement_207
  · refine r_lload_n (pc := 20) C dX9_statement_20 rfl rfl ?_
    refine r_ldc2 (pc := 21) C dX9_statement_21 kc_X9_156 ?_
    refine r_lcmp (pc := 24) C dX9_statement_24 ?_
    refine r_if_ne (pc := 25) C (tgt := 35) dX9_statement_25 rfl (fun _ => ?_) (fun _ => ?_)
    · refine r_aload_n (pc := 28) C dX9_statement_28 rfl rfl ?_
      refine r_cVV (pc := 29) C [] [] (z_KX.zero hT) (s_X9_truckLine a) mt_X9_truckLine zc_9 dX9_statement_29 ml_X9_158 im_X9_truckLine se_X9_truckLine rfl rfl rfl (Nat.le_of_ble_eq_true rfl) ⟨Nat.le_of_ble_eq_true rfl, Nat.le_of_ble_eq_true rfl⟩ ?_
      refine r_goto (pc := 32) C (tgt := 207) dX9_statement_32 rfl ?_
      exact r_vret (pc := 207) C dX9_statement_207
    · refine r_lload_n (pc := 35) C dX9_statement_35 rfl rfl ?_
      refine r_ldc2 (pc := 36) C dX9_statement_36 kc_X9_161 ?_
      refine r_lcmp (pc := 39) C dX9_statement_39 ?_
      refine r_if_ne (pc := 40) C (tgt := 50) dX9_statement_40 rfl (fun _ => ?_) (fun _ => ?_)
      · refine r_aload_n (pc := 43) C dX9_statement_43 rfl rfl ?_
        refine r_cVV (pc := 44) C [] [] (z_KX.zero hT) (s_X9_tripLine a) mt_X9_tripLine zc_9 dX9_statement_44 ml_X9_163 im_X9_tripLine se_X9_tripLine rfl rfl rfl (Nat.le_of_ble_eq_true rfl) ⟨Nat.le_of_ble_eq_true rfl, Nat.le_of_ble_eq_true rfl⟩ ?_
        refine r_goto (pc := 47) C (tgt := 207) dX9_statement_47 rfl ?_
        exact r_vret (pc := 207) C dX9_statement_207
      · refine r_lload_n (pc := 50) C dX9_statement_50 rfl rfl ?_
        refine r_ldc2 (pc := 51) C dX9_statement_51 kc_X9_166 ?_
        refine r_lcmp (pc := 54) C dX9_statement_54 ?_
        refine r_if_ne (pc := 55) C (tgt := 96) dX9_statement_55 rfl (fun _ => ?_) (fun _ => ?_)
        · refine r_aload_n (pc := 58) C dX9_statement_58 rfl rfl ?_
          refine r_iconst (pc := 59) C dX9_statement_59 ki_0 ?_
          refine r_cVI (pc := 60) C [.int 0] [] (z_KX.zero hT) (s_X9_once a 0) mt_X9_once zc_9 dX9_statement_60 ml_X9_168 im_X9_once se_X9_once rfl rfl rfl (Nat.le_of_ble_eq_true rfl) ⟨Nat.le_of_ble_eq_true rfl, Nat.le_of_ble_eq_true rfl⟩ (fun r13 => ?_)
          refine r_if_ne (pc := 63) C (tgt := 67) dX9_statement_63 rfl (fun _ => ?_) (fun _ => ?_)
          · exact r_vret (pc := 66) C dX9_statement_66
          · refine r_aload_n (pc := 67) C dX9_statement_67 rfl rfl ?_
            refine r_getA (pc := 68) C dX9_statement_68 fl_X9_13 rfl (fun v14 => ?_)
            refine r_iconst (pc := 71) C dX9_statement_71 ki_3 ?_
            refine r_aload_n (pc := 72) C dX9_statement_72 rfl rfl ?_
            refine r_iconst (pc := 73) C dX9_statement_73 ki_0 ?_
            refine r_bipush (pc := 74) C dX9_statement_74 kb_99 ?_
            refine r_cVI (pc := 76) C [.int 0, .int 99] [.int 3, .ref (x_b X + v14)] (z_KX.zero hT) (s_X9_read a 0 99) mt_X9_read zc_9 dX9_statement_76 ml_X9_143 im_X9_read se_X9_read rfl rfl rfl (Nat.le_of_ble_eq_true rfl) ⟨Nat.le_of_ble_eq_true rfl, Nat.le_of_ble_eq_true rfl⟩ (fun r15 => ?_)
            refine r_iast (pc := 79) C dX9_statement_79 ?_
            refine r_aload_n (pc := 80) C dX9_statement_80 rfl rfl ?_
            refine r_getA (pc := 81) C dX9_statement_81 fl_X9_13 rfl (fun v16 => ?_)
            refine r_iconst (pc := 84) C dX9_statement_84 ki_4 ?_
            refine r_aload_n (pc := 85) C dX9_statement_85 rfl rfl ?_
            refine r_iconst (pc := 86) C dX9_statement_86 ki_0 ?_
            refine r_bipush (pc := 87) C dX9_statement_87 kb_99 ?_
            refine r_cVI (pc := 89) C [.int 0, .int 99] [.int 4, .ref (x_b X + v16)] (z_KX.zero hT) (s_X9_read a 0 99) mt_X9_read zc_9 dX9_statement_89 ml_X9_143 im_X9_read se_X9_read rfl rfl rfl (Nat.le_of_ble_eq_true rfl) ⟨Nat.le_of_ble_eq_true rfl, Nat.le_of_ble_eq_true rfl⟩ (fun r17 => ?_)
            refine r_iast (pc := 92) C dX9_statement_92 ?_
            refine r_goto (pc := 93) C (tgt := 207) dX9_statement_93 rfl ?_
            exact r_vret (pc := 207) C dX9_statement_207
        · refine r_lload_n (pc := 96) C dX9_statement_96 rfl rfl ?_
          refine r_ldc2 (pc := 97) C dX9_statement_97 kc_X9_172 ?_
          refine r_lcmp (pc := 100) C dX9_statement_100 ?_
          refine r_if_ne (pc := 101) C (tgt := 128) dX9_statement_101 rfl (fun _ => ?_) (fun _ => ?_)
          · refine r_aload_n (pc := 104) C dX9_statement_104 rfl rfl ?_
            refine r_iconst (pc := 105) C dX9_statement_105 ki_1 ?_
            refine r_cVI (pc := 106) C [.int 1] [] (z_KX.zero hT) (s_X9_once a 1) mt_X9_once zc_9 dX9_statement_106 ml_X9_168 im_X9_once se_X9_once rfl rfl rfl (Nat.le_of_ble_eq_true rfl) ⟨Nat.le_of_ble_eq_true rfl, Nat.le_of_ble_eq_true rfl⟩ (fun r10 => ?_)
            refine r_if_eq (pc := 109) C (tgt := 207) dX9_statement_109 rfl (fun _ => ?_) (fun _ => ?_)
            · exact r_vret (pc := 207) C dX9_statement_207
            · refine r_aload_n (pc := 112) C dX9_statement_112 rfl rfl ?_
              refine r_getA (pc := 113) C dX9_statement_113 fl_X9_13 rfl (fun v11 => ?_)
              refine r_iconst (pc := 116) C dX9_statement_116 ki_5 ?_
              refine r_aload_n (pc := 117) C dX9_statement_117 rfl rfl ?_
              refine r_iconst (pc := 118) C dX9_statement_118 ki_0 ?_
              refine r_bipush (pc := 119) C dX9_statement_119 kb_50 ?_
              refine r_cVI (pc := 121) C [.int 0, .int 50] [.int 5, .ref (x_b X + v11)] (z_KX.zero hT) (s_X9_read a 0 50) mt_X9_read zc_9 dX9_statement_121 ml_X9_143 im_X9_read se_X9_read rfl rfl rfl (Nat.le_of_ble_eq_true rfl) ⟨Nat.le_of_ble_eq_true rfl, Nat.le_of_ble_eq_true rfl⟩ (fun r12 => ?_)
              refine r_iast (pc := 124) C dX9_statement_124 ?_
              refine r_goto (pc := 125) C (tgt := 207) dX9_statement_125 rfl ?_
              exact r_vret (pc := 207) C dX9_statement_207
          · refine r_lload_n (pc := 128) C dX9_statement_128 rfl rfl ?_
            refine r_ldc2 (pc := 129) C dX9_statement_129 kc_X9_174 ?_
            refine r_lcmp (pc := 132) C dX9_statement_132 ?_
            refine r_if_ne (pc := 133) C (tgt := 177) dX9_statement_133 rfl (fun _ => ?_) (fun _ => ?_)
            · refine r_aload_n (pc := 136) C dX9_statement_136 rfl rfl ?_
              refine r_iconst (pc := 137) C dX9_statement_137 ki_2 ?_
              refine r_cVI (pc := 138) C [.int 2] [] (z_KX.zero hT) (s_X9_once a 2) mt_X9_once zc_9 dX9_statement_138 ml_X9_168 im_X9_once se_X9_once rfl rfl rfl (Nat.le_of_ble_eq_true rfl) ⟨Nat.le_of_ble_eq_true rfl, Nat.le_of_ble_eq_true rfl⟩ (fun r5 => ?_)
              refine r_if_ne (pc := 141) C (tgt := 145) dX9_statement_141 rfl (fun _ => ?_) (fun _ => ?_)
              · exact r_vret (pc := 144) C dX9_statement_144
              · refine r_aload_n (pc := 145) C dX9_statement_145 rfl rfl ?_
                refine r_getA (pc := 146) C dX9_statement_146 fl_X9_13 rfl (fun v6 => ?_)
                refine r_bipush (pc := 149) C dX9_statement_149 kb_6 ?_
                refine r_aload_n (pc := 151) C dX9_statement_151 rfl rfl ?_
                refine r_iconst (pc := 152) C dX9_statement_152 ki_0 ?_
                refine r_bipush (pc := 153) C dX9_statement_153 kb_100 ?_
                refine r_cVI (pc := 155) C [.int 0, .int 100] [.int 6, .ref (x_b X + v6)] (z_KX.zero hT) (s_X9_read a 0 100) mt_X9_read zc_9 dX9_statement_155 ml_X9_143 im_X9_read se_X9_read rfl rfl rfl (Nat.le_of_ble_eq_true rfl) ⟨Nat.le_of_ble_eq_true rfl, Nat.le_of_ble_eq_true rfl⟩ (fun r7 => ?_)
                refine r_iast (pc := 158) C dX9_statement_158 ?_
                refine r_aload_n (pc := 159) C dX9_statement_159 rfl rfl ?_
                refine r_getA (pc := 160) C dX9_statement_160 fl_X9_13 rfl (fun v8 => ?_)
                refine r_bipush (pc := 163) C dX9_statement_163 kb_7 ?_
                refine r_aload_n (pc := 165) C dX9_statement_165 rfl rfl ?_
                refine r_iconst (pc := 166) C dX9_statement_166 ki_0 ?_
                refine r_sipush (pc := 167) C dX9_statement_167 ks_999 ?_
                refine r_cVI (pc := 170) C [.int 0, .int 999] [.int 7, .ref (x_b X + v8)] (z_KX.zero hT) (s_X9_read a 0 999) mt_X9_read zc_9 dX9_statement_170 ml_X9_143 im_X9_read se_X9_read rfl rfl rfl (Nat.le_of_ble_eq_true rfl) ⟨Nat.le_of_ble_eq_true rfl, Nat.le_of_ble_eq_true rfl⟩ (fun r9 => ?_)
                refine r_iast (pc := 173) C dX9_statement_173 ?_
                refine r_goto (pc := 174) C (tgt := 207) dX9_statement_174 rfl ?_
                exact r_vret (pc := 207) C dX9_statement_207
            · refine r_lload_n (pc := 177) C dX9_statement_177 rfl rfl ?_
              refine r_ldc2 (pc := 178) C dX9_statement_178 kc_X9_176 ?_
              refine r_lcmp (pc := 181) C dX9_statement_181 ?_
              refine r_if_ne (pc := 182) C (tgt := 200) dX9_statement_182 rfl (fun _ => ?_) (fun _ => ?_)
              · refine r_aload_n (pc := 185) C dX9_statement_185 rfl rfl ?_
                refine r_iconst (pc := 186) C dX9_statement_186 ki_3 ?_
                refine r_cVI (pc := 187) C [.int 3] [] (z_KX.zero hT) (s_X9_once a 3) mt_X9_once zc_9 dX9_statement_187 ml_X9_168 im_X9_once se_X9_once rfl rfl rfl (Nat.le_of_ble_eq_true rfl) ⟨Nat.le_of_ble_eq_true rfl, Nat.le_of_ble_eq_true rfl⟩ (fun r3 => ?_)
                refine r_if_eq (pc := 190) C (tgt := 207) dX9_statement_190 rfl (fun _ => ?_) (fun _ => ?_)
                · exact r_vret (pc := 207) C dX9_statement_207
                · refine r_aload_n (pc := 193) C dX9_statement_193 rfl rfl ?_
                  refine r_cVV (pc := 194) C [] [] (z_KX.zero hT) (s_X9_fare a) mt_X9_fare zc_9 dX9_statement_194 ml_X9_178 im_X9_fare se_X9_fare rfl rfl rfl (Nat.le_of_ble_eq_true rfl) ⟨Nat.le_of_ble_eq_true rfl, Nat.le_of_ble_eq_true rfl⟩ ?_
                  refine r_goto (pc := 197) C (tgt := 207) dX9_statement_197 rfl ?_
                  exact r_vret (pc := 207) C dX9_statement_207
              · refine r_aload_n (pc := 200) C dX9_statement_200 rfl rfl ?_
                refine r_iconst (pc := 201) C dX9_statement_201 ki_0 ?_
                refine r_iconst (pc := 202) C dX9_statement_202 ki_1 ?_
                refine r_cVI (pc := 203) C [.int 0, .int 1] [] (z_KX.zero hT) (s_X9_must a 0 1) mt_X9_must zc_9 dX9_statement_203 ml_X9_122 im_X9_must se_X9_must rfl rfl rfl (Nat.le_of_ble_eq_true rfl) ⟨Nat.le_of_ble_eq_true rfl, Nat.le_of_ble_eq_true rfl⟩ (fun r2 => ?_)
                refine r_pop (pc := 206) C dX9_statement_206 rfl ?_
                exact r_vret (pc := 207) C dX9_statement_207
noncomputable def p_X9_apply (p1 : Int32) (p2 : Int32) (p3 : Int32) : zP Int32 := (if p1 = 42 then (z_pu (p2 * p3)) else (if p1 = 43 then (z_pu (p2 + p3)) else (if p1 = 44 then (if p3 = 0 then (z_pu 0) else (z_nz p3 (z_pu (p2 / p3)))) else (if p1 = 45 then (z_pu (p2 - p3)) else (if p3 = 0 then (z_pu 0) else (z_nz p3 (z_pu (p2 / p3))))))))
set_option maxHeartbeats 4000000 in
set_option maxRecDepth 100000 in
theorem s_X9_apply (p1 : Int32) (p2 : Int32) (p3 : Int32) : z_Sound yX9_apply cX9_apply 3 (some .int) 1 20 (fun D b => [.int p1, .int p2, .int p3]) z_ivI (p_X9_apply p1 p2 p3) := by
  refine z_ofSim rfl (by intro D b; exact Nat.le_of_ble_eq_true rfl) (fun X C hT => ?_)
  unfold p_X9_apply
  refine r_sub [(0, .int p1), (1, .int p2), (2, .int p3)] rfl ?_
  refine r_iload_n (pc := 0) C dX9_apply_0 rfl rfl ?_
  refine r_ite (fun h1_0 => ?_) (fun h1_0 => ?_)
  · refine r_tin (pc := 1) C (k := 42) (off := 39) (tgt := 40) dX9_apply_1 h1_0 (by decide) rfl ?_
    refine r_iload_n (pc := 40) C dX9_apply_40 rfl rfl ?_
    refine r_iload_n (pc := 41) C dX9_apply_41 rfl rfl ?_
    refine r_imul (pc := 42) C dX9_apply_42 ?_
    exact r_iret (pc := 43) C dX9_apply_43
  · refine r_ite (fun h1_1 => ?_) (fun h1_1 => ?_)
    · refine r_tin (pc := 1) C (k := 43) (off := 31) (tgt := 32) dX9_apply_1 h1_1 (by decide) rfl ?_
      refine r_iload_n (pc := 32) C dX9_apply_32 rfl rfl ?_
      refine r_iload_n (pc := 33) C dX9_apply_33 rfl rfl ?_
      refine r_iadd (pc := 34) C dX9_apply_34 ?_
      exact r_iret (pc := 35) C dX9_apply_35
    · refine r_ite (fun h1_2 => ?_) (fun h1_2 => ?_)
      · refine r_tin (pc := 1) C (k := 44) (off := 43) (tgt := 44) dX9_apply_1 h1_2 (by decide) rfl ?_
        refine r_iload_n (pc := 44) C dX9_apply_44 rfl rfl ?_
        refine r_if_ne (pc := 45) C (tgt := 52) dX9_apply_45 rfl (fun _ => ?_) (fun _ => ?_)
        · refine r_iconst (pc := 48) C dX9_apply_48 ki_0 ?_
          refine r_goto (pc := 49) C (tgt := 55) dX9_apply_49 rfl ?_
          exact r_iret (pc := 55) C dX9_apply_55
        · refine r_iload_n (pc := 52) C dX9_apply_52 rfl rfl ?_
          refine r_iload_n (pc := 53) C dX9_apply_53 rfl rfl ?_
          refine r_nz (fun h1 => ?_)
          refine r_idiv (pc := 54) C dX9_apply_54 h1 ?_
          exact r_iret (pc := 55) C dX9_apply_55
      · refine r_ite (fun h1_3 => ?_) (fun h1_3 => ?_)
        · refine r_tin (pc := 1) C (k := 45) (off := 35) (tgt := 36) dX9_apply_1 h1_3 (by decide) rfl ?_
          refine r_iload_n (pc := 36) C dX9_apply_36 rfl rfl ?_
          refine r_iload_n (pc := 37) C dX9_apply_37 rfl rfl ?_
          refine r_isub (pc := 38) C dX9_apply_38 ?_
          exact r_iret (pc := 39) C dX9_apply_39
        · refine r_tout (pc := 1) C (tgt := 44) dX9_apply_1 (by have q0 := lv_neT h1_0 (a := 42) (by decide); have q1 := lv_neT h1_1 (a := 43) (by decide); have q2 := lv_neT h1_2 (a := 44) (by decide); have q3 := lv_neT h1_3 (a := 45) (by decide); omega) rfl ?_
          refine r_iload_n (pc := 44) C dX9_apply_44 rfl rfl ?_
          refine r_if_ne (pc := 45) C (tgt := 52) dX9_apply_45 rfl (fun _ => ?_) (fun _ => ?_)
          · refine r_iconst (pc := 48) C dX9_apply_48 ki_0 ?_
            refine r_goto (pc := 49) C (tgt := 55) dX9_apply_49 rfl ?_
            exact r_iret (pc := 55) C dX9_apply_55
          · refine r_iload_n (pc := 52) C dX9_apply_52 rfl rfl ?_
            refine r_iload_n (pc := 53) C dX9_apply_53 rfl rfl ?_
            refine r_nz (fun h2 => ?_)
            refine r_idiv (pc := 54) C dX9_apply_54 h2 ?_
            exact r_iret (pc := 55) C dX9_apply_55
noncomputable def p_X9_distance (a : Nat) (p1 : Int32) (p2 : Int32) : zP Int32 := (z_bd (z_gA 9 a 11) (fun v1 => (z_bd (z_aI 11 v1 (10 + p1)) (fun v2 => (z_bd (z_gA 9 a 11) (fun v3 => (z_bd (z_aI 11 v3 (10 + p2)) (fun v4 => (z_bd (p_X9_absolute (v2 - v4)) (fun r5 => (z_bd (z_gA 9 a 11) (fun v6 => (z_bd (z_aI 11 v6 (18 + p1)) (fun v7 => (z_bd (z_gA 9 a 11) (fun v8 => (z_bd (z_aI 11 v8 (18 + p2)) (fun v9 => (z_bd (p_X9_absolute (v7 - v9)) (fun r10 => (z_pu (r5 + r10))))))))))))))))))))))
set_option maxHeartbeats 4000000 in
set_option maxRecDepth 100000 in
theorem s_X9_distance (a : Nat) (p1 : Int32) (p2 : Int32) : z_Sound yX9_distance cX9_distance 3 (some .int) 2 40 (fun D b => [.ref (b + a), .int p1, .int p2]) z_ivI (p_X9_distance a p1 p2) := by
  refine z_ofSim rfl (by intro D b; exact Nat.le_of_ble_eq_true rfl) (fun X C hT => ?_)
  unfold p_X9_distance
  refine r_sub [(0, .ref (x_b X + a)), (1, .int p1), (2, .int p2)] rfl ?_
  refine r_aload_n (pc := 0) C dX9_distance_0 rfl rfl ?_
  refine r_getA (pc := 1) C dX9_distance_1 fl_X9_17 rfl (fun v1 => ?_)
  refine r_bipush (pc := 4) C dX9_distance_4 kb_10 ?_
  refine r_iload_n (pc := 6) C dX9_distance_6 rfl rfl ?_
  refine r_iadd (pc := 7) C dX9_distance_7 ?_
  refine r_iald (pc := 8) C dX9_distance_8 (fun v2 => ?_)
  refine r_aload_n (pc := 9) C dX9_distance_9 rfl rfl ?_
  refine r_getA (pc := 10) C dX9_distance_10 fl_X9_17 rfl (fun v3 => ?_)
  refine r_bipush (pc := 13) C dX9_distance_13 kb_10 ?_
  refine r_iload_n (pc := 15) C dX9_distance_15 rfl rfl ?_
  refine r_iadd (pc := 16) C dX9_distance_16 ?_
  refine r_iald (pc := 17) C dX9_distance_17 (fun v4 => ?_)
  refine r_isub (pc := 18) C dX9_distance_18 ?_
  refine r_cSI (pc := 19) C [.int (v2 - v4)] [] (z_KX.zero hT) (s_X9_absolute (v2 - v4)) mt_X9_absolute dX9_distance_19 ml_X9_231 sm_X9_absolute rfl rfl rfl (Nat.le_of_ble_eq_true rfl) ⟨Nat.le_of_ble_eq_true rfl, Nat.le_of_ble_eq_true rfl⟩ (fun r5 => ?_)
  refine r_aload_n (pc := 22) C dX9_distance_22 rfl rfl ?_
  refine r_getA (pc := 23) C dX9_distance_23 fl_X9_17 rfl (fun v6 => ?_)
  refine r_bipush (pc := 26) C dX9_distance_26 kb_18 ?_
  refine r_iload_n (pc := 28) C dX9_distance_28 rfl rfl ?_
  refine r_iadd (pc := 29) C dX9_distance_29 ?_
  refine r_iald (pc := 30) C dX9_distance_30 (fun v7 => ?_)
  refine r_aload_n (pc := 31) C dX9_distance_31 rfl rfl ?_
  refine r_getA (pc := 32) C dX9_distance_32 fl_X9_17 rfl (fun v8 => ?_)
  refine r_bipush (pc := 35) C dX9_distance_35 kb_18 ?_
  refine r_iload_n (pc := 37) C dX9_distance_37 rfl rfl ?_
  refine r_iadd (pc := 38) C dX9_distance_38 ?_
  refine r_iald (pc := 39) C dX9_distance_39 (fun v9 => ?_)
  refine r_isub (pc := 40) C dX9_distance_40 ?_
  refine r_cSI (pc := 41) C [.int (v7 - v9)] [.int r5] (z_KX.zero hT) (s_X9_absolute (v7 - v9)) mt_X9_absolute dX9_distance_41 ml_X9_231 sm_X9_absolute rfl rfl rfl (Nat.le_of_ble_eq_true rfl) ⟨Nat.le_of_ble_eq_true rfl, Nat.le_of_ble_eq_true rfl⟩ (fun r10 => ?_)
  refine r_iadd (pc := 44) C dX9_distance_44 ?_
  exact r_iret (pc := 45) C dX9_distance_45
noncomputable def p_X9_ride (a : Nat) (p1 : Int32) (p2 : Int32) : zP Int32 := (z_bd (z_cv 9 a (p_X9_distance a p1 p2)) (fun r1 => (z_bd (z_gA 9 a 11) (fun v2 => (z_bd (z_aI 11 v2 3) (fun v3 => (z_pu (1 + ((r1 * v3) / 10)))))))))
set_option maxHeartbeats 4000000 in
set_option maxRecDepth 100000 in
theorem s_X9_ride (a : Nat) (p1 : Int32) (p2 : Int32) : z_Sound yX9_ride cX9_ride 3 (some .int) 3 62 (fun D b => [.ref (b + a), .int p1, .int p2]) z_ivI (p_X9_ride a p1 p2) := by
  refine z_ofSim rfl (by intro D b; exact Nat.le_of_ble_eq_true rfl) (fun X C hT => ?_)
  unfold p_X9_ride
  refine r_sub [(0, .ref (x_b X + a)), (1, .int p1), (2, .int p2)] rfl ?_
  refine r_iconst (pc := 0) C dX9_ride_0 ki_1 ?_
  refine r_aload_n (pc := 1) C dX9_ride_1 rfl rfl ?_
  refine r_iload_n (pc := 2) C dX9_ride_2 rfl rfl ?_
  refine r_iload_n (pc := 3) C dX9_ride_3 rfl rfl ?_
  refine r_cVI (pc := 4) C [.int p1, .int p2] [.int 1] (z_KX.zero hT) (s_X9_distance a p1 p2) mt_X9_distance zc_9 dX9_ride_4 ml_X9_234 im_X9_distance se_X9_distance rfl rfl rfl (Nat.le_of_ble_eq_true rfl) ⟨Nat.le_of_ble_eq_true rfl, Nat.le_of_ble_eq_true rfl⟩ (fun r1 => ?_)
  refine r_aload_n (pc := 7) C dX9_ride_7 rfl rfl ?_
  refine r_getA (pc := 8) C dX9_ride_8 fl_X9_17 rfl (fun v2 => ?_)
  refine r_iconst (pc := 11) C dX9_ride_11 ki_3 ?_
  refine r_iald (pc := 12) C dX9_ride_12 (fun v3 => ?_)
  refine r_imul (pc := 13) C dX9_ride_13 ?_
  refine r_bipush (pc := 14) C dX9_ride_14 kb_10 ?_
  refine r_idiv (pc := 16) C dX9_ride_16 (by decide) ?_
  refine r_iadd (pc := 17) C dX9_ride_17 ?_
  exact r_iret (pc := 18) C dX9_ride_18
noncomputable def p_X9_working (a : Nat) (p1 : Int32) : zP Int32 := (z_bd (z_gA 9 a 11) (fun v1 => (z_bd (z_aI 11 v1 (26 + p1)) (fun v2 => (z_bd (z_gA 9 a 19) (fun v3 => (z_bd (z_aI 11 v3 (14 + p1)) (fun v4 => (z_pu (v2 - v4))))))))))
set_option maxHeartbeats 4000000 in
set_option maxRecDepth 100000 in
theorem s_X9_working (a : Nat) (p1 : Int32) : z_Sound yX9_working cX9_working 2 (some .int) 1 20 (fun D b => [.ref (b + a), .int p1]) z_ivI (p_X9_working a p1) := by
  refine z_ofSim rfl (by intro D b; exact Nat.le_of_ble_eq_true rfl) (fun X C hT => ?_)
  unfold p_X9_working
  refine r_sub [(0, .ref (x_b X + a)), (1, .int p1)] rfl ?_
  refine r_aload_n (pc := 0) C dX9_working_0 rfl rfl ?_
  refine r_getA (pc := 1) C dX9_working_1 fl_X9_17 rfl (fun v1 => ?_)
  refine r_bipush (pc := 4) C dX9_working_4 kb_26 ?_
  refine r_iload_n (pc := 6) C dX9_working_6 rfl rfl ?_
  refine r_iadd (pc := 7) C dX9_working_7 ?_
  refine r_iald (pc := 8) C dX9_working_8 (fun v2 => ?_)
  refine r_aload_n (pc := 9) C dX9_working_9 rfl rfl ?_
  refine r_getA (pc := 10) C dX9_working_10 fl_X9_32 rfl (fun v3 => ?_)
  refine r_bipush (pc := 13) C dX9_working_13 kb_14 ?_
  refine r_iload_n (pc := 15) C dX9_working_15 rfl rfl ?_
  refine r_iadd (pc := 16) C dX9_working_16 ?_
  refine r_iald (pc := 17) C dX9_working_17 (fun v4 => ?_)
  refine r_isub (pc := 18) C dX9_working_18 ?_
  exact r_iret (pc := 19) C dX9_working_19
noncomputable def p_X9_free (a : Nat) (p1 : Int32) : zP Int32 := (z_bd (z_cv 9 a (p_X9_working a p1)) (fun r1 => (z_bd (z_gA 9 a 19) (fun v2 => (z_bd (z_aI 11 v2 (6 + p1)) (fun v3 => (z_pu (r1 - v3))))))))
set_option maxHeartbeats 4000000 in
set_option maxRecDepth 100000 in
theorem s_X9_free (a : Nat) (p1 : Int32) : z_Sound yX9_free cX9_free 2 (some .int) 2 41 (fun D b => [.ref (b + a), .int p1]) z_ivI (p_X9_free a p1) := by
  refine z_ofSim rfl (by intro D b; exact Nat.le_of_ble_eq_true rfl) (fun X C hT => ?_)
  unfold p_X9_free
  refine r_sub [(0, .ref (x_b X + a)), (1, .int p1)] rfl ?_
  refine r_aload_n (pc := 0) C dX9_free_0 rfl rfl ?_
  refine r_iload_n (pc := 1) C dX9_free_1 rfl rfl ?_
  refine r_cVI (pc := 2) C [.int p1] [] (z_KX.zero hT) (s_X9_working a p1) mt_X9_working zc_9 dX9_free_2 ml_X9_228 im_X9_working se_X9_working rfl rfl rfl (Nat.le_of_ble_eq_true rfl) ⟨Nat.le_of_ble_eq_true rfl, Nat.le_of_ble_eq_true rfl⟩ (fun r1 => ?_)
  refine r_aload_n (pc := 5) C dX9_free_5 rfl rfl ?_
  refine r_getA (pc := 6) C dX9_free_6 fl_X9_32 rfl (fun v2 => ?_)
  refine r_bipush (pc := 9) C dX9_free_9 kb_6 ?_
  refine r_iload_n (pc := 11) C dX9_free_11 rfl rfl ?_
  refine r_iadd (pc := 12) C dX9_free_12 ?_
  refine r_iald (pc := 13) C dX9_free_13 (fun v3 => ?_)
  refine r_isub (pc := 14) C dX9_free_14 ?_
  exact r_iret (pc := 15) C dX9_free_15
noncomputable def p_X9_fareOf (a : Nat) (p1 : Int32) (p2 : Int32) : zP Int32 := (z_jn (τ := Unit) (z_lp (fun (t2 : Int32 × Int32) => (z_bd (z_gA 9 a 11) (fun v3 => (z_bd (z_aI 11 v3 8) (fun v4 => (if v4 ≤ t2.2 then (z_pu (.inr (.inl ()))) else (z_bd (z_gA 9 a 13) (fun v5 => (z_bd (z_aI 11 v5 t2.2) (fun v6 => (if v6 < (-4) then (z_bd (z_gA 9 a 18) (fun v7 => (z_bd (z_gA 9 a 18) (fun v8 => (z_bd (z_aI 11 v8 ((t2.1 + (-1)) - 1)) (fun v9 => (z_bd (z_gA 9 a 18) (fun v10 => (z_bd (z_aI 11 v10 (t2.1 + (-1))) (fun v11 => (z_bd (p_X9_apply (-v6) v9 v11) (fun r12 => (z_bd (z_sI 11 v7 ((t2.1 + (-1)) - 1) r12) (fun _ => (z_bd (z_pu (t2.1 + (-1))) (fun x13 => (z_pu (.inl (x13, (t2.2 + 1)))))))))))))))))))) else (z_bd (z_gA 9 a 18) (fun v14 => (z_jn (τ := Int32) (if v6 < 0 then (if v6 = (-1) then (z_bd (z_cv 9 a (p_X9_ride a p1 p2)) (fun r22 => (z_pu (.inl r22)))) else (if v6 = (-2) then (z_bd (z_gA 9 a 19) (fun v20 => (z_bd (z_aI 11 v20 (6 + p1)) (fun v21 => (z_pu (.inl v21)))))) else (if v6 = (-3) then (z_bd (z_cv 9 a (p_X9_free a p2)) (fun r19 => (z_pu (.inl r19)))) else (z_bd (z_gA 9 a 19) (fun v16 => (z_bd (z_aI 11 v16 0) (fun v17 => (z_bd (z_pu ((v17 / 60))) (fun x18 => (z_pu (.inl ((x18 - x18 / 24 * 24))))))))))))) else (z_pu (.inl v6))) (fun t15 => (z_bd (z_sI 11 v14 t2.1 t15) (fun _ => (z_pu (.inl ((t2.1 + 1), (t2.2 + 1))))))))))))))))))))) (0, 0)) (fun t1 => (z_bd (z_gA 9 a 18) (fun v23 => (z_bd (z_aI 11 v23 0) (fun v24 => (if 0 ≤ v24 then (z_bd (z_gA 9 a 18) (fun v25 => (z_bd (z_aI 11 v25 0) (fun v26 => (if v26 ≤ 9999 then (z_bd (z_gA 9 a 18) (fun v27 => (z_bd (z_aI 11 v27 0) (fun v28 => (z_pu v28))))) else (z_pu 9999)))))) else (z_pu 0))))))))
set_option maxHeartbeats 4000000 in
set_option maxRecDepth 100000 in
theorem s_X9_fareOf (a : Nat) (p1 : Int32) (p2 : Int32) : z_Sound yX9_fareOf cX9_fareOf 6 (some .int) 4 84 (fun D b => [.ref (b + a), .int p1, .int p2]) z_ivI (p_X9_fareOf a p1 p2) := by
  refine z_ofSim rfl (by intro D b; exact Nat.le_of_ble_eq_true rfl) (fun X C hT => ?_)
  unfold p_X9_fareOf
  refine r_sub [(0, .ref (x_b X + a)), (1, .int p1), (2, .int p2)] rfl ?_
  refine r_iconst (pc := 0) C dX9_fareOf_0 ki_0 ?_
  refine r_sti_n (pc := 1) C 3 [(0, .ref (x_b X + a)), (1, .int p1), (2, .int p2), (3, .int 0)] dX9_fareOf_1 rfl (by decide) rfl ?_
  refine r_iconst (pc := 2) C dX9_fareOf_2 ki_0 ?_
  refine r_sti (pc := 3) C [(0, .ref (x_b X + a)), (1, .int p1), (2, .int p2), (3, .int 0), (4, .int 0)] dX9_fareOf_3 (by decide) rfl ?_
  refine r_jn 153 (fun (t1 : Unit) => [(0, .ref (x_b X + a))]) (fun (t1 : Unit) => []) (fun t1 => ?_) ?_
  · refine r_aload_n (pc := 153) C dX9_fareOf_153 rfl rfl ?_
    refine r_getA (pc := 154) C dX9_fareOf_154 fl_X9_29 rfl (fun v23 => ?_)
    refine r_iconst (pc := 157) C dX9_fareOf_157 ki_0 ?_
    refine r_iald (pc := 158) C dX9_fareOf_158 (fun v24 => ?_)
    refine r_if_ge (pc := 159) C (tgt := 166) dX9_fareOf_159 rfl (fun _ => ?_) (fun _ => ?_)
    · refine r_aload_n (pc := 166) C dX9_fareOf_166 rfl rfl ?_
      refine r_getA (pc := 167) C dX9_fareOf_167 fl_X9_29 rfl (fun v25 => ?_)
      refine r_iconst (pc := 170) C dX9_fareOf_170 ki_0 ?_
      refine r_iald (pc := 171) C dX9_fareOf_171 (fun v26 => ?_)
      refine r_sipush (pc := 172) C dX9_fareOf_172 ks_9999 ?_
      refine r_icmp_le (pc := 175) C (tgt := 184) dX9_fareOf_175 rfl (fun _ => ?_) (fun _ => ?_)
      · refine r_aload_n (pc := 184) C dX9_fareOf_184 rfl rfl ?_
        refine r_getA (pc := 185) C dX9_fareOf_185 fl_X9_29 rfl (fun v27 => ?_)
        refine r_iconst (pc := 188) C dX9_fareOf_188 ki_0 ?_
        refine r_iald (pc := 189) C dX9_fareOf_189 (fun v28 => ?_)
        exact r_iret (pc := 190) C dX9_fareOf_190
      · refine r_sipush (pc := 178) C dX9_fareOf_178 ks_9999 ?_
        refine r_goto (pc := 181) C (tgt := 190) dX9_fareOf_181 rfl ?_
        exact r_iret (pc := 190) C dX9_fareOf_190
    · refine r_iconst (pc := 162) C dX9_fareOf_162 ki_0 ?_
      refine r_goto (pc := 163) C (tgt := 190) dX9_fareOf_163 rfl ?_
      exact r_iret (pc := 190) C dX9_fareOf_190
  · refine r_sub [(0, .ref (x_b X + a)), (1, .int p1), (2, .int p2), (3, .int 0), (4, .int 0)] rfl ?_
    refine r_lp (pc := 5) (fun (t2 : Int32 × Int32) => [(0, .ref (x_b X + a)), (1, .int p1), (2, .int p2), (3, .int t2.1), (4, .int t2.2)]) (fun t2 => ?_) (0, 0)
    refine r_iload (pc := 5) C dX9_fareOf_5 rfl ?_
    refine r_aload_n (pc := 7) C dX9_fareOf_7 rfl rfl ?_
    refine r_getA (pc := 8) C dX9_fareOf_8 fl_X9_17 rfl (fun v3 => ?_)
    refine r_bipush (pc := 11) C dX9_fareOf_11 kb_8 ?_
    refine r_iald (pc := 13) C dX9_fareOf_13 (fun v4 => ?_)
    refine r_icmp_ge (pc := 14) C (tgt := 153) dX9_fareOf_14 rfl (fun _ => ?_) (fun _ => ?_)
    · refine r_sub [(0, .ref (x_b X + a))] rfl ?_
      exact r_up (r_br (τ := Unit) ())
    · refine r_aload_n (pc := 17) C dX9_fareOf_17 rfl rfl ?_
      refine r_getA (pc := 18) C dX9_fareOf_18 fl_X9_23 rfl (fun v5 => ?_)
      refine r_iload (pc := 21) C dX9_fareOf_21 rfl ?_
      refine r_iald (pc := 23) C dX9_fareOf_23 (fun v6 => ?_)
      refine r_sti (pc := 24) C [(0, .ref (x_b X + a)), (1, .int p1), (2, .int p2), (3, .int t2.1), (4, .int t2.2), (5, .int v6)] dX9_fareOf_24 (by decide) rfl ?_
      refine r_iload (pc := 26) C dX9_fareOf_26 rfl ?_
      refine r_bipush (pc := 28) C dX9_fareOf_28 kb_m4 ?_
      refine r_icmp_lt (pc := 30) C (tgt := 116) dX9_fareOf_30 rfl (fun _ => ?_) (fun _ => ?_)
      · refine r_inc (pc := 116) C (-1) [(0, .ref (x_b X + a)), (1, .int p1), (2, .int p2), (3, .int (t2.1 + (-1))), (4, .int t2.2), (5, .int v6)] dX9_fareOf_116 rfl ki_m1 (by decide) rfl ?_
        refine r_aload_n (pc := 119) C dX9_fareOf_119 rfl rfl ?_
        refine r_getA (pc := 120) C dX9_fareOf_120 fl_X9_29 rfl (fun v7 => ?_)
        refine r_iload_n (pc := 123) C dX9_fareOf_123 rfl rfl ?_
        refine r_iconst (pc := 124) C dX9_fareOf_124 ki_1 ?_
        refine r_isub (pc := 125) C dX9_fareOf_125 ?_
        refine r_iload (pc := 126) C dX9_fareOf_126 rfl ?_
        refine r_ineg (pc := 128) C dX9_fareOf_128 ?_
        refine r_aload_n (pc := 129) C dX9_fareOf_129 rfl rfl ?_
        refine r_getA (pc := 130) C dX9_fareOf_130 fl_X9_29 rfl (fun v8 => ?_)
        refine r_iload_n (pc := 133) C dX9_fareOf_133 rfl rfl ?_
        refine r_iconst (pc := 134) C dX9_fareOf_134 ki_1 ?_
        refine r_isub (pc := 135) C dX9_fareOf_135 ?_
        refine r_iald (pc := 136) C dX9_fareOf_136 (fun v9 => ?_)
        refine r_aload_n (pc := 137) C dX9_fareOf_137 rfl rfl ?_
        refine r_getA (pc := 138) C dX9_fareOf_138 fl_X9_29 rfl (fun v10 => ?_)
        refine r_iload_n (pc := 141) C dX9_fareOf_141 rfl rfl ?_
        refine r_iald (pc := 142) C dX9_fareOf_142 (fun v11 => ?_)
        refine r_cSI (pc := 143) C [.int (-v6), .int v9, .int v11] [.int ((t2.1 + (-1)) - 1), .ref (x_b X + v7)] (z_KX.up (z_KX.up (z_KX.zero hT))) (s_X9_apply (-v6) v9 v11) mt_X9_apply dX9_fareOf_143 ml_X9_218 sm_X9_apply rfl rfl rfl (Nat.le_of_ble_eq_true rfl) ⟨Nat.le_of_ble_eq_true rfl, Nat.le_of_ble_eq_true rfl⟩ (fun r12 => ?_)
        refine r_iast (pc := 146) C dX9_fareOf_146 ?_
        refine r_inc (pc := 147) C 1 [(0, .ref (x_b X + a)), (1, .int p1), (2, .int p2), (3, .int (t2.1 + (-1))), (4, .int (t2.2 + 1))] dX9_fareOf_147 rfl ki_1 (by decide) rfl ?_
        refine r_goto (pc := 150) C (tgt := 5) dX9_fareOf_150 rfl ?_
        refine r_sub [(0, .ref (x_b X + a)), (1, .int p1), (2, .int p2), (3, .int (t2.1 + (-1))), (4, .int (t2.2 + 1))] rfl ?_
        refine r_let (t2.1 + (-1)) (fun x13 => [(0, .ref (x_b X + a)), (1, .int p1), (2, .int p2), (3, .int x13), (4, .int (t2.2 + 1))]) (fun x13 => []) (fun x13 => ?_)
        exact r_br (τ := Int32 × Int32) (x13, (t2.2 + 1))
      · refine r_aload_n (pc := 33) C dX9_fareOf_33 rfl rfl ?_
        refine r_getA (pc := 34) C dX9_fareOf_34 fl_X9_29 rfl (fun v14 => ?_)
        refine r_iload_n (pc := 37) C dX9_fareOf_37 rfl rfl ?_
        refine r_iload (pc := 38) C dX9_fareOf_38 rfl ?_
        refine r_jn 109 (fun (t15 : Int32) => [(0, .ref (x_b X + a)), (1, .int p1), (2, .int p2), (3, .int t2.1), (4, .int t2.2)]) (fun (t15 : Int32) => [.int t15, .int t2.1, .ref (x_b X + v14)]) (fun t15 => ?_) ?_
        · refine r_iast (pc := 109) C dX9_fareOf_109 ?_
          refine r_inc (pc := 110) C 1 [(0, .ref (x_b X + a)), (1, .int p1), (2, .int p2), (3, .int (t2.1 + 1)), (4, .int t2.2)] dX9_fareOf_110 rfl ki_1 (by decide) rfl ?_
          refine r_goto (pc := 113) C (tgt := 147) dX9_fareOf_113 rfl ?_
          refine r_inc (pc := 147) C 1 [(0, .ref (x_b X + a)), (1, .int p1), (2, .int p2), (3, .int (t2.1 + 1)), (4, .int (t2.2 + 1))] dX9_fareOf_147 rfl ki_1 (by decide) rfl ?_
          refine r_goto (pc := 150) C (tgt := 5) dX9_fareOf_150 rfl ?_
          refine r_sub [(0, .ref (x_b X + a)), (1, .int p1), (2, .int p2), (3, .int (t2.1 + 1)), (4, .int (t2.2 + 1))] rfl ?_
          exact r_br (τ := Int32 × Int32) ((t2.1 + 1), (t2.2 + 1))
        · refine r_if_lt (pc := 40) C (tgt := 48) dX9_fareOf_40 rfl (fun _ => ?_) (fun _ => ?_)
          · refine r_iload (pc := 48) C dX9_fareOf_48 rfl ?_
            refine r_iconst (pc := 50) C dX9_fareOf_50 ki_m1 ?_
            refine r_icmp_ne (pc := 51) C (tgt := 63) dX9_fareOf_51 rfl (fun _ => ?_) (fun _ => ?_)
            · refine r_aload_n (pc := 54) C dX9_fareOf_54 rfl rfl ?_
              refine r_iload_n (pc := 55) C dX9_fareOf_55 rfl rfl ?_
              refine r_iload_n (pc := 56) C dX9_fareOf_56 rfl rfl ?_
              refine r_cVI (pc := 57) C [.int p1, .int p2] [.int t2.1, .ref (x_b X + v14)] (z_KX.up (z_KX.up (z_KX.up (z_KX.zero hT)))) (s_X9_ride a p1 p2) mt_X9_ride zc_9 dX9_fareOf_57 ml_X9_212 im_X9_ride se_X9_ride rfl rfl rfl (Nat.le_of_ble_eq_true rfl) ⟨Nat.le_of_ble_eq_true rfl, Nat.le_of_ble_eq_true rfl⟩ (fun r22 => ?_)
              refine r_goto (pc := 60) C (tgt := 109) dX9_fareOf_60 rfl ?_
              refine r_sub [(0, .ref (x_b X + a)), (1, .int p1), (2, .int p2), (3, .int t2.1), (4, .int t2.2)] rfl ?_
              exact r_br (τ := Int32) r22
            · refine r_iload (pc := 63) C dX9_fareOf_63 rfl ?_
              refine r_bipush (pc := 65) C dX9_fareOf_65 kb_m2 ?_
              refine r_icmp_ne (pc := 67) C (tgt := 82) dX9_fareOf_67 rfl (fun _ => ?_) (fun _ => ?_)
              · refine r_aload_n (pc := 70) C dX9_fareOf_70 rfl rfl ?_
                refine r_getA (pc := 71) C dX9_fareOf_71 fl_X9_32 rfl (fun v20 => ?_)
                refine r_bipush (pc := 74) C dX9_fareOf_74 kb_6 ?_
                refine r_iload_n (pc := 76) C dX9_fareOf_76 rfl rfl ?_
                refine r_iadd (pc := 77) C dX9_fareOf_77 ?_
                refine r_iald (pc := 78) C dX9_fareOf_78 (fun v21 => ?_)
                refine r_goto (pc := 79) C (tgt := 109) dX9_fareOf_79 rfl ?_
                refine r_sub [(0, .ref (x_b X + a)), (1, .int p1), (2, .int p2), (3, .int t2.1), (4, .int t2.2)] rfl ?_
                exact r_br (τ := Int32) v21
              · refine r_iload (pc := 82) C dX9_fareOf_82 rfl ?_
                refine r_bipush (pc := 84) C dX9_fareOf_84 kb_m3 ?_
                refine r_icmp_ne (pc := 86) C (tgt := 97) dX9_fareOf_86 rfl (fun _ => ?_) (fun _ => ?_)
                · refine r_aload_n (pc := 89) C dX9_fareOf_89 rfl rfl ?_
                  refine r_iload_n (pc := 90) C dX9_fareOf_90 rfl rfl ?_
                  refine r_cVI (pc := 91) C [.int p2] [.int t2.1, .ref (x_b X + v14)] (z_KX.up (z_KX.up (z_KX.up (z_KX.zero hT)))) (s_X9_free a p2) mt_X9_free zc_9 dX9_fareOf_91 ml_X9_215 im_X9_free se_X9_free rfl rfl rfl (Nat.le_of_ble_eq_true rfl) ⟨Nat.le_of_ble_eq_true rfl, Nat.le_of_ble_eq_true rfl⟩ (fun r19 => ?_)
                  refine r_goto (pc := 94) C (tgt := 109) dX9_fareOf_94 rfl ?_
                  refine r_sub [(0, .ref (x_b X + a)), (1, .int p1), (2, .int p2), (3, .int t2.1), (4, .int t2.2)] rfl ?_
                  exact r_br (τ := Int32) r19
                · refine r_aload_n (pc := 97) C dX9_fareOf_97 rfl rfl ?_
                  refine r_getA (pc := 98) C dX9_fareOf_98 fl_X9_32 rfl (fun v16 => ?_)
                  refine r_iconst (pc := 101) C dX9_fareOf_101 ki_0 ?_
                  refine r_iald (pc := 102) C dX9_fareOf_102 (fun v17 => ?_)
                  refine r_bipush (pc := 103) C dX9_fareOf_103 kb_60 ?_
                  refine r_idiv (pc := 105) C dX9_fareOf_105 (by decide) ?_
                  refine r_bipush (pc := 106) C dX9_fareOf_106 kb_24 ?_
                  refine r_sub [(0, .ref (x_b X + a)), (1, .int p1), (2, .int p2), (3, .int t2.1), (4, .int t2.2)] rfl ?_
                  refine r_let ((v17 / 60)) (fun x18 => [(0, .ref (x_b X + a)), (1, .int p1), (2, .int p2), (3, .int t2.1), (4, .int t2.2)]) (fun x18 => [.int 24, .int x18, .int t2.1, .ref (x_b X + v14)]) (fun x18 => ?_)
                  refine r_irem (pc := 108) C dX9_fareOf_108 (by decide) ?_
                  refine r_sub [(0, .ref (x_b X + a)), (1, .int p1), (2, .int p2), (3, .int t2.1), (4, .int t2.2)] rfl ?_
                  exact r_br (τ := Int32) ((x18 - x18 / 24 * 24))
          · refine r_iload (pc := 43) C dX9_fareOf_43 rfl ?_
            refine r_goto (pc := 45) C (tgt := 109) dX9_fareOf_45 rfl ?_
            refine r_sub [(0, .ref (x_b X + a)), (1, .int p1), (2, .int p2), (3, .int t2.1), (4, .int t2.2)] rfl ?_
            exact r_br (τ := Int32) v6
noncomputable def p_X9_parse (a : Nat) (p1 : Int32) : zP Int32 := (z_bd (z_pI 9 a 0 0) (fun _ => (z_bd (z_gI 9 a 2) (fun v1 => (z_bd (p_X9_within p1 0 v1) (fun r2 => (if r2 = 0 then (z_bd (z_cv 9 a (p_X9_fail a 1)) (fun r20 => (z_pu r20))) else (z_bd (z_pI 9 a 3 p1) (fun _ => (z_bd (z_pI 9 a 2 0) (fun _ => (z_bd (z_pI 9 a 5 0) (fun _ => (z_bd (z_pI 9 a 8 0) (fun _ => (z_bd (z_cv 9 a (p_X9_setDefaults a)) (fun _ => (z_bd (z_cv 9 a (p_X9_nextToken a)) (fun _ => (z_jn (τ := Unit) (z_lp (fun (t6 : Unit) => (z_bd (z_gI 9 a 8) (fun v7 => (if v7 = 0 then (z_bd (z_gI 9 a 6) (fun v8 => (if v8 = 0 then (z_pu (.inr (.inl ()))) else (z_bd (z_cv 9 a (p_X9_statement a)) (fun _ => (z_bd (z_gI 9 a 6) (fun v10 => (z_jn (τ := Int32) (if v10 = 59 then (z_pu (.inl 1)) else (z_pu (.inl 0))) (fun t11 => (z_bd (z_cv 9 a (p_X9_must a t11 1)) (fun r12 => (if r12 = 0 then (z_pu (.inl ())) else (z_bd (z_cv 9 a (p_X9_nextToken a)) (fun _ => (z_pu (.inl ())))))))))))))))) else (z_pu (.inr (.inl ()))))))) ()) (fun t5 => (z_bd (z_gI 9 a 8) (fun v14 => (if v14 = 0 then (z_bd (z_cv 9 a (p_X9_takeDraft a)) (fun _ => (z_bd (z_gA 9 a 11) (fun v16 => (z_bd (z_aI 11 v16 0) (fun v17 => (z_pu v17))))))) else (z_bd (z_gI 9 a 9) (fun v18 => (z_bd (z_gI 9 a 8) (fun v19 => (z_pu ((-2) - ((8 * v18) + v19)))))))))))))))))))))))))))))))
set_option maxHeartbeats 4000000 in
set_option maxRecDepth 100000 in
theorem s_X9_parse (a : Nat) (p1 : Int32) : z_Sound yX9_parse cX9_parse 2 (some .int) 6 129 (fun D b => [.ref (b + a), .int p1]) z_ivI (p_X9_parse a p1) := by
  refine z_ofSim rfl (by intro D b; exact Nat.le_of_ble_eq_true rfl) (fun X C hT => ?_)
  unfold p_X9_parse
  refine r_sub [(0, .ref (x_b X + a)), (1, .int p1)] rfl ?_
  refine r_aload_n (pc := 0) C dX9_parse_0 rfl rfl ?_
  refine r_iconst (pc := 1) C dX9_parse_1 ki_0 ?_
  refine r_putI (pc := 2) C dX9_parse_2 fl_X9_76 rfl rfl ?_
  refine r_iload_n (pc := 5) C dX9_parse_5 rfl rfl ?_
  refine r_iconst (pc := 6) C dX9_parse_6 ki_0 ?_
  refine r_aload_n (pc := 7) C dX9_parse_7 rfl rfl ?_
  refine r_getI (pc := 8) C dX9_parse_8 fl_X9_80 rfl (fun v1 => ?_)
  refine r_cSI (pc := 11) C [.int p1, .int 0, .int v1] [] (z_KX.zero hT) (s_X9_within p1 0 v1) mt_X9_within dX9_parse_11 ml_X9_103 sm_X9_within rfl rfl rfl (Nat.le_of_ble_eq_true rfl) ⟨Nat.le_of_ble_eq_true rfl, Nat.le_of_ble_eq_true rfl⟩ (fun r2 => ?_)
  refine r_if_ne (pc := 14) C (tgt := 23) dX9_parse_14 rfl (fun _ => ?_) (fun _ => ?_)
  · refine r_aload_n (pc := 17) C dX9_parse_17 rfl rfl ?_
    refine r_iconst (pc := 18) C dX9_parse_18 ki_1 ?_
    refine r_cVI (pc := 19) C [.int 1] [] (z_KX.zero hT) (s_X9_fail a 1) mt_X9_fail zc_9 dX9_parse_19 ml_X9_222 im_X9_fail se_X9_fail rfl rfl rfl (Nat.le_of_ble_eq_true rfl) ⟨Nat.le_of_ble_eq_true rfl, Nat.le_of_ble_eq_true rfl⟩ (fun r20 => ?_)
    exact r_iret (pc := 22) C dX9_parse_22
  · refine r_aload_n (pc := 23) C dX9_parse_23 rfl rfl ?_
    refine r_iload_n (pc := 24) C dX9_parse_24 rfl rfl ?_
    refine r_putI (pc := 25) C dX9_parse_25 fl_X9_87 rfl rfl ?_
    refine r_aload_n (pc := 28) C dX9_parse_28 rfl rfl ?_
    refine r_iconst (pc := 29) C dX9_parse_29 ki_0 ?_
    refine r_putI (pc := 30) C dX9_parse_30 fl_X9_80 rfl rfl ?_
    refine r_aload_n (pc := 33) C dX9_parse_33 rfl rfl ?_
    refine r_iconst (pc := 34) C dX9_parse_34 ki_0 ?_
    refine r_putI (pc := 35) C dX9_parse_35 fl_X9_90 rfl rfl ?_
    refine r_aload_n (pc := 38) C dX9_parse_38 rfl rfl ?_
    refine r_iconst (pc := 39) C dX9_parse_39 ki_0 ?_
    refine r_putI (pc := 40) C dX9_parse_40 fl_X9_110 rfl rfl ?_
    refine r_aload_n (pc := 43) C dX9_parse_43 rfl rfl ?_
    refine r_cVV (pc := 44) C [] [] (z_KX.zero hT) (s_X9_setDefaults a) mt_X9_setDefaults zc_9 dX9_parse_44 ml_X9_70 im_X9_setDefaults se_X9_setDefaults rfl rfl rfl (Nat.le_of_ble_eq_true rfl) ⟨Nat.le_of_ble_eq_true rfl, Nat.le_of_ble_eq_true rfl⟩ ?_
    refine r_aload_n (pc := 47) C dX9_parse_47 rfl rfl ?_
    refine r_cVV (pc := 48) C [] [] (z_KX.zero hT) (s_X9_nextToken a) mt_X9_nextToken zc_9 dX9_parse_48 ml_X9_126 im_X9_nextToken se_X9_nextToken rfl rfl rfl (Nat.le_of_ble_eq_true rfl) ⟨Nat.le_of_ble_eq_true rfl, Nat.le_of_ble_eq_true rfl⟩ ?_
    refine r_jn 98 (fun (t5 : Unit) => [(0, .ref (x_b X + a))]) (fun (t5 : Unit) => []) (fun t5 => ?_) ?_
    · refine r_aload_n (pc := 98) C dX9_parse_98 rfl rfl ?_
      refine r_getI (pc := 99) C dX9_parse_99 fl_X9_110 rfl (fun v14 => ?_)
      refine r_if_eq (pc := 102) C (tgt := 121) dX9_parse_102 rfl (fun _ => ?_) (fun _ => ?_)
      · refine r_aload_n (pc := 121) C dX9_parse_121 rfl rfl ?_
        refine r_cVV (pc := 122) C [] [] (z_KX.zero hT) (s_X9_takeDraft a) mt_X9_takeDraft zc_9 dX9_parse_122 ml_X9_73 im_X9_takeDraft se_X9_takeDraft rfl rfl rfl (Nat.le_of_ble_eq_true rfl) ⟨Nat.le_of_ble_eq_true rfl, Nat.le_of_ble_eq_true rfl⟩ ?_
        refine r_aload_n (pc := 125) C dX9_parse_125 rfl rfl ?_
        refine r_getA (pc := 126) C dX9_parse_126 fl_X9_17 rfl (fun v16 => ?_)
        refine r_iconst (pc := 129) C dX9_parse_129 ki_0 ?_
        refine r_iald (pc := 130) C dX9_parse_130 (fun v17 => ?_)
        exact r_iret (pc := 131) C dX9_parse_131
      · refine r_bipush (pc := 105) C dX9_parse_105 kb_m2 ?_
        refine r_bipush (pc := 107) C dX9_parse_107 kb_8 ?_
        refine r_aload_n (pc := 109) C dX9_parse_109 rfl rfl ?_
        refine r_getI (pc := 110) C dX9_parse_110 fl_X9_113 rfl (fun v18 => ?_)
        refine r_imul (pc := 113) C dX9_parse_113 ?_
        refine r_aload_n (pc := 114) C dX9_parse_114 rfl rfl ?_
        refine r_getI (pc := 115) C dX9_parse_115 fl_X9_110 rfl (fun v19 => ?_)
        refine r_iadd (pc := 118) C dX9_parse_118 ?_
        refine r_isub (pc := 119) C dX9_parse_119 ?_
        exact r_iret (pc := 120) C dX9_parse_120
    · refine r_sub [(0, .ref (x_b X + a))] rfl ?_
      refine r_lp (pc := 51) (fun (t6 : Unit) => [(0, .ref (x_b X + a))]) (fun t6 => ?_) ()
      refine r_aload_n (pc := 51) C dX9_parse_51 rfl rfl ?_
      refine r_getI (pc := 52) C dX9_parse_52 fl_X9_110 rfl (fun v7 => ?_)
      refine r_if_ne (pc := 55) C (tgt := 98) dX9_parse_55 rfl (fun _ => ?_) (fun _ => ?_)
      · refine r_aload_n (pc := 58) C dX9_parse_58 rfl rfl ?_
        refine r_getI (pc := 59) C dX9_parse_59 fl_X9_100 rfl (fun v8 => ?_)
        refine r_if_eq (pc := 62) C (tgt := 98) dX9_parse_62 rfl (fun _ => ?_) (fun _ => ?_)
        · refine r_sub [(0, .ref (x_b X + a))] rfl ?_
          exact r_up (r_br (τ := Unit) ())
        · refine r_aload_n (pc := 65) C dX9_parse_65 rfl rfl ?_
          refine r_cVV (pc := 66) C [] [] (z_KX.up (z_KX.up (z_KX.zero hT))) (s_X9_statement a) mt_X9_statement zc_9 dX9_parse_66 ml_X9_225 im_X9_statement se_X9_statement rfl rfl rfl (Nat.le_of_ble_eq_true rfl) ⟨Nat.le_of_ble_eq_true rfl, Nat.le_of_ble_eq_true rfl⟩ ?_
          refine r_aload_n (pc := 69) C dX9_parse_69 rfl rfl ?_
          refine r_aload_n (pc := 70) C dX9_parse_70 rfl rfl ?_
          refine r_getI (pc := 71) C dX9_parse_71 fl_X9_100 rfl (fun v10 => ?_)
          refine r_bipush (pc := 74) C dX9_parse_74 kb_59 ?_
          refine r_jn 84 (fun (t11 : Int32) => [(0, .ref (x_b X + a))]) (fun (t11 : Int32) => [.int t11, .ref (x_b X + a)]) (fun t11 => ?_) ?_
          · refine r_iconst (pc := 84) C dX9_parse_84 ki_1 ?_
            refine r_cVI (pc := 85) C [.int t11, .int 1] [] (z_KX.up (z_KX.up (z_KX.zero hT))) (s_X9_must a t11 1) mt_X9_must zc_9 dX9_parse_85 ml_X9_122 im_X9_must se_X9_must rfl rfl rfl (Nat.le_of_ble_eq_true rfl) ⟨Nat.le_of_ble_eq_true rfl, Nat.le_of_ble_eq_true rfl⟩ (fun r12 => ?_)
            refine r_if_eq (pc := 88) C (tgt := 51) dX9_parse_88 rfl (fun _ => ?_) (fun _ => ?_)
            · refine r_sub [(0, .ref (x_b X + a))] rfl ?_
              exact r_br (τ := Unit) ()
            · refine r_aload_n (pc := 91) C dX9_parse_91 rfl rfl ?_
              refine r_cVV (pc := 92) C [] [] (z_KX.up (z_KX.up (z_KX.zero hT))) (s_X9_nextToken a) mt_X9_nextToken zc_9 dX9_parse_92 ml_X9_126 im_X9_nextToken se_X9_nextToken rfl rfl rfl (Nat.le_of_ble_eq_true rfl) ⟨Nat.le_of_ble_eq_true rfl, Nat.le_of_ble_eq_true rfl⟩ ?_
              refine r_goto (pc := 95) C (tgt := 51) dX9_parse_95 rfl ?_
              refine r_sub [(0, .ref (x_b X + a))] rfl ?_
              exact r_br (τ := Unit) ()
          · refine r_icmp_ne (pc := 76) C (tgt := 83) dX9_parse_76 rfl (fun _ => ?_) (fun _ => ?_)
            · refine r_iconst (pc := 79) C dX9_parse_79 ki_1 ?_
              refine r_goto (pc := 80) C (tgt := 84) dX9_parse_80 rfl ?_
              refine r_sub [(0, .ref (x_b X + a))] rfl ?_
              exact r_br (τ := Int32) 1
            · refine r_iconst (pc := 83) C dX9_parse_83 ki_0 ?_
              refine r_sub [(0, .ref (x_b X + a))] rfl ?_
              exact r_br (τ := Int32) 0
      · refine r_sub [(0, .ref (x_b X + a))] rfl ?_
        exact r_up (r_br (τ := Unit) ())
noncomputable def p_X9_keep (a : Nat) : zP Unit := (z_bd (z_gI 9 a 21) (fun v1 => (z_jn (τ := Unit) (if v1 = 10 then (z_jn (τ := Unit) (z_lp (fun (t4 : Int32) => (z_bd (z_gA 9 a 20) (fun v5 => (z_bd (z_al 11 v5) (fun v6 => (if (v6 - 3277) ≤ t4 then (z_pu (.inr (.inl ()))) else (z_bd (z_gA 9 a 20) (fun v7 => (z_bd (z_gA 9 a 20) (fun v8 => (z_bd (z_aI 11 v8 (t4 + 3277)) (fun v9 => (z_bd (z_sI 11 v7 t4 v9) (fun _ => (z_pu (.inl ((t4 + 1)))))))))))))))))) 0) (fun t3 => (z_bd (z_gI 9 a 21) (fun v10 => (z_bd (z_pI 9 a 21 (v10 - 1)) (fun _ => (z_pu (.inl ())))))))) else (z_pu (.inl ()))) (fun t2 => (z_jn (τ := Unit) (z_lp (fun (t12 : Int32) => (if 3277 ≤ t12 then (z_pu (.inr (.inl ()))) else (z_bd (z_gA 9 a 20) (fun v13 => (z_bd (z_gI 9 a 21) (fun v14 => (z_bd (z_gA 9 a 19) (fun v15 => (z_bd (z_aI 11 v15 t12) (fun v16 => (z_bd (z_sI 11 v13 ((3277 * v14) + t12) v16) (fun _ => (z_pu (.inl ((t12 + 1)))))))))))))))) 0) (fun t11 => (z_bd (z_gI 9 a 21) (fun v17 => (z_bd (z_pI 9 a 21 (v17 + 1)) (fun _ => (z_pu ())))))))))))
set_option maxHeartbeats 4000000 in
set_option maxRecDepth 100000 in
theorem s_X9_keep (a : Nat) : z_Sound yX9_keep cX9_keep 2 none 1 20 (fun D b => [.ref (b + a)]) z_ivV (p_X9_keep a) := by
  refine z_ofSim rfl (by intro D b; exact Nat.le_of_ble_eq_true rfl) (fun X C hT => ?_)
  unfold p_X9_keep
  refine r_sub [(0, .ref (x_b X + a))] rfl ?_
  refine r_aload_n (pc := 0) C dX9_keep_0 rfl rfl ?_
  refine r_getI (pc := 1) C dX9_keep_1 fl_X9_136 rfl (fun v1 => ?_)
  refine r_bipush (pc := 4) C dX9_keep_4 kb_10 ?_
  refine r_jn 56 (fun (t2 : Unit) => [(0, .ref (x_b X + a))]) (fun (t2 : Unit) => []) (fun t2 => ?_) ?_
  · refine r_iconst (pc := 56) C dX9_keep_56 ki_0 ?_
    refine r_sti_n (pc := 57) C 1 [(0, .ref (x_b X + a)), (1, .int 0)] dX9_keep_57 rfl (by decide) rfl ?_
    refine r_jn 92 (fun (t11 : Unit) => [(0, .ref (x_b X + a))]) (fun (t11 : Unit) => []) (fun t11 => ?_) ?_
    · refine r_aload_n (pc := 92) C dX9_keep_92 rfl rfl ?_
      refine r_dup (pc := 93) C dX9_keep_93 rfl ?_
      refine r_getI (pc := 94) C dX9_keep_94 fl_X9_136 rfl (fun v17 => ?_)
      refine r_iconst (pc := 97) C dX9_keep_97 ki_1 ?_
      refine r_iadd (pc := 98) C dX9_keep_98 ?_
      refine r_putI (pc := 99) C dX9_keep_99 fl_X9_136 rfl rfl ?_
      exact r_vret (pc := 102) C dX9_keep_102
    · refine r_sub [(0, .ref (x_b X + a)), (1, .int 0)] rfl ?_
      refine r_lp (pc := 58) (fun (t12 : Int32) => [(0, .ref (x_b X + a)), (1, .int t12)]) (fun t12 => ?_) 0
      refine r_iload_n (pc := 58) C dX9_keep_58 rfl rfl ?_
      refine r_sipush (pc := 59) C dX9_keep_59 ks_3277 ?_
      refine r_icmp_ge (pc := 62) C (tgt := 92) dX9_keep_62 rfl (fun _ => ?_) (fun _ => ?_)
      · refine r_sub [(0, .ref (x_b X + a))] rfl ?_
        exact r_up (r_br (τ := Unit) ())
      · refine r_aload_n (pc := 65) C dX9_keep_65 rfl rfl ?_
        refine r_getA (pc := 66) C dX9_keep_66 fl_X9_36 rfl (fun v13 => ?_)
        refine r_sipush (pc := 69) C dX9_keep_69 ks_3277 ?_
        refine r_aload_n (pc := 72) C dX9_keep_72 rfl rfl ?_
        refine r_getI (pc := 73) C dX9_keep_73 fl_X9_136 rfl (fun v14 => ?_)
        refine r_imul (pc := 76) C dX9_keep_76 ?_
        refine r_iload_n (pc := 77) C dX9_keep_77 rfl rfl ?_
        refine r_iadd (pc := 78) C dX9_keep_78 ?_
        refine r_aload_n (pc := 79) C dX9_keep_79 rfl rfl ?_
        refine r_getA (pc := 80) C dX9_keep_80 fl_X9_32 rfl (fun v15 => ?_)
        refine r_iload_n (pc := 83) C dX9_keep_83 rfl rfl ?_
        refine r_iald (pc := 84) C dX9_keep_84 (fun v16 => ?_)
        refine r_iast (pc := 85) C dX9_keep_85 ?_
        refine r_inc (pc := 86) C 1 [(0, .ref (x_b X + a)), (1, .int (t12 + 1))] dX9_keep_86 rfl ki_1 (by decide) rfl ?_
        refine r_goto (pc := 89) C (tgt := 58) dX9_keep_89 rfl ?_
        refine r_sub [(0, .ref (x_b X + a)), (1, .int (t12 + 1))] rfl ?_
        exact r_br (τ := Int32) ((t12 + 1))
  · refine r_icmp_ne (pc := 6) C (tgt := 56) dX9_keep_6 rfl (fun _ => ?_) (fun _ => ?_)
    · refine r_iconst (pc := 9) C dX9_keep_9 ki_0 ?_
      refine r_sti_n (pc := 10) C 1 [(0, .ref (x_b X + a)), (1, .int 0)] dX9_keep_10 rfl (by decide) rfl ?_
      refine r_jn 46 (fun (t3 : Unit) => [(0, .ref (x_b X + a))]) (fun (t3 : Unit) => []) (fun t3 => ?_) ?_
      · refine r_aload_n (pc := 46) C dX9_keep_46 rfl rfl ?_
        refine r_dup (pc := 47) C dX9_keep_47 rfl ?_
        refine r_getI (pc := 48) C dX9_keep_48 fl_X9_136 rfl (fun v10 => ?_)
        refine r_iconst (pc := 51) C dX9_keep_51 ki_1 ?_
        refine r_isub (pc := 52) C dX9_keep_52 ?_
        refine r_putI (pc := 53) C dX9_keep_53 fl_X9_136 rfl rfl ?_
        refine r_sub [(0, .ref (x_b X + a))] rfl ?_
        exact r_br (τ := Unit) ()
      · refine r_sub [(0, .ref (x_b X + a)), (1, .int 0)] rfl ?_
        refine r_lp (pc := 11) (fun (t4 : Int32) => [(0, .ref (x_b X + a)), (1, .int t4)]) (fun t4 => ?_) 0
        refine r_iload_n (pc := 11) C dX9_keep_11 rfl rfl ?_
        refine r_aload_n (pc := 12) C dX9_keep_12 rfl rfl ?_
        refine r_getA (pc := 13) C dX9_keep_13 fl_X9_36 rfl (fun v5 => ?_)
        refine r_alen (pc := 16) C (by decide) dX9_keep_16 (fun v6 => ?_)
        refine r_sipush (pc := 17) C dX9_keep_17 ks_3277 ?_
        refine r_isub (pc := 20) C dX9_keep_20 ?_
        refine r_icmp_ge (pc := 21) C (tgt := 46) dX9_keep_21 rfl (fun _ => ?_) (fun _ => ?_)
        · refine r_sub [(0, .ref (x_b X + a))] rfl ?_
          exact r_up (r_br (τ := Unit) ())
        · refine r_aload_n (pc := 24) C dX9_keep_24 rfl rfl ?_
          refine r_getA (pc := 25) C dX9_keep_25 fl_X9_36 rfl (fun v7 => ?_)
          refine r_iload_n (pc := 28) C dX9_keep_28 rfl rfl ?_
          refine r_aload_n (pc := 29) C dX9_keep_29 rfl rfl ?_
          refine r_getA (pc := 30) C dX9_keep_30 fl_X9_36 rfl (fun v8 => ?_)
          refine r_iload_n (pc := 33) C dX9_keep_33 rfl rfl ?_
          refine r_sipush (pc := 34) C dX9_keep_34 ks_3277 ?_
          refine r_iadd (pc := 37) C dX9_keep_37 ?_
          refine r_iald (pc := 38) C dX9_keep_38 (fun v9 => ?_)
          refine r_iast (pc := 39) C dX9_keep_39 ?_
          refine r_inc (pc := 40) C 1 [(0, .ref (x_b X + a)), (1, .int (t4 + 1))] dX9_keep_40 rfl ki_1 (by decide) rfl ?_
          refine r_goto (pc := 43) C (tgt := 11) dX9_keep_43 rfl ?_
          refine r_sub [(0, .ref (x_b X + a)), (1, .int (t4 + 1))] rfl ?_
          exact r_br (τ := Int32) ((t4 + 1))
    · refine r_sub [(0, .ref (x_b X + a))] rfl ?_
      exact r_br (τ := Unit) ()
noncomputable def p_X9_setAside (a : Nat) : zP Unit := (z_lp (fun (t1 : Int32) => (if 3277 ≤ t1 then (z_pu (.inr ())) else (z_bd (z_gA 9 a 24) (fun v2 => (z_bd (z_gA 9 a 19) (fun v3 => (z_bd (z_aI 11 v3 t1) (fun v4 => (z_bd (z_sI 11 v2 t1 v4) (fun _ => (z_pu (.inl ((t1 + 1)))))))))))))) 0)
set_option maxHeartbeats 4000000 in
set_option maxRecDepth 100000 in
theorem s_X9_setAside (a : Nat) : z_Sound yX9_setAside cX9_setAside 2 none 1 20 (fun D b => [.ref (b + a)]) z_ivV (p_X9_setAside a) := by
  refine z_ofSim rfl (by intro D b; exact Nat.le_of_ble_eq_true rfl) (fun X C hT => ?_)
  unfold p_X9_setAside
  refine r_sub [(0, .ref (x_b X + a))] rfl ?_
  refine r_iconst (pc := 0) C dX9_setAside_0 ki_0 ?_
  refine r_sti_n (pc := 1) C 1 [(0, .ref (x_b X + a)), (1, .int 0)] dX9_setAside_1 rfl (by decide) rfl ?_
  refine r_sub [(0, .ref (x_b X + a)), (1, .int 0)] rfl ?_
  refine r_lp (pc := 2) (fun (t1 : Int32) => [(0, .ref (x_b X + a)), (1, .int t1)]) (fun t1 => ?_) 0
  refine r_iload_n (pc := 2) C dX9_setAside_2 rfl rfl ?_
  refine r_sipush (pc := 3) C dX9_setAside_3 ks_3277 ?_
  refine r_icmp_ge (pc := 6) C (tgt := 27) dX9_setAside_6 rfl (fun _ => ?_) (fun _ => ?_)
  · exact r_up (r_vret (pc := 27) C dX9_setAside_27)
  · refine r_aload_n (pc := 9) C dX9_setAside_9 rfl rfl ?_
    refine r_getA (pc := 10) C dX9_setAside_10 fl_X9_46 rfl (fun v2 => ?_)
    refine r_iload_n (pc := 13) C dX9_setAside_13 rfl rfl ?_
    refine r_aload_n (pc := 14) C dX9_setAside_14 rfl rfl ?_
    refine r_getA (pc := 15) C dX9_setAside_15 fl_X9_32 rfl (fun v3 => ?_)
    refine r_iload_n (pc := 18) C dX9_setAside_18 rfl rfl ?_
    refine r_iald (pc := 19) C dX9_setAside_19 (fun v4 => ?_)
    refine r_iast (pc := 20) C dX9_setAside_20 ?_
    refine r_inc (pc := 21) C 1 [(0, .ref (x_b X + a)), (1, .int (t1 + 1))] dX9_setAside_21 rfl ki_1 (by decide) rfl ?_
    refine r_goto (pc := 24) C (tgt := 2) dX9_setAside_24 rfl ?_
    refine r_sub [(0, .ref (x_b X + a)), (1, .int (t1 + 1))] rfl ?_
    exact r_br (τ := Int32) ((t1 + 1))
