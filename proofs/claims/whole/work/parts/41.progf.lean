noncomputable def p_X9_begin (a : Nat) (p1 : Int32) (p2 : Int32) : zP Int32 := (z_bd (z_gA 9 a 19) (fun v1 => (z_bd (z_aI 11 v1 1) (fun v2 => (z_bd (z_cv 9 a (p_X9_fareOf a p1 p2)) (fun r3 => (z_bd (z_sI 11 v1 1 (v2 + r3)) (fun _ => (z_bd (z_gA 9 a 19) (fun v4 => (z_bd (z_aI 11 v4 (6 + p1)) (fun v5 => (z_bd (z_sI 11 v4 (6 + p1) (v5 - 1)) (fun _ => (z_bd (z_pu (((8 * p1) + p2))) (fun x6 => (z_bd (z_gA 9 a 19) (fun v7 => (z_bd (z_aI 11 v7 3) (fun v8 => (z_bd (z_sI 11 v7 3 (v8 + 1)) (fun _ => (z_bd (z_gA 9 a 19) (fun v9 => (z_bd (z_aI 11 v9 (76 + x6)) (fun v10 => (z_jn (τ := Unit) (if v10 = 0 then (z_bd (z_gA 9 a 19) (fun v12 => (z_bd (z_gA 9 a 19) (fun v13 => (z_bd (z_aI 11 v13 3) (fun v14 => (z_bd (z_sI 11 v12 (140 + x6) v14) (fun _ => (z_pu (.inl ())))))))))) else (z_pu (.inl ()))) (fun t11 => (z_bd (z_gA 9 a 19) (fun v15 => (z_bd (z_aI 11 v15 (76 + x6)) (fun v16 => (z_bd (z_sI 11 v15 (76 + x6) (v16 + 1)) (fun _ => (z_bd (z_gA 9 a 19) (fun v17 => (z_bd (z_aI 11 v17 204) (fun v18 => (z_bd (z_pu ((205 + (3 * v18)))) (fun x19 => (z_bd (z_gA 9 a 19) (fun v20 => (z_bd (z_gA 9 a 19) (fun v21 => (z_bd (z_aI 11 v21 0) (fun v22 => (z_bd (z_cv 9 a (p_X9_ride a p1 p2)) (fun r23 => (z_bd (z_sI 11 v20 x19 (v22 + r23)) (fun _ => (z_bd (z_gA 9 a 19) (fun v24 => (z_bd (z_sI 11 v24 (x19 + 1) p2) (fun _ => (z_bd (z_gA 9 a 19) (fun v25 => (z_bd (z_sI 11 v25 (x19 + 2) p1) (fun _ => (z_bd (z_gA 9 a 19) (fun v26 => (z_bd (z_aI 11 v26 204) (fun v27 => (z_bd (z_sI 11 v26 204 (v27 + 1)) (fun _ => (z_bd (z_gA 9 a 19) (fun v28 => (z_bd (z_aI 11 v28 x19) (fun v29 => (z_pu v29)))))))))))))))))))))))))))))))))))))))))))))))))))))))))))))))))))))
set_option maxHeartbeats 4000000 in
set_option maxRecDepth 100000 in
theorem s_X9_begin (a : Nat) (p1 : Int32) (p2 : Int32) : z_Sound yX9_begin cX9_begin 5 (some .int) 5 109 (fun D b => [.ref (b + a), .int p1, .int p2]) z_ivI (p_X9_begin a p1 p2) := by
  refine z_ofSim rfl (by intro D b; exact Nat.le_of_ble_eq_true rfl) (fun X C hT => ?_)
  unfold p_X9_begin
  refine r_sub [(0, .ref (x_b X + a)), (1, .int p1), (2, .int p2)] rfl ?_
  refine r_aload_n (pc := 0) C dX9_begin_0 rfl rfl ?_
  refine r_getA (pc := 1) C dX9_begin_1 fl_X9_32 rfl (fun v1 => ?_)
  refine r_iconst (pc := 4) C dX9_begin_4 ki_1 ?_
  refine r_dup2 (pc := 5) C dX9_begin_5 rfl rfl ?_
  refine r_iald (pc := 6) C dX9_begin_6 (fun v2 => ?_)
  refine r_aload_n (pc := 7) C dX9_begin_7 rfl rfl ?_
  refine r_iload_n (pc := 8) C dX9_begin_8 rfl rfl ?_
  refine r_iload_n (pc := 9) C dX9_begin_9 rfl rfl ?_
  refine r_cVI (pc := 10) C [.int p1, .int p2] [.int v2, .int 1, .ref (x_b X + v1)] (z_KX.zero hT) (s_X9_fareOf a p1 p2) mt_X9_fareOf zc_9 dX9_begin_10 ml_X9_268 im_X9_fareOf se_X9_fareOf rfl rfl rfl (Nat.le_of_ble_eq_true rfl) ⟨Nat.le_of_ble_eq_true rfl, Nat.le_of_ble_eq_true rfl⟩ (fun r3 => ?_)
  refine r_iadd (pc := 13) C dX9_begin_13 ?_
  refine r_iast (pc := 14) C dX9_begin_14 ?_
  refine r_aload_n (pc := 15) C dX9_begin_15 rfl rfl ?_
  refine r_getA (pc := 16) C dX9_begin_16 fl_X9_32 rfl (fun v4 => ?_)
  refine r_bipush (pc := 19) C dX9_begin_19 kb_6 ?_
  refine r_iload_n (pc := 21) C dX9_begin_21 rfl rfl ?_
  refine r_iadd (pc := 22) C dX9_begin_22 ?_
  refine r_dup2 (pc := 23) C dX9_begin_23 rfl rfl ?_
  refine r_iald (pc := 24) C dX9_begin_24 (fun v5 => ?_)
  refine r_iconst (pc := 25) C dX9_begin_25 ki_1 ?_
  refine r_isub (pc := 26) C dX9_begin_26 ?_
  refine r_iast (pc := 27) C dX9_begin_27 ?_
  refine r_bipush (pc := 28) C dX9_begin_28 kb_8 ?_
  refine r_iload_n (pc := 30) C dX9_begin_30 rfl rfl ?_
  refine r_imul (pc := 31) C dX9_begin_31 ?_
  refine r_iload_n (pc := 32) C dX9_begin_32 rfl rfl ?_
  refine r_iadd (pc := 33) C dX9_begin_33 ?_
  refine r_sti_n (pc := 34) C 3 [(0, .ref (x_b X + a)), (1, .int p1), (2, .int p2), (3, .int ((8 * p1) + p2))] dX9_begin_34 rfl (by decide) rfl ?_
  refine r_let (((8 * p1) + p2)) (fun x6 => [(0, .ref (x_b X + a)), (1, .int p1), (2, .int p2), (3, .int x6)]) (fun x6 => []) (fun x6 => ?_)
  refine r_aload_n (pc := 35) C dX9_begin_35 rfl rfl ?_
  refine r_getA (pc := 36) C dX9_begin_36 fl_X9_32 rfl (fun v7 => ?_)
  refine r_iconst (pc := 39) C dX9_begin_39 ki_3 ?_
  refine r_dup2 (pc := 40) C dX9_begin_40 rfl rfl ?_
  refine r_iald (pc := 41) C dX9_begin_41 (fun v8 => ?_)
  refine r_iconst (pc := 42) C dX9_begin_42 ki_1 ?_
  refine r_iadd (pc := 43) C dX9_begin_43 ?_
  refine r_iast (pc := 44) C dX9_begin_44 ?_
  refine r_aload_n (pc := 45) C dX9_begin_45 rfl rfl ?_
  refine r_getA (pc := 46) C dX9_begin_46 fl_X9_32 rfl (fun v9 => ?_)
  refine r_bipush (pc := 49) C dX9_begin_49 kb_76 ?_
  refine r_iload_n (pc := 51) C dX9_begin_51 rfl rfl ?_
  refine r_iadd (pc := 52) C dX9_begin_52 ?_
  refine r_iald (pc := 53) C dX9_begin_53 (fun v10 => ?_)
  refine r_jn 73 (fun (t11 : Unit) => [(0, .ref (x_b X + a)), (1, .int p1), (2, .int p2), (3, .int x6)]) (fun (t11 : Unit) => []) (fun t11 => ?_) ?_
  · refine r_aload_n (pc := 73) C dX9_begin_73 rfl rfl ?_
    refine r_getA (pc := 74) C dX9_begin_74 fl_X9_32 rfl (fun v15 => ?_)
    refine r_bipush (pc := 77) C dX9_begin_77 kb_76 ?_
    refine r_iload_n (pc := 79) C dX9_begin_79 rfl rfl ?_
    refine r_iadd (pc := 80) C dX9_begin_80 ?_
    refine r_dup2 (pc := 81) C dX9_begin_81 rfl rfl ?_
    refine r_iald (pc := 82) C dX9_begin_82 (fun v16 => ?_)
    refine r_iconst (pc := 83) C dX9_begin_83 ki_1 ?_
    refine r_iadd (pc := 84) C dX9_begin_84 ?_
    refine r_iast (pc := 85) C dX9_begin_85 ?_
    refine r_sipush (pc := 86) C dX9_begin_86 ks_205 ?_
    refine r_iconst (pc := 89) C dX9_begin_89 ki_3 ?_
    refine r_aload_n (pc := 90) C dX9_begin_90 rfl rfl ?_
    refine r_getA (pc := 91) C dX9_begin_91 fl_X9_32 rfl (fun v17 => ?_)
    refine r_sipush (pc := 94) C dX9_begin_94 ks_204 ?_
    refine r_iald (pc := 97) C dX9_begin_97 (fun v18 => ?_)
    refine r_imul (pc := 98) C dX9_begin_98 ?_
    refine r_iadd (pc := 99) C dX9_begin_99 ?_
    refine r_sti (pc := 100) C [(0, .ref (x_b X + a)), (1, .int p1), (2, .int p2), (4, .int (205 + (3 * v18)))] dX9_begin_100 (by decide) rfl ?_
    refine r_let ((205 + (3 * v18))) (fun x19 => [(0, .ref (x_b X + a)), (1, .int p1), (2, .int p2), (4, .int x19)]) (fun x19 => []) (fun x19 => ?_)
    refine r_aload_n (pc := 102) C dX9_begin_102 rfl rfl ?_
    refine r_getA (pc := 103) C dX9_begin_103 fl_X9_32 rfl (fun v20 => ?_)
    refine r_iload (pc := 106) C dX9_begin_106 rfl ?_
    refine r_aload_n (pc := 108) C dX9_begin_108 rfl rfl ?_
    refine r_getA (pc := 109) C dX9_begin_109 fl_X9_32 rfl (fun v21 => ?_)
    refine r_iconst (pc := 112) C dX9_begin_112 ki_0 ?_
    refine r_iald (pc := 113) C dX9_begin_113 (fun v22 => ?_)
    refine r_aload_n (pc := 114) C dX9_begin_114 rfl rfl ?_
    refine r_iload_n (pc := 115) C dX9_begin_115 rfl rfl ?_
    refine r_iload_n (pc := 116) C dX9_begin_116 rfl rfl ?_
    refine r_cVI (pc := 117) C [.int p1, .int p2] [.int v22, .int x19, .ref (x_b X + v20)] (z_KX.zero hT) (s_X9_ride a p1 p2) mt_X9_ride zc_9 dX9_begin_117 ml_X9_212 im_X9_ride se_X9_ride rfl rfl rfl (Nat.le_of_ble_eq_true rfl) ⟨Nat.le_of_ble_eq_true rfl, Nat.le_of_ble_eq_true rfl⟩ (fun r23 => ?_)
    refine r_iadd (pc := 120) C dX9_begin_120 ?_
    refine r_iast (pc := 121) C dX9_begin_121 ?_
    refine r_aload_n (pc := 122) C dX9_begin_122 rfl rfl ?_
    refine r_getA (pc := 123) C dX9_begin_123 fl_X9_32 rfl (fun v24 => ?_)
    refine r_iload (pc := 126) C dX9_begin_126 rfl ?_
    refine r_iconst (pc := 128) C dX9_begin_128 ki_1 ?_
    refine r_iadd (pc := 129) C dX9_begin_129 ?_
    refine r_iload_n (pc := 130) C dX9_begin_130 rfl rfl ?_
    refine r_iast (pc := 131) C dX9_begin_131 ?_
    refine r_aload_n (pc := 132) C dX9_begin_132 rfl rfl ?_
    refine r_getA (pc := 133) C dX9_begin_133 fl_X9_32 rfl (fun v25 => ?_)
    refine r_iload (pc := 136) C dX9_begin_136 rfl ?_
    refine r_iconst (pc := 138) C dX9_begin_138 ki_2 ?_
    refine r_iadd (pc := 139) C dX9_begin_139 ?_
    refine r_iload_n (pc := 140) C dX9_begin_140 rfl rfl ?_
    refine r_iast (pc := 141) C dX9_begin_141 ?_
    refine r_aload_n (pc := 142) C dX9_begin_142 rfl rfl ?_
    refine r_getA (pc := 143) C dX9_begin_143 fl_X9_32 rfl (fun v26 => ?_)
    refine r_sipush (pc := 146) C dX9_begin_146 ks_204 ?_
    refine r_dup2 (pc := 149) C dX9_begin_149 rfl rfl ?_
    refine r_iald (pc := 150) C dX9_begin_150 (fun v27 => ?_)
    refine r_iconst (pc := 151) C dX9_begin_151 ki_1 ?_
    refine r_iadd (pc := 152) C dX9_begin_152 ?_
    refine r_iast (pc := 153) C dX9_begin_153 ?_
    refine r_aload_n (pc := 154) C dX9_begin_154 rfl rfl ?_
    refine r_getA (pc := 155) C dX9_begin_155 fl_X9_32 rfl (fun v28 => ?_)
    refine r_iload (pc := 158) C dX9_begin_158 rfl ?_
    refine r_iald (pc := 160) C dX9_begin_160 (fun v29 => ?_)
    exact r_iret (pc := 161) C dX9_begin_161
  · refine r_if_ne (pc := 54) C (tgt := 73) dX9_begin_54 rfl (fun _ => ?_) (fun _ => ?_)
    · refine r_aload_n (pc := 57) C dX9_begin_57 rfl rfl ?_
      refine r_getA (pc := 58) C dX9_begin_58 fl_X9_32 rfl (fun v12 => ?_)
      refine r_sipush (pc := 61) C dX9_begin_61 ks_140 ?_
      refine r_iload_n (pc := 64) C dX9_begin_64 rfl rfl ?_
      refine r_iadd (pc := 65) C dX9_begin_65 ?_
      refine r_aload_n (pc := 66) C dX9_begin_66 rfl rfl ?_
      refine r_getA (pc := 67) C dX9_begin_67 fl_X9_32 rfl (fun v13 => ?_)
      refine r_iconst (pc := 70) C dX9_begin_70 ki_3 ?_
      refine r_iald (pc := 71) C dX9_begin_71 (fun v14 => ?_)
      refine r_iast (pc := 72) C dX9_begin_72 ?_
      refine r_sub [(0, .ref (x_b X + a)), (1, .int p1), (2, .int p2), (3, .int x6)] rfl ?_
      exact r_br (τ := Unit) ()
    · refine r_sub [(0, .ref (x_b X + a)), (1, .int p1), (2, .int p2), (3, .int x6)] rfl ?_
      exact r_br (τ := Unit) ()
noncomputable def p_X9_ridesBetween (a : Nat) (p1 : Int32) (p2 : Int32) : zP Int32 := (z_bd (z_pI 9 a 0 0) (fun _ => (z_bd (z_cv 9 a (p_X9_areStations a p1 p2)) (fun r1 => (if r1 = 0 then (z_bd (z_cv 9 a (p_X9_fail a 1)) (fun r2 => (z_pu r2))) else (z_bd (z_gA 9 a 19) (fun v3 => (z_bd (z_aI 11 v3 ((76 + (8 * p1)) + p2)) (fun v4 => (z_pu v4))))))))))
set_option maxHeartbeats 4000000 in
set_option maxRecDepth 100000 in
theorem s_X9_ridesBetween (a : Nat) (p1 : Int32) (p2 : Int32) : z_Sound yX9_ridesBetween cX9_ridesBetween 3 (some .int) 4 85 (fun D b => [.ref (b + a), .int p1, .int p2]) z_ivI (p_X9_ridesBetween a p1 p2) := by
  refine z_ofSim rfl (by intro D b; exact Nat.le_of_ble_eq_true rfl) (fun X C hT => ?_)
  unfold p_X9_ridesBetween
  refine r_sub [(0, .ref (x_b X + a)), (1, .int p1), (2, .int p2)] rfl ?_
  refine r_aload_n (pc := 0) C dX9_ridesBetween_0 rfl rfl ?_
  refine r_iconst (pc := 1) C dX9_ridesBetween_1 ki_0 ?_
  refine r_putI (pc := 2) C dX9_ridesBetween_2 fl_X9_76 rfl rfl ?_
  refine r_aload_n (pc := 5) C dX9_ridesBetween_5 rfl rfl ?_
  refine r_iload_n (pc := 6) C dX9_ridesBetween_6 rfl rfl ?_
  refine r_iload_n (pc := 7) C dX9_ridesBetween_7 rfl rfl ?_
  refine r_cVI (pc := 8) C [.int p1, .int p2] [] (z_KX.zero hT) (s_X9_areStations a p1 p2) mt_X9_areStations zc_9 dX9_ridesBetween_8 ml_X9_265 im_X9_areStations se_X9_areStations rfl rfl rfl (Nat.le_of_ble_eq_true rfl) ⟨Nat.le_of_ble_eq_true rfl, Nat.le_of_ble_eq_true rfl⟩ (fun r1 => ?_)
  refine r_if_eq (pc := 11) C (tgt := 31) dX9_ridesBetween_11 rfl (fun _ => ?_) (fun _ => ?_)
  · refine r_aload_n (pc := 31) C dX9_ridesBetween_31 rfl rfl ?_
    refine r_iconst (pc := 32) C dX9_ridesBetween_32 ki_1 ?_
    refine r_cVI (pc := 33) C [.int 1] [] (z_KX.zero hT) (s_X9_fail a 1) mt_X9_fail zc_9 dX9_ridesBetween_33 ml_X9_222 im_X9_fail se_X9_fail rfl rfl rfl (Nat.le_of_ble_eq_true rfl) ⟨Nat.le_of_ble_eq_true rfl, Nat.le_of_ble_eq_true rfl⟩ (fun r2 => ?_)
    exact r_iret (pc := 36) C dX9_ridesBetween_36
  · refine r_aload_n (pc := 14) C dX9_ridesBetween_14 rfl rfl ?_
    refine r_getA (pc := 15) C dX9_ridesBetween_15 fl_X9_32 rfl (fun v3 => ?_)
    refine r_bipush (pc := 18) C dX9_ridesBetween_18 kb_76 ?_
    refine r_bipush (pc := 20) C dX9_ridesBetween_20 kb_8 ?_
    refine r_iload_n (pc := 22) C dX9_ridesBetween_22 rfl rfl ?_
    refine r_imul (pc := 23) C dX9_ridesBetween_23 ?_
    refine r_iadd (pc := 24) C dX9_ridesBetween_24 ?_
    refine r_iload_n (pc := 25) C dX9_ridesBetween_25 rfl rfl ?_
    refine r_iadd (pc := 26) C dX9_ridesBetween_26 ?_
    refine r_iald (pc := 27) C dX9_ridesBetween_27 (fun v4 => ?_)
    refine r_goto (pc := 28) C (tgt := 36) dX9_ridesBetween_28 rfl ?_
    exact r_iret (pc := 36) C dX9_ridesBetween_36
noncomputable def p_X9_busiestPair (a : Nat) : zP Int32 := (z_jn (τ := Int32) (z_lp (fun (t2 : Int32 × Int32) => (if 64 ≤ t2.2 then (z_pu (.inr (.inl t2.1))) else (z_bd (z_gA 9 a 19) (fun v3 => (z_bd (z_aI 11 v3 (76 + t2.2)) (fun v4 => (if v4 = 0 then (z_pu (.inl (t2.1, (t2.2 + 1)))) else (z_jn (τ := Int32) (if t2.1 < 0 then (z_pu (.inl 1)) else (z_bd (z_gA 9 a 19) (fun v6 => (z_bd (z_aI 11 v6 (76 + t2.2)) (fun v7 => (z_bd (z_gA 9 a 19) (fun v8 => (z_bd (z_aI 11 v8 (76 + t2.1)) (fun v9 => (if v7 ≤ v9 then (z_pu (.inl 0)) else (z_pu (.inl 1)))))))))))) (fun t5 => (if t5 = 0 then (z_bd (z_gA 9 a 19) (fun v10 => (z_bd (z_aI 11 v10 (76 + t2.2)) (fun v11 => (z_bd (z_gA 9 a 19) (fun v12 => (z_bd (z_aI 11 v12 (76 + t2.1)) (fun v13 => (if v11 = v13 then (z_bd (z_gA 9 a 19) (fun v14 => (z_bd (z_aI 11 v14 (140 + t2.2)) (fun v15 => (z_bd (z_gA 9 a 19) (fun v16 => (z_bd (z_aI 11 v16 (140 + t2.1)) (fun v17 => (if v17 ≤ v15 then (z_pu (.inl (t2.1, (t2.2 + 1)))) else (z_pu (.inl (t2.2, (t2.2 + 1))))))))))))) else (z_pu (.inl (t2.1, (t2.2 + 1))))))))))))) else (z_pu (.inl (t2.2, (t2.2 + 1)))))))))))))) ((-1), 0)) (fun t1 => (z_bd (z_cv 9 a (p_X9_told a t1)) (fun r18 => (z_pu r18)))))
set_option maxHeartbeats 4000000 in
set_option maxRecDepth 100000 in
theorem s_X9_busiestPair (a : Nat) : z_Sound yX9_busiestPair cX9_busiestPair 4 (some .int) 2 41 (fun D b => [.ref (b + a)]) z_ivI (p_X9_busiestPair a) := by
  refine z_ofSim rfl (by intro D b; exact Nat.le_of_ble_eq_true rfl) (fun X C hT => ?_)
  unfold p_X9_busiestPair
  refine r_sub [(0, .ref (x_b X + a))] rfl ?_
  refine r_iconst (pc := 0) C dX9_busiestPair_0 ki_m1 ?_
  refine r_sti_n (pc := 1) C 1 [(0, .ref (x_b X + a)), (1, .int (-1))] dX9_busiestPair_1 rfl (by decide) rfl ?_
  refine r_iconst (pc := 2) C dX9_busiestPair_2 ki_0 ?_
  refine r_sti_n (pc := 3) C 2 [(0, .ref (x_b X + a)), (1, .int (-1)), (2, .int 0)] dX9_busiestPair_3 rfl (by decide) rfl ?_
  refine r_jn 112 (fun (t1 : Int32) => [(0, .ref (x_b X + a)), (1, .int t1)]) (fun (t1 : Int32) => []) (fun t1 => ?_) ?_
  · refine r_aload_n (pc := 112) C dX9_busiestPair_112 rfl rfl ?_
    refine r_iload_n (pc := 113) C dX9_busiestPair_113 rfl rfl ?_
    refine r_cVI (pc := 114) C [.int t1] [] (z_KX.zero hT) (s_X9_told a t1) mt_X9_told zc_9 dX9_busiestPair_114 ml_X9_240 im_X9_told se_X9_told rfl rfl rfl (Nat.le_of_ble_eq_true rfl) ⟨Nat.le_of_ble_eq_true rfl, Nat.le_of_ble_eq_true rfl⟩ (fun r18 => ?_)
    exact r_iret (pc := 117) C dX9_busiestPair_117
  · refine r_sub [(0, .ref (x_b X + a)), (1, .int (-1)), (2, .int 0)] rfl ?_
    refine r_lp (pc := 4) (fun (t2 : Int32 × Int32) => [(0, .ref (x_b X + a)), (1, .int t2.1), (2, .int t2.2)]) (fun t2 => ?_) ((-1), 0)
    refine r_iload_n (pc := 4) C dX9_busiestPair_4 rfl rfl ?_
    refine r_bipush (pc := 5) C dX9_busiestPair_5 kb_64 ?_
    refine r_icmp_ge (pc := 7) C (tgt := 112) dX9_busiestPair_7 rfl (fun _ => ?_) (fun _ => ?_)
    · refine r_sub [(0, .ref (x_b X + a)), (1, .int t2.1)] rfl ?_
      exact r_up (r_br (τ := Int32) t2.1)
    · refine r_aload_n (pc := 10) C dX9_busiestPair_10 rfl rfl ?_
      refine r_getA (pc := 11) C dX9_busiestPair_11 fl_X9_32 rfl (fun v3 => ?_)
      refine r_bipush (pc := 14) C dX9_busiestPair_14 kb_76 ?_
      refine r_iload_n (pc := 16) C dX9_busiestPair_16 rfl rfl ?_
      refine r_iadd (pc := 17) C dX9_busiestPair_17 ?_
      refine r_iald (pc := 18) C dX9_busiestPair_18 (fun v4 => ?_)
      refine r_if_ne (pc := 19) C (tgt := 25) dX9_busiestPair_19 rfl (fun _ => ?_) (fun _ => ?_)
      · refine r_goto (pc := 22) C (tgt := 106) dX9_busiestPair_22 rfl ?_
        refine r_inc (pc := 106) C 1 [(0, .ref (x_b X + a)), (1, .int t2.1), (2, .int (t2.2 + 1))] dX9_busiestPair_106 rfl ki_1 (by decide) rfl ?_
        refine r_goto (pc := 109) C (tgt := 4) dX9_busiestPair_109 rfl ?_
        refine r_sub [(0, .ref (x_b X + a)), (1, .int t2.1), (2, .int (t2.2 + 1))] rfl ?_
        exact r_br (τ := Int32 × Int32) (t2.1, (t2.2 + 1))
      · refine r_iload_n (pc := 25) C dX9_busiestPair_25 rfl rfl ?_
        refine r_jn 55 (fun (t5 : Int32) => [(0, .ref (x_b X + a)), (1, .int t2.1), (2, .int t2.2)]) (fun (t5 : Int32) => [.int t5]) (fun t5 => ?_) ?_
        · refine r_sti_n (pc := 55) C 3 [(0, .ref (x_b X + a)), (1, .int t2.1), (2, .int t2.2), (3, .int t5)] dX9_busiestPair_55 rfl (by decide) rfl ?_
          refine r_iload_n (pc := 56) C dX9_busiestPair_56 rfl rfl ?_
          refine r_if_ne (pc := 57) C (tgt := 104) dX9_busiestPair_57 rfl (fun _ => ?_) (fun _ => ?_)
          · refine r_aload_n (pc := 60) C dX9_busiestPair_60 rfl rfl ?_
            refine r_getA (pc := 61) C dX9_busiestPair_61 fl_X9_32 rfl (fun v10 => ?_)
            refine r_bipush (pc := 64) C dX9_busiestPair_64 kb_76 ?_
            refine r_iload_n (pc := 66) C dX9_busiestPair_66 rfl rfl ?_
            refine r_iadd (pc := 67) C dX9_busiestPair_67 ?_
            refine r_iald (pc := 68) C dX9_busiestPair_68 (fun v11 => ?_)
            refine r_aload_n (pc := 69) C dX9_busiestPair_69 rfl rfl ?_
            refine r_getA (pc := 70) C dX9_busiestPair_70 fl_X9_32 rfl (fun v12 => ?_)
            refine r_bipush (pc := 73) C dX9_busiestPair_73 kb_76 ?_
            refine r_iload_n (pc := 75) C dX9_busiestPair_75 rfl rfl ?_
            refine r_iadd (pc := 76) C dX9_busiestPair_76 ?_
            refine r_iald (pc := 77) C dX9_busiestPair_77 (fun v13 => ?_)
            refine r_icmp_ne (pc := 78) C (tgt := 106) dX9_busiestPair_78 rfl (fun _ => ?_) (fun _ => ?_)
            · refine r_aload_n (pc := 81) C dX9_busiestPair_81 rfl rfl ?_
              refine r_getA (pc := 82) C dX9_busiestPair_82 fl_X9_32 rfl (fun v14 => ?_)
              refine r_sipush (pc := 85) C dX9_busiestPair_85 ks_140 ?_
              refine r_iload_n (pc := 88) C dX9_busiestPair_88 rfl rfl ?_
              refine r_iadd (pc := 89) C dX9_busiestPair_89 ?_
              refine r_iald (pc := 90) C dX9_busiestPair_90 (fun v15 => ?_)
              refine r_aload_n (pc := 91) C dX9_busiestPair_91 rfl rfl ?_
              refine r_getA (pc := 92) C dX9_busiestPair_92 fl_X9_32 rfl (fun v16 => ?_)
              refine r_sipush (pc := 95) C dX9_busiestPair_95 ks_140 ?_
              refine r_iload_n (pc := 98) C dX9_busiestPair_98 rfl rfl ?_
              refine r_iadd (pc := 99) C dX9_busiestPair_99 ?_
              refine r_iald (pc := 100) C dX9_busiestPair_100 (fun v17 => ?_)
              refine r_icmp_ge (pc := 101) C (tgt := 106) dX9_busiestPair_101 rfl (fun _ => ?_) (fun _ => ?_)
              · refine r_inc (pc := 106) C 1 [(0, .ref (x_b X + a)), (1, .int t2.1), (2, .int (t2.2 + 1))] dX9_busiestPair_106 rfl ki_1 (by decide) rfl ?_
                refine r_goto (pc := 109) C (tgt := 4) dX9_busiestPair_109 rfl ?_
                refine r_sub [(0, .ref (x_b X + a)), (1, .int t2.1), (2, .int (t2.2 + 1))] rfl ?_
                exact r_br (τ := Int32 × Int32) (t2.1, (t2.2 + 1))
              · refine r_iload_n (pc := 104) C dX9_busiestPair_104 rfl rfl ?_
                refine r_sti_n (pc := 105) C 1 [(0, .ref (x_b X + a)), (1, .int t2.2), (2, .int t2.2)] dX9_busiestPair_105 rfl (by decide) rfl ?_
                refine r_inc (pc := 106) C 1 [(0, .ref (x_b X + a)), (1, .int t2.2), (2, .int (t2.2 + 1))] dX9_busiestPair_106 rfl ki_1 (by decide) rfl ?_
                refine r_goto (pc := 109) C (tgt := 4) dX9_busiestPair_109 rfl ?_
                refine r_sub [(0, .ref (x_b X + a)), (1, .int t2.2), (2, .int (t2.2 + 1))] rfl ?_
                exact r_br (τ := Int32 × Int32) (t2.2, (t2.2 + 1))
            · refine r_inc (pc := 106) C 1 [(0, .ref (x_b X + a)), (1, .int t2.1), (2, .int (t2.2 + 1))] dX9_busiestPair_106 rfl ki_1 (by decide) rfl ?_
              refine r_goto (pc := 109) C (tgt := 4) dX9_busiestPair_109 rfl ?_
              refine r_sub [(0, .ref (x_b X + a)), (1, .int t2.1), (2, .int (t2.2 + 1))] rfl ?_
              exact r_br (τ := Int32 × Int32) (t2.1, (t2.2 + 1))
          · refine r_iload_n (pc := 104) C dX9_busiestPair_104 rfl rfl ?_
            refine r_sti_n (pc := 105) C 1 [(0, .ref (x_b X + a)), (1, .int t2.2), (2, .int t2.2)] dX9_busiestPair_105 rfl (by decide) rfl ?_
            refine r_inc (pc := 106) C 1 [(0, .ref (x_b X + a)), (1, .int t2.2), (2, .int (t2.2 + 1))] dX9_busiestPair_106 rfl ki_1 (by decide) rfl ?_
            refine r_goto (pc := 109) C (tgt := 4) dX9_busiestPair_109 rfl ?_
            refine r_sub [(0, .ref (x_b X + a)), (1, .int t2.2), (2, .int (t2.2 + 1))] rfl ?_
            exact r_br (τ := Int32 × Int32) (t2.2, (t2.2 + 1))
        · refine r_if_lt (pc := 26) C (tgt := 50) dX9_busiestPair_26 rfl (fun _ => ?_) (fun _ => ?_)
          · refine r_iconst (pc := 50) C dX9_busiestPair_50 ki_1 ?_
            refine r_goto (pc := 51) C (tgt := 55) dX9_busiestPair_51 rfl ?_
            refine r_sub [(0, .ref (x_b X + a)), (1, .int t2.1), (2, .int t2.2)] rfl ?_
            exact r_br (τ := Int32) 1
          · refine r_aload_n (pc := 29) C dX9_busiestPair_29 rfl rfl ?_
            refine r_getA (pc := 30) C dX9_busiestPair_30 fl_X9_32 rfl (fun v6 => ?_)
            refine r_bipush (pc := 33) C dX9_busiestPair_33 kb_76 ?_
            refine r_iload_n (pc := 35) C dX9_busiestPair_35 rfl rfl ?_
            refine r_iadd (pc := 36) C dX9_busiestPair_36 ?_
            refine r_iald (pc := 37) C dX9_busiestPair_37 (fun v7 => ?_)
            refine r_aload_n (pc := 38) C dX9_busiestPair_38 rfl rfl ?_
            refine r_getA (pc := 39) C dX9_busiestPair_39 fl_X9_32 rfl (fun v8 => ?_)
            refine r_bipush (pc := 42) C dX9_busiestPair_42 kb_76 ?_
            refine r_iload_n (pc := 44) C dX9_busiestPair_44 rfl rfl ?_
            refine r_iadd (pc := 45) C dX9_busiestPair_45 ?_
            refine r_iald (pc := 46) C dX9_busiestPair_46 (fun v9 => ?_)
            refine r_icmp_le (pc := 47) C (tgt := 54) dX9_busiestPair_47 rfl (fun _ => ?_) (fun _ => ?_)
            · refine r_iconst (pc := 54) C dX9_busiestPair_54 ki_0 ?_
              refine r_sub [(0, .ref (x_b X + a)), (1, .int t2.1), (2, .int t2.2)] rfl ?_
              exact r_br (τ := Int32) 0
            · refine r_iconst (pc := 50) C dX9_busiestPair_50 ki_1 ?_
              refine r_goto (pc := 51) C (tgt := 55) dX9_busiestPair_51 rfl ?_
              refine r_sub [(0, .ref (x_b X + a)), (1, .int t2.1), (2, .int t2.2)] rfl ?_
              exact r_br (τ := Int32) 1
noncomputable def p_X9_truck (a : Nat) (p1 : Int32) (p2 : Int32) : zP Int32 := (z_bd (z_pI 9 a 0 0) (fun _ => (z_bd (z_cv 9 a (p_X9_isTruck a p1)) (fun r1 => (if r1 = 0 then (z_bd (z_cv 9 a (p_X9_fail a 1)) (fun r10 => (z_pu r10))) else (if p2 = 0 then (z_bd (z_cv 9 a (p_X9_of a p1 0)) (fun r2 => (z_pu r2))) else (if p2 = 1 then (z_bd (z_cv 9 a (p_X9_of a p1 1)) (fun r3 => (z_pu r3))) else (if p2 = 2 then (z_bd (z_cv 9 a (p_X9_of a p1 2)) (fun r4 => (z_pu r4))) else (if p2 = 3 then (z_bd (z_cv 9 a (p_X9_of a p1 4)) (fun r5 => (z_pu r5))) else (if p2 = 4 then (z_bd (z_gA 9 a 11) (fun v6 => (z_bd (z_aI 11 v6 (45 + p1)) (fun v7 => (z_pu v7))))) else (if p2 = 5 then (z_bd (z_cv 9 a (p_X9_of a p1 5)) (fun r8 => (z_pu r8))) else (z_bd (z_cv 9 a (p_X9_fail a 2)) (fun r9 => (z_pu r9))))))))))))))
set_option maxHeartbeats 4000000 in
set_option maxRecDepth 100000 in
theorem s_X9_truck (a : Nat) (p1 : Int32) (p2 : Int32) : z_Sound yX9_truck cX9_truck 3 (some .int) 3 63 (fun D b => [.ref (b + a), .int p1, .int p2]) z_ivI (p_X9_truck a p1 p2) := by
  refine z_ofSim rfl (by intro D b; exact Nat.le_of_ble_eq_true rfl) (fun X C hT => ?_)
  unfold p_X9_truck
  refine r_sub [(0, .ref (x_b X + a)), (1, .int p1), (2, .int p2)] rfl ?_
  refine r_aload_n (pc := 0) C dX9_truck_0 rfl rfl ?_
  refine r_iconst (pc := 1) C dX9_truck_1 ki_0 ?_
  refine r_putI (pc := 2) C dX9_truck_2 fl_X9_76 rfl rfl ?_
  refine r_aload_n (pc := 5) C dX9_truck_5 rfl rfl ?_
  refine r_iload_n (pc := 6) C dX9_truck_6 rfl rfl ?_
  refine r_cVI (pc := 7) C [.int p1] [] (z_KX.zero hT) (s_X9_isTruck a p1) mt_X9_isTruck zc_9 dX9_truck_7 ml_X9_280 im_X9_isTruck se_X9_isTruck rfl rfl rfl (Nat.le_of_ble_eq_true rfl) ⟨Nat.le_of_ble_eq_true rfl, Nat.le_of_ble_eq_true rfl⟩ (fun r1 => ?_)
  refine r_if_ne (pc := 10) C (tgt := 19) dX9_truck_10 rfl (fun _ => ?_) (fun _ => ?_)
  · refine r_aload_n (pc := 13) C dX9_truck_13 rfl rfl ?_
    refine r_iconst (pc := 14) C dX9_truck_14 ki_1 ?_
    refine r_cVI (pc := 15) C [.int 1] [] (z_KX.zero hT) (s_X9_fail a 1) mt_X9_fail zc_9 dX9_truck_15 ml_X9_222 im_X9_fail se_X9_fail rfl rfl rfl (Nat.le_of_ble_eq_true rfl) ⟨Nat.le_of_ble_eq_true rfl, Nat.le_of_ble_eq_true rfl⟩ (fun r10 => ?_)
    exact r_iret (pc := 18) C dX9_truck_18
  · refine r_iload_n (pc := 19) C dX9_truck_19 rfl rfl ?_
    refine r_ite (fun h20_0 => ?_) (fun h20_0 => ?_)
    · refine r_tin (pc := 20) C (k := 0) (off := 40) (tgt := 60) dX9_truck_20 h20_0 (by decide) rfl ?_
      refine r_aload_n (pc := 60) C dX9_truck_60 rfl rfl ?_
      refine r_iload_n (pc := 61) C dX9_truck_61 rfl rfl ?_
      refine r_iconst (pc := 62) C dX9_truck_62 ki_0 ?_
      refine r_cVI (pc := 63) C [.int p1, .int 0] [] (z_KX.zero hT) (s_X9_of a p1 0) mt_X9_of zc_9 dX9_truck_63 ml_X9_243 im_X9_of se_X9_of rfl rfl rfl (Nat.le_of_ble_eq_true rfl) ⟨Nat.le_of_ble_eq_true rfl, Nat.le_of_ble_eq_true rfl⟩ (fun r2 => ?_)
      exact r_iret (pc := 66) C dX9_truck_66
    · refine r_ite (fun h20_1 => ?_) (fun h20_1 => ?_)
      · refine r_tin (pc := 20) C (k := 1) (off := 47) (tgt := 67) dX9_truck_20 h20_1 (by decide) rfl ?_
        refine r_aload_n (pc := 67) C dX9_truck_67 rfl rfl ?_
        refine r_iload_n (pc := 68) C dX9_truck_68 rfl rfl ?_
        refine r_iconst (pc := 69) C dX9_truck_69 ki_1 ?_
        refine r_cVI (pc := 70) C [.int p1, .int 1] [] (z_KX.zero hT) (s_X9_of a p1 1) mt_X9_of zc_9 dX9_truck_70 ml_X9_243 im_X9_of se_X9_of rfl rfl rfl (Nat.le_of_ble_eq_true rfl) ⟨Nat.le_of_ble_eq_true rfl, Nat.le_of_ble_eq_true rfl⟩ (fun r3 => ?_)
        exact r_iret (pc := 73) C dX9_truck_73
      · refine r_ite (fun h20_2 => ?_) (fun h20_2 => ?_)
        · refine r_tin (pc := 20) C (k := 2) (off := 54) (tgt := 74) dX9_truck_20 h20_2 (by decide) rfl ?_
          refine r_aload_n (pc := 74) C dX9_truck_74 rfl rfl ?_
          refine r_iload_n (pc := 75) C dX9_truck_75 rfl rfl ?_
          refine r_iconst (pc := 76) C dX9_truck_76 ki_2 ?_
          refine r_cVI (pc := 77) C [.int p1, .int 2] [] (z_KX.zero hT) (s_X9_of a p1 2) mt_X9_of zc_9 dX9_truck_77 ml_X9_243 im_X9_of se_X9_of rfl rfl rfl (Nat.le_of_ble_eq_true rfl) ⟨Nat.le_of_ble_eq_true rfl, Nat.le_of_ble_eq_true rfl⟩ (fun r4 => ?_)
          exact r_iret (pc := 80) C dX9_truck_80
        · refine r_ite (fun h20_3 => ?_) (fun h20_3 => ?_)
          · refine r_tin (pc := 20) C (k := 3) (off := 61) (tgt := 81) dX9_truck_20 h20_3 (by decide) rfl ?_
            refine r_aload_n (pc := 81) C dX9_truck_81 rfl rfl ?_
            refine r_iload_n (pc := 82) C dX9_truck_82 rfl rfl ?_
            refine r_iconst (pc := 83) C dX9_truck_83 ki_4 ?_
            refine r_cVI (pc := 84) C [.int p1, .int 4] [] (z_KX.zero hT) (s_X9_of a p1 4) mt_X9_of zc_9 dX9_truck_84 ml_X9_243 im_X9_of se_X9_of rfl rfl rfl (Nat.le_of_ble_eq_true rfl) ⟨Nat.le_of_ble_eq_true rfl, Nat.le_of_ble_eq_true rfl⟩ (fun r5 => ?_)
            exact r_iret (pc := 87) C dX9_truck_87
          · refine r_ite (fun h20_4 => ?_) (fun h20_4 => ?_)
            · refine r_tin (pc := 20) C (k := 4) (off := 68) (tgt := 88) dX9_truck_20 h20_4 (by decide) rfl ?_
              refine r_aload_n (pc := 88) C dX9_truck_88 rfl rfl ?_
              refine r_getA (pc := 89) C dX9_truck_89 fl_X9_17 rfl (fun v6 => ?_)
              refine r_bipush (pc := 92) C dX9_truck_92 kb_45 ?_
              refine r_iload_n (pc := 94) C dX9_truck_94 rfl rfl ?_
              refine r_iadd (pc := 95) C dX9_truck_95 ?_
              refine r_iald (pc := 96) C dX9_truck_96 (fun v7 => ?_)
              exact r_iret (pc := 97) C dX9_truck_97
            · refine r_ite (fun h20_5 => ?_) (fun h20_5 => ?_)
              · refine r_tin (pc := 20) C (k := 5) (off := 78) (tgt := 98) dX9_truck_20 h20_5 (by decide) rfl ?_
                refine r_aload_n (pc := 98) C dX9_truck_98 rfl rfl ?_
                refine r_iload_n (pc := 99) C dX9_truck_99 rfl rfl ?_
                refine r_iconst (pc := 100) C dX9_truck_100 ki_5 ?_
                refine r_cVI (pc := 101) C [.int p1, .int 5] [] (z_KX.zero hT) (s_X9_of a p1 5) mt_X9_of zc_9 dX9_truck_101 ml_X9_243 im_X9_of se_X9_of rfl rfl rfl (Nat.le_of_ble_eq_true rfl) ⟨Nat.le_of_ble_eq_true rfl, Nat.le_of_ble_eq_true rfl⟩ (fun r8 => ?_)
                exact r_iret (pc := 104) C dX9_truck_104
              · refine r_tout (pc := 20) C (tgt := 105) dX9_truck_20 (by have q0 := lv_neT h20_0 (a := 0) (by decide); have q1 := lv_neT h20_1 (a := 1) (by decide); have q2 := lv_neT h20_2 (a := 2) (by decide); have q3 := lv_neT h20_3 (a := 3) (by decide); have q4 := lv_neT h20_4 (a := 4) (by decide); have q5 := lv_neT h20_5 (a := 5) (by decide); omega) rfl ?_
                refine r_aload_n (pc := 105) C dX9_truck_105 rfl rfl ?_
                refine r_iconst (pc := 106) C dX9_truck_106 ki_2 ?_
                refine r_cVI (pc := 107) C [.int 2] [] (z_KX.zero hT) (s_X9_fail a 2) mt_X9_fail zc_9 dX9_truck_107 ml_X9_222 im_X9_fail se_X9_fail rfl rfl rfl (Nat.le_of_ble_eq_true rfl) ⟨Nat.le_of_ble_eq_true rfl, Nat.le_of_ble_eq_true rfl⟩ (fun r9 => ?_)
                exact r_iret (pc := 110) C dX9_truck_110
noncomputable def p_X9_least (p1 : Int32) (p2 : Int32) (p3 : Int32) : zP Int32 := (if p2 ≤ p1 then (if p3 ≤ p2 then (z_pu p3) else (z_pu p2)) else (if p3 ≤ p1 then (z_pu p3) else (z_pu p1)))
set_option maxHeartbeats 4000000 in
set_option maxRecDepth 100000 in
theorem s_X9_least (p1 : Int32) (p2 : Int32) (p3 : Int32) : z_Sound yX9_least cX9_least 3 (some .int) 1 20 (fun D b => [.int p1, .int p2, .int p3]) z_ivI (p_X9_least p1 p2 p3) := by
  refine z_ofSim rfl (by intro D b; exact Nat.le_of_ble_eq_true rfl) (fun X C hT => ?_)
  unfold p_X9_least
  refine r_sub [(0, .int p1), (1, .int p2), (2, .int p3)] rfl ?_
  refine r_iload_n (pc := 0) C dX9_least_0 rfl rfl ?_
  refine r_iload_n (pc := 1) C dX9_least_1 rfl rfl ?_
  refine r_icmp_ge (pc := 2) C (tgt := 18) dX9_least_2 rfl (fun _ => ?_) (fun _ => ?_)
  · refine r_iload_n (pc := 18) C dX9_least_18 rfl rfl ?_
    refine r_iload_n (pc := 19) C dX9_least_19 rfl rfl ?_
    refine r_icmp_ge (pc := 20) C (tgt := 27) dX9_least_20 rfl (fun _ => ?_) (fun _ => ?_)
    · refine r_iload_n (pc := 27) C dX9_least_27 rfl rfl ?_
      exact r_iret (pc := 28) C dX9_least_28
    · refine r_iload_n (pc := 23) C dX9_least_23 rfl rfl ?_
      refine r_goto (pc := 24) C (tgt := 28) dX9_least_24 rfl ?_
      exact r_iret (pc := 28) C dX9_least_28
  · refine r_iload_n (pc := 5) C dX9_least_5 rfl rfl ?_
    refine r_iload_n (pc := 6) C dX9_least_6 rfl rfl ?_
    refine r_icmp_ge (pc := 7) C (tgt := 14) dX9_least_7 rfl (fun _ => ?_) (fun _ => ?_)
    · refine r_iload_n (pc := 14) C dX9_least_14 rfl rfl ?_
      refine r_goto (pc := 15) C (tgt := 28) dX9_least_15 rfl ?_
      exact r_iret (pc := 28) C dX9_least_28
    · refine r_iload_n (pc := 10) C dX9_least_10 rfl rfl ?_
      refine r_goto (pc := 11) C (tgt := 28) dX9_least_11 rfl ?_
      exact r_iret (pc := 28) C dX9_least_28
noncomputable def p_X9_carryOut (a : Nat) (p1 : Int32) (p2 : Int32) (p3 : Int32) : zP Unit := (z_bd (z_gA 9 a 19) (fun v1 => (z_bd (z_aI 11 v1 (6 + p2)) (fun v2 => (z_bd (z_pu ((p3 - v2))) (fun x3 => (z_jn (τ := Int32) (if x3 ≤ 0 then (z_bd (z_gA 9 a 11) (fun v5 => (z_bd (z_aI 11 v5 (45 + p1)) (fun v6 => (z_bd (z_cv 9 a (p_X9_of a p1 4)) (fun r7 => (z_bd (p_X9_least (-x3) (v6 - r7) (-x3)) (fun r8 => (z_pu (.inl ((-r8)))))))))))) else (z_bd (z_cv 9 a (p_X9_of a p1 4)) (fun r9 => (z_bd (z_cv 9 a (p_X9_free a p2)) (fun r10 => (z_bd (p_X9_least x3 r9 r10) (fun r11 => (z_pu (.inl r11))))))))) (fun t4 => (z_bd (z_gA 9 a 19) (fun v12 => (z_bd (z_aI 11 v12 (6 + p2)) (fun v13 => (z_bd (z_sI 11 v12 (6 + p2) (v13 + t4)) (fun _ => (z_bd (z_cv 9 a (p_X9_of a p1 4)) (fun r14 => (z_bd (z_cv 9 a (p_X9_put a p1 4 (r14 - t4))) (fun _ => (z_pu ())))))))))))))))))))
set_option maxHeartbeats 4000000 in
set_option maxRecDepth 100000 in
theorem s_X9_carryOut (a : Nat) (p1 : Int32) (p2 : Int32) (p3 : Int32) : z_Sound yX9_carryOut cX9_carryOut 6 none 3 62 (fun D b => [.ref (b + a), .int p1, .int p2, .int p3]) z_ivV (p_X9_carryOut a p1 p2 p3) := by
  refine z_ofSim rfl (by intro D b; exact Nat.le_of_ble_eq_true rfl) (fun X C hT => ?_)
  unfold p_X9_carryOut
  refine r_sub [(0, .ref (x_b X + a)), (1, .int p1), (2, .int p2), (3, .int p3)] rfl ?_
  refine r_iload_n (pc := 0) C dX9_carryOut_0 rfl rfl ?_
  refine r_aload_n (pc := 1) C dX9_carryOut_1 rfl rfl ?_
  refine r_getA (pc := 2) C dX9_carryOut_2 fl_X9_32 rfl (fun v1 => ?_)
  refine r_bipush (pc := 5) C dX9_carryOut_5 kb_6 ?_
  refine r_iload_n (pc := 7) C dX9_carryOut_7 rfl rfl ?_
  refine r_iadd (pc := 8) C dX9_carryOut_8 ?_
  refine r_iald (pc := 9) C dX9_carryOut_9 (fun v2 => ?_)
  refine r_isub (pc := 10) C dX9_carryOut_10 ?_
  refine r_sti (pc := 11) C [(0, .ref (x_b X + a)), (1, .int p1), (2, .int p2), (4, .int (p3 - v2))] dX9_carryOut_11 (by decide) rfl ?_
  refine r_let ((p3 - v2)) (fun x3 => [(0, .ref (x_b X + a)), (1, .int p1), (2, .int p2), (4, .int x3)]) (fun x3 => []) (fun x3 => ?_)
  refine r_iload (pc := 13) C dX9_carryOut_13 rfl ?_
  refine r_jn 63 (fun (t4 : Int32) => [(0, .ref (x_b X + a)), (1, .int p1), (2, .int p2)]) (fun (t4 : Int32) => [.int t4]) (fun t4 => ?_) ?_
  · refine r_sti (pc := 63) C [(0, .ref (x_b X + a)), (1, .int p1), (2, .int p2), (5, .int t4)] dX9_carryOut_63 (by decide) rfl ?_
    refine r_aload_n (pc := 65) C dX9_carryOut_65 rfl rfl ?_
    refine r_getA (pc := 66) C dX9_carryOut_66 fl_X9_32 rfl (fun v12 => ?_)
    refine r_bipush (pc := 69) C dX9_carryOut_69 kb_6 ?_
    refine r_iload_n (pc := 71) C dX9_carryOut_71 rfl rfl ?_
    refine r_iadd (pc := 72) C dX9_carryOut_72 ?_
    refine r_dup2 (pc := 73) C dX9_carryOut_73 rfl rfl ?_
    refine r_iald (pc := 74) C dX9_carryOut_74 (fun v13 => ?_)
    refine r_iload (pc := 75) C dX9_carryOut_75 rfl ?_
    refine r_iadd (pc := 77) C dX9_carryOut_77 ?_
    refine r_iast (pc := 78) C dX9_carryOut_78 ?_
    refine r_aload_n (pc := 79) C dX9_carryOut_79 rfl rfl ?_
    refine r_iload_n (pc := 80) C dX9_carryOut_80 rfl rfl ?_
    refine r_iconst (pc := 81) C dX9_carryOut_81 ki_4 ?_
    refine r_aload_n (pc := 82) C dX9_carryOut_82 rfl rfl ?_
    refine r_iload_n (pc := 83) C dX9_carryOut_83 rfl rfl ?_
    refine r_iconst (pc := 84) C dX9_carryOut_84 ki_4 ?_
    refine r_cVI (pc := 85) C [.int p1, .int 4] [.int 4, .int p1, .ref (x_b X + a)] (z_KX.zero hT) (s_X9_of a p1 4) mt_X9_of zc_9 dX9_carryOut_85 ml_X9_243 im_X9_of se_X9_of rfl rfl rfl (Nat.le_of_ble_eq_true rfl) ⟨Nat.le_of_ble_eq_true rfl, Nat.le_of_ble_eq_true rfl⟩ (fun r14 => ?_)
    refine r_iload (pc := 88) C dX9_carryOut_88 rfl ?_
    refine r_isub (pc := 90) C dX9_carryOut_90 ?_
    refine r_cVV (pc := 91) C [.int p1, .int 4, .int (r14 - t4)] [] (z_KX.zero hT) (s_X9_put a p1 4 (r14 - t4)) mt_X9_put zc_9 dX9_carryOut_91 ml_X9_132 im_X9_put se_X9_put rfl rfl rfl (Nat.le_of_ble_eq_true rfl) ⟨Nat.le_of_ble_eq_true rfl, Nat.le_of_ble_eq_true rfl⟩ ?_
    exact r_vret (pc := 94) C dX9_carryOut_94
  · refine r_if_le (pc := 15) C (tgt := 37) dX9_carryOut_15 rfl (fun _ => ?_) (fun _ => ?_)
    · refine r_iload (pc := 37) C dX9_carryOut_37 rfl ?_
      refine r_ineg (pc := 39) C dX9_carryOut_39 ?_
      refine r_aload_n (pc := 40) C dX9_carryOut_40 rfl rfl ?_
      refine r_getA (pc := 41) C dX9_carryOut_41 fl_X9_17 rfl (fun v5 => ?_)
      refine r_bipush (pc := 44) C dX9_carryOut_44 kb_45 ?_
      refine r_iload_n (pc := 46) C dX9_carryOut_46 rfl rfl ?_
      refine r_iadd (pc := 47) C dX9_carryOut_47 ?_
      refine r_iald (pc := 48) C dX9_carryOut_48 (fun v6 => ?_)
      refine r_aload_n (pc := 49) C dX9_carryOut_49 rfl rfl ?_
      refine r_iload_n (pc := 50) C dX9_carryOut_50 rfl rfl ?_
      refine r_iconst (pc := 51) C dX9_carryOut_51 ki_4 ?_
      refine r_cVI (pc := 52) C [.int p1, .int 4] [.int v6, .int (-x3)] (z_KX.up (z_KX.zero hT)) (s_X9_of a p1 4) mt_X9_of zc_9 dX9_carryOut_52 ml_X9_243 im_X9_of se_X9_of rfl rfl rfl (Nat.le_of_ble_eq_true rfl) ⟨Nat.le_of_ble_eq_true rfl, Nat.le_of_ble_eq_true rfl⟩ (fun r7 => ?_)
      refine r_isub (pc := 55) C dX9_carryOut_55 ?_
      refine r_iload (pc := 56) C dX9_carryOut_56 rfl ?_
      refine r_ineg (pc := 58) C dX9_carryOut_58 ?_
      refine r_cSI (pc := 59) C [.int (-x3), .int (v6 - r7), .int (-x3)] [] (z_KX.up (z_KX.zero hT)) (s_X9_least (-x3) (v6 - r7) (-x3)) mt_X9_least dX9_carryOut_59 ml_X9_283 sm_X9_least rfl rfl rfl (Nat.le_of_ble_eq_true rfl) ⟨Nat.le_of_ble_eq_true rfl, Nat.le_of_ble_eq_true rfl⟩ (fun r8 => ?_)
      refine r_ineg (pc := 62) C dX9_carryOut_62 ?_
      refine r_sub [(0, .ref (x_b X + a)), (1, .int p1), (2, .int p2)] rfl ?_
      exact r_br (τ := Int32) ((-r8))
    · refine r_iload (pc := 18) C dX9_carryOut_18 rfl ?_
      refine r_aload_n (pc := 20) C dX9_carryOut_20 rfl rfl ?_
      refine r_iload_n (pc := 21) C dX9_carryOut_21 rfl rfl ?_
      refine r_iconst (pc := 22) C dX9_carryOut_22 ki_4 ?_
      refine r_cVI (pc := 23) C [.int p1, .int 4] [.int x3] (z_KX.up (z_KX.zero hT)) (s_X9_of a p1 4) mt_X9_of zc_9 dX9_carryOut_23 ml_X9_243 im_X9_of se_X9_of rfl rfl rfl (Nat.le_of_ble_eq_true rfl) ⟨Nat.le_of_ble_eq_true rfl, Nat.le_of_ble_eq_true rfl⟩ (fun r9 => ?_)
      refine r_aload_n (pc := 26) C dX9_carryOut_26 rfl rfl ?_
      refine r_iload_n (pc := 27) C dX9_carryOut_27 rfl rfl ?_
      refine r_cVI (pc := 28) C [.int p2] [.int r9, .int x3] (z_KX.up (z_KX.zero hT)) (s_X9_free a p2) mt_X9_free zc_9 dX9_carryOut_28 ml_X9_215 im_X9_free se_X9_free rfl rfl rfl (Nat.le_of_ble_eq_true rfl) ⟨Nat.le_of_ble_eq_true rfl, Nat.le_of_ble_eq_true rfl⟩ (fun r10 => ?_)
      refine r_cSI (pc := 31) C [.int x3, .int r9, .int r10] [] (z_KX.up (z_KX.zero hT)) (s_X9_least x3 r9 r10) mt_X9_least dX9_carryOut_31 ml_X9_283 sm_X9_least rfl rfl rfl (Nat.le_of_ble_eq_true rfl) ⟨Nat.le_of_ble_eq_true rfl, Nat.le_of_ble_eq_true rfl⟩ (fun r11 => ?_)
      refine r_goto (pc := 34) C (tgt := 63) dX9_carryOut_34 rfl ?_
      refine r_sub [(0, .ref (x_b X + a)), (1, .int p1), (2, .int p2)] rfl ?_
      exact r_br (τ := Int32) r11
noncomputable def p_X9_goOn (a : Nat) (p1 : Int32) : zP Unit := (z_lp (fun (t1 : Unit) => (z_bd (z_cv 9 a (p_X9_of a p1 0)) (fun r2 => (if r2 < 0 then (z_pu (.inr ())) else (z_bd (z_cv 9 a (p_X9_of a p1 5)) (fun r3 => (if r3 ≤ 0 then (z_pu (.inr ())) else (z_bd (z_cv 9 a (p_X9_of a p1 6)) (fun r4 => (z_bd (z_cv 9 a (p_X9_of a p1 7)) (fun r5 => (z_bd (z_cv 9 a (p_X9_of a p1 5)) (fun r6 => (z_bd (z_cv 9 a (p_X9_put a p1 5 (r6 - 1))) (fun _ => (z_jn (τ := Unit) (z_lp (fun (t9 : Int32) => (z_bd (z_cv 9 a (p_X9_of a p1 5)) (fun r10 => (if (6 + (2 * r10)) ≤ t9 then (z_pu (.inr (.inl ()))) else (z_bd (z_cv 9 a (p_X9_of a p1 (t9 + 2))) (fun r11 => (z_bd (z_cv 9 a (p_X9_put a p1 t9 r11)) (fun _ => (z_pu (.inl ((t9 + 1)))))))))))) 6) (fun t8 => (z_bd (z_cv 9 a (p_X9_of a p1 0)) (fun r13 => (if r4 = r13 then (z_bd (z_cv 9 a (p_X9_carryOut a p1 r4 r5)) (fun _ => (z_pu (.inl ())))) else (z_bd (z_cv 9 a (p_X9_put a p1 1 r4)) (fun _ => (z_bd (z_gA 9 a 19) (fun v15 => (z_bd (z_aI 11 v15 0) (fun v16 => (z_bd (z_cv 9 a (p_X9_of a p1 0)) (fun r17 => (z_bd (z_cv 9 a (p_X9_drive a r17 r4)) (fun r18 => (z_bd (z_cv 9 a (p_X9_put a p1 2 (v16 + r18))) (fun _ => (z_bd (z_cv 9 a (p_X9_put a p1 3 r5)) (fun _ => (z_bd (z_cv 9 a (p_X9_put a p1 0 (-1))) (fun _ => (z_pu (.inl ())))))))))))))))))))))))))))))))))))))) ())
set_option maxHeartbeats 4000000 in
set_option maxRecDepth 100000 in
theorem s_X9_goOn (a : Nat) (p1 : Int32) : z_Sound yX9_goOn cX9_goOn 5 none 4 87 (fun D b => [.ref (b + a), .int p1]) z_ivV (p_X9_goOn a p1) := by
  refine z_ofSim rfl (by intro D b; exact Nat.le_of_ble_eq_true rfl) (fun X C hT => ?_)
  unfold p_X9_goOn
  refine r_sub [(0, .ref (x_b X + a)), (1, .int p1)] rfl ?_
  refine r_sub [(0, .ref (x_b X + a)), (1, .int p1)] rfl ?_
  refine r_lp (pc := 0) (fun (t1 : Unit) => [(0, .ref (x_b X + a)), (1, .int p1)]) (fun t1 => ?_) ()
  refine r_aload_n (pc := 0) C dX9_goOn_0 rfl rfl ?_
  refine r_iload_n (pc := 1) C dX9_goOn_1 rfl rfl ?_
  refine r_iconst (pc := 2) C dX9_goOn_2 ki_0 ?_
  refine r_cVI (pc := 3) C [.int p1, .int 0] [] (z_KX.up (z_KX.zero hT)) (s_X9_of a p1 0) mt_X9_of zc_9 dX9_goOn_3 ml_X9_243 im_X9_of se_X9_of rfl rfl rfl (Nat.le_of_ble_eq_true rfl) ⟨Nat.le_of_ble_eq_true rfl, Nat.le_of_ble_eq_true rfl⟩ (fun r2 => ?_)
  refine r_if_lt (pc := 6) C (tgt := 158) dX9_goOn_6 rfl (fun _ => ?_) (fun _ => ?_)
  · exact r_up (r_vret (pc := 158) C dX9_goOn_158)
  · refine r_aload_n (pc := 9) C dX9_goOn_9 rfl rfl ?_
    refine r_iload_n (pc := 10) C dX9_goOn_10 rfl rfl ?_
    refine r_iconst (pc := 11) C dX9_goOn_11 ki_5 ?_
    refine r_cVI (pc := 12) C [.int p1, .int 5] [] (z_KX.up (z_KX.zero hT)) (s_X9_of a p1 5) mt_X9_of zc_9 dX9_goOn_12 ml_X9_243 im_X9_of se_X9_of rfl rfl rfl (Nat.le_of_ble_eq_true rfl) ⟨Nat.le_of_ble_eq_true rfl, Nat.le_of_ble_eq_true rfl⟩ (fun r3 => ?_)
    refine r_if_le (pc := 15) C (tgt := 158) dX9_goOn_15 rfl (fun _ => ?_) (fun _ => ?_)
    · exact r_up (r_vret (pc := 158) C dX9_goOn_158)
    · refine r_aload_n (pc := 18) C dX9_goOn_18 rfl rfl ?_
      refine r_iload_n (pc := 19) C dX9_goOn_19 rfl rfl ?_
      refine r_bipush (pc := 20) C dX9_goOn_20 kb_6 ?_
      refine r_cVI (pc := 22) C [.int p1, .int 6] [] (z_KX.up (z_KX.zero hT)) (s_X9_of a p1 6) mt_X9_of zc_9 dX9_goOn_22 ml_X9_243 im_X9_of se_X9_of rfl rfl rfl (Nat.le_of_ble_eq_true rfl) ⟨Nat.le_of_ble_eq_true rfl, Nat.le_of_ble_eq_true rfl⟩ (fun r4 => ?_)
      refine r_sti_n (pc := 25) C 2 [(0, .ref (x_b X + a)), (1, .int p1), (2, .int r4)] dX9_goOn_25 rfl (by decide) rfl ?_
      refine r_aload_n (pc := 26) C dX9_goOn_26 rfl rfl ?_
      refine r_iload_n (pc := 27) C dX9_goOn_27 rfl rfl ?_
      refine r_bipush (pc := 28) C dX9_goOn_28 kb_7 ?_
      refine r_cVI (pc := 30) C [.int p1, .int 7] [] (z_KX.up (z_KX.zero hT)) (s_X9_of a p1 7) mt_X9_of zc_9 dX9_goOn_30 ml_X9_243 im_X9_of se_X9_of rfl rfl rfl (Nat.le_of_ble_eq_true rfl) ⟨Nat.le_of_ble_eq_true rfl, Nat.le_of_ble_eq_true rfl⟩ (fun r5 => ?_)
      refine r_sti_n (pc := 33) C 3 [(0, .ref (x_b X + a)), (1, .int p1), (2, .int r4), (3, .int r5)] dX9_goOn_33 rfl (by decide) rfl ?_
      refine r_aload_n (pc := 34) C dX9_goOn_34 rfl rfl ?_
      refine r_iload_n (pc := 35) C dX9_goOn_35 rfl rfl ?_
      refine r_iconst (pc := 36) C dX9_goOn_36 ki_5 ?_
      refine r_aload_n (pc := 37) C dX9_goOn_37 rfl rfl ?_
      refine r_iload_n (pc := 38) C dX9_goOn_38 rfl rfl ?_
      refine r_iconst (pc := 39) C dX9_goOn_39 ki_5 ?_
      refine r_cVI (pc := 40) C [.int p1, .int 5] [.int 5, .int p1, .ref (x_b X + a)] (z_KX.up (z_KX.zero hT)) (s_X9_of a p1 5) mt_X9_of zc_9 dX9_goOn_40 ml_X9_243 im_X9_of se_X9_of rfl rfl rfl (Nat.le_of_ble_eq_true rfl) ⟨Nat.le_of_ble_eq_true rfl, Nat.le_of_ble_eq_true rfl⟩ (fun r6 => ?_)
      refine r_iconst (pc := 43) C dX9_goOn_43 ki_1 ?_
      refine r_isub (pc := 44) C dX9_goOn_44 ?_
      refine r_cVV (pc := 45) C [.int p1, .int 5, .int (r6 - 1)] [] (z_KX.up (z_KX.zero hT)) (s_X9_put a p1 5 (r6 - 1)) mt_X9_put zc_9 dX9_goOn_45 ml_X9_132 im_X9_put se_X9_put rfl rfl rfl (Nat.le_of_ble_eq_true rfl) ⟨Nat.le_of_ble_eq_true rfl, Nat.le_of_ble_eq_true rfl⟩ ?_
      refine r_bipush (pc := 48) C dX9_goOn_48 kb_6 ?_
      refine r_sti (pc := 50) C [(0, .ref (x_b X + a)), (1, .int p1), (2, .int r4), (3, .int r5), (4, .int 6)] dX9_goOn_50 (by decide) rfl ?_
      refine r_jn 90 (fun (t8 : Unit) => [(0, .ref (x_b X + a)), (1, .int p1), (2, .int r4), (3, .int r5)]) (fun (t8 : Unit) => []) (fun t8 => ?_) ?_
      · refine r_iload_n (pc := 90) C dX9_goOn_90 rfl rfl ?_
        refine r_aload_n (pc := 91) C dX9_goOn_91 rfl rfl ?_
        refine r_iload_n (pc := 92) C dX9_goOn_92 rfl rfl ?_
        refine r_iconst (pc := 93) C dX9_goOn_93 ki_0 ?_
        refine r_cVI (pc := 94) C [.int p1, .int 0] [.int r4] (z_KX.up (z_KX.zero hT)) (s_X9_of a p1 0) mt_X9_of zc_9 dX9_goOn_94 ml_X9_243 im_X9_of se_X9_of rfl rfl rfl (Nat.le_of_ble_eq_true rfl) ⟨Nat.le_of_ble_eq_true rfl, Nat.le_of_ble_eq_true rfl⟩ (fun r13 => ?_)
        refine r_icmp_ne (pc := 97) C (tgt := 110) dX9_goOn_97 rfl (fun _ => ?_) (fun _ => ?_)
        · refine r_aload_n (pc := 100) C dX9_goOn_100 rfl rfl ?_
          refine r_iload_n (pc := 101) C dX9_goOn_101 rfl rfl ?_
          refine r_iload_n (pc := 102) C dX9_goOn_102 rfl rfl ?_
          refine r_iload_n (pc := 103) C dX9_goOn_103 rfl rfl ?_
          refine r_cVV (pc := 104) C [.int p1, .int r4, .int r5] [] (z_KX.up (z_KX.zero hT)) (s_X9_carryOut a p1 r4 r5) mt_X9_carryOut zc_9 dX9_goOn_104 ml_X9_286 im_X9_carryOut se_X9_carryOut rfl rfl rfl (Nat.le_of_ble_eq_true rfl) ⟨Nat.le_of_ble_eq_true rfl, Nat.le_of_ble_eq_true rfl⟩ ?_
          refine r_goto (pc := 107) C (tgt := 0) dX9_goOn_107 rfl ?_
          refine r_sub [(0, .ref (x_b X + a)), (1, .int p1)] rfl ?_
          exact r_br (τ := Unit) ()
        · refine r_aload_n (pc := 110) C dX9_goOn_110 rfl rfl ?_
          refine r_iload_n (pc := 111) C dX9_goOn_111 rfl rfl ?_
          refine r_iconst (pc := 112) C dX9_goOn_112 ki_1 ?_
          refine r_iload_n (pc := 113) C dX9_goOn_113 rfl rfl ?_
          refine r_cVV (pc := 114) C [.int p1, .int 1, .int r4] [] (z_KX.up (z_KX.zero hT)) (s_X9_put a p1 1 r4) mt_X9_put zc_9 dX9_goOn_114 ml_X9_132 im_X9_put se_X9_put rfl rfl rfl (Nat.le_of_ble_eq_true rfl) ⟨Nat.le_of_ble_eq_true rfl, Nat.le_of_ble_eq_true rfl⟩ ?_
          refine r_aload_n (pc := 117) C dX9_goOn_117 rfl rfl ?_
          refine r_iload_n (pc := 118) C dX9_goOn_118 rfl rfl ?_
          refine r_iconst (pc := 119) C dX9_goOn_119 ki_2 ?_
          refine r_aload_n (pc := 120) C dX9_goOn_120 rfl rfl ?_
          refine r_getA (pc := 121) C dX9_goOn_121 fl_X9_32 rfl (fun v15 => ?_)
          refine r_iconst (pc := 124) C dX9_goOn_124 ki_0 ?_
          refine r_iald (pc := 125) C dX9_goOn_125 (fun v16 => ?_)
          refine r_aload_n (pc := 126) C dX9_goOn_126 rfl rfl ?_
          refine r_aload_n (pc := 127) C dX9_goOn_127 rfl rfl ?_
          refine r_iload_n (pc := 128) C dX9_goOn_128 rfl rfl ?_
          refine r_iconst (pc := 129) C dX9_goOn_129 ki_0 ?_
          refine r_cVI (pc := 130) C [.int p1, .int 0] [.ref (x_b X + a), .int v16, .int 2, .int p1, .ref (x_b X + a)] (z_KX.up (z_KX.zero hT)) (s_X9_of a p1 0) mt_X9_of zc_9 dX9_goOn_130 ml_X9_243 im_X9_of se_X9_of rfl rfl rfl (Nat.le_of_ble_eq_true rfl) ⟨Nat.le_of_ble_eq_true rfl, Nat.le_of_ble_eq_true rfl⟩ (fun r17 => ?_)
          refine r_iload_n (pc := 133) C dX9_goOn_133 rfl rfl ?_
          refine r_cVI (pc := 134) C [.int r17, .int r4] [.int v16, .int 2, .int p1, .ref (x_b X + a)] (z_KX.up (z_KX.zero hT)) (s_X9_drive a r17 r4) mt_X9_drive zc_9 dX9_goOn_134 ml_X9_289 im_X9_drive se_X9_drive rfl rfl rfl (Nat.le_of_ble_eq_true rfl) ⟨Nat.le_of_ble_eq_true rfl, Nat.le_of_ble_eq_true rfl⟩ (fun r18 => ?_)
          refine r_iadd (pc := 137) C dX9_goOn_137 ?_
          refine r_cVV (pc := 138) C [.int p1, .int 2, .int (v16 + r18)] [] (z_KX.up (z_KX.zero hT)) (s_X9_put a p1 2 (v16 + r18)) mt_X9_put zc_9 dX9_goOn_138 ml_X9_132 im_X9_put se_X9_put rfl rfl rfl (Nat.le_of_ble_eq_true rfl) ⟨Nat.le_of_ble_eq_true rfl, Nat.le_of_ble_eq_true rfl⟩ ?_
          refine r_aload_n (pc := 141) C dX9_goOn_141 rfl rfl ?_
          refine r_iload_n (pc := 142) C dX9_goOn_142 rfl rfl ?_
          refine r_iconst (pc := 143) C dX9_goOn_143 ki_3 ?_
          refine r_iload_n (pc := 144) C dX9_goOn_144 rfl rfl ?_
          refine r_cVV (pc := 145) C [.int p1, .int 3, .int r5] [] (z_KX.up (z_KX.zero hT)) (s_X9_put a p1 3 r5) mt_X9_put zc_9 dX9_goOn_145 ml_X9_132 im_X9_put se_X9_put rfl rfl rfl (Nat.le_of_ble_eq_true rfl) ⟨Nat.le_of_ble_eq_true rfl, Nat.le_of_ble_eq_true rfl⟩ ?_
          refine r_aload_n (pc := 148) C dX9_goOn_148 rfl rfl ?_
          refine r_iload_n (pc := 149) C dX9_goOn_149 rfl rfl ?_
          refine r_iconst (pc := 150) C dX9_goOn_150 ki_0 ?_
          refine r_iconst (pc := 151) C dX9_goOn_151 ki_m1 ?_
          refine r_cVV (pc := 152) C [.int p1, .int 0, .int (-1)] [] (z_KX.up (z_KX.zero hT)) (s_X9_put a p1 0 (-1)) mt_X9_put zc_9 dX9_goOn_152 ml_X9_132 im_X9_put se_X9_put rfl rfl rfl (Nat.le_of_ble_eq_true rfl) ⟨Nat.le_of_ble_eq_true rfl, Nat.le_of_ble_eq_true rfl⟩ ?_
          refine r_goto (pc := 155) C (tgt := 0) dX9_goOn_155 rfl ?_
          refine r_sub [(0, .ref (x_b X + a)), (1, .int p1)] rfl ?_
          exact r_br (τ := Unit) ()
      · refine r_sub [(0, .ref (x_b X + a)), (1, .int p1), (2, .int r4), (3, .int r5), (4, .int 6)] rfl ?_
        refine r_lp (pc := 52) (fun (t9 : Int32) => [(0, .ref (x_b X + a)), (1, .int p1), (2, .int r4), (3, .int r5), (4, .int t9)]) (fun t9 => ?_) 6
        refine r_iload (pc := 52) C dX9_goOn_52 rfl ?_
        refine r_bipush (pc := 54) C dX9_goOn_54 kb_6 ?_
        refine r_iconst (pc := 56) C dX9_goOn_56 ki_2 ?_
        refine r_aload_n (pc := 57) C dX9_goOn_57 rfl rfl ?_
        refine r_iload_n (pc := 58) C dX9_goOn_58 rfl rfl ?_
        refine r_iconst (pc := 59) C dX9_goOn_59 ki_5 ?_
        refine r_cVI (pc := 60) C [.int p1, .int 5] [.int 2, .int 6, .int t9] (z_KX.up (z_KX.up (z_KX.up (z_KX.zero hT)))) (s_X9_of a p1 5) mt_X9_of zc_9 dX9_goOn_60 ml_X9_243 im_X9_of se_X9_of rfl rfl rfl (Nat.le_of_ble_eq_true rfl) ⟨Nat.le_of_ble_eq_true rfl, Nat.le_of_ble_eq_true rfl⟩ (fun r10 => ?_)
        refine r_imul (pc := 63) C dX9_goOn_63 ?_
        refine r_iadd (pc := 64) C dX9_goOn_64 ?_
        refine r_icmp_ge (pc := 65) C (tgt := 90) dX9_goOn_65 rfl (fun _ => ?_) (fun _ => ?_)
        · refine r_sub [(0, .ref (x_b X + a)), (1, .int p1), (2, .int r4), (3, .int r5)] rfl ?_
          exact r_up (r_br (τ := Unit) ())
        · refine r_aload_n (pc := 68) C dX9_goOn_68 rfl rfl ?_
          refine r_iload_n (pc := 69) C dX9_goOn_69 rfl rfl ?_
          refine r_iload (pc := 70) C dX9_goOn_70 rfl ?_
          refine r_aload_n (pc := 72) C dX9_goOn_72 rfl rfl ?_
          refine r_iload_n (pc := 73) C dX9_goOn_73 rfl rfl ?_
          refine r_iload (pc := 74) C dX9_goOn_74 rfl ?_
          refine r_iconst (pc := 76) C dX9_goOn_76 ki_2 ?_
          refine r_iadd (pc := 77) C dX9_goOn_77 ?_
          refine r_cVI (pc := 78) C [.int p1, .int (t9 + 2)] [.int t9, .int p1, .ref (x_b X + a)] (z_KX.up (z_KX.up (z_KX.up (z_KX.zero hT)))) (s_X9_of a p1 (t9 + 2)) mt_X9_of zc_9 dX9_goOn_78 ml_X9_243 im_X9_of se_X9_of rfl rfl rfl (Nat.le_of_ble_eq_true rfl) ⟨Nat.le_of_ble_eq_true rfl, Nat.le_of_ble_eq_true rfl⟩ (fun r11 => ?_)
          refine r_cVV (pc := 81) C [.int p1, .int t9, .int r11] [] (z_KX.up (z_KX.up (z_KX.up (z_KX.zero hT)))) (s_X9_put a p1 t9 r11) mt_X9_put zc_9 dX9_goOn_81 ml_X9_132 im_X9_put se_X9_put rfl rfl rfl (Nat.le_of_ble_eq_true rfl) ⟨Nat.le_of_ble_eq_true rfl, Nat.le_of_ble_eq_true rfl⟩ ?_
          refine r_inc (pc := 84) C 1 [(0, .ref (x_b X + a)), (1, .int p1), (2, .int r4), (3, .int r5), (4, .int (t9 + 1))] dX9_goOn_84 rfl ki_1 (by decide) rfl ?_
          refine r_goto (pc := 87) C (tgt := 52) dX9_goOn_87 rfl ?_
          refine r_sub [(0, .ref (x_b X + a)), (1, .int p1), (2, .int r4), (3, .int r5), (4, .int (t9 + 1))] rfl ?_
          exact r_br (τ := Int32) ((t9 + 1))
noncomputable def p_X9_arrive (a : Nat) (p1 : Int32) : zP Unit := (z_bd (z_cv 9 a (p_X9_of a p1 1)) (fun r1 => (z_bd (z_cv 9 a (p_X9_put a p1 0 r1)) (fun _ => (z_bd (z_cv 9 a (p_X9_put a p1 1 (-1))) (fun _ => (z_bd (z_cv 9 a (p_X9_put a p1 2 (-1))) (fun _ => (z_bd (z_cv 9 a (p_X9_of a p1 3)) (fun r5 => (z_bd (z_cv 9 a (p_X9_carryOut a p1 r1 r5)) (fun _ => (z_bd (z_cv 9 a (p_X9_goOn a p1)) (fun _ => (z_pu ())))))))))))))))
set_option maxHeartbeats 4000000 in
set_option maxRecDepth 100000 in
theorem s_X9_arrive (a : Nat) (p1 : Int32) : z_Sound yX9_arrive cX9_arrive 3 none 5 111 (fun D b => [.ref (b + a), .int p1]) z_ivV (p_X9_arrive a p1) := by
  refine z_ofSim rfl (by intro D b; exact Nat.le_of_ble_eq_true rfl) (fun X C hT => ?_)
  unfold p_X9_arrive
  refine r_sub [(0, .ref (x_b X + a)), (1, .int p1)] rfl ?_
  refine r_aload_n (pc := 0) C dX9_arrive_0 rfl rfl ?_
  refine r_iload_n (pc := 1) C dX9_arrive_1 rfl rfl ?_
  refine r_iconst (pc := 2) C dX9_arrive_2 ki_1 ?_
  refine r_cVI (pc := 3) C [.int p1, .int 1] [] (z_KX.zero hT) (s_X9_of a p1 1) mt_X9_of zc_9 dX9_arrive_3 ml_X9_243 im_X9_of se_X9_of rfl rfl rfl (Nat.le_of_ble_eq_true rfl) ⟨Nat.le_of_ble_eq_true rfl, Nat.le_of_ble_eq_true rfl⟩ (fun r1 => ?_)
  refine r_sti_n (pc := 6) C 2 [(0, .ref (x_b X + a)), (1, .int p1), (2, .int r1)] dX9_arrive_6 rfl (by decide) rfl ?_
  refine r_aload_n (pc := 7) C dX9_arrive_7 rfl rfl ?_
  refine r_iload_n (pc := 8) C dX9_arrive_8 rfl rfl ?_
  refine r_iconst (pc := 9) C dX9_arrive_9 ki_0 ?_
  refine r_iload_n (pc := 10) C dX9_arrive_10 rfl rfl ?_
  refine r_cVV (pc := 11) C [.int p1, .int 0, .int r1] [] (z_KX.zero hT) (s_X9_put a p1 0 r1) mt_X9_put zc_9 dX9_arrive_11 ml_X9_132 im_X9_put se_X9_put rfl rfl rfl (Nat.le_of_ble_eq_true rfl) ⟨Nat.le_of_ble_eq_true rfl, Nat.le_of_ble_eq_true rfl⟩ ?_
  refine r_aload_n (pc := 14) C dX9_arrive_14 rfl rfl ?_
  refine r_iload_n (pc := 15) C dX9_arrive_15 rfl rfl ?_
  refine r_iconst (pc := 16) C dX9_arrive_16 ki_1 ?_
  refine r_iconst (pc := 17) C dX9_arrive_17 ki_m1 ?_
  refine r_cVV (pc := 18) C [.int p1, .int 1, .int (-1)] [] (z_KX.zero hT) (s_X9_put a p1 1 (-1)) mt_X9_put zc_9 dX9_arrive_18 ml_X9_132 im_X9_put se_X9_put rfl rfl rfl (Nat.le_of_ble_eq_true rfl) ⟨Nat.le_of_ble_eq_true rfl, Nat.le_of_ble_eq_true rfl⟩ ?_
  refine r_aload_n (pc := 21) C dX9_arrive_21 rfl rfl ?_
  refine r_iload_n (pc := 22) C dX9_arrive_22 rfl rfl ?_
  refine r_iconst (pc := 23) C dX9_arrive_23 ki_2 ?_
  refine r_iconst (pc := 24) C dX9_arrive_24 ki_m1 ?_
  refine r_cVV (pc := 25) C [.int p1, .int 2, .int (-1)] [] (z_KX.zero hT) (s_X9_put a p1 2 (-1)) mt_X9_put zc_9 dX9_arrive_25 ml_X9_132 im_X9_put se_X9_put rfl rfl rfl (Nat.le_of_ble_eq_true rfl) ⟨Nat.le_of_ble_eq_true rfl, Nat.le_of_ble_eq_true rfl⟩ ?_
  refine r_aload_n (pc := 28) C dX9_arrive_28 rfl rfl ?_
  refine r_iload_n (pc := 29) C dX9_arrive_29 rfl rfl ?_
  refine r_iload_n (pc := 30) C dX9_arrive_30 rfl rfl ?_
  refine r_aload_n (pc := 31) C dX9_arrive_31 rfl rfl ?_
  refine r_iload_n (pc := 32) C dX9_arrive_32 rfl rfl ?_
  refine r_iconst (pc := 33) C dX9_arrive_33 ki_3 ?_
  refine r_cVI (pc := 34) C [.int p1, .int 3] [.int r1, .int p1, .ref (x_b X + a)] (z_KX.zero hT) (s_X9_of a p1 3) mt_X9_of zc_9 dX9_arrive_34 ml_X9_243 im_X9_of se_X9_of rfl rfl rfl (Nat.le_of_ble_eq_true rfl) ⟨Nat.le_of_ble_eq_true rfl, Nat.le_of_ble_eq_true rfl⟩ (fun r5 => ?_)
  refine r_cVV (pc := 37) C [.int p1, .int r1, .int r5] [] (z_KX.zero hT) (s_X9_carryOut a p1 r1 r5) mt_X9_carryOut zc_9 dX9_arrive_37 ml_X9_286 im_X9_carryOut se_X9_carryOut rfl rfl rfl (Nat.le_of_ble_eq_true rfl) ⟨Nat.le_of_ble_eq_true rfl, Nat.le_of_ble_eq_true rfl⟩ ?_
  refine r_aload_n (pc := 40) C dX9_arrive_40 rfl rfl ?_
  refine r_iload_n (pc := 41) C dX9_arrive_41 rfl rfl ?_
  refine r_cVV (pc := 42) C [.int p1] [] (z_KX.zero hT) (s_X9_goOn a p1) mt_X9_goOn zc_9 dX9_arrive_42 ml_X9_292 im_X9_goOn se_X9_goOn rfl rfl rfl (Nat.le_of_ble_eq_true rfl) ⟨Nat.le_of_ble_eq_true rfl, Nat.le_of_ble_eq_true rfl⟩ ?_
  exact r_vret (pc := 45) C dX9_arrive_45
noncomputable def p_X9_loadsBehind (a : Nat) (p1 : Int32) (p2 : Int32) (p3 : Int32) : zP Int32 := (z_bd (z_cv 9 a (p_X9_mark a p2)) (fun r1 => (z_jn (τ := Int32) (z_lp (fun (t3 : Int32 × Int32) => (z_bd (z_cv 9 a (p_X9_working a p2)) (fun r4 => (z_bd (z_cv 9 a (p_X9_mark a p2)) (fun r5 => (if (r4 - r5) < t3.2 then (z_pu (.inr (.inl t3.1))) else (z_bd (z_gA 9 a 19) (fun v6 => (z_bd (z_aI 11 v6 (6 + p2)) (fun v7 => (z_bd (z_pu ((v7 - t3.2))) (fun x8 => (z_jn (τ := Int32) (if x8 < 0 then (z_pu (.inl ((p1 >>> ((-x8) &&& 31))))) else (z_pu (.inl ((p1 <<< (x8 &&& 31)))))) (fun t9 => (z_bd (z_pu ((t3.1 ||| t9))) (fun x10 => (z_pu (.inl (x10, (t3.2 + 1)))))))))))))))))))) (0, r1)) (fun t2 => (z_pu (t2 &&& ((1 <<< ((p3 + 1) &&& 31)) - 1)))))))
set_option maxHeartbeats 4000000 in
set_option maxRecDepth 100000 in
theorem s_X9_loadsBehind (a : Nat) (p1 : Int32) (p2 : Int32) (p3 : Int32) : z_Sound yX9_loadsBehind cX9_loadsBehind 7 (some .int) 3 62 (fun D b => [.ref (b + a), .int p1, .int p2, .int p3]) z_ivI (p_X9_loadsBehind a p1 p2 p3) := by
  refine z_ofSim rfl (by intro D b; exact Nat.le_of_ble_eq_true rfl) (fun X C hT => ?_)
  unfold p_X9_loadsBehind
  refine r_sub [(0, .ref (x_b X + a)), (1, .int p1), (2, .int p2), (3, .int p3)] rfl ?_
  refine r_iconst (pc := 0) C dX9_loadsBehind_0 ki_0 ?_
  refine r_sti (pc := 1) C [(0, .ref (x_b X + a)), (1, .int p1), (2, .int p2), (3, .int p3), (4, .int 0)] dX9_loadsBehind_1 (by decide) rfl ?_
  refine r_aload_n (pc := 3) C dX9_loadsBehind_3 rfl rfl ?_
  refine r_iload_n (pc := 4) C dX9_loadsBehind_4 rfl rfl ?_
  refine r_cVI (pc := 5) C [.int p2] [] (z_KX.zero hT) (s_X9_mark a p2) mt_X9_mark zc_9 dX9_loadsBehind_5 ml_X9_237 im_X9_mark se_X9_mark rfl rfl rfl (Nat.le_of_ble_eq_true rfl) ⟨Nat.le_of_ble_eq_true rfl, Nat.le_of_ble_eq_true rfl⟩ (fun r1 => ?_)
  refine r_sti (pc := 8) C [(0, .ref (x_b X + a)), (1, .int p1), (2, .int p2), (3, .int p3), (4, .int 0), (5, .int r1)] dX9_loadsBehind_8 (by decide) rfl ?_
  refine r_jn 68 (fun (t2 : Int32) => [(3, .int p3), (4, .int t2)]) (fun (t2 : Int32) => []) (fun t2 => ?_) ?_
  · refine r_iload (pc := 68) C dX9_loadsBehind_68 rfl ?_
    refine r_iconst (pc := 70) C dX9_loadsBehind_70 ki_1 ?_
    refine r_iload_n (pc := 71) C dX9_loadsBehind_71 rfl rfl ?_
    refine r_iconst (pc := 72) C dX9_loadsBehind_72 ki_1 ?_
    refine r_iadd (pc := 73) C dX9_loadsBehind_73 ?_
    refine r_ishl (pc := 74) C dX9_loadsBehind_74 ?_
    refine r_iconst (pc := 75) C dX9_loadsBehind_75 ki_1 ?_
    refine r_isub (pc := 76) C dX9_loadsBehind_76 ?_
    refine r_iand (pc := 77) C dX9_loadsBehind_77 ?_
    exact r_iret (pc := 78) C dX9_loadsBehind_78
  · refine r_sub [(0, .ref (x_b X + a)), (1, .int p1), (2, .int p2), (3, .int p3), (4, .int 0), (5, .int r1)] rfl ?_
    refine r_lp (pc := 10) (fun (t3 : Int32 × Int32) => [(0, .ref (x_b X + a)), (1, .int p1), (2, .int p2), (3, .int p3), (4, .int t3.1), (5, .int t3.2)]) (fun t3 => ?_) (0, r1)
    refine r_iload (pc := 10) C dX9_loadsBehind_10 rfl ?_
    refine r_aload_n (pc := 12) C dX9_loadsBehind_12 rfl rfl ?_
    refine r_iload_n (pc := 13) C dX9_loadsBehind_13 rfl rfl ?_
    refine r_cVI (pc := 14) C [.int p2] [.int t3.2] (z_KX.up (z_KX.up (z_KX.zero hT))) (s_X9_working a p2) mt_X9_working zc_9 dX9_loadsBehind_14 ml_X9_228 im_X9_working se_X9_working rfl rfl rfl (Nat.le_of_ble_eq_true rfl) ⟨Nat.le_of_ble_eq_true rfl, Nat.le_of_ble_eq_true rfl⟩ (fun r4 => ?_)
    refine r_aload_n (pc := 17) C dX9_loadsBehind_17 rfl rfl ?_
    refine r_iload_n (pc := 18) C dX9_loadsBehind_18 rfl rfl ?_
    refine r_cVI (pc := 19) C [.int p2] [.int r4, .int t3.2] (z_KX.up (z_KX.up (z_KX.zero hT))) (s_X9_mark a p2) mt_X9_mark zc_9 dX9_loadsBehind_19 ml_X9_237 im_X9_mark se_X9_mark rfl rfl rfl (Nat.le_of_ble_eq_true rfl) ⟨Nat.le_of_ble_eq_true rfl, Nat.le_of_ble_eq_true rfl⟩ (fun r5 => ?_)
    refine r_isub (pc := 22) C dX9_loadsBehind_22 ?_
    refine r_icmp_gt (pc := 23) C (tgt := 68) dX9_loadsBehind_23 rfl (fun _ => ?_) (fun _ => ?_)
    · refine r_sub [(3, .int p3), (4, .int t3.1)] rfl ?_
      exact r_up (r_br (τ := Int32) t3.1)
    · refine r_aload_n (pc := 26) C dX9_loadsBehind_26 rfl rfl ?_
      refine r_getA (pc := 27) C dX9_loadsBehind_27 fl_X9_32 rfl (fun v6 => ?_)
      refine r_bipush (pc := 30) C dX9_loadsBehind_30 kb_6 ?_
      refine r_iload_n (pc := 32) C dX9_loadsBehind_32 rfl rfl ?_
      refine r_iadd (pc := 33) C dX9_loadsBehind_33 ?_
      refine r_iald (pc := 34) C dX9_loadsBehind_34 (fun v7 => ?_)
      refine r_iload (pc := 35) C dX9_loadsBehind_35 rfl ?_
      refine r_isub (pc := 37) C dX9_loadsBehind_37 ?_
      refine r_sti (pc := 38) C [(0, .ref (x_b X + a)), (1, .int p1), (2, .int p2), (3, .int p3), (4, .int t3.1), (5, .int t3.2), (6, .int (v7 - t3.2))] dX9_loadsBehind_38 (by decide) rfl ?_
      refine r_let ((v7 - t3.2)) (fun x8 => [(0, .ref (x_b X + a)), (1, .int p1), (2, .int p2), (3, .int p3), (4, .int t3.1), (5, .int t3.2), (6, .int x8)]) (fun x8 => []) (fun x8 => ?_)
      refine r_iload (pc := 40) C dX9_loadsBehind_40 rfl ?_
      refine r_iload (pc := 42) C dX9_loadsBehind_42 rfl ?_
      refine r_jn 59 (fun (t9 : Int32) => [(0, .ref (x_b X + a)), (1, .int p1), (2, .int p2), (3, .int p3), (5, .int t3.2)]) (fun (t9 : Int32) => [.int t9, .int t3.1]) (fun t9 => ?_) ?_
      · refine r_ior (pc := 59) C dX9_loadsBehind_59 ?_
        refine r_sti (pc := 60) C [(0, .ref (x_b X + a)), (1, .int p1), (2, .int p2), (3, .int p3), (4, .int (t3.1 ||| t9)), (5, .int t3.2)] dX9_loadsBehind_60 (by decide) rfl ?_
        refine r_let ((t3.1 ||| t9)) (fun x10 => [(0, .ref (x_b X + a)), (1, .int p1), (2, .int p2), (3, .int p3), (4, .int x10), (5, .int t3.2)]) (fun x10 => []) (fun x10 => ?_)
        refine r_inc (pc := 62) C 1 [(0, .ref (x_b X + a)), (1, .int p1), (2, .int p2), (3, .int p3), (4, .int x10), (5, .int (t3.2 + 1))] dX9_loadsBehind_62 rfl ki_1 (by decide) rfl ?_
        refine r_goto (pc := 65) C (tgt := 10) dX9_loadsBehind_65 rfl ?_
        refine r_sub [(0, .ref (x_b X + a)), (1, .int p1), (2, .int p2), (3, .int p3), (4, .int x10), (5, .int (t3.2 + 1))] rfl ?_
        exact r_br (τ := Int32 × Int32) (x10, (t3.2 + 1))
      · refine r_if_lt (pc := 44) C (tgt := 54) dX9_loadsBehind_44 rfl (fun _ => ?_) (fun _ => ?_)
        · refine r_iload_n (pc := 54) C dX9_loadsBehind_54 rfl rfl ?_
          refine r_iload (pc := 55) C dX9_loadsBehind_55 rfl ?_
          refine r_ineg (pc := 57) C dX9_loadsBehind_57 ?_
          refine r_ishr (pc := 58) C dX9_loadsBehind_58 ?_
          refine r_sub [(0, .ref (x_b X + a)), (1, .int p1), (2, .int p2), (3, .int p3), (5, .int t3.2)] rfl ?_
          exact r_br (τ := Int32) ((p1 >>> ((-x8) &&& 31)))
        · refine r_iload_n (pc := 47) C dX9_loadsBehind_47 rfl rfl ?_
          refine r_iload (pc := 48) C dX9_loadsBehind_48 rfl ?_
          refine r_ishl (pc := 50) C dX9_loadsBehind_50 ?_
          refine r_goto (pc := 51) C (tgt := 59) dX9_loadsBehind_51 rfl ?_
          refine r_sub [(0, .ref (x_b X + a)), (1, .int p1), (2, .int p2), (3, .int p3), (5, .int t3.2)] rfl ?_
          exact r_br (τ := Int32) ((p1 <<< (x8 &&& 31)))
noncomputable def p_X9_isAllEven (a : Nat) (p1 : Int32) : zP Int32 := (z_lp (fun (t1 : Int32) => (z_bd (z_gA 9 a 11) (fun v2 => (z_bd (z_aI 11 v2 0) (fun v3 => (if v3 ≤ t1 then (z_pu (.inr 1)) else (if ((p1 >>> (t1 &&& 31)) &&& 1) = 0 then (z_bd (z_cv 9 a (p_X9_isEven a t1)) (fun r4 => (if r4 = 0 then (z_pu (.inr 0)) else (z_pu (.inl ((t1 + 1))))))) else (z_pu (.inl ((t1 + 1))))))))))) 0)
set_option maxHeartbeats 4000000 in
set_option maxRecDepth 100000 in
theorem s_X9_isAllEven (a : Nat) (p1 : Int32) : z_Sound yX9_isAllEven cX9_isAllEven 3 (some .boolean) 4 83 (fun D b => [.ref (b + a), .int p1]) z_ivI (p_X9_isAllEven a p1) := by
  refine z_ofSim rfl (by intro D b; exact Nat.le_of_ble_eq_true rfl) (fun X C hT => ?_)
  unfold p_X9_isAllEven
  refine r_sub [(0, .ref (x_b X + a)), (1, .int p1)] rfl ?_
  refine r_iconst (pc := 0) C dX9_isAllEven_0 ki_0 ?_
  refine r_sti_n (pc := 1) C 2 [(0, .ref (x_b X + a)), (1, .int p1), (2, .int 0)] dX9_isAllEven_1 rfl (by decide) rfl ?_
  refine r_sub [(0, .ref (x_b X + a)), (1, .int p1), (2, .int 0)] rfl ?_
  refine r_lp (pc := 2) (fun (t1 : Int32) => [(0, .ref (x_b X + a)), (1, .int p1), (2, .int t1)]) (fun t1 => ?_) 0
  refine r_iload_n (pc := 2) C dX9_isAllEven_2 rfl rfl ?_
  refine r_aload_n (pc := 3) C dX9_isAllEven_3 rfl rfl ?_
  refine r_getA (pc := 4) C dX9_isAllEven_4 fl_X9_17 rfl (fun v2 => ?_)
  refine r_iconst (pc := 7) C dX9_isAllEven_7 ki_0 ?_
  refine r_iald (pc := 8) C dX9_isAllEven_8 (fun v3 => ?_)
  refine r_icmp_ge (pc := 9) C (tgt := 36) dX9_isAllEven_9 rfl (fun _ => ?_) (fun _ => ?_)
  · refine r_iconst (pc := 36) C dX9_isAllEven_36 ki_1 ?_
    exact r_up (r_zret1 (pc := 37) C dX9_isAllEven_37 (by decide))
  · refine r_iload_n (pc := 12) C dX9_isAllEven_12 rfl rfl ?_
    refine r_iload_n (pc := 13) C dX9_isAllEven_13 rfl rfl ?_
    refine r_ishr (pc := 14) C dX9_isAllEven_14 ?_
    refine r_iconst (pc := 15) C dX9_isAllEven_15 ki_1 ?_
    refine r_iand (pc := 16) C dX9_isAllEven_16 ?_
    refine r_if_ne (pc := 17) C (tgt := 30) dX9_isAllEven_17 rfl (fun _ => ?_) (fun _ => ?_)
    · refine r_aload_n (pc := 20) C dX9_isAllEven_20 rfl rfl ?_
      refine r_iload_n (pc := 21) C dX9_isAllEven_21 rfl rfl ?_
      refine r_cVI (pc := 22) C [.int t1] [] (z_KX.up (z_KX.zero hT)) (s_X9_isEven a t1) mt_X9_isEven zc_9 dX9_isAllEven_22 ml_X9_255 im_X9_isEven se_X9_isEven rfl rfl rfl (Nat.le_of_ble_eq_true rfl) ⟨Nat.le_of_ble_eq_true rfl, Nat.le_of_ble_eq_true rfl⟩ (fun r4 => ?_)
      refine r_if_ne (pc := 25) C (tgt := 30) dX9_isAllEven_25 rfl (fun _ => ?_) (fun _ => ?_)
      · refine r_iconst (pc := 28) C dX9_isAllEven_28 ki_0 ?_
        exact r_up (r_zret1 (pc := 29) C dX9_isAllEven_29 (by decide))
      · refine r_inc (pc := 30) C 1 [(0, .ref (x_b X + a)), (1, .int p1), (2, .int (t1 + 1))] dX9_isAllEven_30 rfl ki_1 (by decide) rfl ?_
        refine r_goto (pc := 33) C (tgt := 2) dX9_isAllEven_33 rfl ?_
        refine r_sub [(0, .ref (x_b X + a)), (1, .int p1), (2, .int (t1 + 1))] rfl ?_
        exact r_br (τ := Int32) ((t1 + 1))
    · refine r_inc (pc := 30) C 1 [(0, .ref (x_b X + a)), (1, .int p1), (2, .int (t1 + 1))] dX9_isAllEven_30 rfl ki_1 (by decide) rfl ?_
      refine r_goto (pc := 33) C (tgt := 2) dX9_isAllEven_33 rfl ?_
      refine r_sub [(0, .ref (x_b X + a)), (1, .int p1), (2, .int (t1 + 1))] rfl ?_
      exact r_br (τ := Int32) ((t1 + 1))
noncomputable def p_X9_comeTo (a : Nat) (p1 : Int32) (p2 : Int32) (p3 : Int32) (p4 : Int32) (p5 : Int32) : zP Unit := (z_bd (z_gA 9 a 29) (fun v1 => (z_bd (z_sI 11 v1 p1 p2) (fun _ => (z_bd (z_gA 9 a 30) (fun v2 => (z_bd (z_sI 11 v2 p1 p3) (fun _ => (z_bd (z_gA 9 a 31) (fun v3 => (z_bd (z_sI 11 v3 p1 p4) (fun _ => (z_bd (z_gA 9 a 32) (fun v4 => (z_bd (z_sI 11 v4 p1 p5) (fun _ => (z_bd (z_gA 9 a 33) (fun v5 => (z_bd (z_sI 11 v5 p1 8) (fun _ => (if p5 = 0 then (z_pu ()) else (z_bd (z_gI 9 a 27) (fun v6 => (z_jn (τ := Unit) (if v6 < 0 then (z_pu (.inl ())) else (z_bd (z_gI 9 a 27) (fun v8 => (if v8 < p4 then (z_pu (.inr ())) else (z_bd (z_gI 9 a 27) (fun v9 => (if p4 = v9 then (z_bd (z_gI 9 a 28) (fun v10 => (if p1 < v10 then (z_pu (.inl ())) else (z_pu (.inr ()))))) else (z_pu (.inl ()))))))))) (fun t7 => (z_bd (z_cv 9 a (p_X9_isAllEven a p3)) (fun r11 => (if r11 = 0 then (z_bd (z_gA 9 a 33) (fun v16 => (z_bd (z_sI 11 v16 p1 0) (fun _ => (z_pu ()))))) else (z_bd (z_pI 9 a 27 p4) (fun _ => (z_bd (z_pI 9 a 28 p1) (fun _ => (z_lp (fun (t12 : Int32) => (if p1 ≤ t12 then (z_pu (.inr ())) else (z_bd (z_gA 9 a 26) (fun v13 => (z_bd (z_gA 9 a 25) (fun v14 => (z_bd (z_aI 11 v14 t12) (fun v15 => (z_bd (z_sI 11 v13 t12 v15) (fun _ => (z_pu (.inl ((t12 + 1)))))))))))))) 0)))))))))))))))))))))))))))))))))
set_option maxHeartbeats 4000000 in
set_option maxRecDepth 100000 in
theorem s_X9_comeTo (a : Nat) (p1 : Int32) (p2 : Int32) (p3 : Int32) (p4 : Int32) (p5 : Int32) : z_Sound yX9_comeTo cX9_comeTo 7 none 5 105 (fun D b => [.ref (b + a), .int p1, .int p2, .int p3, .int p4, .int p5]) z_ivV (p_X9_comeTo a p1 p2 p3 p4 p5) := by
  refine z_ofSim rfl (by intro D b; exact Nat.le_of_ble_eq_true rfl) (fun X C hT => ?_)
  unfold p_X9_comeTo
  refine r_sub [(0, .ref (x_b X + a)), (1, .int p1), (2, .int p2), (3, .int p3), (4, .int p4), (5, .int p5)] rfl ?_
  refine r_aload_n (pc := 0) C dX9_comeTo_0 rfl rfl ?_
  refine r_getA (pc := 1) C dX9_comeTo_1 fl_X9_55 rfl (fun v1 => ?_)
  refine r_iload_n (pc := 4) C dX9_comeTo_4 rfl rfl ?_
  refine r_iload_n (pc := 5) C dX9_comeTo_5 rfl rfl ?_
  refine r_iast (pc := 6) C dX9_comeTo_6 ?_
  refine r_aload_n (pc := 7) C dX9_comeTo_7 rfl rfl ?_
  refine r_getA (pc := 8) C dX9_comeTo_8 fl_X9_58 rfl (fun v2 => ?_)
  refine r_iload_n (pc := 11) C dX9_comeTo_11 rfl rfl ?_
  refine r_iload_n (pc := 12) C dX9_comeTo_12 rfl rfl ?_
  refine r_iast (pc := 13) C dX9_comeTo_13 ?_
  refine r_aload_n (pc := 14) C dX9_comeTo_14 rfl rfl ?_
  refine r_getA (pc := 15) C dX9_comeTo_15 fl_X9_61 rfl (fun v3 => ?_)
  refine r_iload_n (pc := 18) C dX9_comeTo_18 rfl rfl ?_
  refine r_iload (pc := 19) C dX9_comeTo_19 rfl ?_
  refine r_iast (pc := 21) C dX9_comeTo_21 ?_
  refine r_aload_n (pc := 22) C dX9_comeTo_22 rfl rfl ?_
  refine r_getA (pc := 23) C dX9_comeTo_23 fl_X9_64 rfl (fun v4 => ?_)
  refine r_iload_n (pc := 26) C dX9_comeTo_26 rfl rfl ?_
  refine r_iload (pc := 27) C dX9_comeTo_27 rfl ?_
  refine r_iast (pc := 29) C dX9_comeTo_29 ?_
  refine r_aload_n (pc := 30) C dX9_comeTo_30 rfl rfl ?_
  refine r_getA (pc := 31) C dX9_comeTo_31 fl_X9_67 rfl (fun v5 => ?_)
  refine r_iload_n (pc := 34) C dX9_comeTo_34 rfl rfl ?_
  refine r_bipush (pc := 35) C dX9_comeTo_35 kb_8 ?_
  refine r_iast (pc := 37) C dX9_comeTo_37 ?_
  refine r_iload (pc := 38) C dX9_comeTo_38 rfl ?_
  refine r_if_eq (pc := 40) C (tgt := 76) dX9_comeTo_40 rfl (fun _ => ?_) (fun _ => ?_)
  · exact r_vret (pc := 76) C dX9_comeTo_76
  · refine r_aload_n (pc := 43) C dX9_comeTo_43 rfl rfl ?_
    refine r_getI (pc := 44) C dX9_comeTo_44 fl_X9_295 rfl (fun v6 => ?_)
    refine r_jn 77 (fun (t7 : Unit) => [(0, .ref (x_b X + a)), (1, .int p1), (3, .int p3), (4, .int p4)]) (fun (t7 : Unit) => []) (fun t7 => ?_) ?_
    · refine r_aload_n (pc := 77) C dX9_comeTo_77 rfl rfl ?_
      refine r_iload_n (pc := 78) C dX9_comeTo_78 rfl rfl ?_
      refine r_cVI (pc := 79) C [.int p3] [] (z_KX.zero hT) (s_X9_isAllEven a p3) mt_X9_isAllEven zc_9 dX9_comeTo_79 ml_X9_301 im_X9_isAllEven se_X9_isAllEven rfl rfl rfl (Nat.le_of_ble_eq_true rfl) ⟨Nat.le_of_ble_eq_true rfl, Nat.le_of_ble_eq_true rfl⟩ (fun r11 => ?_)
      refine r_if_ne (pc := 82) C (tgt := 93) dX9_comeTo_82 rfl (fun _ => ?_) (fun _ => ?_)
      · refine r_aload_n (pc := 85) C dX9_comeTo_85 rfl rfl ?_
        refine r_getA (pc := 86) C dX9_comeTo_86 fl_X9_67 rfl (fun v16 => ?_)
        refine r_iload_n (pc := 89) C dX9_comeTo_89 rfl rfl ?_
        refine r_iconst (pc := 90) C dX9_comeTo_90 ki_0 ?_
        refine r_iast (pc := 91) C dX9_comeTo_91 ?_
        exact r_vret (pc := 92) C dX9_comeTo_92
      · refine r_aload_n (pc := 93) C dX9_comeTo_93 rfl rfl ?_
        refine r_iload (pc := 94) C dX9_comeTo_94 rfl ?_
        refine r_putI (pc := 96) C dX9_comeTo_96 fl_X9_295 rfl rfl ?_
        refine r_aload_n (pc := 99) C dX9_comeTo_99 rfl rfl ?_
        refine r_iload_n (pc := 100) C dX9_comeTo_100 rfl rfl ?_
        refine r_putI (pc := 101) C dX9_comeTo_101 fl_X9_298 rfl rfl ?_
        refine r_iconst (pc := 104) C dX9_comeTo_104 ki_0 ?_
        refine r_sti (pc := 105) C [(0, .ref (x_b X + a)), (1, .int p1), (6, .int 0)] dX9_comeTo_105 (by decide) rfl ?_
        refine r_sub [(0, .ref (x_b X + a)), (1, .int p1), (6, .int 0)] rfl ?_
        refine r_lp (pc := 107) (fun (t12 : Int32) => [(0, .ref (x_b X + a)), (1, .int p1), (6, .int t12)]) (fun t12 => ?_) 0
        refine r_iload (pc := 107) C dX9_comeTo_107 rfl ?_
        refine r_iload_n (pc := 109) C dX9_comeTo_109 rfl rfl ?_
        refine r_icmp_ge (pc := 110) C (tgt := 133) dX9_comeTo_110 rfl (fun _ => ?_) (fun _ => ?_)
        · exact r_up (r_vret (pc := 133) C dX9_comeTo_133)
        · refine r_aload_n (pc := 113) C dX9_comeTo_113 rfl rfl ?_
          refine r_getA (pc := 114) C dX9_comeTo_114 fl_X9_52 rfl (fun v13 => ?_)
          refine r_iload (pc := 117) C dX9_comeTo_117 rfl ?_
          refine r_aload_n (pc := 119) C dX9_comeTo_119 rfl rfl ?_
          refine r_getA (pc := 120) C dX9_comeTo_120 fl_X9_49 rfl (fun v14 => ?_)
          refine r_iload (pc := 123) C dX9_comeTo_123 rfl ?_
          refine r_iald (pc := 125) C dX9_comeTo_125 (fun v15 => ?_)
          refine r_iast (pc := 126) C dX9_comeTo_126 ?_
          refine r_inc (pc := 127) C 1 [(0, .ref (x_b X + a)), (1, .int p1), (6, .int (t12 + 1))] dX9_comeTo_127 rfl ki_1 (by decide) rfl ?_
          refine r_goto (pc := 130) C (tgt := 107) dX9_comeTo_130 rfl ?_
          refine r_sub [(0, .ref (x_b X + a)), (1, .int p1), (6, .int (t12 + 1))] rfl ?_
          exact r_br (τ := Int32) ((t12 + 1))
    · refine r_if_lt (pc := 47) C (tgt := 77) dX9_comeTo_47 rfl (fun _ => ?_) (fun _ => ?_)
      · refine r_sub [(0, .ref (x_b X + a)), (1, .int p1), (3, .int p3), (4, .int p4)] rfl ?_
        exact r_br (τ := Unit) ()
      · refine r_iload (pc := 50) C dX9_comeTo_50 rfl ?_
        refine r_aload_n (pc := 52) C dX9_comeTo_52 rfl rfl ?_
        refine r_getI (pc := 53) C dX9_comeTo_53 fl_X9_295 rfl (fun v8 => ?_)
        refine r_icmp_gt (pc := 56) C (tgt := 76) dX9_comeTo_56 rfl (fun _ => ?_) (fun _ => ?_)
        · exact r_up (r_vret (pc := 76) C dX9_comeTo_76)
        · refine r_iload (pc := 59) C dX9_comeTo_59 rfl ?_
          refine r_aload_n (pc := 61) C dX9_comeTo_61 rfl rfl ?_
          refine r_getI (pc := 62) C dX9_comeTo_62 fl_X9_295 rfl (fun v9 => ?_)
          refine r_icmp_ne (pc := 65) C (tgt := 77) dX9_comeTo_65 rfl (fun _ => ?_) (fun _ => ?_)
          · refine r_iload_n (pc := 68) C dX9_comeTo_68 rfl rfl ?_
            refine r_aload_n (pc := 69) C dX9_comeTo_69 rfl rfl ?_
            refine r_getI (pc := 70) C dX9_comeTo_70 fl_X9_298 rfl (fun v10 => ?_)
            refine r_icmp_lt (pc := 73) C (tgt := 77) dX9_comeTo_73 rfl (fun _ => ?_) (fun _ => ?_)
            · refine r_sub [(0, .ref (x_b X + a)), (1, .int p1), (3, .int p3), (4, .int p4)] rfl ?_
              exact r_br (τ := Unit) ()
            · exact r_up (r_vret (pc := 76) C dX9_comeTo_76)
          · refine r_sub [(0, .ref (x_b X + a)), (1, .int p1), (3, .int p3), (4, .int p4)] rfl ?_
            exact r_br (τ := Unit) ()
noncomputable def p_X9_findTour (a : Nat) (p1 : Int32) : zP Unit := (z_bd (z_pI 9 a 27 (-1)) (fun _ => (z_bd (z_pI 9 a 28 0) (fun _ => (z_bd (z_cv 9 a (p_X9_of a p1 0)) (fun r1 => (z_bd (z_cv 9 a (p_X9_of a p1 4)) (fun r2 => (z_bd (z_cv 9 a (p_X9_comeTo a 0 r1 0 0 (1 <<< (r2 &&& 31)))) (fun _ => (z_lp (fun (t4 : Int32) => (if t4 < 0 then (z_pu (.inr ())) else (z_bd (z_gA 9 a 33) (fun v5 => (z_bd (z_aI 11 v5 t4) (fun v6 => (z_bd (z_gA 9 a 33) (fun v7 => (z_bd (z_aI 11 v7 t4) (fun v8 => (z_bd (z_sI 11 v7 t4 (v8 + 1)) (fun _ => (z_bd (z_gA 9 a 11) (fun v9 => (z_bd (z_aI 11 v9 0) (fun v10 => (if v6 < v10 then (z_bd (z_gA 9 a 30) (fun v11 => (z_bd (z_aI 11 v11 t4) (fun v12 => (if ((v12 >>> (v6 &&& 31)) &&& 1) = 1 then (z_pu (.inl t4)) else (z_bd (z_gA 9 a 25) (fun v13 => (z_bd (z_sI 11 v13 t4 v6) (fun _ => (z_jn (τ := Int32) (z_jn (τ := Unit) (if t4 = 0 then (z_bd (z_gA 9 a 29) (fun v16 => (z_bd (z_aI 11 v16 0) (fun v17 => (if v6 = v17 then (z_pu (.inr (.inl 0))) else (z_pu (.inl ()))))))) else (z_pu (.inl ()))) (fun t15 => (z_bd (z_gA 9 a 29) (fun v18 => (z_bd (z_aI 11 v18 t4) (fun v19 => (z_bd (z_cv 9 a (p_X9_drive a v19 v6)) (fun r20 => (z_pu (.inl r20)))))))))) (fun t14 => (z_bd (z_gA 9 a 30) (fun v21 => (z_bd (z_aI 11 v21 t4) (fun v22 => (z_bd (z_gA 9 a 31) (fun v23 => (z_bd (z_aI 11 v23 t4) (fun v24 => (z_bd (z_gA 9 a 32) (fun v25 => (z_bd (z_aI 11 v25 t4) (fun v26 => (z_bd (z_gA 9 a 11) (fun v27 => (z_bd (z_aI 11 v27 (45 + p1)) (fun v28 => (z_bd (z_cv 9 a (p_X9_loadsBehind a v26 v6 v28)) (fun r29 => (z_bd (z_cv 9 a (p_X9_comeTo a (t4 + 1) v6 (v22 ||| (1 <<< (v6 &&& 31))) (v24 + t14) r29)) (fun _ => (z_pu (.inl ((t4 + 1))))))))))))))))))))))))))))))))))) else (z_pu (.inl ((t4 + (-1)))))))))))))))))))))) 0)))))))))))
set_option maxHeartbeats 4000000 in
set_option maxRecDepth 100000 in
theorem s_X9_findTour (a : Nat) (p1 : Int32) : z_Sound yX9_findTour cX9_findTour 5 none 6 131 (fun D b => [.ref (b + a), .int p1]) z_ivV (p_X9_findTour a p1) := by
  refine z_ofSim rfl (by intro D b; exact Nat.le_of_ble_eq_true rfl) (fun X C hT => ?_)
  unfold p_X9_findTour
  refine r_sub [(0, .ref (x_b X + a)), (1, .int p1)] rfl ?_
  refine r_aload_n (pc := 0) C dX9_findTour_0 rfl rfl ?_
  refine r_iconst (pc := 1) C dX9_findTour_1 ki_m1 ?_
  refine r_putI (pc := 2) C dX9_findTour_2 fl_X9_295 rfl rfl ?_
  refine r_aload_n (pc := 5) C dX9_findTour_5 rfl rfl ?_
  refine r_iconst (pc := 6) C dX9_findTour_6 ki_0 ?_
  refine r_putI (pc := 7) C dX9_findTour_7 fl_X9_298 rfl rfl ?_
  refine r_aload_n (pc := 10) C dX9_findTour_10 rfl rfl ?_
  refine r_iconst (pc := 11) C dX9_findTour_11 ki_0 ?_
  refine r_aload_n (pc := 12) C dX9_findTour_12 rfl rfl ?_
  refine r_iload_n (pc := 13) C dX9_findTour_13 rfl rfl ?_
  refine r_iconst (pc := 14) C dX9_findTour_14 ki_0 ?_
  refine r_cVI (pc := 15) C [.int p1, .int 0] [.int 0, .ref (x_b X + a)] (z_KX.zero hT) (s_X9_of a p1 0) mt_X9_of zc_9 dX9_findTour_15 ml_X9_243 im_X9_of se_X9_of rfl rfl rfl (Nat.le_of_ble_eq_true rfl) ⟨Nat.le_of_ble_eq_true rfl, Nat.le_of_ble_eq_true rfl⟩ (fun r1 => ?_)
  refine r_iconst (pc := 18) C dX9_findTour_18 ki_0 ?_
  refine r_iconst (pc := 19) C dX9_findTour_19 ki_0 ?_
  refine r_iconst (pc := 20) C dX9_findTour_20 ki_1 ?_
  refine r_aload_n (pc := 21) C dX9_findTour_21 rfl rfl ?_
  refine r_iload_n (pc := 22) C dX9_findTour_22 rfl rfl ?_
  refine r_iconst (pc := 23) C dX9_findTour_23 ki_4 ?_
  refine r_cVI (pc := 24) C [.int p1, .int 4] [.int 1, .int 0, .int 0, .int r1, .int 0, .ref (x_b X + a)] (z_KX.zero hT) (s_X9_of a p1 4) mt_X9_of zc_9 dX9_findTour_24 ml_X9_243 im_X9_of se_X9_of rfl rfl rfl (Nat.le_of_ble_eq_true rfl) ⟨Nat.le_of_ble_eq_true rfl, Nat.le_of_ble_eq_true rfl⟩ (fun r2 => ?_)
  refine r_ishl (pc := 27) C dX9_findTour_27 ?_
  refine r_cVV (pc := 28) C [.int 0, .int r1, .int 0, .int 0, .int (1 <<< (r2 &&& 31))] [] (z_KX.zero hT) (s_X9_comeTo a 0 r1 0 0 (1 <<< (r2 &&& 31))) mt_X9_comeTo zc_9 dX9_findTour_28 ml_X9_304 im_X9_comeTo se_X9_comeTo rfl rfl rfl (Nat.le_of_ble_eq_true rfl) ⟨Nat.le_of_ble_eq_true rfl, Nat.le_of_ble_eq_true rfl⟩ ?_
  refine r_iconst (pc := 31) C dX9_findTour_31 ki_0 ?_
  refine r_sti_n (pc := 32) C 2 [(0, .ref (x_b X + a)), (1, .int p1), (2, .int 0)] dX9_findTour_32 rfl (by decide) rfl ?_
  refine r_sub [(0, .ref (x_b X + a)), (1, .int p1), (2, .int 0)] rfl ?_
  refine r_lp (pc := 33) (fun (t4 : Int32) => [(0, .ref (x_b X + a)), (1, .int p1), (2, .int t4)]) (fun t4 => ?_) 0
  refine r_iload_n (pc := 33) C dX9_findTour_33 rfl rfl ?_
  refine r_if_lt (pc := 34) C (tgt := 178) dX9_findTour_34 rfl (fun _ => ?_) (fun _ => ?_)
  · exact r_up (r_vret (pc := 178) C dX9_findTour_178)
  · refine r_aload_n (pc := 37) C dX9_findTour_37 rfl rfl ?_
    refine r_getA (pc := 38) C dX9_findTour_38 fl_X9_67 rfl (fun v5 => ?_)
    refine r_iload_n (pc := 41) C dX9_findTour_41 rfl rfl ?_
    refine r_iald (pc := 42) C dX9_findTour_42 (fun v6 => ?_)
    refine r_sti_n (pc := 43) C 3 [(0, .ref (x_b X + a)), (1, .int p1), (2, .int t4), (3, .int v6)] dX9_findTour_43 rfl (by decide) rfl ?_
    refine r_aload_n (pc := 44) C dX9_findTour_44 rfl rfl ?_
    refine r_getA (pc := 45) C dX9_findTour_45 fl_X9_67 rfl (fun v7 => ?_)
    refine r_iload_n (pc := 48) C dX9_findTour_48 rfl rfl ?_
    refine r_dup2 (pc := 49) C dX9_findTour_49 rfl rfl ?_
    refine r_iald (pc := 50) C dX9_findTour_50 (fun v8 => ?_)
    refine r_iconst (pc := 51) C dX9_findTour_51 ki_1 ?_
    refine r_iadd (pc := 52) C dX9_findTour_52 ?_
    refine r_iast (pc := 53) C dX9_findTour_53 ?_
    refine r_iload_n (pc := 54) C dX9_findTour_54 rfl rfl ?_
    refine r_aload_n (pc := 55) C dX9_findTour_55 rfl rfl ?_
    refine r_getA (pc := 56) C dX9_findTour_56 fl_X9_17 rfl (fun v9 => ?_)
    refine r_iconst (pc := 59) C dX9_findTour_59 ki_0 ?_
    refine r_iald (pc := 60) C dX9_findTour_60 (fun v10 => ?_)
    refine r_icmp_lt (pc := 61) C (tgt := 70) dX9_findTour_61 rfl (fun _ => ?_) (fun _ => ?_)
    · refine r_aload_n (pc := 70) C dX9_findTour_70 rfl rfl ?_
      refine r_getA (pc := 71) C dX9_findTour_71 fl_X9_58 rfl (fun v11 => ?_)
      refine r_iload_n (pc := 74) C dX9_findTour_74 rfl rfl ?_
      refine r_iald (pc := 75) C dX9_findTour_75 (fun v12 => ?_)
      refine r_iload_n (pc := 76) C dX9_findTour_76 rfl rfl ?_
      refine r_ishr (pc := 77) C dX9_findTour_77 ?_
      refine r_iconst (pc := 78) C dX9_findTour_78 ki_1 ?_
      refine r_iand (pc := 79) C dX9_findTour_79 ?_
      refine r_iconst (pc := 80) C dX9_findTour_80 ki_1 ?_
      refine r_icmp_ne (pc := 81) C (tgt := 87) dX9_findTour_81 rfl (fun _ => ?_) (fun _ => ?_)
      · refine r_goto (pc := 84) C (tgt := 33) dX9_findTour_84 rfl ?_
        refine r_sub [(0, .ref (x_b X + a)), (1, .int p1), (2, .int t4)] rfl ?_
        exact r_br (τ := Int32) t4
      · refine r_aload_n (pc := 87) C dX9_findTour_87 rfl rfl ?_
        refine r_getA (pc := 88) C dX9_findTour_88 fl_X9_49 rfl (fun v13 => ?_)
        refine r_iload_n (pc := 91) C dX9_findTour_91 rfl rfl ?_
        refine r_iload_n (pc := 92) C dX9_findTour_92 rfl rfl ?_
        refine r_iast (pc := 93) C dX9_findTour_93 ?_
        refine r_iload_n (pc := 94) C dX9_findTour_94 rfl rfl ?_
        refine r_jn 123 (fun (t14 : Int32) => [(0, .ref (x_b X + a)), (1, .int p1), (2, .int t4), (3, .int v6)]) (fun (t14 : Int32) => [.int t14]) (fun t14 => ?_) ?_
        · refine r_sti (pc := 123) C [(0, .ref (x_b X + a)), (1, .int p1), (2, .int t4), (3, .int v6), (4, .int t14)] dX9_findTour_123 (by decide) rfl ?_
          refine r_aload_n (pc := 125) C dX9_findTour_125 rfl rfl ?_
          refine r_iload_n (pc := 126) C dX9_findTour_126 rfl rfl ?_
          refine r_iconst (pc := 127) C dX9_findTour_127 ki_1 ?_
          refine r_iadd (pc := 128) C dX9_findTour_128 ?_
          refine r_iload_n (pc := 129) C dX9_findTour_129 rfl rfl ?_
          refine r_aload_n (pc := 130) C dX9_findTour_130 rfl rfl ?_
          refine r_getA (pc := 131) C dX9_findTour_131 fl_X9_58 rfl (fun v21 => ?_)
          refine r_iload_n (pc := 134) C dX9_findTour_134 rfl rfl ?_
          refine r_iald (pc := 135) C dX9_findTour_135 (fun v22 => ?_)
          refine r_iconst (pc := 136) C dX9_findTour_136 ki_1 ?_
          refine r_iload_n (pc := 137) C dX9_findTour_137 rfl rfl ?_
          refine r_ishl (pc := 138) C dX9_findTour_138 ?_
          refine r_ior (pc := 139) C dX9_findTour_139 ?_
          refine r_aload_n (pc := 140) C dX9_findTour_140 rfl rfl ?_
          refine r_getA (pc := 141) C dX9_findTour_141 fl_X9_61 rfl (fun v23 => ?_)
          refine r_iload_n (pc := 144) C dX9_findTour_144 rfl rfl ?_
          refine r_iald (pc := 145) C dX9_findTour_145 (fun v24 => ?_)
          refine r_iload (pc := 146) C dX9_findTour_146 rfl ?_
          refine r_iadd (pc := 148) C dX9_findTour_148 ?_
          refine r_aload_n (pc := 149) C dX9_findTour_149 rfl rfl ?_
          refine r_aload_n (pc := 150) C dX9_findTour_150 rfl rfl ?_
          refine r_getA (pc := 151) C dX9_findTour_151 fl_X9_64 rfl (fun v25 => ?_)
          refine r_iload_n (pc := 154) C dX9_findTour_154 rfl rfl ?_
          refine r_iald (pc := 155) C dX9_findTour_155 (fun v26 => ?_)
          refine r_iload_n (pc := 156) C dX9_findTour_156 rfl rfl ?_
          refine r_aload_n (pc := 157) C dX9_findTour_157 rfl rfl ?_
          refine r_getA (pc := 158) C dX9_findTour_158 fl_X9_17 rfl (fun v27 => ?_)
          refine r_bipush (pc := 161) C dX9_findTour_161 kb_45 ?_
          refine r_iload_n (pc := 163) C dX9_findTour_163 rfl rfl ?_
          refine r_iadd (pc := 164) C dX9_findTour_164 ?_
          refine r_iald (pc := 165) C dX9_findTour_165 (fun v28 => ?_)
          refine r_cVI (pc := 166) C [.int v26, .int v6, .int v28] [.int (v24 + t14), .int (v22 ||| (1 <<< (v6 &&& 31))), .int v6, .int (t4 + 1), .ref (x_b X + a)] (z_KX.up (z_KX.zero hT)) (s_X9_loadsBehind a v26 v6 v28) mt_X9_loadsBehind zc_9 dX9_findTour_166 ml_X9_308 im_X9_loadsBehind se_X9_loadsBehind rfl rfl rfl (Nat.le_of_ble_eq_true rfl) ⟨Nat.le_of_ble_eq_true rfl, Nat.le_of_ble_eq_true rfl⟩ (fun r29 => ?_)
          refine r_cVV (pc := 169) C [.int (t4 + 1), .int v6, .int (v22 ||| (1 <<< (v6 &&& 31))), .int (v24 + t14), .int r29] [] (z_KX.up (z_KX.zero hT)) (s_X9_comeTo a (t4 + 1) v6 (v22 ||| (1 <<< (v6 &&& 31))) (v24 + t14) r29) mt_X9_comeTo zc_9 dX9_findTour_169 ml_X9_304 im_X9_comeTo se_X9_comeTo rfl rfl rfl (Nat.le_of_ble_eq_true rfl) ⟨Nat.le_of_ble_eq_true rfl, Nat.le_of_ble_eq_true rfl⟩ ?_
          refine r_inc (pc := 172) C 1 [(0, .ref (x_b X + a)), (1, .int p1), (2, .int (t4 + 1))] dX9_findTour_172 rfl ki_1 (by decide) rfl ?_
          refine r_goto (pc := 175) C (tgt := 33) dX9_findTour_175 rfl ?_
          refine r_sub [(0, .ref (x_b X + a)), (1, .int p1), (2, .int (t4 + 1))] rfl ?_
          exact r_br (τ := Int32) ((t4 + 1))
        · refine r_jn 112 (fun (t15 : Unit) => [(0, .ref (x_b X + a)), (1, .int p1), (2, .int t4), (3, .int v6)]) (fun (t15 : Unit) => []) (fun t15 => ?_) ?_
          · refine r_aload_n (pc := 112) C dX9_findTour_112 rfl rfl ?_
            refine r_aload_n (pc := 113) C dX9_findTour_113 rfl rfl ?_
            refine r_getA (pc := 114) C dX9_findTour_114 fl_X9_55 rfl (fun v18 => ?_)
            refine r_iload_n (pc := 117) C dX9_findTour_117 rfl rfl ?_
            refine r_iald (pc := 118) C dX9_findTour_118 (fun v19 => ?_)
            refine r_iload_n (pc := 119) C dX9_findTour_119 rfl rfl ?_
            refine r_cVI (pc := 120) C [.int v19, .int v6] [] (z_KX.up (z_KX.up (z_KX.zero hT))) (s_X9_drive a v19 v6) mt_X9_drive zc_9 dX9_findTour_120 ml_X9_289 im_X9_drive se_X9_drive rfl rfl rfl (Nat.le_of_ble_eq_true rfl) ⟨Nat.le_of_ble_eq_true rfl, Nat.le_of_ble_eq_true rfl⟩ (fun r20 => ?_)
            refine r_sub [(0, .ref (x_b X + a)), (1, .int p1), (2, .int t4), (3, .int v6)] rfl ?_
            exact r_br (τ := Int32) r20
          · refine r_if_ne (pc := 95) C (tgt := 112) dX9_findTour_95 rfl (fun _ => ?_) (fun _ => ?_)
            · refine r_iload_n (pc := 98) C dX9_findTour_98 rfl rfl ?_
              refine r_aload_n (pc := 99) C dX9_findTour_99 rfl rfl ?_
              refine r_getA (pc := 100) C dX9_findTour_100 fl_X9_55 rfl (fun v16 => ?_)
              refine r_iconst (pc := 103) C dX9_findTour_103 ki_0 ?_
              refine r_iald (pc := 104) C dX9_findTour_104 (fun v17 => ?_)
              refine r_icmp_ne (pc := 105) C (tgt := 112) dX9_findTour_105 rfl (fun _ => ?_) (fun _ => ?_)
              · refine r_iconst (pc := 108) C dX9_findTour_108 ki_0 ?_
                refine r_goto (pc := 109) C (tgt := 123) dX9_findTour_109 rfl ?_
                refine r_sub [(0, .ref (x_b X + a)), (1, .int p1), (2, .int t4), (3, .int v6)] rfl ?_
                exact r_up (r_br (τ := Int32) 0)
              · refine r_sub [(0, .ref (x_b X + a)), (1, .int p1), (2, .int t4), (3, .int v6)] rfl ?_
                exact r_br (τ := Unit) ()
            · refine r_sub [(0, .ref (x_b X + a)), (1, .int p1), (2, .int t4), (3, .int v6)] rfl ?_
              exact r_br (τ := Unit) ()
    · refine r_inc (pc := 64) C (-1) [(0, .ref (x_b X + a)), (1, .int p1), (2, .int (t4 + (-1)))] dX9_findTour_64 rfl ki_m1 (by decide) rfl ?_
      refine r_goto (pc := 67) C (tgt := 33) dX9_findTour_67 rfl ?_
      refine r_sub [(0, .ref (x_b X + a)), (1, .int p1), (2, .int (t4 + (-1)))] rfl ?_
      exact r_br (τ := Int32) ((t4 + (-1)))
noncomputable def p_X9_failsTour (a : Nat) (p1 : Int32) : zP Int32 := (z_bd (z_cv 9 a (p_X9_isTruck a p1)) (fun r1 => (z_jn (τ := Int32) (if r1 = 0 then (z_pu (.inl 1)) else (z_bd (z_cv 9 a (p_X9_of a p1 0)) (fun r3 => (if 0 ≤ r3 then (z_pu (.inl 0)) else (z_pu (.inl 2)))))) (fun t2 => (z_bd (z_pI 9 a 0 t2) (fun _ => (z_bd (z_gI 9 a 0) (fun v4 => (if v4 ≤ 0 then (z_pu 0) else (z_pu 1))))))))))
set_option maxHeartbeats 4000000 in
set_option maxRecDepth 100000 in
theorem s_X9_failsTour (a : Nat) (p1 : Int32) : z_Sound yX9_failsTour cX9_failsTour 2 (some .boolean) 3 63 (fun D b => [.ref (b + a), .int p1]) z_ivI (p_X9_failsTour a p1) := by
  refine z_ofSim rfl (by intro D b; exact Nat.le_of_ble_eq_true rfl) (fun X C hT => ?_)
  unfold p_X9_failsTour
  refine r_sub [(0, .ref (x_b X + a)), (1, .int p1)] rfl ?_
  refine r_aload_n (pc := 0) C dX9_failsTour_0 rfl rfl ?_
  refine r_aload_n (pc := 1) C dX9_failsTour_1 rfl rfl ?_
  refine r_iload_n (pc := 2) C dX9_failsTour_2 rfl rfl ?_
  refine r_cVI (pc := 3) C [.int p1] [.ref (x_b X + a)] (z_KX.zero hT) (s_X9_isTruck a p1) mt_X9_isTruck zc_9 dX9_failsTour_3 ml_X9_280 im_X9_isTruck se_X9_isTruck rfl rfl rfl (Nat.le_of_ble_eq_true rfl) ⟨Nat.le_of_ble_eq_true rfl, Nat.le_of_ble_eq_true rfl⟩ (fun r1 => ?_)
  refine r_jn 27 (fun (t2 : Int32) => [(0, .ref (x_b X + a))]) (fun (t2 : Int32) => [.int t2, .ref (x_b X + a)]) (fun t2 => ?_) ?_
  · refine r_putI (pc := 27) C dX9_failsTour_27 fl_X9_76 rfl rfl ?_
    refine r_aload_n (pc := 30) C dX9_failsTour_30 rfl rfl ?_
    refine r_getI (pc := 31) C dX9_failsTour_31 fl_X9_76 rfl (fun v4 => ?_)
    refine r_if_le (pc := 34) C (tgt := 41) dX9_failsTour_34 rfl (fun _ => ?_) (fun _ => ?_)
    · refine r_iconst (pc := 41) C dX9_failsTour_41 ki_0 ?_
      exact r_zret1 (pc := 42) C dX9_failsTour_42 (by decide)
    · refine r_iconst (pc := 37) C dX9_failsTour_37 ki_1 ?_
      refine r_goto (pc := 38) C (tgt := 42) dX9_failsTour_38 rfl ?_
      exact r_zret1 (pc := 42) C dX9_failsTour_42 (by decide)
  · refine r_if_ne (pc := 6) C (tgt := 13) dX9_failsTour_6 rfl (fun _ => ?_) (fun _ => ?_)
    · refine r_iconst (pc := 9) C dX9_failsTour_9 ki_1 ?_
      refine r_goto (pc := 10) C (tgt := 27) dX9_failsTour_10 rfl ?_
      refine r_sub [(0, .ref (x_b X + a))] rfl ?_
      exact r_br (τ := Int32) 1
    · refine r_aload_n (pc := 13) C dX9_failsTour_13 rfl rfl ?_
      refine r_iload_n (pc := 14) C dX9_failsTour_14 rfl rfl ?_
      refine r_iconst (pc := 15) C dX9_failsTour_15 ki_0 ?_
      refine r_cVI (pc := 16) C [.int p1, .int 0] [.ref (x_b X + a)] (z_KX.up (z_KX.zero hT)) (s_X9_of a p1 0) mt_X9_of zc_9 dX9_failsTour_16 ml_X9_243 im_X9_of se_X9_of rfl rfl rfl (Nat.le_of_ble_eq_true rfl) ⟨Nat.le_of_ble_eq_true rfl, Nat.le_of_ble_eq_true rfl⟩ (fun r3 => ?_)
      refine r_if_ge (pc := 19) C (tgt := 26) dX9_failsTour_19 rfl (fun _ => ?_) (fun _ => ?_)
      · refine r_iconst (pc := 26) C dX9_failsTour_26 ki_0 ?_
        refine r_sub [(0, .ref (x_b X + a))] rfl ?_
        exact r_br (τ := Int32) 0
      · refine r_iconst (pc := 22) C dX9_failsTour_22 ki_2 ?_
        refine r_goto (pc := 23) C (tgt := 27) dX9_failsTour_23 rfl ?_
        refine r_sub [(0, .ref (x_b X + a))] rfl ?_
        exact r_br (τ := Int32) 2
noncomputable def p_X9_tourMinutes (a : Nat) (p1 : Int32) : zP Int32 := (z_bd (z_cv 9 a (p_X9_failsTour a p1)) (fun r1 => (if r1 = 0 then (z_bd (z_cv 9 a (p_X9_findTour a p1)) (fun _ => (z_bd (z_gI 9 a 27) (fun v3 => (z_pu v3))))) else (z_pu 0))))
set_option maxHeartbeats 4000000 in
set_option maxRecDepth 100000 in
theorem s_X9_tourMinutes (a : Nat) (p1 : Int32) : z_Sound yX9_tourMinutes cX9_tourMinutes 2 (some .int) 7 155 (fun D b => [.ref (b + a), .int p1]) z_ivI (p_X9_tourMinutes a p1) := by
  refine z_ofSim rfl (by intro D b; exact Nat.le_of_ble_eq_true rfl) (fun X C hT => ?_)
  unfold p_X9_tourMinutes
  refine r_sub [(0, .ref (x_b X + a)), (1, .int p1)] rfl ?_
  refine r_aload_n (pc := 0) C dX9_tourMinutes_0 rfl rfl ?_
  refine r_iload_n (pc := 1) C dX9_tourMinutes_1 rfl rfl ?_
  refine r_cVI (pc := 2) C [.int p1] [] (z_KX.zero hT) (s_X9_failsTour a p1) mt_X9_failsTour zc_9 dX9_tourMinutes_2 ml_X9_311 im_X9_failsTour se_X9_failsTour rfl rfl rfl (Nat.le_of_ble_eq_true rfl) ⟨Nat.le_of_ble_eq_true rfl, Nat.le_of_ble_eq_true rfl⟩ (fun r1 => ?_)
  refine r_if_eq (pc := 5) C (tgt := 10) dX9_tourMinutes_5 rfl (fun _ => ?_) (fun _ => ?_)
  · refine r_aload_n (pc := 10) C dX9_tourMinutes_10 rfl rfl ?_
    refine r_iload_n (pc := 11) C dX9_tourMinutes_11 rfl rfl ?_
    refine r_cVV (pc := 12) C [.int p1] [] (z_KX.zero hT) (s_X9_findTour a p1) mt_X9_findTour zc_9 dX9_tourMinutes_12 ml_X9_314 im_X9_findTour se_X9_findTour rfl rfl rfl (Nat.le_of_ble_eq_true rfl) ⟨Nat.le_of_ble_eq_true rfl, Nat.le_of_ble_eq_true rfl⟩ ?_
    refine r_aload_n (pc := 15) C dX9_tourMinutes_15 rfl rfl ?_
    refine r_getI (pc := 16) C dX9_tourMinutes_16 fl_X9_295 rfl (fun v3 => ?_)
    exact r_iret (pc := 19) C dX9_tourMinutes_19
  · refine r_iconst (pc := 8) C dX9_tourMinutes_8 ki_0 ?_
    exact r_iret (pc := 9) C dX9_tourMinutes_9
