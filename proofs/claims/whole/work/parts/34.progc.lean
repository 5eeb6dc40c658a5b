noncomputable def p_X5_goOn (a : Nat) (p1 : Nat) : zP Unit := (z_bd (z_gI 7 p1 2) (fun v1 => (z_lp (fun (t2 : Int32) => (if t2 ≤ 0 then (z_pu (.inr ())) else (z_bd (z_cv 7 p1 (p_X7_drives p1)) (fun r3 => (if r3 = 0 then (z_bd (z_gA 7 p1 0) (fun v4 => (z_bd (z_aI 11 v4 0) (fun v5 => (z_bd (z_gA 7 p1 1) (fun v6 => (z_bd (z_aI 11 v6 0) (fun v7 => (z_bd (z_cv 7 p1 (p_X7_dropFirstOrder p1)) (fun _ => (z_bd (z_gI 7 p1 5) (fun v9 => (if v5 = v9 then (z_bd (z_cv 5 a (p_X5_carryOut a p1 v7)) (fun _ => (z_pu (.inl ((t2 + (-1))))))) else (z_bd (z_gI 5 a 7) (fun v10 => (z_bd (z_gA 5 a 6) (fun v11 => (z_bd (z_gI 7 p1 5) (fun v12 => (z_bd (z_cv 0 v11 (p_X0_truckMinutes v11 v12 v5)) (fun r13 => (z_bd (z_pI 7 p1 6 (v10 + r13)) (fun _ => (z_bd (z_pI 7 p1 5 v5) (fun _ => (z_bd (z_pI 7 p1 7 v7) (fun _ => (z_pu (.inl ((t2 + (-1)))))))))))))))))))))))))))))))) else (z_pu (.inr ()))))))) v1)))
set_option maxHeartbeats 4000000 in
set_option maxRecDepth 100000 in
theorem s_X5_goOn (a : Nat) (p1 : Nat) : z_Sound yX5_goOn cX5_goOn 5 none 3 66 (fun D b => [.ref (b + a), .ref (b + p1)]) z_ivV (p_X5_goOn a p1) := by
  refine z_ofSim rfl (by intro D b; exact Nat.le_of_ble_eq_true rfl) (fun X C hT => ?_)
  unfold p_X5_goOn
  refine r_sub [(0, .ref (x_b X + a)), (1, .ref (x_b X + p1))] rfl ?_
  refine r_aload_n (pc := 0) C dX5_goOn_0 rfl rfl ?_
  refine r_getI (pc := 1) C dX5_goOn_1 fl_X5_198 rfl (fun v1 => ?_)
  refine r_sti_n (pc := 4) C 2 [(0, .ref (x_b X + a)), (1, .ref (x_b X + p1)), (2, .int v1)] dX5_goOn_4 rfl (by decide) rfl ?_
  refine r_sub [(0, .ref (x_b X + a)), (1, .ref (x_b X + p1)), (2, .int v1)] rfl ?_
  refine r_lp (pc := 5) (fun (t2 : Int32) => [(0, .ref (x_b X + a)), (1, .ref (x_b X + p1)), (2, .int t2)]) (fun t2 => ?_) v1
  refine r_iload_n (pc := 5) C dX5_goOn_5 rfl rfl ?_
  refine r_if_le (pc := 6) C (tgt := 91) dX5_goOn_6 rfl (fun _ => ?_) (fun _ => ?_)
  · exact r_up (r_vret (pc := 91) C dX5_goOn_91)
  · refine r_aload_n (pc := 9) C dX5_goOn_9 rfl rfl ?_
    refine r_cVI (pc := 10) C [] [] (z_KX.up (z_KX.zero hT)) (s_X7_drives p1) mt_X7_drives zc_7 dX5_goOn_10 ml_X5_201 im_X7_drives se_X7_drives rfl rfl rfl (Nat.le_of_ble_eq_true rfl) ⟨Nat.le_of_ble_eq_true rfl, Nat.le_of_ble_eq_true rfl⟩ (fun r3 => ?_)
    refine r_if_ne (pc := 13) C (tgt := 91) dX5_goOn_13 rfl (fun _ => ?_) (fun _ => ?_)
    · refine r_aload_n (pc := 16) C dX5_goOn_16 rfl rfl ?_
      refine r_getA (pc := 17) C dX5_goOn_17 fl_X5_205 rfl (fun v4 => ?_)
      refine r_iconst (pc := 20) C dX5_goOn_20 ki_0 ?_
      refine r_iald (pc := 21) C dX5_goOn_21 (fun v5 => ?_)
      refine r_sti_n (pc := 22) C 3 [(0, .ref (x_b X + a)), (1, .ref (x_b X + p1)), (2, .int t2), (3, .int v5)] dX5_goOn_22 rfl (by decide) rfl ?_
      refine r_aload_n (pc := 23) C dX5_goOn_23 rfl rfl ?_
      refine r_getA (pc := 24) C dX5_goOn_24 fl_X5_208 rfl (fun v6 => ?_)
      refine r_iconst (pc := 27) C dX5_goOn_27 ki_0 ?_
      refine r_iald (pc := 28) C dX5_goOn_28 (fun v7 => ?_)
      refine r_sti (pc := 29) C [(0, .ref (x_b X + a)), (1, .ref (x_b X + p1)), (2, .int t2), (3, .int v5), (4, .int v7)] dX5_goOn_29 (by decide) rfl ?_
      refine r_aload_n (pc := 31) C dX5_goOn_31 rfl rfl ?_
      refine r_cVV (pc := 32) C [] [] (z_KX.up (z_KX.zero hT)) (s_X7_dropFirstOrder p1) mt_X7_dropFirstOrder zc_7 dX5_goOn_32 ml_X5_211 im_X7_dropFirstOrder se_X7_dropFirstOrder rfl rfl rfl (Nat.le_of_ble_eq_true rfl) ⟨Nat.le_of_ble_eq_true rfl, Nat.le_of_ble_eq_true rfl⟩ ?_
      refine r_iload_n (pc := 35) C dX5_goOn_35 rfl rfl ?_
      refine r_aload_n (pc := 36) C dX5_goOn_36 rfl rfl ?_
      refine r_getI (pc := 37) C dX5_goOn_37 fl_X5_214 rfl (fun v9 => ?_)
      refine r_icmp_ne (pc := 40) C (tgt := 53) dX5_goOn_40 rfl (fun _ => ?_) (fun _ => ?_)
      · refine r_aload_n (pc := 43) C dX5_goOn_43 rfl rfl ?_
        refine r_aload_n (pc := 44) C dX5_goOn_44 rfl rfl ?_
        refine r_iload (pc := 45) C dX5_goOn_45 rfl ?_
        refine r_cVV (pc := 47) C [.ref (x_b X + p1), .int v7] [] (z_KX.up (z_KX.zero hT)) (s_X5_carryOut a p1 v7) mt_X5_carryOut zc_5 dX5_goOn_47 ml_X5_217 im_X5_carryOut se_X5_carryOut rfl rfl rfl (Nat.le_of_ble_eq_true rfl) ⟨Nat.le_of_ble_eq_true rfl, Nat.le_of_ble_eq_true rfl⟩ ?_
        refine r_goto (pc := 50) C (tgt := 85) dX5_goOn_50 rfl ?_
        refine r_inc (pc := 85) C (-1) [(0, .ref (x_b X + a)), (1, .ref (x_b X + p1)), (2, .int (t2 + (-1)))] dX5_goOn_85 rfl ki_m1 (by decide) rfl ?_
        refine r_goto (pc := 88) C (tgt := 5) dX5_goOn_88 rfl ?_
        refine r_sub [(0, .ref (x_b X + a)), (1, .ref (x_b X + p1)), (2, .int (t2 + (-1)))] rfl ?_
        exact r_br (τ := Int32) ((t2 + (-1)))
      · refine r_aload_n (pc := 53) C dX5_goOn_53 rfl rfl ?_
        refine r_aload_n (pc := 54) C dX5_goOn_54 rfl rfl ?_
        refine r_getI (pc := 55) C dX5_goOn_55 fl_X5_46 rfl (fun v10 => ?_)
        refine r_aload_n (pc := 58) C dX5_goOn_58 rfl rfl ?_
        refine r_getA (pc := 59) C dX5_goOn_59 fl_X5_42 rfl (fun v11 => ?_)
        refine r_aload_n (pc := 62) C dX5_goOn_62 rfl rfl ?_
        refine r_getI (pc := 63) C dX5_goOn_63 fl_X5_214 rfl (fun v12 => ?_)
        refine r_iload_n (pc := 66) C dX5_goOn_66 rfl rfl ?_
        refine r_cVI (pc := 67) C [.int v12, .int v5] [.int v10, .ref (x_b X + p1)] (z_KX.up (z_KX.zero hT)) (s_X0_truckMinutes v11 v12 v5) mt_X0_truckMinutes zc_0 dX5_goOn_67 ml_X5_221 im_X0_truckMinutes se_X0_truckMinutes rfl rfl rfl (Nat.le_of_ble_eq_true rfl) ⟨Nat.le_of_ble_eq_true rfl, Nat.le_of_ble_eq_true rfl⟩ (fun r13 => ?_)
        refine r_iadd (pc := 70) C dX5_goOn_70 ?_
        refine r_putI (pc := 71) C dX5_goOn_71 fl_X5_224 rfl rfl ?_
        refine r_aload_n (pc := 74) C dX5_goOn_74 rfl rfl ?_
        refine r_iload_n (pc := 75) C dX5_goOn_75 rfl rfl ?_
        refine r_putI (pc := 76) C dX5_goOn_76 fl_X5_214 rfl rfl ?_
        refine r_aload_n (pc := 79) C dX5_goOn_79 rfl rfl ?_
        refine r_iload (pc := 80) C dX5_goOn_80 rfl ?_
        refine r_putI (pc := 82) C dX5_goOn_82 fl_X5_227 rfl rfl ?_
        refine r_inc (pc := 85) C (-1) [(0, .ref (x_b X + a)), (1, .ref (x_b X + p1)), (2, .int (t2 + (-1)))] dX5_goOn_85 rfl ki_m1 (by decide) rfl ?_
        refine r_goto (pc := 88) C (tgt := 5) dX5_goOn_88 rfl ?_
        refine r_sub [(0, .ref (x_b X + a)), (1, .ref (x_b X + p1)), (2, .int (t2 + (-1)))] rfl ?_
        exact r_br (τ := Int32) ((t2 + (-1)))
    · exact r_up (r_vret (pc := 91) C dX5_goOn_91)
noncomputable def p_X5_arrive (a : Nat) (p1 : Nat) : zP Unit := (z_bd (z_pI 7 p1 6 (-1)) (fun _ => (z_bd (z_gI 7 p1 7) (fun v1 => (z_bd (z_cv 5 a (p_X5_carryOut a p1 v1)) (fun _ => (z_bd (z_cv 5 a (p_X5_goOn a p1)) (fun _ => (z_pu ())))))))))
set_option maxHeartbeats 4000000 in
set_option maxRecDepth 100000 in
theorem s_X5_arrive (a : Nat) (p1 : Nat) : z_Sound yX5_arrive cX5_arrive 2 none 4 90 (fun D b => [.ref (b + a), .ref (b + p1)]) z_ivV (p_X5_arrive a p1) := by
  refine z_ofSim rfl (by intro D b; exact Nat.le_of_ble_eq_true rfl) (fun X C hT => ?_)
  unfold p_X5_arrive
  refine r_sub [(0, .ref (x_b X + a)), (1, .ref (x_b X + p1))] rfl ?_
  refine r_aload_n (pc := 0) C dX5_arrive_0 rfl rfl ?_
  refine r_iconst (pc := 1) C dX5_arrive_1 ki_m1 ?_
  refine r_putI (pc := 2) C dX5_arrive_2 fl_X5_224 rfl rfl ?_
  refine r_aload_n (pc := 5) C dX5_arrive_5 rfl rfl ?_
  refine r_aload_n (pc := 6) C dX5_arrive_6 rfl rfl ?_
  refine r_aload_n (pc := 7) C dX5_arrive_7 rfl rfl ?_
  refine r_getI (pc := 8) C dX5_arrive_8 fl_X5_227 rfl (fun v1 => ?_)
  refine r_cVV (pc := 11) C [.ref (x_b X + p1), .int v1] [] (z_KX.zero hT) (s_X5_carryOut a p1 v1) mt_X5_carryOut zc_5 dX5_arrive_11 ml_X5_217 im_X5_carryOut se_X5_carryOut rfl rfl rfl (Nat.le_of_ble_eq_true rfl) ⟨Nat.le_of_ble_eq_true rfl, Nat.le_of_ble_eq_true rfl⟩ ?_
  refine r_aload_n (pc := 14) C dX5_arrive_14 rfl rfl ?_
  refine r_aload_n (pc := 15) C dX5_arrive_15 rfl rfl ?_
  refine r_cVV (pc := 16) C [.ref (x_b X + p1)] [] (z_KX.zero hT) (s_X5_goOn a p1) mt_X5_goOn zc_5 dX5_arrive_16 ml_X5_233 im_X5_goOn se_X5_goOn rfl rfl rfl (Nat.le_of_ble_eq_true rfl) ⟨Nat.le_of_ble_eq_true rfl, Nat.le_of_ble_eq_true rfl⟩ ?_
  exact r_vret (pc := 19) C dX5_arrive_19
noncomputable def p_X5_nextEvent (a : Nat) : zP Int32 := (z_bd (z_gA 5 a 5) (fun v1 => (z_bd (z_gI 4 v1 1) (fun v2 => (z_jn (τ := Int32) (if v2 ≤ 0 then (z_pu (.inl 1048576)) else (z_bd (z_gA 5 a 5) (fun v4 => (z_bd (z_gA 4 v4 0) (fun v5 => (z_bd (z_aI 11 v5 0) (fun v6 => (z_bd (p_X4_arrival v6) (fun r7 => (z_pu (.inl r7))))))))))) (fun t3 => (z_jn (τ := Int32) (z_lp (fun (t9 : Int32 × Int32) => (z_bd (z_gA 5 a 6) (fun v10 => (z_bd (z_gI 0 v10 11) (fun v11 => (if v11 ≤ t9.2 then (z_pu (.inr (.inl t9.1))) else (z_bd (z_gA 5 a 4) (fun v12 => (z_bd (z_aA 14 v12 t9.2) (fun v13 => (z_bd (z_cv 7 v13 (p_X7_drives v13)) (fun r14 => (if r14 = 0 then (z_pu (.inl (t9.1, (t9.2 + 1)))) else (z_bd (z_gA 5 a 4) (fun v15 => (z_bd (z_aA 14 v15 t9.2) (fun v16 => (z_bd (z_gI 7 v16 6) (fun v17 => (z_bd (z_pu (if v17 < t9.1 then v17 else t9.1)) (fun x18 => (z_pu (.inl (x18, (t9.2 + 1))))))))))))))))))))))))) (t3, 0)) (fun t8 => (z_bd (z_gI 5 a 7) (fun v19 => (z_bd (z_pu ((v19 + 1))) (fun x20 => (z_bd (z_pu ((x20 - x20 / 1440 * 1440))) (fun x21 => (z_lp (fun (t22 : Int32 × Int32) => (z_bd (z_gA 5 a 6) (fun v23 => (z_bd (z_gI 0 v23 12) (fun v24 => (if v24 ≤ t22.2 then (z_pu (.inr t22.1)) else (z_bd (z_gA 5 a 6) (fun v25 => (z_bd (z_gA 0 v25 8) (fun v26 => (z_bd (z_aI 11 v26 t22.2) (fun v27 => (z_bd (z_pu ((v27 - x21))) (fun x28 => (z_jn (τ := Int32) (if 0 ≤ x28 then (z_pu (.inl x28)) else (z_pu (.inl ((x28 + 1440))))) (fun t29 => (z_bd (z_pu (if (x20 + t29) < t22.1 then (x20 + t29) else t22.1)) (fun x30 => (z_pu (.inl (x30, (t22.2 + 1)))))))))))))))))))))) (t8, 0))))))))))))))))
set_option maxHeartbeats 4000000 in
set_option maxRecDepth 100000 in
theorem s_X5_nextEvent (a : Nat) : z_Sound yX5_nextEvent cX5_nextEvent 6 (some .int) 2 40 (fun D b => [.ref (b + a)]) z_ivI (p_X5_nextEvent a) := by
  refine z_ofSim rfl (by intro D b; exact Nat.le_of_ble_eq_true rfl) (fun X C hT => ?_)
  unfold p_X5_nextEvent
  refine r_sub [(0, .ref (x_b X + a))] rfl ?_
  refine r_aload_n (pc := 0) C dX5_nextEvent_0 rfl rfl ?_
  refine r_getA (pc := 1) C dX5_nextEvent_1 fl_X5_33 rfl (fun v1 => ?_)
  refine r_getI (pc := 4) C dX5_nextEvent_4 fl_X5_65 rfl (fun v2 => ?_)
  refine r_jn 27 (fun (t3 : Int32) => [(0, .ref (x_b X + a))]) (fun (t3 : Int32) => [.int t3]) (fun t3 => ?_) ?_
  · refine r_sti_n (pc := 27) C 1 [(0, .ref (x_b X + a)), (1, .int t3)] dX5_nextEvent_27 rfl (by decide) rfl ?_
    refine r_iconst (pc := 28) C dX5_nextEvent_28 ki_0 ?_
    refine r_sti_n (pc := 29) C 2 [(0, .ref (x_b X + a)), (1, .int t3), (2, .int 0)] dX5_nextEvent_29 rfl (by decide) rfl ?_
    refine r_jn 73 (fun (t8 : Int32) => [(0, .ref (x_b X + a)), (1, .int t8)]) (fun (t8 : Int32) => []) (fun t8 => ?_) ?_
    · refine r_aload_n (pc := 73) C dX5_nextEvent_73 rfl rfl ?_
      refine r_getI (pc := 74) C dX5_nextEvent_74 fl_X5_46 rfl (fun v19 => ?_)
      refine r_iconst (pc := 77) C dX5_nextEvent_77 ki_1 ?_
      refine r_iadd (pc := 78) C dX5_nextEvent_78 ?_
      refine r_sti_n (pc := 79) C 2 [(0, .ref (x_b X + a)), (1, .int t8), (2, .int (v19 + 1))] dX5_nextEvent_79 rfl (by decide) rfl ?_
      refine r_let ((v19 + 1)) (fun x20 => [(0, .ref (x_b X + a)), (1, .int t8), (2, .int x20)]) (fun x20 => []) (fun x20 => ?_)
      refine r_iload_n (pc := 80) C dX5_nextEvent_80 rfl rfl ?_
      refine r_sipush (pc := 81) C dX5_nextEvent_81 ks_1440 ?_
      refine r_irem (pc := 84) C dX5_nextEvent_84 (by decide) ?_
      refine r_sti_n (pc := 85) C 3 [(0, .ref (x_b X + a)), (1, .int t8), (2, .int x20), (3, .int (x20 - x20 / 1440 * 1440))] dX5_nextEvent_85 rfl (by decide) rfl ?_
      refine r_let ((x20 - x20 / 1440 * 1440)) (fun x21 => [(0, .ref (x_b X + a)), (1, .int t8), (2, .int x20), (3, .int x21)]) (fun x21 => []) (fun x21 => ?_)
      refine r_iconst (pc := 86) C dX5_nextEvent_86 ki_0 ?_
      refine r_sti (pc := 87) C [(0, .ref (x_b X + a)), (1, .int t8), (2, .int x20), (3, .int x21), (4, .int 0)] dX5_nextEvent_87 (by decide) rfl ?_
      refine r_sub [(0, .ref (x_b X + a)), (1, .int t8), (2, .int x20), (3, .int x21), (4, .int 0)] rfl ?_
      refine r_lp (pc := 89) (fun (t22 : Int32 × Int32) => [(0, .ref (x_b X + a)), (1, .int t22.1), (2, .int x20), (3, .int x21), (4, .int t22.2)]) (fun t22 => ?_) (t8, 0)
      refine r_iload (pc := 89) C dX5_nextEvent_89 rfl ?_
      refine r_aload_n (pc := 91) C dX5_nextEvent_91 rfl rfl ?_
      refine r_getA (pc := 92) C dX5_nextEvent_92 fl_X5_42 rfl (fun v23 => ?_)
      refine r_getI (pc := 95) C dX5_nextEvent_95 fl_X5_250 rfl (fun v24 => ?_)
      refine r_icmp_ge (pc := 98) C (tgt := 144) dX5_nextEvent_98 rfl (fun _ => ?_) (fun _ => ?_)
      · refine r_iload_n (pc := 144) C dX5_nextEvent_144 rfl rfl ?_
        exact r_up (r_iret (pc := 145) C dX5_nextEvent_145)
      · refine r_aload_n (pc := 101) C dX5_nextEvent_101 rfl rfl ?_
        refine r_getA (pc := 102) C dX5_nextEvent_102 fl_X5_42 rfl (fun v25 => ?_)
        refine r_getA (pc := 105) C dX5_nextEvent_105 fl_X5_253 rfl (fun v26 => ?_)
        refine r_iload (pc := 108) C dX5_nextEvent_108 rfl ?_
        refine r_iald (pc := 110) C dX5_nextEvent_110 (fun v27 => ?_)
        refine r_iload_n (pc := 111) C dX5_nextEvent_111 rfl rfl ?_
        refine r_isub (pc := 112) C dX5_nextEvent_112 ?_
        refine r_sti (pc := 113) C [(0, .ref (x_b X + a)), (1, .int t22.1), (2, .int x20), (3, .int x21), (4, .int t22.2), (5, .int (v27 - x21))] dX5_nextEvent_113 (by decide) rfl ?_
        refine r_let ((v27 - x21)) (fun x28 => [(0, .ref (x_b X + a)), (1, .int t22.1), (2, .int x20), (3, .int x21), (4, .int t22.2), (5, .int x28)]) (fun x28 => []) (fun x28 => ?_)
        refine r_iload_n (pc := 115) C dX5_nextEvent_115 rfl rfl ?_
        refine r_iload_n (pc := 116) C dX5_nextEvent_116 rfl rfl ?_
        refine r_iload (pc := 117) C dX5_nextEvent_117 rfl ?_
        refine r_jn 133 (fun (t29 : Int32) => [(0, .ref (x_b X + a)), (2, .int x20), (3, .int x21), (4, .int t22.2)]) (fun (t29 : Int32) => [.int t29, .int x20, .int t22.1]) (fun t29 => ?_) ?_
        · refine r_iadd (pc := 133) C dX5_nextEvent_133 ?_
          refine r_min (pc := 134) C dX5_nextEvent_134 ml_X5_159 sm_min ini_math cd_min (Nat.le_of_ble_eq_true rfl) (Nat.le_of_ble_eq_true rfl) ?_
          refine r_sub [(0, .ref (x_b X + a)), (2, .int x20), (3, .int x21), (4, .int t22.2)] rfl ?_
          refine r_let (if (x20 + t29) < t22.1 then (x20 + t29) else t22.1) (fun x30 => [(0, .ref (x_b X + a)), (2, .int x20), (3, .int x21), (4, .int t22.2)]) (fun x30 => [.int x30]) (fun x30 => ?_)
          refine r_sti_n (pc := 137) C 1 [(0, .ref (x_b X + a)), (1, .int x30), (2, .int x20), (3, .int x21), (4, .int t22.2)] dX5_nextEvent_137 rfl (by decide) rfl ?_
          refine r_inc (pc := 138) C 1 [(0, .ref (x_b X + a)), (1, .int x30), (2, .int x20), (3, .int x21), (4, .int (t22.2 + 1))] dX5_nextEvent_138 rfl ki_1 (by decide) rfl ?_
          refine r_goto (pc := 141) C (tgt := 89) dX5_nextEvent_141 rfl ?_
          refine r_sub [(0, .ref (x_b X + a)), (1, .int x30), (2, .int x20), (3, .int x21), (4, .int (t22.2 + 1))] rfl ?_
          exact r_br (τ := Int32 × Int32) (x30, (t22.2 + 1))
        · refine r_if_ge (pc := 119) C (tgt := 131) dX5_nextEvent_119 rfl (fun _ => ?_) (fun _ => ?_)
          · refine r_iload (pc := 131) C dX5_nextEvent_131 rfl ?_
            refine r_sub [(0, .ref (x_b X + a)), (2, .int x20), (3, .int x21), (4, .int t22.2)] rfl ?_
            exact r_br (τ := Int32) x28
          · refine r_iload (pc := 122) C dX5_nextEvent_122 rfl ?_
            refine r_sipush (pc := 124) C dX5_nextEvent_124 ks_1440 ?_
            refine r_iadd (pc := 127) C dX5_nextEvent_127 ?_
            refine r_goto (pc := 128) C (tgt := 133) dX5_nextEvent_128 rfl ?_
            refine r_sub [(0, .ref (x_b X + a)), (2, .int x20), (3, .int x21), (4, .int t22.2)] rfl ?_
            exact r_br (τ := Int32) ((x28 + 1440))
    · refine r_sub [(0, .ref (x_b X + a)), (1, .int t3), (2, .int 0)] rfl ?_
      refine r_lp (pc := 30) (fun (t9 : Int32 × Int32) => [(0, .ref (x_b X + a)), (1, .int t9.1), (2, .int t9.2)]) (fun t9 => ?_) (t3, 0)
      refine r_iload_n (pc := 30) C dX5_nextEvent_30 rfl rfl ?_
      refine r_aload_n (pc := 31) C dX5_nextEvent_31 rfl rfl ?_
      refine r_getA (pc := 32) C dX5_nextEvent_32 fl_X5_42 rfl (fun v10 => ?_)
      refine r_getI (pc := 35) C dX5_nextEvent_35 fl_X5_137 rfl (fun v11 => ?_)
      refine r_icmp_ge (pc := 38) C (tgt := 73) dX5_nextEvent_38 rfl (fun _ => ?_) (fun _ => ?_)
      · refine r_sub [(0, .ref (x_b X + a)), (1, .int t9.1)] rfl ?_
        exact r_up (r_br (τ := Int32) t9.1)
      · refine r_aload_n (pc := 41) C dX5_nextEvent_41 rfl rfl ?_
        refine r_getA (pc := 42) C dX5_nextEvent_42 fl_X5_26 rfl (fun v12 => ?_)
        refine r_iload_n (pc := 45) C dX5_nextEvent_45 rfl rfl ?_
        refine r_aald (pc := 46) C (by decide) dX5_nextEvent_46 (fun v13 => ?_)
        refine r_cVI (pc := 47) C [] [] (z_KX.up (z_KX.up (z_KX.zero hT))) (s_X7_drives v13) mt_X7_drives zc_7 dX5_nextEvent_47 ml_X5_201 im_X7_drives se_X7_drives rfl rfl rfl (Nat.le_of_ble_eq_true rfl) ⟨Nat.le_of_ble_eq_true rfl, Nat.le_of_ble_eq_true rfl⟩ (fun r14 => ?_)
        refine r_if_eq (pc := 50) C (tgt := 67) dX5_nextEvent_50 rfl (fun _ => ?_) (fun _ => ?_)
        · refine r_inc (pc := 67) C 1 [(0, .ref (x_b X + a)), (1, .int t9.1), (2, .int (t9.2 + 1))] dX5_nextEvent_67 rfl ki_1 (by decide) rfl ?_
          refine r_goto (pc := 70) C (tgt := 30) dX5_nextEvent_70 rfl ?_
          refine r_sub [(0, .ref (x_b X + a)), (1, .int t9.1), (2, .int (t9.2 + 1))] rfl ?_
          exact r_br (τ := Int32 × Int32) (t9.1, (t9.2 + 1))
        · refine r_iload_n (pc := 53) C dX5_nextEvent_53 rfl rfl ?_
          refine r_aload_n (pc := 54) C dX5_nextEvent_54 rfl rfl ?_
          refine r_getA (pc := 55) C dX5_nextEvent_55 fl_X5_26 rfl (fun v15 => ?_)
          refine r_iload_n (pc := 58) C dX5_nextEvent_58 rfl rfl ?_
          refine r_aald (pc := 59) C (by decide) dX5_nextEvent_59 (fun v16 => ?_)
          refine r_getI (pc := 60) C dX5_nextEvent_60 fl_X5_224 rfl (fun v17 => ?_)
          refine r_min (pc := 63) C dX5_nextEvent_63 ml_X5_159 sm_min ini_math cd_min (Nat.le_of_ble_eq_true rfl) (Nat.le_of_ble_eq_true rfl) ?_
          refine r_sub [(0, .ref (x_b X + a)), (2, .int t9.2)] rfl ?_
          refine r_let (if v17 < t9.1 then v17 else t9.1) (fun x18 => [(0, .ref (x_b X + a)), (2, .int t9.2)]) (fun x18 => [.int x18]) (fun x18 => ?_)
          refine r_sti_n (pc := 66) C 1 [(0, .ref (x_b X + a)), (1, .int x18), (2, .int t9.2)] dX5_nextEvent_66 rfl (by decide) rfl ?_
          refine r_inc (pc := 67) C 1 [(0, .ref (x_b X + a)), (1, .int x18), (2, .int (t9.2 + 1))] dX5_nextEvent_67 rfl ki_1 (by decide) rfl ?_
          refine r_goto (pc := 70) C (tgt := 30) dX5_nextEvent_70 rfl ?_
          refine r_sub [(0, .ref (x_b X + a)), (1, .int x18), (2, .int (t9.2 + 1))] rfl ?_
          exact r_br (τ := Int32 × Int32) (x18, (t9.2 + 1))
  · refine r_if_le (pc := 7) C (tgt := 25) dX5_nextEvent_7 rfl (fun _ => ?_) (fun _ => ?_)
    · refine r_ldc (pc := 25) C dX5_nextEvent_25 kc_X5_249 ?_
      refine r_sub [(0, .ref (x_b X + a))] rfl ?_
      exact r_br (τ := Int32) 1048576
    · refine r_aload_n (pc := 10) C dX5_nextEvent_10 rfl rfl ?_
      refine r_getA (pc := 11) C dX5_nextEvent_11 fl_X5_33 rfl (fun v4 => ?_)
      refine r_getA (pc := 14) C dX5_nextEvent_14 fl_X5_175 rfl (fun v5 => ?_)
      refine r_iconst (pc := 17) C dX5_nextEvent_17 ki_0 ?_
      refine r_iald (pc := 18) C dX5_nextEvent_18 (fun v6 => ?_)
      refine r_cSI (pc := 19) C [.int v6] [] (z_KX.up (z_KX.zero hT)) (s_X4_arrival v6) mt_X4_arrival dX5_nextEvent_19 ml_X5_246 sm_X4_arrival rfl rfl rfl (Nat.le_of_ble_eq_true rfl) ⟨Nat.le_of_ble_eq_true rfl, Nat.le_of_ble_eq_true rfl⟩ (fun r7 => ?_)
      refine r_goto (pc := 22) C (tgt := 27) dX5_nextEvent_22 rfl ?_
      refine r_sub [(0, .ref (x_b X + a))] rfl ?_
      exact r_br (τ := Int32) r7
noncomputable def p_X5_happen (a : Nat) : zP Int32 := (z_jn (τ := Unit) (z_lp (fun (t2 : Int32) => (z_bd (z_gA 5 a 6) (fun v3 => (z_bd (z_gI 0 v3 11) (fun v4 => (if v4 ≤ t2 then (z_pu (.inr (.inl ()))) else (z_bd (z_gA 5 a 4) (fun v5 => (z_bd (z_aA 14 v5 t2) (fun v6 => (z_bd (z_gI 7 v6 6) (fun v7 => (z_bd (z_gI 5 a 7) (fun v8 => (if v7 = v8 then (z_bd (z_gA 5 a 4) (fun v9 => (z_bd (z_aA 14 v9 t2) (fun v10 => (z_bd (z_cv 5 a (p_X5_arrive a v10)) (fun _ => (z_pu (.inl ((t2 + 1)))))))))) else (z_pu (.inl ((t2 + 1))))))))))))))))))) 0) (fun t1 => (z_bd (z_cv 5 a (p_X5_landRiders a)) (fun r12 => (z_bd (z_gI 5 a 7) (fun v13 => (z_bd (z_pu ((v13 - v13 / 1440 * 1440))) (fun x14 => (z_lp (fun (t15 : Int32) => (z_bd (z_gA 5 a 6) (fun v16 => (z_bd (z_gI 0 v16 12) (fun v17 => (if v17 ≤ t15 then (z_pu (.inr r12)) else (z_bd (z_gA 5 a 6) (fun v18 => (z_bd (z_gA 0 v18 8) (fun v19 => (z_bd (z_aI 11 v19 t15) (fun v20 => (if v20 = x14 then (z_bd (z_gA 5 a 6) (fun v21 => (z_bd (z_gA 0 v21 6) (fun v22 => (z_bd (z_aI 11 v22 t15) (fun v23 => (z_bd (z_cv 5 a (p_X5_canRide a v23)) (fun r24 => (if r24 = 0 then (z_bd (z_gI 5 a 11) (fun v25 => (z_bd (z_pI 5 a 11 (v25 + 1)) (fun _ => (z_pu (.inl ((t15 + 1)))))))) else (z_bd (z_gA 5 a 6) (fun v26 => (z_bd (z_gA 0 v26 6) (fun v27 => (z_bd (z_aI 11 v27 t15) (fun v28 => (z_bd (z_gA 5 a 6) (fun v29 => (z_bd (z_gA 0 v29 7) (fun v30 => (z_bd (z_aI 11 v30 t15) (fun v31 => (z_bd (z_cv 5 a (p_X5_startRide a v28 v31)) (fun _ => (z_pu (.inl ((t15 + 1))))))))))))))))))))))))))) else (z_pu (.inl ((t15 + 1))))))))))))))))) 0)))))))))
set_option maxHeartbeats 4000000 in
set_option maxRecDepth 100000 in
theorem s_X5_happen (a : Nat) : z_Sound yX5_happen cX5_happen 4 (some .int) 5 118 (fun D b => [.ref (b + a)]) z_ivI (p_X5_happen a) := by
  refine z_ofSim rfl (by intro D b; exact Nat.le_of_ble_eq_true rfl) (fun X C hT => ?_)
  unfold p_X5_happen
  refine r_sub [(0, .ref (x_b X + a))] rfl ?_
  refine r_iconst (pc := 0) C dX5_happen_0 ki_0 ?_
  refine r_sti_n (pc := 1) C 1 [(0, .ref (x_b X + a)), (1, .int 0)] dX5_happen_1 rfl (by decide) rfl ?_
  refine r_jn 45 (fun (t1 : Unit) => [(0, .ref (x_b X + a))]) (fun (t1 : Unit) => []) (fun t1 => ?_) ?_
  · refine r_aload_n (pc := 45) C dX5_happen_45 rfl rfl ?_
    refine r_cVI (pc := 46) C [] [] (z_KX.zero hT) (s_X5_landRiders a) mt_X5_landRiders zc_5 dX5_happen_46 ml_X5_259 im_X5_landRiders se_X5_landRiders rfl rfl rfl (Nat.le_of_ble_eq_true rfl) ⟨Nat.le_of_ble_eq_true rfl, Nat.le_of_ble_eq_true rfl⟩ (fun r12 => ?_)
    refine r_sti_n (pc := 49) C 1 [(0, .ref (x_b X + a)), (1, .int r12)] dX5_happen_49 rfl (by decide) rfl ?_
    refine r_aload_n (pc := 50) C dX5_happen_50 rfl rfl ?_
    refine r_getI (pc := 51) C dX5_happen_51 fl_X5_46 rfl (fun v13 => ?_)
    refine r_sipush (pc := 54) C dX5_happen_54 ks_1440 ?_
    refine r_irem (pc := 57) C dX5_happen_57 (by decide) ?_
    refine r_sti_n (pc := 58) C 2 [(0, .ref (x_b X + a)), (1, .int r12), (2, .int (v13 - v13 / 1440 * 1440))] dX5_happen_58 rfl (by decide) rfl ?_
    refine r_let ((v13 - v13 / 1440 * 1440)) (fun x14 => [(0, .ref (x_b X + a)), (1, .int r12), (2, .int x14)]) (fun x14 => []) (fun x14 => ?_)
    refine r_iconst (pc := 59) C dX5_happen_59 ki_0 ?_
    refine r_sti_n (pc := 60) C 3 [(0, .ref (x_b X + a)), (1, .int r12), (2, .int x14), (3, .int 0)] dX5_happen_60 rfl (by decide) rfl ?_
    refine r_sub [(0, .ref (x_b X + a)), (1, .int r12), (2, .int x14), (3, .int 0)] rfl ?_
    refine r_lp (pc := 61) (fun (t15 : Int32) => [(0, .ref (x_b X + a)), (1, .int r12), (2, .int x14), (3, .int t15)]) (fun t15 => ?_) 0
    refine r_iload_n (pc := 61) C dX5_happen_61 rfl rfl ?_
    refine r_aload_n (pc := 62) C dX5_happen_62 rfl rfl ?_
    refine r_getA (pc := 63) C dX5_happen_63 fl_X5_42 rfl (fun v16 => ?_)
    refine r_getI (pc := 66) C dX5_happen_66 fl_X5_250 rfl (fun v17 => ?_)
    refine r_icmp_ge (pc := 69) C (tgt := 145) dX5_happen_69 rfl (fun _ => ?_) (fun _ => ?_)
    · refine r_iload_n (pc := 145) C dX5_happen_145 rfl rfl ?_
      exact r_up (r_iret (pc := 146) C dX5_happen_146)
    · refine r_aload_n (pc := 72) C dX5_happen_72 rfl rfl ?_
      refine r_getA (pc := 73) C dX5_happen_73 fl_X5_42 rfl (fun v18 => ?_)
      refine r_getA (pc := 76) C dX5_happen_76 fl_X5_253 rfl (fun v19 => ?_)
      refine r_iload_n (pc := 79) C dX5_happen_79 rfl rfl ?_
      refine r_iald (pc := 80) C dX5_happen_80 (fun v20 => ?_)
      refine r_iload_n (pc := 81) C dX5_happen_81 rfl rfl ?_
      refine r_icmp_eq (pc := 82) C (tgt := 88) dX5_happen_82 rfl (fun _ => ?_) (fun _ => ?_)
      · refine r_aload_n (pc := 88) C dX5_happen_88 rfl rfl ?_
        refine r_aload_n (pc := 89) C dX5_happen_89 rfl rfl ?_
        refine r_getA (pc := 90) C dX5_happen_90 fl_X5_42 rfl (fun v21 => ?_)
        refine r_getA (pc := 93) C dX5_happen_93 fl_X5_262 rfl (fun v22 => ?_)
        refine r_iload_n (pc := 96) C dX5_happen_96 rfl rfl ?_
        refine r_iald (pc := 97) C dX5_happen_97 (fun v23 => ?_)
        refine r_cVI (pc := 98) C [.int v23] [] (z_KX.up (z_KX.zero hT)) (s_X5_canRide a v23) mt_X5_canRide zc_5 dX5_happen_98 ml_X5_265 im_X5_canRide se_X5_canRide rfl rfl rfl (Nat.le_of_ble_eq_true rfl) ⟨Nat.le_of_ble_eq_true rfl, Nat.le_of_ble_eq_true rfl⟩ (fun r24 => ?_)
        refine r_if_eq (pc := 101) C (tgt := 129) dX5_happen_101 rfl (fun _ => ?_) (fun _ => ?_)
        · refine r_aload_n (pc := 129) C dX5_happen_129 rfl rfl ?_
          refine r_dup (pc := 130) C dX5_happen_130 rfl ?_
          refine r_getI (pc := 131) C dX5_happen_131 fl_X5_59 rfl (fun v25 => ?_)
          refine r_iconst (pc := 134) C dX5_happen_134 ki_1 ?_
          refine r_iadd (pc := 135) C dX5_happen_135 ?_
          refine r_putI (pc := 136) C dX5_happen_136 fl_X5_59 rfl rfl ?_
          refine r_inc (pc := 139) C 1 [(0, .ref (x_b X + a)), (1, .int r12), (2, .int x14), (3, .int (t15 + 1))] dX5_happen_139 rfl ki_1 (by decide) rfl ?_
          refine r_goto (pc := 142) C (tgt := 61) dX5_happen_142 rfl ?_
          refine r_sub [(0, .ref (x_b X + a)), (1, .int r12), (2, .int x14), (3, .int (t15 + 1))] rfl ?_
          exact r_br (τ := Int32) ((t15 + 1))
        · refine r_aload_n (pc := 104) C dX5_happen_104 rfl rfl ?_
          refine r_aload_n (pc := 105) C dX5_happen_105 rfl rfl ?_
          refine r_getA (pc := 106) C dX5_happen_106 fl_X5_42 rfl (fun v26 => ?_)
          refine r_getA (pc := 109) C dX5_happen_109 fl_X5_262 rfl (fun v27 => ?_)
          refine r_iload_n (pc := 112) C dX5_happen_112 rfl rfl ?_
          refine r_iald (pc := 113) C dX5_happen_113 (fun v28 => ?_)
          refine r_aload_n (pc := 114) C dX5_happen_114 rfl rfl ?_
          refine r_getA (pc := 115) C dX5_happen_115 fl_X5_42 rfl (fun v29 => ?_)
          refine r_getA (pc := 118) C dX5_happen_118 fl_X5_269 rfl (fun v30 => ?_)
          refine r_iload_n (pc := 121) C dX5_happen_121 rfl rfl ?_
          refine r_iald (pc := 122) C dX5_happen_122 (fun v31 => ?_)
          refine r_cVV (pc := 123) C [.int v28, .int v31] [] (z_KX.up (z_KX.zero hT)) (s_X5_startRide a v28 v31) mt_X5_startRide zc_5 dX5_happen_123 ml_X5_272 im_X5_startRide se_X5_startRide rfl rfl rfl (Nat.le_of_ble_eq_true rfl) ⟨Nat.le_of_ble_eq_true rfl, Nat.le_of_ble_eq_true rfl⟩ ?_
          refine r_goto (pc := 126) C (tgt := 139) dX5_happen_126 rfl ?_
          refine r_inc (pc := 139) C 1 [(0, .ref (x_b X + a)), (1, .int r12), (2, .int x14), (3, .int (t15 + 1))] dX5_happen_139 rfl ki_1 (by decide) rfl ?_
          refine r_goto (pc := 142) C (tgt := 61) dX5_happen_142 rfl ?_
          refine r_sub [(0, .ref (x_b X + a)), (1, .int r12), (2, .int x14), (3, .int (t15 + 1))] rfl ?_
          exact r_br (τ := Int32) ((t15 + 1))
      · refine r_goto (pc := 85) C (tgt := 139) dX5_happen_85 rfl ?_
        refine r_inc (pc := 139) C 1 [(0, .ref (x_b X + a)), (1, .int r12), (2, .int x14), (3, .int (t15 + 1))] dX5_happen_139 rfl ki_1 (by decide) rfl ?_
        refine r_goto (pc := 142) C (tgt := 61) dX5_happen_142 rfl ?_
        refine r_sub [(0, .ref (x_b X + a)), (1, .int r12), (2, .int x14), (3, .int (t15 + 1))] rfl ?_
        exact r_br (τ := Int32) ((t15 + 1))
  · refine r_sub [(0, .ref (x_b X + a)), (1, .int 0)] rfl ?_
    refine r_lp (pc := 2) (fun (t2 : Int32) => [(0, .ref (x_b X + a)), (1, .int t2)]) (fun t2 => ?_) 0
    refine r_iload_n (pc := 2) C dX5_happen_2 rfl rfl ?_
    refine r_aload_n (pc := 3) C dX5_happen_3 rfl rfl ?_
    refine r_getA (pc := 4) C dX5_happen_4 fl_X5_42 rfl (fun v3 => ?_)
    refine r_getI (pc := 7) C dX5_happen_7 fl_X5_137 rfl (fun v4 => ?_)
    refine r_icmp_ge (pc := 10) C (tgt := 45) dX5_happen_10 rfl (fun _ => ?_) (fun _ => ?_)
    · refine r_sub [(0, .ref (x_b X + a))] rfl ?_
      exact r_up (r_br (τ := Unit) ())
    · refine r_aload_n (pc := 13) C dX5_happen_13 rfl rfl ?_
      refine r_getA (pc := 14) C dX5_happen_14 fl_X5_26 rfl (fun v5 => ?_)
      refine r_iload_n (pc := 17) C dX5_happen_17 rfl rfl ?_
      refine r_aald (pc := 18) C (by decide) dX5_happen_18 (fun v6 => ?_)
      refine r_getI (pc := 19) C dX5_happen_19 fl_X5_224 rfl (fun v7 => ?_)
      refine r_aload_n (pc := 22) C dX5_happen_22 rfl rfl ?_
      refine r_getI (pc := 23) C dX5_happen_23 fl_X5_46 rfl (fun v8 => ?_)
      refine r_icmp_ne (pc := 26) C (tgt := 39) dX5_happen_26 rfl (fun _ => ?_) (fun _ => ?_)
      · refine r_aload_n (pc := 29) C dX5_happen_29 rfl rfl ?_
        refine r_aload_n (pc := 30) C dX5_happen_30 rfl rfl ?_
        refine r_getA (pc := 31) C dX5_happen_31 fl_X5_26 rfl (fun v9 => ?_)
        refine r_iload_n (pc := 34) C dX5_happen_34 rfl rfl ?_
        refine r_aald (pc := 35) C (by decide) dX5_happen_35 (fun v10 => ?_)
        refine r_cVV (pc := 36) C [.ref (x_b X + v10)] [] (z_KX.up (z_KX.up (z_KX.zero hT))) (s_X5_arrive a v10) mt_X5_arrive zc_5 dX5_happen_36 ml_X5_256 im_X5_arrive se_X5_arrive rfl rfl rfl (Nat.le_of_ble_eq_true rfl) ⟨Nat.le_of_ble_eq_true rfl, Nat.le_of_ble_eq_true rfl⟩ ?_
        refine r_inc (pc := 39) C 1 [(0, .ref (x_b X + a)), (1, .int (t2 + 1))] dX5_happen_39 rfl ki_1 (by decide) rfl ?_
        refine r_goto (pc := 42) C (tgt := 2) dX5_happen_42 rfl ?_
        refine r_sub [(0, .ref (x_b X + a)), (1, .int (t2 + 1))] rfl ?_
        exact r_br (τ := Int32) ((t2 + 1))
      · refine r_inc (pc := 39) C 1 [(0, .ref (x_b X + a)), (1, .int (t2 + 1))] dX5_happen_39 rfl ki_1 (by decide) rfl ?_
        refine r_goto (pc := 42) C (tgt := 2) dX5_happen_42 rfl ?_
        refine r_sub [(0, .ref (x_b X + a)), (1, .int (t2 + 1))] rfl ?_
        exact r_br (τ := Int32) ((t2 + 1))
noncomputable def p_X5_advance (a : Nat) (p1 : Int32) : zP Int32 := (z_bd (z_cv 5 a (p_X5_nextEvent a)) (fun r1 => (z_lp (fun (t2 : Int32 × Int32 × Int32) => (if t2.2.2 ≤ 0 then (z_pu (.inr t2.1)) else (z_bd (z_gI 5 a 7) (fun v3 => (z_bd (z_pI 5 a 7 (v3 + 1)) (fun _ => (z_bd (z_gI 5 a 7) (fun v4 => (if v4 < t2.2.1 then (z_bd (z_pu (t2.2.2 + (-1))) (fun x5 => (z_pu (.inl (t2.1, t2.2.1, x5))))) else (z_bd (z_cv 5 a (p_X5_happen a)) (fun r6 => (z_bd (z_pu ((t2.1 + r6))) (fun x7 => (z_bd (z_cv 5 a (p_X5_nextEvent a)) (fun r8 => (z_bd (z_pu (t2.2.2 + (-1))) (fun x9 => (z_pu (.inl (x7, r8, x9)))))))))))))))))))) (0, r1, p1))))
set_option maxHeartbeats 4000000 in
set_option maxRecDepth 100000 in
theorem s_X5_advance (a : Nat) (p1 : Int32) : z_Sound yX5_advance cX5_advance 5 (some .int) 6 141 (fun D b => [.ref (b + a), .int p1]) z_ivI (p_X5_advance a p1) := by
  refine z_ofSim rfl (by intro D b; exact Nat.le_of_ble_eq_true rfl) (fun X C hT => ?_)
  unfold p_X5_advance
  refine r_sub [(0, .ref (x_b X + a)), (1, .int p1)] rfl ?_
  refine r_iconst (pc := 0) C dX5_advance_0 ki_0 ?_
  refine r_sti_n (pc := 1) C 2 [(0, .ref (x_b X + a)), (1, .int p1), (2, .int 0)] dX5_advance_1 rfl (by decide) rfl ?_
  refine r_aload_n (pc := 2) C dX5_advance_2 rfl rfl ?_
  refine r_cVI (pc := 3) C [] [] (z_KX.zero hT) (s_X5_nextEvent a) mt_X5_nextEvent zc_5 dX5_advance_3 ml_X5_236 im_X5_nextEvent se_X5_nextEvent rfl rfl rfl (Nat.le_of_ble_eq_true rfl) ⟨Nat.le_of_ble_eq_true rfl, Nat.le_of_ble_eq_true rfl⟩ (fun r1 => ?_)
  refine r_sti_n (pc := 6) C 3 [(0, .ref (x_b X + a)), (1, .int p1), (2, .int 0), (3, .int r1)] dX5_advance_6 rfl (by decide) rfl ?_
  refine r_iload_n (pc := 7) C dX5_advance_7 rfl rfl ?_
  refine r_sti (pc := 8) C [(0, .ref (x_b X + a)), (2, .int 0), (3, .int r1), (4, .int p1)] dX5_advance_8 (by decide) rfl ?_
  refine r_sub [(0, .ref (x_b X + a)), (2, .int 0), (3, .int r1), (4, .int p1)] rfl ?_
  refine r_lp (pc := 10) (fun (t2 : Int32 × Int32 × Int32) => [(0, .ref (x_b X + a)), (2, .int t2.1), (3, .int t2.2.1), (4, .int t2.2.2)]) (fun t2 => ?_) (0, r1, p1)
  refine r_iload (pc := 10) C dX5_advance_10 rfl ?_
  refine r_if_le (pc := 12) C (tgt := 51) dX5_advance_12 rfl (fun _ => ?_) (fun _ => ?_)
  · refine r_iload_n (pc := 51) C dX5_advance_51 rfl rfl ?_
    exact r_up (r_iret (pc := 52) C dX5_advance_52)
  · refine r_aload_n (pc := 15) C dX5_advance_15 rfl rfl ?_
    refine r_dup (pc := 16) C dX5_advance_16 rfl ?_
    refine r_getI (pc := 17) C dX5_advance_17 fl_X5_46 rfl (fun v3 => ?_)
    refine r_iconst (pc := 20) C dX5_advance_20 ki_1 ?_
    refine r_iadd (pc := 21) C dX5_advance_21 ?_
    refine r_putI (pc := 22) C dX5_advance_22 fl_X5_46 rfl rfl ?_
    refine r_aload_n (pc := 25) C dX5_advance_25 rfl rfl ?_
    refine r_getI (pc := 26) C dX5_advance_26 fl_X5_46 rfl (fun v4 => ?_)
    refine r_iload_n (pc := 29) C dX5_advance_29 rfl rfl ?_
    refine r_icmp_lt (pc := 30) C (tgt := 45) dX5_advance_30 rfl (fun _ => ?_) (fun _ => ?_)
    · refine r_inc (pc := 45) C (-1) [(0, .ref (x_b X + a)), (2, .int t2.1), (3, .int t2.2.1), (4, .int (t2.2.2 + (-1)))] dX5_advance_45 rfl ki_m1 (by decide) rfl ?_
      refine r_goto (pc := 48) C (tgt := 10) dX5_advance_48 rfl ?_
      refine r_sub [(0, .ref (x_b X + a)), (2, .int t2.1), (3, .int t2.2.1), (4, .int (t2.2.2 + (-1)))] rfl ?_
      refine r_let (t2.2.2 + (-1)) (fun x5 => [(0, .ref (x_b X + a)), (2, .int t2.1), (3, .int t2.2.1), (4, .int x5)]) (fun x5 => []) (fun x5 => ?_)
      exact r_br (τ := Int32 × Int32 × Int32) (t2.1, t2.2.1, x5)
    · refine r_iload_n (pc := 33) C dX5_advance_33 rfl rfl ?_
      refine r_aload_n (pc := 34) C dX5_advance_34 rfl rfl ?_
      refine r_cVI (pc := 35) C [] [.int t2.1] (z_KX.up (z_KX.zero hT)) (s_X5_happen a) mt_X5_happen zc_5 dX5_advance_35 ml_X5_239 im_X5_happen se_X5_happen rfl rfl rfl (Nat.le_of_ble_eq_true rfl) ⟨Nat.le_of_ble_eq_true rfl, Nat.le_of_ble_eq_true rfl⟩ (fun r6 => ?_)
      refine r_iadd (pc := 38) C dX5_advance_38 ?_
      refine r_sti_n (pc := 39) C 2 [(0, .ref (x_b X + a)), (2, .int (t2.1 + r6)), (4, .int t2.2.2)] dX5_advance_39 rfl (by decide) rfl ?_
      refine r_let ((t2.1 + r6)) (fun x7 => [(0, .ref (x_b X + a)), (2, .int x7), (4, .int t2.2.2)]) (fun x7 => []) (fun x7 => ?_)
      refine r_aload_n (pc := 40) C dX5_advance_40 rfl rfl ?_
      refine r_cVI (pc := 41) C [] [] (z_KX.up (z_KX.zero hT)) (s_X5_nextEvent a) mt_X5_nextEvent zc_5 dX5_advance_41 ml_X5_236 im_X5_nextEvent se_X5_nextEvent rfl rfl rfl (Nat.le_of_ble_eq_true rfl) ⟨Nat.le_of_ble_eq_true rfl, Nat.le_of_ble_eq_true rfl⟩ (fun r8 => ?_)
      refine r_sti_n (pc := 44) C 3 [(0, .ref (x_b X + a)), (2, .int x7), (3, .int r8), (4, .int t2.2.2)] dX5_advance_44 rfl (by decide) rfl ?_
      refine r_inc (pc := 45) C (-1) [(0, .ref (x_b X + a)), (2, .int x7), (3, .int r8), (4, .int (t2.2.2 + (-1)))] dX5_advance_45 rfl ki_m1 (by decide) rfl ?_
      refine r_goto (pc := 48) C (tgt := 10) dX5_advance_48 rfl ?_
      refine r_sub [(0, .ref (x_b X + a)), (2, .int x7), (3, .int r8), (4, .int (t2.2.2 + (-1)))] rfl ?_
      refine r_let (t2.2.2 + (-1)) (fun x9 => [(0, .ref (x_b X + a)), (2, .int x7), (3, .int r8), (4, .int x9)]) (fun x9 => []) (fun x9 => ?_)
      exact r_br (τ := Int32 × Int32 × Int32) (x7, r8, x9)
noncomputable def p_X5_minutesUntilOut (a : Nat) (p1 : Int32) (p2 : Int32) : zP Int32 := (z_bd (z_cv 5 a (p_X5_isOut a p1 p2)) (fun r1 => (if r1 = 0 then (z_bd (z_cv 5 a (p_X5_nextEvent a)) (fun r2 => (z_lp (fun (t3 : Int32 × Int32) => (if 1440 < t3.2 then (z_pu (.inr (-1))) else (z_bd (z_gI 5 a 7) (fun v4 => (z_bd (z_pI 5 a 7 (v4 + 1)) (fun _ => (z_bd (z_gI 5 a 7) (fun v5 => (if v5 < t3.1 then (z_pu (.inl (t3.1, (t3.2 + 1)))) else (z_bd (z_cv 5 a (p_X5_happen a)) (fun r6 => (z_bd (z_cv 5 a (p_X5_isOut a p1 p2)) (fun r7 => (if r7 = 0 then (z_bd (z_cv 5 a (p_X5_nextEvent a)) (fun r8 => (z_pu (.inl (r8, (t3.2 + 1)))))) else (z_pu (.inr t3.2)))))))))))))))) (r2, 1)))) else (z_pu 0))))
set_option maxHeartbeats 4000000 in
set_option maxRecDepth 100000 in
theorem s_X5_minutesUntilOut (a : Nat) (p1 : Int32) (p2 : Int32) : z_Sound yX5_minutesUntilOut cX5_minutesUntilOut 5 (some .int) 6 141 (fun D b => [.ref (b + a), .int p1, .int p2]) z_ivI (p_X5_minutesUntilOut a p1 p2) := by
  refine z_ofSim rfl (by intro D b; exact Nat.le_of_ble_eq_true rfl) (fun X C hT => ?_)
  unfold p_X5_minutesUntilOut
  refine r_sub [(0, .ref (x_b X + a)), (1, .int p1), (2, .int p2)] rfl ?_
  refine r_aload_n (pc := 0) C dX5_minutesUntilOut_0 rfl rfl ?_
  refine r_iload_n (pc := 1) C dX5_minutesUntilOut_1 rfl rfl ?_
  refine r_iload_n (pc := 2) C dX5_minutesUntilOut_2 rfl rfl ?_
  refine r_cVI (pc := 3) C [.int p1, .int p2] [] (z_KX.zero hT) (s_X5_isOut a p1 p2) mt_X5_isOut zc_5 dX5_minutesUntilOut_3 ml_X5_242 im_X5_isOut se_X5_isOut rfl rfl rfl (Nat.le_of_ble_eq_true rfl) ⟨Nat.le_of_ble_eq_true rfl, Nat.le_of_ble_eq_true rfl⟩ (fun r1 => ?_)
  refine r_if_eq (pc := 6) C (tgt := 11) dX5_minutesUntilOut_6 rfl (fun _ => ?_) (fun _ => ?_)
  · refine r_aload_n (pc := 11) C dX5_minutesUntilOut_11 rfl rfl ?_
    refine r_cVI (pc := 12) C [] [] (z_KX.zero hT) (s_X5_nextEvent a) mt_X5_nextEvent zc_5 dX5_minutesUntilOut_12 ml_X5_236 im_X5_nextEvent se_X5_nextEvent rfl rfl rfl (Nat.le_of_ble_eq_true rfl) ⟨Nat.le_of_ble_eq_true rfl, Nat.le_of_ble_eq_true rfl⟩ (fun r2 => ?_)
    refine r_sti_n (pc := 15) C 3 [(0, .ref (x_b X + a)), (1, .int p1), (2, .int p2), (3, .int r2)] dX5_minutesUntilOut_15 rfl (by decide) rfl ?_
    refine r_iconst (pc := 16) C dX5_minutesUntilOut_16 ki_1 ?_
    refine r_sti (pc := 17) C [(0, .ref (x_b X + a)), (1, .int p1), (2, .int p2), (3, .int r2), (4, .int 1)] dX5_minutesUntilOut_17 (by decide) rfl ?_
    refine r_sub [(0, .ref (x_b X + a)), (1, .int p1), (2, .int p2), (3, .int r2), (4, .int 1)] rfl ?_
    refine r_lp (pc := 19) (fun (t3 : Int32 × Int32) => [(0, .ref (x_b X + a)), (1, .int p1), (2, .int p2), (3, .int t3.1), (4, .int t3.2)]) (fun t3 => ?_) (r2, 1)
    refine r_iload (pc := 19) C dX5_minutesUntilOut_19 rfl ?_
    refine r_sipush (pc := 21) C dX5_minutesUntilOut_21 ks_1440 ?_
    refine r_icmp_gt (pc := 24) C (tgt := 73) dX5_minutesUntilOut_24 rfl (fun _ => ?_) (fun _ => ?_)
    · refine r_iconst (pc := 73) C dX5_minutesUntilOut_73 ki_m1 ?_
      exact r_up (r_iret (pc := 74) C dX5_minutesUntilOut_74)
    · refine r_aload_n (pc := 27) C dX5_minutesUntilOut_27 rfl rfl ?_
      refine r_dup (pc := 28) C dX5_minutesUntilOut_28 rfl ?_
      refine r_getI (pc := 29) C dX5_minutesUntilOut_29 fl_X5_46 rfl (fun v4 => ?_)
      refine r_iconst (pc := 32) C dX5_minutesUntilOut_32 ki_1 ?_
      refine r_iadd (pc := 33) C dX5_minutesUntilOut_33 ?_
      refine r_putI (pc := 34) C dX5_minutesUntilOut_34 fl_X5_46 rfl rfl ?_
      refine r_aload_n (pc := 37) C dX5_minutesUntilOut_37 rfl rfl ?_
      refine r_getI (pc := 38) C dX5_minutesUntilOut_38 fl_X5_46 rfl (fun v5 => ?_)
      refine r_iload_n (pc := 41) C dX5_minutesUntilOut_41 rfl rfl ?_
      refine r_icmp_lt (pc := 42) C (tgt := 67) dX5_minutesUntilOut_42 rfl (fun _ => ?_) (fun _ => ?_)
      · refine r_inc (pc := 67) C 1 [(0, .ref (x_b X + a)), (1, .int p1), (2, .int p2), (3, .int t3.1), (4, .int (t3.2 + 1))] dX5_minutesUntilOut_67 rfl ki_1 (by decide) rfl ?_
        refine r_goto (pc := 70) C (tgt := 19) dX5_minutesUntilOut_70 rfl ?_
        refine r_sub [(0, .ref (x_b X + a)), (1, .int p1), (2, .int p2), (3, .int t3.1), (4, .int (t3.2 + 1))] rfl ?_
        exact r_br (τ := Int32 × Int32) (t3.1, (t3.2 + 1))
      · refine r_aload_n (pc := 45) C dX5_minutesUntilOut_45 rfl rfl ?_
        refine r_cVI (pc := 46) C [] [] (z_KX.up (z_KX.zero hT)) (s_X5_happen a) mt_X5_happen zc_5 dX5_minutesUntilOut_46 ml_X5_239 im_X5_happen se_X5_happen rfl rfl rfl (Nat.le_of_ble_eq_true rfl) ⟨Nat.le_of_ble_eq_true rfl, Nat.le_of_ble_eq_true rfl⟩ (fun r6 => ?_)
        refine r_pop (pc := 49) C dX5_minutesUntilOut_49 rfl ?_
        refine r_aload_n (pc := 50) C dX5_minutesUntilOut_50 rfl rfl ?_
        refine r_iload_n (pc := 51) C dX5_minutesUntilOut_51 rfl rfl ?_
        refine r_iload_n (pc := 52) C dX5_minutesUntilOut_52 rfl rfl ?_
        refine r_cVI (pc := 53) C [.int p1, .int p2] [] (z_KX.up (z_KX.zero hT)) (s_X5_isOut a p1 p2) mt_X5_isOut zc_5 dX5_minutesUntilOut_53 ml_X5_242 im_X5_isOut se_X5_isOut rfl rfl rfl (Nat.le_of_ble_eq_true rfl) ⟨Nat.le_of_ble_eq_true rfl, Nat.le_of_ble_eq_true rfl⟩ (fun r7 => ?_)
        refine r_if_eq (pc := 56) C (tgt := 62) dX5_minutesUntilOut_56 rfl (fun _ => ?_) (fun _ => ?_)
        · refine r_aload_n (pc := 62) C dX5_minutesUntilOut_62 rfl rfl ?_
          refine r_cVI (pc := 63) C [] [] (z_KX.up (z_KX.zero hT)) (s_X5_nextEvent a) mt_X5_nextEvent zc_5 dX5_minutesUntilOut_63 ml_X5_236 im_X5_nextEvent se_X5_nextEvent rfl rfl rfl (Nat.le_of_ble_eq_true rfl) ⟨Nat.le_of_ble_eq_true rfl, Nat.le_of_ble_eq_true rfl⟩ (fun r8 => ?_)
          refine r_sti_n (pc := 66) C 3 [(0, .ref (x_b X + a)), (1, .int p1), (2, .int p2), (3, .int r8), (4, .int t3.2)] dX5_minutesUntilOut_66 rfl (by decide) rfl ?_
          refine r_inc (pc := 67) C 1 [(0, .ref (x_b X + a)), (1, .int p1), (2, .int p2), (3, .int r8), (4, .int (t3.2 + 1))] dX5_minutesUntilOut_67 rfl ki_1 (by decide) rfl ?_
          refine r_goto (pc := 70) C (tgt := 19) dX5_minutesUntilOut_70 rfl ?_
          refine r_sub [(0, .ref (x_b X + a)), (1, .int p1), (2, .int p2), (3, .int r8), (4, .int (t3.2 + 1))] rfl ?_
          exact r_br (τ := Int32 × Int32) (r8, (t3.2 + 1))
        · refine r_iload (pc := 59) C dX5_minutesUntilOut_59 rfl ?_
          exact r_up (r_iret (pc := 61) C dX5_minutesUntilOut_61)
  · refine r_iconst (pc := 9) C dX5_minutesUntilOut_9 ki_0 ?_
    exact r_iret (pc := 10) C dX5_minutesUntilOut_10
noncomputable def p_X3_init (a : Nat) : zP Unit := (z_bd (z_na 13 10) (fun q1 => (z_bd (z_pR 3 a 0 (some q1)) (fun _ => (z_pu ())))))
set_option maxHeartbeats 4000000 in
set_option maxRecDepth 100000 in
theorem s_X3_init (a : Nat) : z_Sound yX3_init cX3_init 1 none 1 20 (fun D b => [.ref (b + a)]) z_ivV (p_X3_init a) := by
  refine z_ofSim rfl (by intro D b; exact Nat.le_of_ble_eq_true rfl) (fun X C hT => ?_)
  unfold p_X3_init
  refine r_sub [(0, .ref (x_b X + a))] rfl ?_
  refine r_aload_n (pc := 0) C dX3_init_0 rfl rfl ?_
  refine r_objInit (pc := 1) C dX3_init_1 ml_X3_3 im_obj cd_obj (Nat.le_of_ble_eq_true rfl) (Nat.le_of_ble_eq_true rfl) ?_
  refine r_aload_n (pc := 4) C dX3_init_4 rfl rfl ?_
  refine r_bipush (pc := 5) C dX3_init_5 kb_10 ?_
  refine r_anewa (pc := 7) C (Or.inl ⟨rfl, rfl⟩) dX3_init_7 cl_X3_9 (fun q1 => ?_)
  refine r_putA (pc := 10) C dX3_init_10 fl_X3_11 rfl (Or.inr ⟨rfl, rfl⟩) ?_
  exact r_vret (pc := 13) C dX3_init_13
noncomputable def p_X3_clear (a : Nat) : zP Unit := (z_bd (z_pI 3 a 2 0) (fun _ => (z_pu ())))
set_option maxHeartbeats 4000000 in
set_option maxRecDepth 100000 in
theorem s_X3_clear (a : Nat) : z_Sound yX3_clear cX3_clear 1 none 1 20 (fun D b => [.ref (b + a)]) z_ivV (p_X3_clear a) := by
  refine z_ofSim rfl (by intro D b; exact Nat.le_of_ble_eq_true rfl) (fun X C hT => ?_)
  unfold p_X3_clear
  refine r_sub [(0, .ref (x_b X + a))] rfl ?_
  refine r_aload_n (pc := 0) C dX3_clear_0 rfl rfl ?_
  refine r_iconst (pc := 1) C dX3_clear_1 ki_0 ?_
  refine r_putI (pc := 2) C dX3_clear_2 fl_X3_17 rfl rfl ?_
  exact r_vret (pc := 5) C dX3_clear_5
noncomputable def p_X3_remember (a : Nat) (p1 : Nat) : zP Unit := (z_bd (z_gI 3 a 1) (fun v1 => (z_bd (z_gI 3 a 2) (fun v2 => (z_bd (z_pu ((v1 + v2))) (fun x3 => (z_bd (z_pu ((x3 - x3 / 10 * 10))) (fun x4 => (z_bd (z_gI 3 a 2) (fun v5 => (z_jn (τ := Unit) (if 10 ≤ v5 then (z_bd (z_gI 3 a 1) (fun v7 => (z_bd (z_pu ((v7 + 1))) (fun x8 => (z_bd (z_pI 3 a 1 (x8 - x8 / 10 * 10)) (fun _ => (z_pu (.inl ())))))))) else (z_bd (z_gI 3 a 2) (fun v9 => (z_bd (z_pI 3 a 2 (v9 + 1)) (fun _ => (z_pu (.inl ()))))))) (fun t6 => (z_bd (z_gA 3 a 0) (fun v10 => (z_jn (τ := Unit) (z_bd (z_aR 13 v10 x4) (fun v16 => if v16 = none then (z_bd (z_gA 3 a 0) (fun v12 => (z_bd (z_nw 5 13) (fun q13 => (z_bd (z_gA 5 p1 6) (fun v14 => (z_bd (p_X5_init q13 v14) (fun _ => (z_bd (z_sR 13 5 v12 x4 q13) (fun _ => (z_pu (.inl ())))))))))))) else (z_pu (.inl ())))) (fun t11 => (z_bd (z_gA 3 a 0) (fun v17 => (z_bd (z_aA 13 v17 x4) (fun v18 => (z_bd (z_cv 5 v18 (p_X5_copy v18 p1)) (fun _ => (z_pu ())))))))))))))))))))))))
set_option maxHeartbeats 4000000 in
set_option maxRecDepth 100000 in
theorem s_X3_remember (a : Nat) (p1 : Nat) : z_Sound yX3_remember cX3_remember 3 none 4 87 (fun D b => [.ref (b + a), .ref (b + p1)]) z_ivV (p_X3_remember a p1) := by
  refine z_ofSim rfl (by intro D b; exact Nat.le_of_ble_eq_true rfl) (fun X C hT => ?_)
  unfold p_X3_remember
  refine r_sub [(0, .ref (x_b X + a)), (1, .ref (x_b X + p1))] rfl ?_
  refine r_aload_n (pc := 0) C dX3_remember_0 rfl rfl ?_
  refine r_getI (pc := 1) C dX3_remember_1 fl_X3_21 rfl (fun v1 => ?_)
  refine r_aload_n (pc := 4) C dX3_remember_4 rfl rfl ?_
  refine r_getI (pc := 5) C dX3_remember_5 fl_X3_17 rfl (fun v2 => ?_)
  refine r_iadd (pc := 8) C dX3_remember_8 ?_
  refine r_bipush (pc := 9) C dX3_remember_9 kb_10 ?_
  refine r_sub [(0, .ref (x_b X + a)), (1, .ref (x_b X + p1))] rfl ?_
  refine r_let ((v1 + v2)) (fun x3 => [(0, .ref (x_b X + a)), (1, .ref (x_b X + p1))]) (fun x3 => [.int 10, .int x3]) (fun x3 => ?_)
  refine r_irem (pc := 11) C dX3_remember_11 (by decide) ?_
  refine r_sti_n (pc := 12) C 2 [(0, .ref (x_b X + a)), (1, .ref (x_b X + p1)), (2, .int (x3 - x3 / 10 * 10))] dX3_remember_12 rfl (by decide) rfl ?_
  refine r_let ((x3 - x3 / 10 * 10)) (fun x4 => [(0, .ref (x_b X + a)), (1, .ref (x_b X + p1)), (2, .int x4)]) (fun x4 => []) (fun x4 => ?_)
  refine r_aload_n (pc := 13) C dX3_remember_13 rfl rfl ?_
  refine r_getI (pc := 14) C dX3_remember_14 fl_X3_17 rfl (fun v5 => ?_)
  refine r_bipush (pc := 17) C dX3_remember_17 kb_10 ?_
  refine r_jn 48 (fun (t6 : Unit) => [(0, .ref (x_b X + a)), (1, .ref (x_b X + p1)), (2, .int x4)]) (fun (t6 : Unit) => []) (fun t6 => ?_) ?_
  · refine r_aload_n (pc := 48) C dX3_remember_48 rfl rfl ?_
    refine r_getA (pc := 49) C dX3_remember_49 fl_X3_11 rfl (fun v10 => ?_)
    refine r_iload_n (pc := 52) C dX3_remember_52 rfl rfl ?_
    refine r_jn 74 (fun (t11 : Unit) => [(0, .ref (x_b X + a)), (1, .ref (x_b X + p1)), (2, .int x4)]) (fun (t11 : Unit) => []) (fun t11 => ?_) ?_
    · refine r_aload_n (pc := 74) C dX3_remember_74 rfl rfl ?_
      refine r_getA (pc := 75) C dX3_remember_75 fl_X3_11 rfl (fun v17 => ?_)
      refine r_iload_n (pc := 78) C dX3_remember_78 rfl rfl ?_
      refine r_aald (pc := 79) C (by decide) dX3_remember_79 (fun v18 => ?_)
      refine r_aload_n (pc := 80) C dX3_remember_80 rfl rfl ?_
      refine r_cVV (pc := 81) C [.ref (x_b X + p1)] [] (z_KX.zero hT) (s_X5_copy v18 p1) mt_X5_copy zc_5 dX3_remember_81 ml_X3_31 im_X5_copy se_X5_copy rfl rfl rfl (Nat.le_of_ble_eq_true rfl) ⟨Nat.le_of_ble_eq_true rfl, Nat.le_of_ble_eq_true rfl⟩ ?_
      exact r_vret (pc := 84) C dX3_remember_84
    · refine r_aaldN (pc := 53) C (tgt := 74) (by decide) dX3_remember_53 dX3_remember_54 rfl ?_ ?_
      · refine r_aload_n (pc := 57) C dX3_remember_57 rfl rfl ?_
        refine r_getA (pc := 58) C dX3_remember_58 fl_X3_11 rfl (fun v12 => ?_)
        refine r_iload_n (pc := 61) C dX3_remember_61 rfl rfl ?_
        refine r_new (pc := 62) C dX3_remember_62 zc_5 zb_5 cl_X3_9 ins_X5 ini_X5 (fun q13 => ?_)
        refine r_dup (pc := 65) C dX3_remember_65 rfl ?_
        refine r_aload_n (pc := 66) C dX3_remember_66 rfl rfl ?_
        refine r_getA (pc := 67) C dX3_remember_67 fl_X3_24 rfl (fun v14 => ?_)
        refine r_cI (pc := 70) C [.ref (x_b X + v14)] [.ref (x_b X + q13), .int x4, .ref (x_b X + v12)] (z_KX.up (z_KX.zero hT)) (s_X5_init q13 v14) mt_X5_init dX3_remember_70 ml_X3_28 im_X5_init rfl rfl rfl rfl (Nat.le_of_ble_eq_true rfl) ⟨Nat.le_of_ble_eq_true rfl, Nat.le_of_ble_eq_true rfl⟩ ?_
        refine r_aast (pc := 73) C (Or.inl ⟨rfl, rfl⟩) ⟨_, _, _, zc_5⟩ dX3_remember_73 ?_
        refine r_sub [(0, .ref (x_b X + a)), (1, .ref (x_b X + p1)), (2, .int x4)] rfl ?_
        exact r_br (τ := Unit) ()
      · refine r_sub [(0, .ref (x_b X + a)), (1, .ref (x_b X + p1)), (2, .int x4)] rfl ?_
        exact r_br (τ := Unit) ()
  · refine r_icmp_ge (pc := 19) C (tgt := 35) dX3_remember_19 rfl (fun _ => ?_) (fun _ => ?_)
    · refine r_aload_n (pc := 35) C dX3_remember_35 rfl rfl ?_
      refine r_aload_n (pc := 36) C dX3_remember_36 rfl rfl ?_
      refine r_getI (pc := 37) C dX3_remember_37 fl_X3_21 rfl (fun v7 => ?_)
      refine r_iconst (pc := 40) C dX3_remember_40 ki_1 ?_
      refine r_iadd (pc := 41) C dX3_remember_41 ?_
      refine r_bipush (pc := 42) C dX3_remember_42 kb_10 ?_
      refine r_sub [(0, .ref (x_b X + a)), (1, .ref (x_b X + p1)), (2, .int x4)] rfl ?_
      refine r_let ((v7 + 1)) (fun x8 => [(0, .ref (x_b X + a)), (1, .ref (x_b X + p1)), (2, .int x4)]) (fun x8 => [.int 10, .int x8, .ref (x_b X + a)]) (fun x8 => ?_)
      refine r_irem (pc := 44) C dX3_remember_44 (by decide) ?_
      refine r_putI (pc := 45) C dX3_remember_45 fl_X3_21 rfl rfl ?_
      refine r_sub [(0, .ref (x_b X + a)), (1, .ref (x_b X + p1)), (2, .int x4)] rfl ?_
      exact r_br (τ := Unit) ()
    · refine r_aload_n (pc := 22) C dX3_remember_22 rfl rfl ?_
      refine r_dup (pc := 23) C dX3_remember_23 rfl ?_
      refine r_getI (pc := 24) C dX3_remember_24 fl_X3_17 rfl (fun v9 => ?_)
      refine r_iconst (pc := 27) C dX3_remember_27 ki_1 ?_
      refine r_iadd (pc := 28) C dX3_remember_28 ?_
      refine r_putI (pc := 29) C dX3_remember_29 fl_X3_17 rfl rfl ?_
      refine r_goto (pc := 32) C (tgt := 48) dX3_remember_32 rfl ?_
      refine r_sub [(0, .ref (x_b X + a)), (1, .ref (x_b X + p1)), (2, .int x4)] rfl ?_
      exact r_br (τ := Unit) ()
noncomputable def p_X3_takeBack (a : Nat) (p1 : Nat) : zP Int32 := (z_bd (z_gI 3 a 2) (fun v1 => (if v1 = 0 then (z_pu 0) else (z_bd (z_gI 3 a 2) (fun v2 => (z_bd (z_pI 3 a 2 (v2 - 1)) (fun _ => (z_bd (z_gA 3 a 0) (fun v3 => (z_bd (z_gI 3 a 1) (fun v4 => (z_bd (z_gI 3 a 2) (fun v5 => (z_bd (z_pu ((v4 + v5))) (fun x6 => (z_bd (z_aA 13 v3 (x6 - x6 / 10 * 10)) (fun v7 => (z_bd (z_cv 5 p1 (p_X5_copy p1 v7)) (fun _ => (z_pu 1))))))))))))))))))))
set_option maxHeartbeats 4000000 in
set_option maxRecDepth 100000 in
theorem s_X3_takeBack (a : Nat) (p1 : Nat) : z_Sound yX3_takeBack cX3_takeBack 3 (some .boolean) 3 63 (fun D b => [.ref (b + a), .ref (b + p1)]) z_ivI (p_X3_takeBack a p1) := by
  refine z_ofSim rfl (by intro D b; exact Nat.le_of_ble_eq_true rfl) (fun X C hT => ?_)
  unfold p_X3_takeBack
  refine r_sub [(0, .ref (x_b X + a)), (1, .ref (x_b X + p1))] rfl ?_
  refine r_aload_n (pc := 0) C dX3_takeBack_0 rfl rfl ?_
  refine r_getI (pc := 1) C dX3_takeBack_1 fl_X3_17 rfl (fun v1 => ?_)
  refine r_if_ne (pc := 4) C (tgt := 9) dX3_takeBack_4 rfl (fun _ => ?_) (fun _ => ?_)
  · refine r_iconst (pc := 7) C dX3_takeBack_7 ki_0 ?_
    exact r_zret1 (pc := 8) C dX3_takeBack_8 (by decide)
  · refine r_aload_n (pc := 9) C dX3_takeBack_9 rfl rfl ?_
    refine r_dup (pc := 10) C dX3_takeBack_10 rfl ?_
    refine r_getI (pc := 11) C dX3_takeBack_11 fl_X3_17 rfl (fun v2 => ?_)
    refine r_iconst (pc := 14) C dX3_takeBack_14 ki_1 ?_
    refine r_isub (pc := 15) C dX3_takeBack_15 ?_
    refine r_putI (pc := 16) C dX3_takeBack_16 fl_X3_17 rfl rfl ?_
    refine r_aload_n (pc := 19) C dX3_takeBack_19 rfl rfl ?_
    refine r_getA (pc := 20) C dX3_takeBack_20 fl_X3_11 rfl (fun v3 => ?_)
    refine r_aload_n (pc := 23) C dX3_takeBack_23 rfl rfl ?_
    refine r_getI (pc := 24) C dX3_takeBack_24 fl_X3_21 rfl (fun v4 => ?_)
    refine r_aload_n (pc := 27) C dX3_takeBack_27 rfl rfl ?_
    refine r_getI (pc := 28) C dX3_takeBack_28 fl_X3_17 rfl (fun v5 => ?_)
    refine r_iadd (pc := 31) C dX3_takeBack_31 ?_
    refine r_bipush (pc := 32) C dX3_takeBack_32 kb_10 ?_
    refine r_sub [(1, .ref (x_b X + p1))] rfl ?_
    refine r_let ((v4 + v5)) (fun x6 => [(1, .ref (x_b X + p1))]) (fun x6 => [.int 10, .int x6, .ref (x_b X + v3)]) (fun x6 => ?_)
    refine r_irem (pc := 34) C dX3_takeBack_34 (by decide) ?_
    refine r_aald (pc := 35) C (by decide) dX3_takeBack_35 (fun v7 => ?_)
    refine r_sta_n (pc := 36) C 2 [(1, .ref (x_b X + p1)), (2, .ref (x_b X + v7))] dX3_takeBack_36 rfl (by decide) rfl ?_
    refine r_aload_n (pc := 37) C dX3_takeBack_37 rfl rfl ?_
    refine r_ifnonnull (pc := 38) C (tgt := 43) dX3_takeBack_38 rfl ?_
    refine r_aload_n (pc := 43) C dX3_takeBack_43 rfl rfl ?_
    refine r_aload_n (pc := 44) C dX3_takeBack_44 rfl rfl ?_
    refine r_cVV (pc := 45) C [.ref (x_b X + v7)] [] (z_KX.zero hT) (s_X5_copy p1 v7) mt_X5_copy zc_5 dX3_takeBack_45 ml_X3_31 im_X5_copy se_X5_copy rfl rfl rfl (Nat.le_of_ble_eq_true rfl) ⟨Nat.le_of_ble_eq_true rfl, Nat.le_of_ble_eq_true rfl⟩ ?_
    refine r_iconst (pc := 48) C dX3_takeBack_48 ki_1 ?_
    exact r_zret1 (pc := 49) C dX3_takeBack_49 (by decide)
