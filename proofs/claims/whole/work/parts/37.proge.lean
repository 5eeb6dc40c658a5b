noncomputable def p_X8_repairDock (a : Nat) (p1 : Int32) : zP Int32 := (z_bd (z_cv 8 a (p_X8_checkStation a p1)) (fun _ => (z_bd (z_gA 8 a 6) (fun v2 => (z_bd (z_gA 5 v2 1) (fun v3 => (z_bd (z_aI 11 v3 p1) (fun v4 => (if v4 = 0 then (z_th "java/lang/IllegalStateException") else (z_bd (z_gA 8 a 2) (fun v5 => (z_bd (z_gA 8 a 6) (fun v6 => (z_bd (z_cv 3 v5 (p_X3_remember v5 v6)) (fun _ => (z_bd (z_gA 8 a 6) (fun v8 => (z_bd (z_gA 5 v8 1) (fun v9 => (z_bd (z_aI 11 v9 p1) (fun v10 => (z_bd (z_sI 11 v9 p1 (v10 - 1)) (fun _ => (z_bd (z_gA 8 a 6) (fun v11 => (z_bd (z_gA 5 v11 1) (fun v12 => (z_bd (z_aI 11 v12 p1) (fun v13 => (z_pu v13))))))))))))))))))))))))))))))
set_option maxHeartbeats 4000000 in
set_option maxRecDepth 100000 in
theorem s_X8_repairDock (a : Nat) (p1 : Int32) : z_Sound yX8_repairDock cX8_repairDock 2 (some .int) 7 109 (fun D b => [.ref (b + a), .int p1]) z_ivI (p_X8_repairDock a p1) := by
  refine z_ofSim rfl (by intro D b; exact Nat.le_of_ble_eq_true rfl) (fun X C hT => ?_)
  unfold p_X8_repairDock
  refine r_sub [(0, .ref (x_b X + a)), (1, .int p1)] rfl ?_
  refine r_aload_n (pc := 0) C dX8_repairDock_0 rfl rfl ?_
  refine r_iload_n (pc := 1) C dX8_repairDock_1 rfl rfl ?_
  refine r_cVV (pc := 2) C [.int p1] [] (z_KX.zero hT) (s_X8_checkStation a p1) mt_X8_checkStation zc_8 dX8_repairDock_2 ml_X8_107 im_X8_checkStation se_X8_checkStation rfl rfl rfl (Nat.le_of_ble_eq_true rfl) ⟨Nat.le_of_ble_eq_true rfl, Nat.le_of_ble_eq_true rfl⟩ ?_
  refine r_aload_n (pc := 5) C dX8_repairDock_5 rfl rfl ?_
  refine r_getA (pc := 6) C dX8_repairDock_6 fl_X8_57 rfl (fun v2 => ?_)
  refine r_getA (pc := 9) C dX8_repairDock_9 fl_X8_118 rfl (fun v3 => ?_)
  refine r_iload_n (pc := 12) C dX8_repairDock_12 rfl rfl ?_
  refine r_iald (pc := 13) C dX8_repairDock_13 (fun v4 => ?_)
  refine r_if_ne (pc := 14) C (tgt := 28) dX8_repairDock_14 rfl (fun _ => ?_) (fun _ => ?_)
  · exact r_throwW (pc := 17) (i := 22) C (z_KX.zero hT) dX8_repairDock_17 dX8_repairDock_20 dX8_repairDock_21 dX8_repairDock_24 dX8_repairDock_27 (by decide) rfl cl_X8_233 ti_ISE tw_ISE to_ISE tt_ISE (by decide) (Nat.le_of_ble_eq_true rfl) (Nat.le_of_ble_eq_true rfl)
  · refine r_aload_n (pc := 28) C dX8_repairDock_28 rfl rfl ?_
    refine r_getA (pc := 29) C dX8_repairDock_29 fl_X8_23 rfl (fun v5 => ?_)
    refine r_aload_n (pc := 32) C dX8_repairDock_32 rfl rfl ?_
    refine r_getA (pc := 33) C dX8_repairDock_33 fl_X8_57 rfl (fun v6 => ?_)
    refine r_cVV (pc := 36) C [.ref (x_b X + v6)] [] (z_KX.zero hT) (s_X3_remember v5 v6) mt_X3_remember zc_3 dX8_repairDock_36 ml_X8_238 im_X3_remember se_X3_remember rfl rfl rfl (Nat.le_of_ble_eq_true rfl) ⟨Nat.le_of_ble_eq_true rfl, Nat.le_of_ble_eq_true rfl⟩ ?_
    refine r_aload_n (pc := 39) C dX8_repairDock_39 rfl rfl ?_
    refine r_getA (pc := 40) C dX8_repairDock_40 fl_X8_57 rfl (fun v8 => ?_)
    refine r_getA (pc := 43) C dX8_repairDock_43 fl_X8_118 rfl (fun v9 => ?_)
    refine r_iload_n (pc := 46) C dX8_repairDock_46 rfl rfl ?_
    refine r_dup2 (pc := 47) C dX8_repairDock_47 rfl rfl ?_
    refine r_iald (pc := 48) C dX8_repairDock_48 (fun v10 => ?_)
    refine r_iconst (pc := 49) C dX8_repairDock_49 ki_1 ?_
    refine r_isub (pc := 50) C dX8_repairDock_50 ?_
    refine r_iast (pc := 51) C dX8_repairDock_51 ?_
    refine r_aload_n (pc := 52) C dX8_repairDock_52 rfl rfl ?_
    refine r_getA (pc := 53) C dX8_repairDock_53 fl_X8_57 rfl (fun v11 => ?_)
    refine r_getA (pc := 56) C dX8_repairDock_56 fl_X8_118 rfl (fun v12 => ?_)
    refine r_iload_n (pc := 59) C dX8_repairDock_59 rfl rfl ?_
    refine r_iald (pc := 60) C dX8_repairDock_60 (fun v13 => ?_)
    exact r_iret (pc := 61) C dX8_repairDock_61
noncomputable def p_X8_addBikes (a : Nat) (p1 : Int32) (p2 : Int32) : zP Int32 := (z_bd (z_cv 8 a (p_X8_checkStation a p1)) (fun _ => (z_bd (p_X8_checkRange p2 1 20) (fun _ => (z_bd (z_gA 8 a 6) (fun v3 => (z_bd (z_cv 5 v3 (p_X5_free v3 p1)) (fun r4 => (if p2 ≤ r4 then (z_bd (z_gA 8 a 2) (fun v5 => (z_bd (z_gA 8 a 6) (fun v6 => (z_bd (z_cv 3 v5 (p_X3_remember v5 v6)) (fun _ => (z_bd (z_gA 8 a 6) (fun v8 => (z_bd (z_gA 5 v8 0) (fun v9 => (z_bd (z_aI 11 v9 p1) (fun v10 => (z_bd (z_sI 11 v9 p1 (v10 + p2)) (fun _ => (z_bd (z_gA 8 a 6) (fun v11 => (z_bd (z_cv 5 v11 (p_X5_allBikes v11)) (fun r12 => (z_pu r12))))))))))))))))))) else (z_th "java/lang/IllegalStateException"))))))))))
set_option maxHeartbeats 4000000 in
set_option maxRecDepth 100000 in
theorem s_X8_addBikes (a : Nat) (p1 : Int32) (p2 : Int32) : z_Sound yX8_addBikes cX8_addBikes 3 (some .int) 7 109 (fun D b => [.ref (b + a), .int p1, .int p2]) z_ivI (p_X8_addBikes a p1 p2) := by
  refine z_ofSim rfl (by intro D b; exact Nat.le_of_ble_eq_true rfl) (fun X C hT => ?_)
  unfold p_X8_addBikes
  refine r_sub [(0, .ref (x_b X + a)), (1, .int p1), (2, .int p2)] rfl ?_
  refine r_aload_n (pc := 0) C dX8_addBikes_0 rfl rfl ?_
  refine r_iload_n (pc := 1) C dX8_addBikes_1 rfl rfl ?_
  refine r_cVV (pc := 2) C [.int p1] [] (z_KX.zero hT) (s_X8_checkStation a p1) mt_X8_checkStation zc_8 dX8_addBikes_2 ml_X8_107 im_X8_checkStation se_X8_checkStation rfl rfl rfl (Nat.le_of_ble_eq_true rfl) ⟨Nat.le_of_ble_eq_true rfl, Nat.le_of_ble_eq_true rfl⟩ ?_
  refine r_iload_n (pc := 5) C dX8_addBikes_5 rfl rfl ?_
  refine r_iconst (pc := 6) C dX8_addBikes_6 ki_1 ?_
  refine r_bipush (pc := 7) C dX8_addBikes_7 kb_20 ?_
  refine r_cSV (pc := 9) C [.int p2, .int 1, .int 20] [] (z_KX.zero hT) (s_X8_checkRange p2 1 20) mt_X8_checkRange dX8_addBikes_9 ml_X8_219 sm_X8_checkRange rfl rfl rfl (Nat.le_of_ble_eq_true rfl) ⟨Nat.le_of_ble_eq_true rfl, Nat.le_of_ble_eq_true rfl⟩ ?_
  refine r_aload_n (pc := 12) C dX8_addBikes_12 rfl rfl ?_
  refine r_getA (pc := 13) C dX8_addBikes_13 fl_X8_57 rfl (fun v3 => ?_)
  refine r_iload_n (pc := 16) C dX8_addBikes_16 rfl rfl ?_
  refine r_cVI (pc := 17) C [.int p1] [] (z_KX.zero hT) (s_X5_free v3 p1) mt_X5_free zc_5 dX8_addBikes_17 ml_X8_114 im_X5_free se_X5_free rfl rfl rfl (Nat.le_of_ble_eq_true rfl) ⟨Nat.le_of_ble_eq_true rfl, Nat.le_of_ble_eq_true rfl⟩ (fun r4 => ?_)
  refine r_iload_n (pc := 20) C dX8_addBikes_20 rfl rfl ?_
  refine r_icmp_ge (pc := 21) C (tgt := 35) dX8_addBikes_21 rfl (fun _ => ?_) (fun _ => ?_)
  · refine r_aload_n (pc := 35) C dX8_addBikes_35 rfl rfl ?_
    refine r_getA (pc := 36) C dX8_addBikes_36 fl_X8_23 rfl (fun v5 => ?_)
    refine r_aload_n (pc := 39) C dX8_addBikes_39 rfl rfl ?_
    refine r_getA (pc := 40) C dX8_addBikes_40 fl_X8_57 rfl (fun v6 => ?_)
    refine r_cVV (pc := 43) C [.ref (x_b X + v6)] [] (z_KX.zero hT) (s_X3_remember v5 v6) mt_X3_remember zc_3 dX8_addBikes_43 ml_X8_238 im_X3_remember se_X3_remember rfl rfl rfl (Nat.le_of_ble_eq_true rfl) ⟨Nat.le_of_ble_eq_true rfl, Nat.le_of_ble_eq_true rfl⟩ ?_
    refine r_aload_n (pc := 46) C dX8_addBikes_46 rfl rfl ?_
    refine r_getA (pc := 47) C dX8_addBikes_47 fl_X8_57 rfl (fun v8 => ?_)
    refine r_getA (pc := 50) C dX8_addBikes_50 fl_X8_110 rfl (fun v9 => ?_)
    refine r_iload_n (pc := 53) C dX8_addBikes_53 rfl rfl ?_
    refine r_dup2 (pc := 54) C dX8_addBikes_54 rfl rfl ?_
    refine r_iald (pc := 55) C dX8_addBikes_55 (fun v10 => ?_)
    refine r_iload_n (pc := 56) C dX8_addBikes_56 rfl rfl ?_
    refine r_iadd (pc := 57) C dX8_addBikes_57 ?_
    refine r_iast (pc := 58) C dX8_addBikes_58 ?_
    refine r_aload_n (pc := 59) C dX8_addBikes_59 rfl rfl ?_
    refine r_getA (pc := 60) C dX8_addBikes_60 fl_X8_57 rfl (fun v11 => ?_)
    refine r_cVI (pc := 63) C [] [] (z_KX.zero hT) (s_X5_allBikes v11) mt_X5_allBikes zc_5 dX8_addBikes_63 ml_X8_103 im_X5_allBikes se_X5_allBikes rfl rfl rfl (Nat.le_of_ble_eq_true rfl) ⟨Nat.le_of_ble_eq_true rfl, Nat.le_of_ble_eq_true rfl⟩ (fun r12 => ?_)
    exact r_iret (pc := 66) C dX8_addBikes_66
  · exact r_throwW (pc := 24) (i := 23) C (z_KX.zero hT) dX8_addBikes_24 dX8_addBikes_27 dX8_addBikes_28 dX8_addBikes_31 dX8_addBikes_34 (by decide) rfl cl_X8_233 ti_ISE tw_ISE to_ISE tt_ISE (by decide) (Nat.le_of_ble_eq_true rfl) (Nat.le_of_ble_eq_true rfl)
noncomputable def p_X8_removeBikes (a : Nat) (p1 : Int32) (p2 : Int32) : zP Int32 := (z_bd (z_cv 8 a (p_X8_checkStation a p1)) (fun _ => (z_bd (p_X8_checkRange p2 1 20) (fun _ => (z_bd (z_gA 8 a 6) (fun v3 => (z_bd (z_gA 5 v3 0) (fun v4 => (z_bd (z_aI 11 v4 p1) (fun v5 => (if p2 ≤ v5 then (z_bd (z_gA 8 a 2) (fun v6 => (z_bd (z_gA 8 a 6) (fun v7 => (z_bd (z_cv 3 v6 (p_X3_remember v6 v7)) (fun _ => (z_bd (z_gA 8 a 6) (fun v9 => (z_bd (z_gA 5 v9 0) (fun v10 => (z_bd (z_aI 11 v10 p1) (fun v11 => (z_bd (z_sI 11 v10 p1 (v11 - p2)) (fun _ => (z_bd (z_gA 8 a 6) (fun v12 => (z_bd (z_cv 5 v12 (p_X5_allBikes v12)) (fun r13 => (z_pu r13))))))))))))))))))) else (z_th "java/lang/IllegalStateException"))))))))))))
set_option maxHeartbeats 4000000 in
set_option maxRecDepth 100000 in
theorem s_X8_removeBikes (a : Nat) (p1 : Int32) (p2 : Int32) : z_Sound yX8_removeBikes cX8_removeBikes 3 (some .int) 7 109 (fun D b => [.ref (b + a), .int p1, .int p2]) z_ivI (p_X8_removeBikes a p1 p2) := by
  refine z_ofSim rfl (by intro D b; exact Nat.le_of_ble_eq_true rfl) (fun X C hT => ?_)
  unfold p_X8_removeBikes
  refine r_sub [(0, .ref (x_b X + a)), (1, .int p1), (2, .int p2)] rfl ?_
  refine r_aload_n (pc := 0) C dX8_removeBikes_0 rfl rfl ?_
  refine r_iload_n (pc := 1) C dX8_removeBikes_1 rfl rfl ?_
  refine r_cVV (pc := 2) C [.int p1] [] (z_KX.zero hT) (s_X8_checkStation a p1) mt_X8_checkStation zc_8 dX8_removeBikes_2 ml_X8_107 im_X8_checkStation se_X8_checkStation rfl rfl rfl (Nat.le_of_ble_eq_true rfl) ⟨Nat.le_of_ble_eq_true rfl, Nat.le_of_ble_eq_true rfl⟩ ?_
  refine r_iload_n (pc := 5) C dX8_removeBikes_5 rfl rfl ?_
  refine r_iconst (pc := 6) C dX8_removeBikes_6 ki_1 ?_
  refine r_bipush (pc := 7) C dX8_removeBikes_7 kb_20 ?_
  refine r_cSV (pc := 9) C [.int p2, .int 1, .int 20] [] (z_KX.zero hT) (s_X8_checkRange p2 1 20) mt_X8_checkRange dX8_removeBikes_9 ml_X8_219 sm_X8_checkRange rfl rfl rfl (Nat.le_of_ble_eq_true rfl) ⟨Nat.le_of_ble_eq_true rfl, Nat.le_of_ble_eq_true rfl⟩ ?_
  refine r_aload_n (pc := 12) C dX8_removeBikes_12 rfl rfl ?_
  refine r_getA (pc := 13) C dX8_removeBikes_13 fl_X8_57 rfl (fun v3 => ?_)
  refine r_getA (pc := 16) C dX8_removeBikes_16 fl_X8_110 rfl (fun v4 => ?_)
  refine r_iload_n (pc := 19) C dX8_removeBikes_19 rfl rfl ?_
  refine r_iald (pc := 20) C dX8_removeBikes_20 (fun v5 => ?_)
  refine r_iload_n (pc := 21) C dX8_removeBikes_21 rfl rfl ?_
  refine r_icmp_ge (pc := 22) C (tgt := 36) dX8_removeBikes_22 rfl (fun _ => ?_) (fun _ => ?_)
  · refine r_aload_n (pc := 36) C dX8_removeBikes_36 rfl rfl ?_
    refine r_getA (pc := 37) C dX8_removeBikes_37 fl_X8_23 rfl (fun v6 => ?_)
    refine r_aload_n (pc := 40) C dX8_removeBikes_40 rfl rfl ?_
    refine r_getA (pc := 41) C dX8_removeBikes_41 fl_X8_57 rfl (fun v7 => ?_)
    refine r_cVV (pc := 44) C [.ref (x_b X + v7)] [] (z_KX.zero hT) (s_X3_remember v6 v7) mt_X3_remember zc_3 dX8_removeBikes_44 ml_X8_238 im_X3_remember se_X3_remember rfl rfl rfl (Nat.le_of_ble_eq_true rfl) ⟨Nat.le_of_ble_eq_true rfl, Nat.le_of_ble_eq_true rfl⟩ ?_
    refine r_aload_n (pc := 47) C dX8_removeBikes_47 rfl rfl ?_
    refine r_getA (pc := 48) C dX8_removeBikes_48 fl_X8_57 rfl (fun v9 => ?_)
    refine r_getA (pc := 51) C dX8_removeBikes_51 fl_X8_110 rfl (fun v10 => ?_)
    refine r_iload_n (pc := 54) C dX8_removeBikes_54 rfl rfl ?_
    refine r_dup2 (pc := 55) C dX8_removeBikes_55 rfl rfl ?_
    refine r_iald (pc := 56) C dX8_removeBikes_56 (fun v11 => ?_)
    refine r_iload_n (pc := 57) C dX8_removeBikes_57 rfl rfl ?_
    refine r_isub (pc := 58) C dX8_removeBikes_58 ?_
    refine r_iast (pc := 59) C dX8_removeBikes_59 ?_
    refine r_aload_n (pc := 60) C dX8_removeBikes_60 rfl rfl ?_
    refine r_getA (pc := 61) C dX8_removeBikes_61 fl_X8_57 rfl (fun v12 => ?_)
    refine r_cVI (pc := 64) C [] [] (z_KX.zero hT) (s_X5_allBikes v12) mt_X5_allBikes zc_5 dX8_removeBikes_64 ml_X8_103 im_X5_allBikes se_X5_allBikes rfl rfl rfl (Nat.le_of_ble_eq_true rfl) ⟨Nat.le_of_ble_eq_true rfl, Nat.le_of_ble_eq_true rfl⟩ (fun r13 => ?_)
    exact r_iret (pc := 67) C dX8_removeBikes_67
  · exact r_throwW (pc := 25) (i := 24) C (z_KX.zero hT) dX8_removeBikes_25 dX8_removeBikes_28 dX8_removeBikes_29 dX8_removeBikes_32 dX8_removeBikes_35 (by decide) rfl cl_X8_233 ti_ISE tw_ISE to_ISE tt_ISE (by decide) (Nat.le_of_ble_eq_true rfl) (Nat.le_of_ble_eq_true rfl)
noncomputable def p_X8_undo (a : Nat) : zP Int32 := (z_bd (z_gA 8 a 2) (fun v1 => (z_bd (z_gA 8 a 6) (fun v2 => (z_bd (z_cv 3 v1 (p_X3_takeBack v1 v2)) (fun r3 => (if r3 = 0 then (z_pu (-1)) else (z_bd (z_gA 8 a 2) (fun v4 => (z_bd (z_gI 3 v4 2) (fun v5 => (z_pu v5))))))))))))
set_option maxHeartbeats 4000000 in
set_option maxRecDepth 100000 in
theorem s_X8_undo (a : Nat) : z_Sound yX8_undo cX8_undo 1 (some .int) 4 85 (fun D b => [.ref (b + a)]) z_ivI (p_X8_undo a) := by
  refine z_ofSim rfl (by intro D b; exact Nat.le_of_ble_eq_true rfl) (fun X C hT => ?_)
  unfold p_X8_undo
  refine r_sub [(0, .ref (x_b X + a))] rfl ?_
  refine r_aload_n (pc := 0) C dX8_undo_0 rfl rfl ?_
  refine r_getA (pc := 1) C dX8_undo_1 fl_X8_23 rfl (fun v1 => ?_)
  refine r_aload_n (pc := 4) C dX8_undo_4 rfl rfl ?_
  refine r_getA (pc := 5) C dX8_undo_5 fl_X8_57 rfl (fun v2 => ?_)
  refine r_cVI (pc := 8) C [.ref (x_b X + v2)] [] (z_KX.zero hT) (s_X3_takeBack v1 v2) mt_X3_takeBack zc_3 dX8_undo_8 ml_X8_268 im_X3_takeBack se_X3_takeBack rfl rfl rfl (Nat.le_of_ble_eq_true rfl) ⟨Nat.le_of_ble_eq_true rfl, Nat.le_of_ble_eq_true rfl⟩ (fun r3 => ?_)
  refine r_if_eq (pc := 11) C (tgt := 24) dX8_undo_11 rfl (fun _ => ?_) (fun _ => ?_)
  · refine r_iconst (pc := 24) C dX8_undo_24 ki_m1 ?_
    exact r_iret (pc := 25) C dX8_undo_25
  · refine r_aload_n (pc := 14) C dX8_undo_14 rfl rfl ?_
    refine r_getA (pc := 15) C dX8_undo_15 fl_X8_23 rfl (fun v4 => ?_)
    refine r_getI (pc := 18) C dX8_undo_18 fl_X8_272 rfl (fun v5 => ?_)
    refine r_goto (pc := 21) C (tgt := 25) dX8_undo_21 rfl ?_
    exact r_iret (pc := 25) C dX8_undo_25
noncomputable def p_X8_saveSnapshot (a : Nat) (p1 : Int32) : zP Int32 := (if p1 < 0 then (z_pu 0) else (if p1 < 2 then (z_bd (z_gA 8 a 4) (fun v1 => (z_jn (τ := Unit) (z_bd (z_aR 13 v1 p1) (fun v7 => if v7 = none then (z_bd (z_gA 8 a 4) (fun v3 => (z_bd (z_nw 5 13) (fun q4 => (z_bd (z_gA 8 a 9) (fun v5 => (z_bd (p_X5_init q4 v5) (fun _ => (z_bd (z_sR 13 5 v3 p1 q4) (fun _ => (z_pu (.inl ())))))))))))) else (z_pu (.inl ())))) (fun t2 => (z_bd (z_gA 8 a 4) (fun v8 => (z_bd (z_aA 13 v8 p1) (fun v9 => (z_bd (z_gA 8 a 6) (fun v10 => (z_bd (z_cv 5 v9 (p_X5_copy v9 v10)) (fun _ => (z_bd (z_gA 8 a 5) (fun v12 => (z_bd (z_sZ v12 p1 1) (fun _ => (z_pu 1))))))))))))))))) else (z_pu 0)))
set_option maxHeartbeats 4000000 in
set_option maxRecDepth 100000 in
theorem s_X8_saveSnapshot (a : Nat) (p1 : Int32) : z_Sound yX8_saveSnapshot cX8_saveSnapshot 2 (some .boolean) 4 87 (fun D b => [.ref (b + a), .int p1]) z_ivI (p_X8_saveSnapshot a p1) := by
  refine z_ofSim rfl (by intro D b; exact Nat.le_of_ble_eq_true rfl) (fun X C hT => ?_)
  unfold p_X8_saveSnapshot
  refine r_sub [(0, .ref (x_b X + a)), (1, .int p1)] rfl ?_
  refine r_iload_n (pc := 0) C dX8_saveSnapshot_0 rfl rfl ?_
  refine r_if_lt (pc := 1) C (tgt := 9) dX8_saveSnapshot_1 rfl (fun _ => ?_) (fun _ => ?_)
  · refine r_iconst (pc := 9) C dX8_saveSnapshot_9 ki_0 ?_
    exact r_zret1 (pc := 10) C dX8_saveSnapshot_10 (by decide)
  · refine r_iload_n (pc := 4) C dX8_saveSnapshot_4 rfl rfl ?_
    refine r_iconst (pc := 5) C dX8_saveSnapshot_5 ki_2 ?_
    refine r_icmp_lt (pc := 6) C (tgt := 11) dX8_saveSnapshot_6 rfl (fun _ => ?_) (fun _ => ?_)
    · refine r_aload_n (pc := 11) C dX8_saveSnapshot_11 rfl rfl ?_
      refine r_getA (pc := 12) C dX8_saveSnapshot_12 fl_X8_36 rfl (fun v1 => ?_)
      refine r_iload_n (pc := 15) C dX8_saveSnapshot_15 rfl rfl ?_
      refine r_jn 37 (fun (t2 : Unit) => [(0, .ref (x_b X + a)), (1, .int p1)]) (fun (t2 : Unit) => []) (fun t2 => ?_) ?_
      · refine r_aload_n (pc := 37) C dX8_saveSnapshot_37 rfl rfl ?_
        refine r_getA (pc := 38) C dX8_saveSnapshot_38 fl_X8_36 rfl (fun v8 => ?_)
        refine r_iload_n (pc := 41) C dX8_saveSnapshot_41 rfl rfl ?_
        refine r_aald (pc := 42) C (by decide) dX8_saveSnapshot_42 (fun v9 => ?_)
        refine r_aload_n (pc := 43) C dX8_saveSnapshot_43 rfl rfl ?_
        refine r_getA (pc := 44) C dX8_saveSnapshot_44 fl_X8_57 rfl (fun v10 => ?_)
        refine r_cVV (pc := 47) C [.ref (x_b X + v10)] [] (z_KX.zero hT) (s_X5_copy v9 v10) mt_X5_copy zc_5 dX8_saveSnapshot_47 ml_X8_223 im_X5_copy se_X5_copy rfl rfl rfl (Nat.le_of_ble_eq_true rfl) ⟨Nat.le_of_ble_eq_true rfl, Nat.le_of_ble_eq_true rfl⟩ ?_
        refine r_aload_n (pc := 50) C dX8_saveSnapshot_50 rfl rfl ?_
        refine r_getA (pc := 51) C dX8_saveSnapshot_51 fl_X8_40 rfl (fun v12 => ?_)
        refine r_iload_n (pc := 54) C dX8_saveSnapshot_54 rfl rfl ?_
        refine r_iconst (pc := 55) C dX8_saveSnapshot_55 ki_1 ?_
        refine r_zast (pc := 56) C dX8_saveSnapshot_56 ?_
        refine r_iconst (pc := 57) C dX8_saveSnapshot_57 ki_1 ?_
        exact r_zret1 (pc := 58) C dX8_saveSnapshot_58 (by decide)
      · refine r_aaldN (pc := 16) C (tgt := 37) (by decide) dX8_saveSnapshot_16 dX8_saveSnapshot_17 rfl ?_ ?_
        · refine r_aload_n (pc := 20) C dX8_saveSnapshot_20 rfl rfl ?_
          refine r_getA (pc := 21) C dX8_saveSnapshot_21 fl_X8_36 rfl (fun v3 => ?_)
          refine r_iload_n (pc := 24) C dX8_saveSnapshot_24 rfl rfl ?_
          refine r_new (pc := 25) C dX8_saveSnapshot_25 zc_5 zb_5 cl_X8_34 ins_X5 ini_X5 (fun q4 => ?_)
          refine r_dup (pc := 28) C dX8_saveSnapshot_28 rfl ?_
          refine r_aload_n (pc := 29) C dX8_saveSnapshot_29 rfl rfl ?_
          refine r_getA (pc := 30) C dX8_saveSnapshot_30 fl_X8_47 rfl (fun v5 => ?_)
          refine r_cI (pc := 33) C [.ref (x_b X + v5)] [.ref (x_b X + q4), .int p1, .ref (x_b X + v3)] (z_KX.up (z_KX.zero hT)) (s_X5_init q4 v5) mt_X5_init dX8_saveSnapshot_33 ml_X8_54 im_X5_init rfl rfl rfl rfl (Nat.le_of_ble_eq_true rfl) ⟨Nat.le_of_ble_eq_true rfl, Nat.le_of_ble_eq_true rfl⟩ ?_
          refine r_aast (pc := 36) C (Or.inl ⟨rfl, rfl⟩) ⟨_, _, _, zc_5⟩ dX8_saveSnapshot_36 ?_
          refine r_sub [(0, .ref (x_b X + a)), (1, .int p1)] rfl ?_
          exact r_br (τ := Unit) ()
        · refine r_sub [(0, .ref (x_b X + a)), (1, .int p1)] rfl ?_
          exact r_br (τ := Unit) ()
    · refine r_iconst (pc := 9) C dX8_saveSnapshot_9 ki_0 ?_
      exact r_zret1 (pc := 10) C dX8_saveSnapshot_10 (by decide)
noncomputable def p_X8_restoreSnapshot (a : Nat) (p1 : Int32) : zP Int32 := (if p1 < 0 then (z_pu 0) else (if 2 ≤ p1 then (z_pu 0) else (z_bd (z_gA 8 a 5) (fun v1 => (z_bd (z_aI 12 v1 p1) (fun v2 => (if v2 = 0 then (z_pu 0) else (z_bd (z_gA 8 a 4) (fun v3 => (z_bd (z_aR 13 v3 p1) (fun v10 => if v10 = none then (z_pu 0) else (z_bd (z_gA 8 a 6) (fun v4 => (z_bd (z_gA 8 a 4) (fun v5 => (z_bd (z_aA 13 v5 p1) (fun v6 => (z_bd (z_cv 5 v4 (p_X5_copy v4 v6)) (fun _ => (z_bd (z_gA 8 a 2) (fun v8 => (z_bd (z_cv 3 v8 (p_X3_clear v8)) (fun _ => (z_pu 1))))))))))))))))))))))))
set_option maxHeartbeats 4000000 in
set_option maxRecDepth 100000 in
theorem s_X8_restoreSnapshot (a : Nat) (p1 : Int32) : z_Sound yX8_restoreSnapshot cX8_restoreSnapshot 2 (some .boolean) 3 63 (fun D b => [.ref (b + a), .int p1]) z_ivI (p_X8_restoreSnapshot a p1) := by
  refine z_ofSim rfl (by intro D b; exact Nat.le_of_ble_eq_true rfl) (fun X C hT => ?_)
  unfold p_X8_restoreSnapshot
  refine r_sub [(0, .ref (x_b X + a)), (1, .int p1)] rfl ?_
  refine r_iload_n (pc := 0) C dX8_restoreSnapshot_0 rfl rfl ?_
  refine r_if_lt (pc := 1) C (tgt := 27) dX8_restoreSnapshot_1 rfl (fun _ => ?_) (fun _ => ?_)
  · refine r_iconst (pc := 27) C dX8_restoreSnapshot_27 ki_0 ?_
    exact r_zret1 (pc := 28) C dX8_restoreSnapshot_28 (by decide)
  · refine r_iload_n (pc := 4) C dX8_restoreSnapshot_4 rfl rfl ?_
    refine r_iconst (pc := 5) C dX8_restoreSnapshot_5 ki_2 ?_
    refine r_icmp_ge (pc := 6) C (tgt := 27) dX8_restoreSnapshot_6 rfl (fun _ => ?_) (fun _ => ?_)
    · refine r_iconst (pc := 27) C dX8_restoreSnapshot_27 ki_0 ?_
      exact r_zret1 (pc := 28) C dX8_restoreSnapshot_28 (by decide)
    · refine r_aload_n (pc := 9) C dX8_restoreSnapshot_9 rfl rfl ?_
      refine r_getA (pc := 10) C dX8_restoreSnapshot_10 fl_X8_40 rfl (fun v1 => ?_)
      refine r_iload_n (pc := 13) C dX8_restoreSnapshot_13 rfl rfl ?_
      refine r_zald (pc := 14) C dX8_restoreSnapshot_14 (fun v2 => ?_)
      refine r_if_eq (pc := 15) C (tgt := 27) dX8_restoreSnapshot_15 rfl (fun _ => ?_) (fun _ => ?_)
      · refine r_iconst (pc := 27) C dX8_restoreSnapshot_27 ki_0 ?_
        exact r_zret1 (pc := 28) C dX8_restoreSnapshot_28 (by decide)
      · refine r_aload_n (pc := 18) C dX8_restoreSnapshot_18 rfl rfl ?_
        refine r_getA (pc := 19) C dX8_restoreSnapshot_19 fl_X8_36 rfl (fun v3 => ?_)
        refine r_iload_n (pc := 22) C dX8_restoreSnapshot_22 rfl rfl ?_
        refine r_aaldN (pc := 23) C (tgt := 29) (by decide) dX8_restoreSnapshot_23 dX8_restoreSnapshot_24 rfl ?_ ?_
        · refine r_iconst (pc := 27) C dX8_restoreSnapshot_27 ki_0 ?_
          exact r_zret1 (pc := 28) C dX8_restoreSnapshot_28 (by decide)
        · refine r_aload_n (pc := 29) C dX8_restoreSnapshot_29 rfl rfl ?_
          refine r_getA (pc := 30) C dX8_restoreSnapshot_30 fl_X8_57 rfl (fun v4 => ?_)
          refine r_aload_n (pc := 33) C dX8_restoreSnapshot_33 rfl rfl ?_
          refine r_getA (pc := 34) C dX8_restoreSnapshot_34 fl_X8_36 rfl (fun v5 => ?_)
          refine r_iload_n (pc := 37) C dX8_restoreSnapshot_37 rfl rfl ?_
          refine r_aald (pc := 38) C (by decide) dX8_restoreSnapshot_38 (fun v6 => ?_)
          refine r_cVV (pc := 39) C [.ref (x_b X + v6)] [] (z_KX.zero hT) (s_X5_copy v4 v6) mt_X5_copy zc_5 dX8_restoreSnapshot_39 ml_X8_223 im_X5_copy se_X5_copy rfl rfl rfl (Nat.le_of_ble_eq_true rfl) ⟨Nat.le_of_ble_eq_true rfl, Nat.le_of_ble_eq_true rfl⟩ ?_
          refine r_aload_n (pc := 42) C dX8_restoreSnapshot_42 rfl rfl ?_
          refine r_getA (pc := 43) C dX8_restoreSnapshot_43 fl_X8_23 rfl (fun v8 => ?_)
          refine r_cVV (pc := 46) C [] [] (z_KX.zero hT) (s_X3_clear v8) mt_X3_clear zc_3 dX8_restoreSnapshot_46 ml_X8_86 im_X3_clear se_X3_clear rfl rfl rfl (Nat.le_of_ble_eq_true rfl) ⟨Nat.le_of_ble_eq_true rfl, Nat.le_of_ble_eq_true rfl⟩ ?_
          refine r_iconst (pc := 49) C dX8_restoreSnapshot_49 ki_1 ?_
          exact r_zret1 (pc := 50) C dX8_restoreSnapshot_50 (by decide)
