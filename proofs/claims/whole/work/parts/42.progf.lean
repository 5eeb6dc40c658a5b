noncomputable def p_X9_tourStop (a : Nat) (p1 : Int32) (p2 : Int32) : zP Int32 := (z_bd (z_cv 9 a (p_X9_failsTour a p1)) (fun r1 => (if r1 = 0 then (z_bd (z_cv 9 a (p_X9_findTour a p1)) (fun _ => (z_bd (z_gI 9 a 27) (fun v3 => (if v3 < 0 then (z_pu (-1)) else (z_bd (z_gI 9 a 28) (fun v4 => (z_bd (p_X9_within p2 0 (v4 - 1)) (fun r5 => (if r5 = 0 then (z_pu (-1)) else (z_bd (z_gA 9 a 26) (fun v6 => (z_bd (z_aI 11 v6 p2) (fun v7 => (z_pu v7))))))))))))))) else (z_pu 0))))
set_option maxHeartbeats 4000000 in
set_option maxRecDepth 100000 in
theorem s_X9_tourStop (a : Nat) (p1 : Int32) (p2 : Int32) : z_Sound yX9_tourStop cX9_tourStop 3 (some .int) 7 155 (fun D b => [.ref (b + a), .int p1, .int p2]) z_ivI (p_X9_tourStop a p1 p2) := by
  refine z_ofSim rfl (by intro D b; exact Nat.le_of_ble_eq_true rfl) (fun X C hT => ?_)
  unfold p_X9_tourStop
  refine r_sub [(0, .ref (x_b X + a)), (1, .int p1), (2, .int p2)] rfl ?_
  refine r_aload_n (pc := 0) C dX9_tourStop_0 rfl rfl ?_
  refine r_iload_n (pc := 1) C dX9_tourStop_1 rfl rfl ?_
  refine r_cVI (pc := 2) C [.int p1] [] (z_KX.zero hT) (s_X9_failsTour a p1) mt_X9_failsTour zc_9 dX9_tourStop_2 ml_X9_311 im_X9_failsTour se_X9_failsTour rfl rfl rfl (Nat.le_of_ble_eq_true rfl) ⟨Nat.le_of_ble_eq_true rfl, Nat.le_of_ble_eq_true rfl⟩ (fun r1 => ?_)
  refine r_if_eq (pc := 5) C (tgt := 10) dX9_tourStop_5 rfl (fun _ => ?_) (fun _ => ?_)
  · refine r_aload_n (pc := 10) C dX9_tourStop_10 rfl rfl ?_
    refine r_iload_n (pc := 11) C dX9_tourStop_11 rfl rfl ?_
    refine r_cVV (pc := 12) C [.int p1] [] (z_KX.zero hT) (s_X9_findTour a p1) mt_X9_findTour zc_9 dX9_tourStop_12 ml_X9_314 im_X9_findTour se_X9_findTour rfl rfl rfl (Nat.le_of_ble_eq_true rfl) ⟨Nat.le_of_ble_eq_true rfl, Nat.le_of_ble_eq_true rfl⟩ ?_
    refine r_aload_n (pc := 15) C dX9_tourStop_15 rfl rfl ?_
    refine r_getI (pc := 16) C dX9_tourStop_16 fl_X9_295 rfl (fun v3 => ?_)
    refine r_if_lt (pc := 19) C (tgt := 45) dX9_tourStop_19 rfl (fun _ => ?_) (fun _ => ?_)
    · refine r_iconst (pc := 45) C dX9_tourStop_45 ki_m1 ?_
      exact r_iret (pc := 46) C dX9_tourStop_46
    · refine r_iload_n (pc := 22) C dX9_tourStop_22 rfl rfl ?_
      refine r_iconst (pc := 23) C dX9_tourStop_23 ki_0 ?_
      refine r_aload_n (pc := 24) C dX9_tourStop_24 rfl rfl ?_
      refine r_getI (pc := 25) C dX9_tourStop_25 fl_X9_298 rfl (fun v4 => ?_)
      refine r_iconst (pc := 28) C dX9_tourStop_28 ki_1 ?_
      refine r_isub (pc := 29) C dX9_tourStop_29 ?_
      refine r_cSI (pc := 30) C [.int p2, .int 0, .int (v4 - 1)] [] (z_KX.zero hT) (s_X9_within p2 0 (v4 - 1)) mt_X9_within dX9_tourStop_30 ml_X9_103 sm_X9_within rfl rfl rfl (Nat.le_of_ble_eq_true rfl) ⟨Nat.le_of_ble_eq_true rfl, Nat.le_of_ble_eq_true rfl⟩ (fun r5 => ?_)
      refine r_if_eq (pc := 33) C (tgt := 45) dX9_tourStop_33 rfl (fun _ => ?_) (fun _ => ?_)
      · refine r_iconst (pc := 45) C dX9_tourStop_45 ki_m1 ?_
        exact r_iret (pc := 46) C dX9_tourStop_46
      · refine r_aload_n (pc := 36) C dX9_tourStop_36 rfl rfl ?_
        refine r_getA (pc := 37) C dX9_tourStop_37 fl_X9_52 rfl (fun v6 => ?_)
        refine r_iload_n (pc := 40) C dX9_tourStop_40 rfl rfl ?_
        refine r_iald (pc := 41) C dX9_tourStop_41 (fun v7 => ?_)
        refine r_goto (pc := 42) C (tgt := 46) dX9_tourStop_42 rfl ?_
        exact r_iret (pc := 46) C dX9_tourStop_46
  · refine r_iconst (pc := 8) C dX9_tourStop_8 ki_0 ?_
    exact r_iret (pc := 9) C dX9_tourStop_9
noncomputable def p_X9_comes (a : Nat) (p1 : Int32) : zP Int32 := (z_bd (z_cv 9 a (p_X9_riderAt a p1 1)) (fun r1 => (z_bd (z_cv 9 a (p_X9_free a r1)) (fun r2 => (if r2 ≤ 0 then (z_bd (z_gA 9 a 19) (fun v3 => (z_bd (z_aI 11 v3 5) (fun v4 => (z_bd (z_sI 11 v3 5 (v4 + 1)) (fun _ => (z_bd (z_cv 9 a (p_X9_nearestTo a r1 1)) (fun r5 => (z_bd (z_gA 9 a 19) (fun v6 => (z_bd (z_gA 9 a 19) (fun v7 => (z_bd (z_aI 11 v7 0) (fun v8 => (z_jn (τ := Int32) (if 0 ≤ r5 then (z_bd (z_cv 9 a (p_X9_ride a r1 r5)) (fun r10 => (z_pu (.inl r10)))) else (z_pu (.inl 1))) (fun t9 => (z_bd (z_sI 11 v6 (205 + (3 * p1)) (v8 + t9)) (fun _ => (z_bd (z_gA 9 a 19) (fun v11 => (z_jn (τ := Int32) (if 0 ≤ r5 then (z_pu (.inl r5)) else (z_pu (.inl r1))) (fun t12 => (z_bd (z_sI 11 v11 ((205 + (3 * p1)) + 1) t12) (fun _ => (z_pu 0))))))))))))))))))))))))) else (z_bd (z_gA 9 a 19) (fun v13 => (z_bd (z_aI 11 v13 2) (fun v14 => (z_bd (z_cv 9 a (p_X9_bonus a r1)) (fun r15 => (z_bd (z_sI 11 v13 2 (v14 + r15)) (fun _ => (z_bd (z_gA 9 a 19) (fun v16 => (z_bd (z_aI 11 v16 (6 + r1)) (fun v17 => (z_bd (z_sI 11 v16 (6 + r1) (v17 + 1)) (fun _ => (z_pu 1))))))))))))))))))))
set_option maxHeartbeats 4000000 in
set_option maxRecDepth 100000 in
theorem s_X9_comes (a : Nat) (p1 : Int32) : z_Sound yX9_comes cX9_comes 4 (some .boolean) 4 86 (fun D b => [.ref (b + a), .int p1]) z_ivI (p_X9_comes a p1) := by
  refine z_ofSim rfl (by intro D b; exact Nat.le_of_ble_eq_true rfl) (fun X C hT => ?_)
  unfold p_X9_comes
  refine r_sub [(0, .ref (x_b X + a)), (1, .int p1)] rfl ?_
  refine r_aload_n (pc := 0) C dX9_comes_0 rfl rfl ?_
  refine r_iload_n (pc := 1) C dX9_comes_1 rfl rfl ?_
  refine r_iconst (pc := 2) C dX9_comes_2 ki_1 ?_
  refine r_cVI (pc := 3) C [.int p1, .int 1] [] (z_KX.zero hT) (s_X9_riderAt a p1 1) mt_X9_riderAt zc_9 dX9_comes_3 ml_X9_274 im_X9_riderAt se_X9_riderAt rfl rfl rfl (Nat.le_of_ble_eq_true rfl) ⟨Nat.le_of_ble_eq_true rfl, Nat.le_of_ble_eq_true rfl⟩ (fun r1 => ?_)
  refine r_sti_n (pc := 6) C 2 [(0, .ref (x_b X + a)), (1, .int p1), (2, .int r1)] dX9_comes_6 rfl (by decide) rfl ?_
  refine r_aload_n (pc := 7) C dX9_comes_7 rfl rfl ?_
  refine r_iload_n (pc := 8) C dX9_comes_8 rfl rfl ?_
  refine r_cVI (pc := 9) C [.int r1] [] (z_KX.zero hT) (s_X9_free a r1) mt_X9_free zc_9 dX9_comes_9 ml_X9_215 im_X9_free se_X9_free rfl rfl rfl (Nat.le_of_ble_eq_true rfl) ⟨Nat.le_of_ble_eq_true rfl, Nat.le_of_ble_eq_true rfl⟩ (fun r2 => ?_)
  refine r_if_le (pc := 12) C (tgt := 44) dX9_comes_12 rfl (fun _ => ?_) (fun _ => ?_)
  · refine r_aload_n (pc := 44) C dX9_comes_44 rfl rfl ?_
    refine r_getA (pc := 45) C dX9_comes_45 fl_X9_32 rfl (fun v3 => ?_)
    refine r_iconst (pc := 48) C dX9_comes_48 ki_5 ?_
    refine r_dup2 (pc := 49) C dX9_comes_49 rfl rfl ?_
    refine r_iald (pc := 50) C dX9_comes_50 (fun v4 => ?_)
    refine r_iconst (pc := 51) C dX9_comes_51 ki_1 ?_
    refine r_iadd (pc := 52) C dX9_comes_52 ?_
    refine r_iast (pc := 53) C dX9_comes_53 ?_
    refine r_aload_n (pc := 54) C dX9_comes_54 rfl rfl ?_
    refine r_iload_n (pc := 55) C dX9_comes_55 rfl rfl ?_
    refine r_iconst (pc := 56) C dX9_comes_56 ki_1 ?_
    refine r_cVI (pc := 57) C [.int r1, .int 1] [] (z_KX.zero hT) (s_X9_nearestTo a r1 1) mt_X9_nearestTo zc_9 dX9_comes_57 ml_X9_261 im_X9_nearestTo se_X9_nearestTo rfl rfl rfl (Nat.le_of_ble_eq_true rfl) ⟨Nat.le_of_ble_eq_true rfl, Nat.le_of_ble_eq_true rfl⟩ (fun r5 => ?_)
    refine r_sti_n (pc := 60) C 3 [(0, .ref (x_b X + a)), (1, .int p1), (2, .int r1), (3, .int r5)] dX9_comes_60 rfl (by decide) rfl ?_
    refine r_aload_n (pc := 61) C dX9_comes_61 rfl rfl ?_
    refine r_getA (pc := 62) C dX9_comes_62 fl_X9_32 rfl (fun v6 => ?_)
    refine r_sipush (pc := 65) C dX9_comes_65 ks_205 ?_
    refine r_iconst (pc := 68) C dX9_comes_68 ki_3 ?_
    refine r_iload_n (pc := 69) C dX9_comes_69 rfl rfl ?_
    refine r_imul (pc := 70) C dX9_comes_70 ?_
    refine r_iadd (pc := 71) C dX9_comes_71 ?_
    refine r_aload_n (pc := 72) C dX9_comes_72 rfl rfl ?_
    refine r_getA (pc := 73) C dX9_comes_73 fl_X9_32 rfl (fun v7 => ?_)
    refine r_iconst (pc := 76) C dX9_comes_76 ki_0 ?_
    refine r_iald (pc := 77) C dX9_comes_77 (fun v8 => ?_)
    refine r_iload_n (pc := 78) C dX9_comes_78 rfl rfl ?_
    refine r_jn 92 (fun (t9 : Int32) => [(0, .ref (x_b X + a)), (1, .int p1), (2, .int r1), (3, .int r5)]) (fun (t9 : Int32) => [.int t9, .int v8, .int (205 + (3 * p1)), .ref (x_b X + v6)]) (fun t9 => ?_) ?_
    · refine r_iadd (pc := 92) C dX9_comes_92 ?_
      refine r_iast (pc := 93) C dX9_comes_93 ?_
      refine r_aload_n (pc := 94) C dX9_comes_94 rfl rfl ?_
      refine r_getA (pc := 95) C dX9_comes_95 fl_X9_32 rfl (fun v11 => ?_)
      refine r_sipush (pc := 98) C dX9_comes_98 ks_205 ?_
      refine r_iconst (pc := 101) C dX9_comes_101 ki_3 ?_
      refine r_iload_n (pc := 102) C dX9_comes_102 rfl rfl ?_
      refine r_imul (pc := 103) C dX9_comes_103 ?_
      refine r_iadd (pc := 104) C dX9_comes_104 ?_
      refine r_iconst (pc := 105) C dX9_comes_105 ki_1 ?_
      refine r_iadd (pc := 106) C dX9_comes_106 ?_
      refine r_iload_n (pc := 107) C dX9_comes_107 rfl rfl ?_
      refine r_jn 116 (fun (t12 : Int32) => []) (fun (t12 : Int32) => [.int t12, .int ((205 + (3 * p1)) + 1), .ref (x_b X + v11)]) (fun t12 => ?_) ?_
      · refine r_iast (pc := 116) C dX9_comes_116 ?_
        refine r_iconst (pc := 117) C dX9_comes_117 ki_0 ?_
        exact r_zret1 (pc := 118) C dX9_comes_118 (by decide)
      · refine r_if_ge (pc := 108) C (tgt := 115) dX9_comes_108 rfl (fun _ => ?_) (fun _ => ?_)
        · refine r_iload_n (pc := 115) C dX9_comes_115 rfl rfl ?_
          refine r_sub [] rfl ?_
          exact r_br (τ := Int32) r5
        · refine r_iload_n (pc := 111) C dX9_comes_111 rfl rfl ?_
          refine r_goto (pc := 112) C (tgt := 116) dX9_comes_112 rfl ?_
          refine r_sub [] rfl ?_
          exact r_br (τ := Int32) r1
    · refine r_if_ge (pc := 79) C (tgt := 86) dX9_comes_79 rfl (fun _ => ?_) (fun _ => ?_)
      · refine r_aload_n (pc := 86) C dX9_comes_86 rfl rfl ?_
        refine r_iload_n (pc := 87) C dX9_comes_87 rfl rfl ?_
        refine r_iload_n (pc := 88) C dX9_comes_88 rfl rfl ?_
        refine r_cVI (pc := 89) C [.int r1, .int r5] [.int v8, .int (205 + (3 * p1)), .ref (x_b X + v6)] (z_KX.up (z_KX.zero hT)) (s_X9_ride a r1 r5) mt_X9_ride zc_9 dX9_comes_89 ml_X9_212 im_X9_ride se_X9_ride rfl rfl rfl (Nat.le_of_ble_eq_true rfl) ⟨Nat.le_of_ble_eq_true rfl, Nat.le_of_ble_eq_true rfl⟩ (fun r10 => ?_)
        refine r_sub [(0, .ref (x_b X + a)), (1, .int p1), (2, .int r1), (3, .int r5)] rfl ?_
        exact r_br (τ := Int32) r10
      · refine r_iconst (pc := 82) C dX9_comes_82 ki_1 ?_
        refine r_goto (pc := 83) C (tgt := 92) dX9_comes_83 rfl ?_
        refine r_sub [(0, .ref (x_b X + a)), (1, .int p1), (2, .int r1), (3, .int r5)] rfl ?_
        exact r_br (τ := Int32) 1
  · refine r_aload_n (pc := 15) C dX9_comes_15 rfl rfl ?_
    refine r_getA (pc := 16) C dX9_comes_16 fl_X9_32 rfl (fun v13 => ?_)
    refine r_iconst (pc := 19) C dX9_comes_19 ki_2 ?_
    refine r_dup2 (pc := 20) C dX9_comes_20 rfl rfl ?_
    refine r_iald (pc := 21) C dX9_comes_21 (fun v14 => ?_)
    refine r_aload_n (pc := 22) C dX9_comes_22 rfl rfl ?_
    refine r_iload_n (pc := 23) C dX9_comes_23 rfl rfl ?_
    refine r_cVI (pc := 24) C [.int r1] [.int v14, .int 2, .ref (x_b X + v13)] (z_KX.zero hT) (s_X9_bonus a r1) mt_X9_bonus zc_9 dX9_comes_24 ml_X9_271 im_X9_bonus se_X9_bonus rfl rfl rfl (Nat.le_of_ble_eq_true rfl) ⟨Nat.le_of_ble_eq_true rfl, Nat.le_of_ble_eq_true rfl⟩ (fun r15 => ?_)
    refine r_iadd (pc := 27) C dX9_comes_27 ?_
    refine r_iast (pc := 28) C dX9_comes_28 ?_
    refine r_aload_n (pc := 29) C dX9_comes_29 rfl rfl ?_
    refine r_getA (pc := 30) C dX9_comes_30 fl_X9_32 rfl (fun v16 => ?_)
    refine r_bipush (pc := 33) C dX9_comes_33 kb_6 ?_
    refine r_iload_n (pc := 35) C dX9_comes_35 rfl rfl ?_
    refine r_iadd (pc := 36) C dX9_comes_36 ?_
    refine r_dup2 (pc := 37) C dX9_comes_37 rfl rfl ?_
    refine r_iald (pc := 38) C dX9_comes_38 (fun v17 => ?_)
    refine r_iconst (pc := 39) C dX9_comes_39 ki_1 ?_
    refine r_iadd (pc := 40) C dX9_comes_40 ?_
    refine r_iast (pc := 41) C dX9_comes_41 ?_
    refine r_iconst (pc := 42) C dX9_comes_42 ki_1 ?_
    exact r_zret1 (pc := 43) C dX9_comes_43 (by decide)
noncomputable def p_X9_passMinute (a : Nat) : zP Int32 := (z_bd (z_gA 9 a 19) (fun v1 => (z_bd (z_aI 11 v1 0) (fun v2 => (z_bd (z_sI 11 v1 0 (v2 + 1)) (fun _ => (z_jn (τ := Unit) (z_lp (fun (t4 : Int32) => (z_bd (z_gA 9 a 11) (fun v5 => (z_bd (z_aI 11 v5 1) (fun v6 => (if v6 ≤ t4 then (z_pu (.inr (.inl ()))) else (z_bd (z_cv 9 a (p_X9_of a t4 0)) (fun r7 => (if 0 ≤ r7 then (z_pu (.inl ((t4 + 1)))) else (z_bd (z_cv 9 a (p_X9_of a t4 2)) (fun r8 => (z_bd (z_gA 9 a 19) (fun v9 => (z_bd (z_aI 11 v9 0) (fun v10 => (if r8 = v10 then (z_bd (z_cv 9 a (p_X9_arrive a t4)) (fun _ => (z_pu (.inl ((t4 + 1)))))) else (z_pu (.inl ((t4 + 1)))))))))))))))))))) 0) (fun t3 => (z_bd (z_gA 9 a 19) (fun v12 => (z_bd (z_aI 11 v12 204) (fun v13 => (z_jn (τ := Int32) (z_lp (fun (t15 : Int32 × Int32) => (if v13 ≤ t15.2 then (z_pu (.inr (.inl t15.1))) else (z_bd (z_cv 9 a (p_X9_riderAt a t15.2 0)) (fun r16 => (z_bd (z_gA 9 a 19) (fun v17 => (z_bd (z_aI 11 v17 0) (fun v18 => (z_jn (τ := Unit) (if r16 = v18 then (z_bd (z_cv 9 a (p_X9_comes a t15.2)) (fun r20 => (if r20 = 0 then (z_pu (.inl ())) else (z_pu (.inr (.inl (t15.1, (t15.2 + 1)))))))) else (z_pu (.inl ()))) (fun t19 => (z_lp (fun (t21 : Int32) => (if 3 ≤ t21 then (z_pu (.inr (.inl ((t15.1 + 1), (t15.2 + 1))))) else (z_bd (z_gA 9 a 19) (fun v22 => (z_bd (z_cv 9 a (p_X9_riderAt a t15.2 t21)) (fun r23 => (z_bd (z_sI 11 v22 ((205 + (3 * t15.1)) + t21) r23) (fun _ => (z_pu (.inl ((t21 + 1)))))))))))) 0))))))))))) (0, 0)) (fun t14 => (z_bd (z_gA 9 a 19) (fun v24 => (z_bd (z_sI 11 v24 204 t14) (fun _ => (z_lp (fun (t25 : Int32) => (z_bd (z_gA 9 a 11) (fun v26 => (z_bd (z_aI 11 v26 2) (fun v27 => (if v27 ≤ t25 then (z_pu (.inr (v13 - t14))) else (z_bd (z_gA 9 a 11) (fun v28 => (z_bd (z_aI 11 v28 (108 + t25)) (fun v29 => (z_bd (z_gA 9 a 19) (fun v30 => (z_bd (z_aI 11 v30 0) (fun v31 => (if v29 = (v31 - v31 / 1440 * 1440) then (z_bd (z_gA 9 a 19) (fun v32 => (z_bd (z_gA 9 a 11) (fun v33 => (z_bd (z_aI 11 v33 (48 + t25)) (fun v34 => (z_bd (z_aI 11 v32 (6 + v34)) (fun v35 => (if v35 = 0 then (z_bd (z_gA 9 a 19) (fun v41 => (z_bd (z_aI 11 v41 4) (fun v42 => (z_bd (z_sI 11 v41 4 (v42 + 1)) (fun _ => (z_pu (.inl ((t25 + 1)))))))))) else (z_bd (z_gA 9 a 11) (fun v36 => (z_bd (z_aI 11 v36 (48 + t25)) (fun v37 => (z_bd (z_gA 9 a 11) (fun v38 => (z_bd (z_aI 11 v38 (78 + t25)) (fun v39 => (z_bd (z_cv 9 a (p_X9_begin a v37 v39)) (fun r40 => (z_pu (.inl ((t25 + 1))))))))))))))))))))))) else (z_pu (.inl ((t25 + 1))))))))))))))))))) 0)))))))))))))))))))
set_option maxHeartbeats 4000000 in
set_option maxRecDepth 100000 in
theorem s_X9_passMinute (a : Nat) : z_Sound yX9_passMinute cX9_passMinute 5 (some .int) 6 133 (fun D b => [.ref (b + a)]) z_ivI (p_X9_passMinute a) := by
  refine z_ofSim rfl (by intro D b; exact Nat.le_of_ble_eq_true rfl) (fun X C hT => ?_)
  unfold p_X9_passMinute
  refine r_sub [(0, .ref (x_b X + a))] rfl ?_
  refine r_aload_n (pc := 0) C dX9_passMinute_0 rfl rfl ?_
  refine r_getA (pc := 1) C dX9_passMinute_1 fl_X9_32 rfl (fun v1 => ?_)
  refine r_iconst (pc := 4) C dX9_passMinute_4 ki_0 ?_
  refine r_dup2 (pc := 5) C dX9_passMinute_5 rfl rfl ?_
  refine r_iald (pc := 6) C dX9_passMinute_6 (fun v2 => ?_)
  refine r_iconst (pc := 7) C dX9_passMinute_7 ki_1 ?_
  refine r_iadd (pc := 8) C dX9_passMinute_8 ?_
  refine r_iast (pc := 9) C dX9_passMinute_9 ?_
  refine r_iconst (pc := 10) C dX9_passMinute_10 ki_0 ?_
  refine r_sti_n (pc := 11) C 1 [(0, .ref (x_b X + a)), (1, .int 0)] dX9_passMinute_11 rfl (by decide) rfl ?_
  refine r_jn 57 (fun (t3 : Unit) => [(0, .ref (x_b X + a))]) (fun (t3 : Unit) => []) (fun t3 => ?_) ?_
  · refine r_iconst (pc := 57) C dX9_passMinute_57 ki_0 ?_
    refine r_sti_n (pc := 58) C 1 [(0, .ref (x_b X + a)), (1, .int 0)] dX9_passMinute_58 rfl (by decide) rfl ?_
    refine r_aload_n (pc := 59) C dX9_passMinute_59 rfl rfl ?_
    refine r_getA (pc := 60) C dX9_passMinute_60 fl_X9_32 rfl (fun v12 => ?_)
    refine r_sipush (pc := 63) C dX9_passMinute_63 ks_204 ?_
    refine r_iald (pc := 66) C dX9_passMinute_66 (fun v13 => ?_)
    refine r_sti_n (pc := 67) C 2 [(0, .ref (x_b X + a)), (1, .int 0), (2, .int v13)] dX9_passMinute_67 rfl (by decide) rfl ?_
    refine r_iconst (pc := 68) C dX9_passMinute_68 ki_0 ?_
    refine r_sti_n (pc := 69) C 3 [(0, .ref (x_b X + a)), (1, .int 0), (2, .int v13), (3, .int 0)] dX9_passMinute_69 rfl (by decide) rfl ?_
    refine r_jn 147 (fun (t14 : Int32) => [(0, .ref (x_b X + a)), (1, .int t14), (2, .int v13)]) (fun (t14 : Int32) => []) (fun t14 => ?_) ?_
    · refine r_aload_n (pc := 147) C dX9_passMinute_147 rfl rfl ?_
      refine r_getA (pc := 148) C dX9_passMinute_148 fl_X9_32 rfl (fun v24 => ?_)
      refine r_sipush (pc := 151) C dX9_passMinute_151 ks_204 ?_
      refine r_iload_n (pc := 154) C dX9_passMinute_154 rfl rfl ?_
      refine r_iast (pc := 155) C dX9_passMinute_155 ?_
      refine r_iconst (pc := 156) C dX9_passMinute_156 ki_0 ?_
      refine r_sti_n (pc := 157) C 3 [(0, .ref (x_b X + a)), (1, .int t14), (2, .int v13), (3, .int 0)] dX9_passMinute_157 rfl (by decide) rfl ?_
      refine r_sub [(0, .ref (x_b X + a)), (1, .int t14), (2, .int v13), (3, .int 0)] rfl ?_
      refine r_lp (pc := 158) (fun (t25 : Int32) => [(0, .ref (x_b X + a)), (1, .int t14), (2, .int v13), (3, .int t25)]) (fun t25 => ?_) 0
      refine r_iload_n (pc := 158) C dX9_passMinute_158 rfl rfl ?_
      refine r_aload_n (pc := 159) C dX9_passMinute_159 rfl rfl ?_
      refine r_getA (pc := 160) C dX9_passMinute_160 fl_X9_17 rfl (fun v26 => ?_)
      refine r_iconst (pc := 163) C dX9_passMinute_163 ki_2 ?_
      refine r_iald (pc := 164) C dX9_passMinute_164 (fun v27 => ?_)
      refine r_icmp_ge (pc := 165) C (tgt := 255) dX9_passMinute_165 rfl (fun _ => ?_) (fun _ => ?_)
      · refine r_iload_n (pc := 255) C dX9_passMinute_255 rfl rfl ?_
        refine r_iload_n (pc := 256) C dX9_passMinute_256 rfl rfl ?_
        refine r_isub (pc := 257) C dX9_passMinute_257 ?_
        exact r_up (r_iret (pc := 258) C dX9_passMinute_258)
      · refine r_aload_n (pc := 168) C dX9_passMinute_168 rfl rfl ?_
        refine r_getA (pc := 169) C dX9_passMinute_169 fl_X9_17 rfl (fun v28 => ?_)
        refine r_bipush (pc := 172) C dX9_passMinute_172 kb_108 ?_
        refine r_iload_n (pc := 174) C dX9_passMinute_174 rfl rfl ?_
        refine r_iadd (pc := 175) C dX9_passMinute_175 ?_
        refine r_iald (pc := 176) C dX9_passMinute_176 (fun v29 => ?_)
        refine r_aload_n (pc := 177) C dX9_passMinute_177 rfl rfl ?_
        refine r_getA (pc := 178) C dX9_passMinute_178 fl_X9_32 rfl (fun v30 => ?_)
        refine r_iconst (pc := 181) C dX9_passMinute_181 ki_0 ?_
        refine r_iald (pc := 182) C dX9_passMinute_182 (fun v31 => ?_)
        refine r_sipush (pc := 183) C dX9_passMinute_183 ks_1440 ?_
        refine r_irem (pc := 186) C dX9_passMinute_186 (by decide) ?_
        refine r_icmp_eq (pc := 187) C (tgt := 193) dX9_passMinute_187 rfl (fun _ => ?_) (fun _ => ?_)
        · refine r_aload_n (pc := 193) C dX9_passMinute_193 rfl rfl ?_
          refine r_getA (pc := 194) C dX9_passMinute_194 fl_X9_32 rfl (fun v32 => ?_)
          refine r_bipush (pc := 197) C dX9_passMinute_197 kb_6 ?_
          refine r_aload_n (pc := 199) C dX9_passMinute_199 rfl rfl ?_
          refine r_getA (pc := 200) C dX9_passMinute_200 fl_X9_17 rfl (fun v33 => ?_)
          refine r_bipush (pc := 203) C dX9_passMinute_203 kb_48 ?_
          refine r_iload_n (pc := 205) C dX9_passMinute_205 rfl rfl ?_
          refine r_iadd (pc := 206) C dX9_passMinute_206 ?_
          refine r_iald (pc := 207) C dX9_passMinute_207 (fun v34 => ?_)
          refine r_iadd (pc := 208) C dX9_passMinute_208 ?_
          refine r_iald (pc := 209) C dX9_passMinute_209 (fun v35 => ?_)
          refine r_if_ne (pc := 210) C (tgt := 226) dX9_passMinute_210 rfl (fun _ => ?_) (fun _ => ?_)
          · refine r_aload_n (pc := 213) C dX9_passMinute_213 rfl rfl ?_
            refine r_getA (pc := 214) C dX9_passMinute_214 fl_X9_32 rfl (fun v41 => ?_)
            refine r_iconst (pc := 217) C dX9_passMinute_217 ki_4 ?_
            refine r_dup2 (pc := 218) C dX9_passMinute_218 rfl rfl ?_
            refine r_iald (pc := 219) C dX9_passMinute_219 (fun v42 => ?_)
            refine r_iconst (pc := 220) C dX9_passMinute_220 ki_1 ?_
            refine r_iadd (pc := 221) C dX9_passMinute_221 ?_
            refine r_iast (pc := 222) C dX9_passMinute_222 ?_
            refine r_goto (pc := 223) C (tgt := 249) dX9_passMinute_223 rfl ?_
            refine r_inc (pc := 249) C 1 [(0, .ref (x_b X + a)), (1, .int t14), (2, .int v13), (3, .int (t25 + 1))] dX9_passMinute_249 rfl ki_1 (by decide) rfl ?_
            refine r_goto (pc := 252) C (tgt := 158) dX9_passMinute_252 rfl ?_
            refine r_sub [(0, .ref (x_b X + a)), (1, .int t14), (2, .int v13), (3, .int (t25 + 1))] rfl ?_
            exact r_br (τ := Int32) ((t25 + 1))
          · refine r_aload_n (pc := 226) C dX9_passMinute_226 rfl rfl ?_
            refine r_aload_n (pc := 227) C dX9_passMinute_227 rfl rfl ?_
            refine r_getA (pc := 228) C dX9_passMinute_228 fl_X9_17 rfl (fun v36 => ?_)
            refine r_bipush (pc := 231) C dX9_passMinute_231 kb_48 ?_
            refine r_iload_n (pc := 233) C dX9_passMinute_233 rfl rfl ?_
            refine r_iadd (pc := 234) C dX9_passMinute_234 ?_
            refine r_iald (pc := 235) C dX9_passMinute_235 (fun v37 => ?_)
            refine r_aload_n (pc := 236) C dX9_passMinute_236 rfl rfl ?_
            refine r_getA (pc := 237) C dX9_passMinute_237 fl_X9_17 rfl (fun v38 => ?_)
            refine r_bipush (pc := 240) C dX9_passMinute_240 kb_78 ?_
            refine r_iload_n (pc := 242) C dX9_passMinute_242 rfl rfl ?_
            refine r_iadd (pc := 243) C dX9_passMinute_243 ?_
            refine r_iald (pc := 244) C dX9_passMinute_244 (fun v39 => ?_)
            refine r_cVI (pc := 245) C [.int v37, .int v39] [] (z_KX.up (z_KX.zero hT)) (s_X9_begin a v37 v39) mt_X9_begin zc_9 dX9_passMinute_245 ml_X9_323 im_X9_begin se_X9_begin rfl rfl rfl (Nat.le_of_ble_eq_true rfl) ⟨Nat.le_of_ble_eq_true rfl, Nat.le_of_ble_eq_true rfl⟩ (fun r40 => ?_)
            refine r_pop (pc := 248) C dX9_passMinute_248 rfl ?_
            refine r_inc (pc := 249) C 1 [(0, .ref (x_b X + a)), (1, .int t14), (2, .int v13), (3, .int (t25 + 1))] dX9_passMinute_249 rfl ki_1 (by decide) rfl ?_
            refine r_goto (pc := 252) C (tgt := 158) dX9_passMinute_252 rfl ?_
            refine r_sub [(0, .ref (x_b X + a)), (1, .int t14), (2, .int v13), (3, .int (t25 + 1))] rfl ?_
            exact r_br (τ := Int32) ((t25 + 1))
        · refine r_goto (pc := 190) C (tgt := 249) dX9_passMinute_190 rfl ?_
          refine r_inc (pc := 249) C 1 [(0, .ref (x_b X + a)), (1, .int t14), (2, .int v13), (3, .int (t25 + 1))] dX9_passMinute_249 rfl ki_1 (by decide) rfl ?_
          refine r_goto (pc := 252) C (tgt := 158) dX9_passMinute_252 rfl ?_
          refine r_sub [(0, .ref (x_b X + a)), (1, .int t14), (2, .int v13), (3, .int (t25 + 1))] rfl ?_
          exact r_br (τ := Int32) ((t25 + 1))
    · refine r_sub [(0, .ref (x_b X + a)), (1, .int 0), (2, .int v13), (3, .int 0)] rfl ?_
      refine r_lp (pc := 70) (fun (t15 : Int32 × Int32) => [(0, .ref (x_b X + a)), (1, .int t15.1), (2, .int v13), (3, .int t15.2)]) (fun t15 => ?_) (0, 0)
      refine r_iload_n (pc := 70) C dX9_passMinute_70 rfl rfl ?_
      refine r_iload_n (pc := 71) C dX9_passMinute_71 rfl rfl ?_
      refine r_icmp_ge (pc := 72) C (tgt := 147) dX9_passMinute_72 rfl (fun _ => ?_) (fun _ => ?_)
      · refine r_sub [(0, .ref (x_b X + a)), (1, .int t15.1), (2, .int v13)] rfl ?_
        exact r_up (r_br (τ := Int32) t15.1)
      · refine r_aload_n (pc := 75) C dX9_passMinute_75 rfl rfl ?_
        refine r_iload_n (pc := 76) C dX9_passMinute_76 rfl rfl ?_
        refine r_iconst (pc := 77) C dX9_passMinute_77 ki_0 ?_
        refine r_cVI (pc := 78) C [.int t15.2, .int 0] [] (z_KX.up (z_KX.up (z_KX.zero hT))) (s_X9_riderAt a t15.2 0) mt_X9_riderAt zc_9 dX9_passMinute_78 ml_X9_274 im_X9_riderAt se_X9_riderAt rfl rfl rfl (Nat.le_of_ble_eq_true rfl) ⟨Nat.le_of_ble_eq_true rfl, Nat.le_of_ble_eq_true rfl⟩ (fun r16 => ?_)
        refine r_aload_n (pc := 81) C dX9_passMinute_81 rfl rfl ?_
        refine r_getA (pc := 82) C dX9_passMinute_82 fl_X9_32 rfl (fun v17 => ?_)
        refine r_iconst (pc := 85) C dX9_passMinute_85 ki_0 ?_
        refine r_iald (pc := 86) C dX9_passMinute_86 (fun v18 => ?_)
        refine r_jn 101 (fun (t19 : Unit) => [(0, .ref (x_b X + a)), (1, .int t15.1), (2, .int v13), (3, .int t15.2)]) (fun (t19 : Unit) => []) (fun t19 => ?_) ?_
        · refine r_iconst (pc := 101) C dX9_passMinute_101 ki_0 ?_
          refine r_sti (pc := 102) C [(0, .ref (x_b X + a)), (1, .int t15.1), (2, .int v13), (3, .int t15.2), (4, .int 0)] dX9_passMinute_102 (by decide) rfl ?_
          refine r_sub [(0, .ref (x_b X + a)), (1, .int t15.1), (2, .int v13), (3, .int t15.2), (4, .int 0)] rfl ?_
          refine r_lp (pc := 104) (fun (t21 : Int32) => [(0, .ref (x_b X + a)), (1, .int t15.1), (2, .int v13), (3, .int t15.2), (4, .int t21)]) (fun t21 => ?_) 0
          refine r_iload (pc := 104) C dX9_passMinute_104 rfl ?_
          refine r_iconst (pc := 106) C dX9_passMinute_106 ki_3 ?_
          refine r_icmp_ge (pc := 107) C (tgt := 138) dX9_passMinute_107 rfl (fun _ => ?_) (fun _ => ?_)
          · refine r_inc (pc := 138) C 1 [(0, .ref (x_b X + a)), (1, .int (t15.1 + 1)), (2, .int v13), (3, .int t15.2)] dX9_passMinute_138 rfl ki_1 (by decide) rfl ?_
            refine r_inc (pc := 141) C 1 [(0, .ref (x_b X + a)), (1, .int (t15.1 + 1)), (2, .int v13), (3, .int (t15.2 + 1))] dX9_passMinute_141 rfl ki_1 (by decide) rfl ?_
            refine r_goto (pc := 144) C (tgt := 70) dX9_passMinute_144 rfl ?_
            refine r_sub [(0, .ref (x_b X + a)), (1, .int (t15.1 + 1)), (2, .int v13), (3, .int (t15.2 + 1))] rfl ?_
            exact r_up (r_br (τ := Int32 × Int32) ((t15.1 + 1), (t15.2 + 1)))
          · refine r_aload_n (pc := 110) C dX9_passMinute_110 rfl rfl ?_
            refine r_getA (pc := 111) C dX9_passMinute_111 fl_X9_32 rfl (fun v22 => ?_)
            refine r_sipush (pc := 114) C dX9_passMinute_114 ks_205 ?_
            refine r_iconst (pc := 117) C dX9_passMinute_117 ki_3 ?_
            refine r_iload_n (pc := 118) C dX9_passMinute_118 rfl rfl ?_
            refine r_imul (pc := 119) C dX9_passMinute_119 ?_
            refine r_iadd (pc := 120) C dX9_passMinute_120 ?_
            refine r_iload (pc := 121) C dX9_passMinute_121 rfl ?_
            refine r_iadd (pc := 123) C dX9_passMinute_123 ?_
            refine r_aload_n (pc := 124) C dX9_passMinute_124 rfl rfl ?_
            refine r_iload_n (pc := 125) C dX9_passMinute_125 rfl rfl ?_
            refine r_iload (pc := 126) C dX9_passMinute_126 rfl ?_
            refine r_cVI (pc := 128) C [.int t15.2, .int t21] [.int ((205 + (3 * t15.1)) + t21), .ref (x_b X + v22)] (z_KX.up (z_KX.up (z_KX.up (z_KX.zero hT)))) (s_X9_riderAt a t15.2 t21) mt_X9_riderAt zc_9 dX9_passMinute_128 ml_X9_274 im_X9_riderAt se_X9_riderAt rfl rfl rfl (Nat.le_of_ble_eq_true rfl) ⟨Nat.le_of_ble_eq_true rfl, Nat.le_of_ble_eq_true rfl⟩ (fun r23 => ?_)
            refine r_iast (pc := 131) C dX9_passMinute_131 ?_
            refine r_inc (pc := 132) C 1 [(0, .ref (x_b X + a)), (1, .int t15.1), (2, .int v13), (3, .int t15.2), (4, .int (t21 + 1))] dX9_passMinute_132 rfl ki_1 (by decide) rfl ?_
            refine r_goto (pc := 135) C (tgt := 104) dX9_passMinute_135 rfl ?_
            refine r_sub [(0, .ref (x_b X + a)), (1, .int t15.1), (2, .int v13), (3, .int t15.2), (4, .int (t21 + 1))] rfl ?_
            exact r_br (τ := Int32) ((t21 + 1))
        · refine r_icmp_ne (pc := 87) C (tgt := 101) dX9_passMinute_87 rfl (fun _ => ?_) (fun _ => ?_)
          · refine r_aload_n (pc := 90) C dX9_passMinute_90 rfl rfl ?_
            refine r_iload_n (pc := 91) C dX9_passMinute_91 rfl rfl ?_
            refine r_cVI (pc := 92) C [.int t15.2] [] (z_KX.up (z_KX.up (z_KX.up (z_KX.zero hT)))) (s_X9_comes a t15.2) mt_X9_comes zc_9 dX9_passMinute_92 ml_X9_320 im_X9_comes se_X9_comes rfl rfl rfl (Nat.le_of_ble_eq_true rfl) ⟨Nat.le_of_ble_eq_true rfl, Nat.le_of_ble_eq_true rfl⟩ (fun r20 => ?_)
            refine r_if_eq (pc := 95) C (tgt := 101) dX9_passMinute_95 rfl (fun _ => ?_) (fun _ => ?_)
            · refine r_sub [(0, .ref (x_b X + a)), (1, .int t15.1), (2, .int v13), (3, .int t15.2)] rfl ?_
              exact r_br (τ := Unit) ()
            · refine r_goto (pc := 98) C (tgt := 141) dX9_passMinute_98 rfl ?_
              refine r_inc (pc := 141) C 1 [(0, .ref (x_b X + a)), (1, .int t15.1), (2, .int v13), (3, .int (t15.2 + 1))] dX9_passMinute_141 rfl ki_1 (by decide) rfl ?_
              refine r_goto (pc := 144) C (tgt := 70) dX9_passMinute_144 rfl ?_
              refine r_sub [(0, .ref (x_b X + a)), (1, .int t15.1), (2, .int v13), (3, .int (t15.2 + 1))] rfl ?_
              exact r_up (r_br (τ := Int32 × Int32) (t15.1, (t15.2 + 1)))
          · refine r_sub [(0, .ref (x_b X + a)), (1, .int t15.1), (2, .int v13), (3, .int t15.2)] rfl ?_
            exact r_br (τ := Unit) ()
  · refine r_sub [(0, .ref (x_b X + a)), (1, .int 0)] rfl ?_
    refine r_lp (pc := 12) (fun (t4 : Int32) => [(0, .ref (x_b X + a)), (1, .int t4)]) (fun t4 => ?_) 0
    refine r_iload_n (pc := 12) C dX9_passMinute_12 rfl rfl ?_
    refine r_aload_n (pc := 13) C dX9_passMinute_13 rfl rfl ?_
    refine r_getA (pc := 14) C dX9_passMinute_14 fl_X9_17 rfl (fun v5 => ?_)
    refine r_iconst (pc := 17) C dX9_passMinute_17 ki_1 ?_
    refine r_iald (pc := 18) C dX9_passMinute_18 (fun v6 => ?_)
    refine r_icmp_ge (pc := 19) C (tgt := 57) dX9_passMinute_19 rfl (fun _ => ?_) (fun _ => ?_)
    · refine r_sub [(0, .ref (x_b X + a))] rfl ?_
      exact r_up (r_br (τ := Unit) ())
    · refine r_aload_n (pc := 22) C dX9_passMinute_22 rfl rfl ?_
      refine r_iload_n (pc := 23) C dX9_passMinute_23 rfl rfl ?_
      refine r_iconst (pc := 24) C dX9_passMinute_24 ki_0 ?_
      refine r_cVI (pc := 25) C [.int t4, .int 0] [] (z_KX.up (z_KX.up (z_KX.zero hT))) (s_X9_of a t4 0) mt_X9_of zc_9 dX9_passMinute_25 ml_X9_243 im_X9_of se_X9_of rfl rfl rfl (Nat.le_of_ble_eq_true rfl) ⟨Nat.le_of_ble_eq_true rfl, Nat.le_of_ble_eq_true rfl⟩ (fun r7 => ?_)
      refine r_if_ge (pc := 28) C (tgt := 51) dX9_passMinute_28 rfl (fun _ => ?_) (fun _ => ?_)
      · refine r_inc (pc := 51) C 1 [(0, .ref (x_b X + a)), (1, .int (t4 + 1))] dX9_passMinute_51 rfl ki_1 (by decide) rfl ?_
        refine r_goto (pc := 54) C (tgt := 12) dX9_passMinute_54 rfl ?_
        refine r_sub [(0, .ref (x_b X + a)), (1, .int (t4 + 1))] rfl ?_
        exact r_br (τ := Int32) ((t4 + 1))
      · refine r_aload_n (pc := 31) C dX9_passMinute_31 rfl rfl ?_
        refine r_iload_n (pc := 32) C dX9_passMinute_32 rfl rfl ?_
        refine r_iconst (pc := 33) C dX9_passMinute_33 ki_2 ?_
        refine r_cVI (pc := 34) C [.int t4, .int 2] [] (z_KX.up (z_KX.up (z_KX.zero hT))) (s_X9_of a t4 2) mt_X9_of zc_9 dX9_passMinute_34 ml_X9_243 im_X9_of se_X9_of rfl rfl rfl (Nat.le_of_ble_eq_true rfl) ⟨Nat.le_of_ble_eq_true rfl, Nat.le_of_ble_eq_true rfl⟩ (fun r8 => ?_)
        refine r_aload_n (pc := 37) C dX9_passMinute_37 rfl rfl ?_
        refine r_getA (pc := 38) C dX9_passMinute_38 fl_X9_32 rfl (fun v9 => ?_)
        refine r_iconst (pc := 41) C dX9_passMinute_41 ki_0 ?_
        refine r_iald (pc := 42) C dX9_passMinute_42 (fun v10 => ?_)
        refine r_icmp_ne (pc := 43) C (tgt := 51) dX9_passMinute_43 rfl (fun _ => ?_) (fun _ => ?_)
        · refine r_aload_n (pc := 46) C dX9_passMinute_46 rfl rfl ?_
          refine r_iload_n (pc := 47) C dX9_passMinute_47 rfl rfl ?_
          refine r_cVV (pc := 48) C [.int t4] [] (z_KX.up (z_KX.up (z_KX.zero hT))) (s_X9_arrive a t4) mt_X9_arrive zc_9 dX9_passMinute_48 ml_X9_317 im_X9_arrive se_X9_arrive rfl rfl rfl (Nat.le_of_ble_eq_true rfl) ⟨Nat.le_of_ble_eq_true rfl, Nat.le_of_ble_eq_true rfl⟩ ?_
          refine r_inc (pc := 51) C 1 [(0, .ref (x_b X + a)), (1, .int (t4 + 1))] dX9_passMinute_51 rfl ki_1 (by decide) rfl ?_
          refine r_goto (pc := 54) C (tgt := 12) dX9_passMinute_54 rfl ?_
          refine r_sub [(0, .ref (x_b X + a)), (1, .int (t4 + 1))] rfl ?_
          exact r_br (τ := Int32) ((t4 + 1))
        · refine r_inc (pc := 51) C 1 [(0, .ref (x_b X + a)), (1, .int (t4 + 1))] dX9_passMinute_51 rfl ki_1 (by decide) rfl ?_
          refine r_goto (pc := 54) C (tgt := 12) dX9_passMinute_54 rfl ?_
          refine r_sub [(0, .ref (x_b X + a)), (1, .int (t4 + 1))] rfl ?_
          exact r_br (τ := Int32) ((t4 + 1))
noncomputable def p_X9_totalOf (a : Nat) (p1 : Int32) : zP Int32 := (if p1 = 5 then (z_bd (z_cv 9 a (p_X9_loads a)) (fun r3 => (z_pu r3))) else (z_bd (z_gA 9 a 19) (fun v1 => (z_bd (z_aI 11 v1 (1 + p1)) (fun v2 => (z_pu v2))))))
set_option maxHeartbeats 4000000 in
set_option maxRecDepth 100000 in
theorem s_X9_totalOf (a : Nat) (p1 : Int32) : z_Sound yX9_totalOf cX9_totalOf 2 (some .int) 3 64 (fun D b => [.ref (b + a), .int p1]) z_ivI (p_X9_totalOf a p1) := by
  refine z_ofSim rfl (by intro D b; exact Nat.le_of_ble_eq_true rfl) (fun X C hT => ?_)
  unfold p_X9_totalOf
  refine r_sub [(0, .ref (x_b X + a)), (1, .int p1)] rfl ?_
  refine r_iload_n (pc := 0) C dX9_totalOf_0 rfl rfl ?_
  refine r_iconst (pc := 1) C dX9_totalOf_1 ki_5 ?_
  refine r_icmp_ne (pc := 2) C (tgt := 12) dX9_totalOf_2 rfl (fun _ => ?_) (fun _ => ?_)
  · refine r_aload_n (pc := 5) C dX9_totalOf_5 rfl rfl ?_
    refine r_cVI (pc := 6) C [] [] (z_KX.zero hT) (s_X9_loads a) mt_X9_loads zc_9 dX9_totalOf_6 ml_X9_246 im_X9_loads se_X9_loads rfl rfl rfl (Nat.le_of_ble_eq_true rfl) ⟨Nat.le_of_ble_eq_true rfl, Nat.le_of_ble_eq_true rfl⟩ (fun r3 => ?_)
    refine r_goto (pc := 9) C (tgt := 20) dX9_totalOf_9 rfl ?_
    exact r_iret (pc := 20) C dX9_totalOf_20
  · refine r_aload_n (pc := 12) C dX9_totalOf_12 rfl rfl ?_
    refine r_getA (pc := 13) C dX9_totalOf_13 fl_X9_32 rfl (fun v1 => ?_)
    refine r_iconst (pc := 16) C dX9_totalOf_16 ki_1 ?_
    refine r_iload_n (pc := 17) C dX9_totalOf_17 rfl rfl ?_
    refine r_iadd (pc := 18) C dX9_totalOf_18 ?_
    refine r_iald (pc := 19) C dX9_totalOf_19 (fun v2 => ?_)
    exact r_iret (pc := 20) C dX9_totalOf_20
noncomputable def p_X9_total (a : Nat) (p1 : Int32) : zP Int32 := (z_bd (z_pI 9 a 0 0) (fun _ => (z_bd (p_X9_within p1 0 5) (fun r1 => (if r1 = 0 then (z_bd (z_cv 9 a (p_X9_fail a 1)) (fun r2 => (z_pu r2))) else (z_bd (z_cv 9 a (p_X9_totalOf a p1)) (fun r3 => (z_pu r3))))))))
set_option maxHeartbeats 4000000 in
set_option maxRecDepth 100000 in
theorem s_X9_total (a : Nat) (p1 : Int32) : z_Sound yX9_total cX9_total 2 (some .int) 4 85 (fun D b => [.ref (b + a), .int p1]) z_ivI (p_X9_total a p1) := by
  refine z_ofSim rfl (by intro D b; exact Nat.le_of_ble_eq_true rfl) (fun X C hT => ?_)
  unfold p_X9_total
  refine r_sub [(0, .ref (x_b X + a)), (1, .int p1)] rfl ?_
  refine r_aload_n (pc := 0) C dX9_total_0 rfl rfl ?_
  refine r_iconst (pc := 1) C dX9_total_1 ki_0 ?_
  refine r_putI (pc := 2) C dX9_total_2 fl_X9_76 rfl rfl ?_
  refine r_iload_n (pc := 5) C dX9_total_5 rfl rfl ?_
  refine r_iconst (pc := 6) C dX9_total_6 ki_0 ?_
  refine r_iconst (pc := 7) C dX9_total_7 ki_5 ?_
  refine r_cSI (pc := 8) C [.int p1, .int 0, .int 5] [] (z_KX.zero hT) (s_X9_within p1 0 5) mt_X9_within dX9_total_8 ml_X9_103 sm_X9_within rfl rfl rfl (Nat.le_of_ble_eq_true rfl) ⟨Nat.le_of_ble_eq_true rfl, Nat.le_of_ble_eq_true rfl⟩ (fun r1 => ?_)
  refine r_if_eq (pc := 11) C (tgt := 22) dX9_total_11 rfl (fun _ => ?_) (fun _ => ?_)
  · refine r_aload_n (pc := 22) C dX9_total_22 rfl rfl ?_
    refine r_iconst (pc := 23) C dX9_total_23 ki_1 ?_
    refine r_cVI (pc := 24) C [.int 1] [] (z_KX.zero hT) (s_X9_fail a 1) mt_X9_fail zc_9 dX9_total_24 ml_X9_222 im_X9_fail se_X9_fail rfl rfl rfl (Nat.le_of_ble_eq_true rfl) ⟨Nat.le_of_ble_eq_true rfl, Nat.le_of_ble_eq_true rfl⟩ (fun r2 => ?_)
    exact r_iret (pc := 27) C dX9_total_27
  · refine r_aload_n (pc := 14) C dX9_total_14 rfl rfl ?_
    refine r_iload_n (pc := 15) C dX9_total_15 rfl rfl ?_
    refine r_cVI (pc := 16) C [.int p1] [] (z_KX.zero hT) (s_X9_totalOf a p1) mt_X9_totalOf zc_9 dX9_total_16 ml_X9_326 im_X9_totalOf se_X9_totalOf rfl rfl rfl (Nat.le_of_ble_eq_true rfl) ⟨Nat.le_of_ble_eq_true rfl, Nat.le_of_ble_eq_true rfl⟩ (fun r3 => ?_)
    refine r_goto (pc := 19) C (tgt := 27) dX9_total_19 rfl ?_
    exact r_iret (pc := 27) C dX9_total_27
noncomputable def p_X9_forecast (a : Nat) (p1 : Int32) (p2 : Int32) : zP Int32 := (z_bd (z_pI 9 a 0 0) (fun _ => (z_bd (p_X9_within p1 0 1440) (fun r1 => (z_jn (τ := Unit) (if r1 = 0 then (z_pu (.inl ())) else (z_bd (p_X9_within p2 0 5) (fun r3 => (if r3 = 0 then (z_pu (.inl ())) else (z_bd (z_cv 9 a (p_X9_setAside a)) (fun _ => (z_jn (τ := Unit) (z_lp (fun (t6 : Int32) => (if p1 ≤ t6 then (z_pu (.inr (.inl ()))) else (z_bd (z_cv 9 a (p_X9_passMinute a)) (fun r7 => (z_pu (.inl ((t6 + 1)))))))) 0) (fun t5 => (z_bd (z_cv 9 a (p_X9_totalOf a p2)) (fun r8 => (z_bd (z_cv 9 a (p_X9_bringBack a)) (fun _ => (z_pu (.inr r8)))))))))))))) (fun t2 => (z_bd (z_cv 9 a (p_X9_fail a 1)) (fun r10 => (z_pu r10)))))))))
set_option maxHeartbeats 4000000 in
set_option maxRecDepth 100000 in
theorem s_X9_forecast (a : Nat) (p1 : Int32) (p2 : Int32) : z_Sound yX9_forecast cX9_forecast 4 (some .int) 7 157 (fun D b => [.ref (b + a), .int p1, .int p2]) z_ivI (p_X9_forecast a p1 p2) := by
  refine z_ofSim rfl (by intro D b; exact Nat.le_of_ble_eq_true rfl) (fun X C hT => ?_)
  unfold p_X9_forecast
  refine r_sub [(0, .ref (x_b X + a)), (1, .int p1), (2, .int p2)] rfl ?_
  refine r_aload_n (pc := 0) C dX9_forecast_0 rfl rfl ?_
  refine r_iconst (pc := 1) C dX9_forecast_1 ki_0 ?_
  refine r_putI (pc := 2) C dX9_forecast_2 fl_X9_76 rfl rfl ?_
  refine r_iload_n (pc := 5) C dX9_forecast_5 rfl rfl ?_
  refine r_iconst (pc := 6) C dX9_forecast_6 ki_0 ?_
  refine r_sipush (pc := 7) C dX9_forecast_7 ks_1440 ?_
  refine r_cSI (pc := 10) C [.int p1, .int 0, .int 1440] [] (z_KX.zero hT) (s_X9_within p1 0 1440) mt_X9_within dX9_forecast_10 ml_X9_103 sm_X9_within rfl rfl rfl (Nat.le_of_ble_eq_true rfl) ⟨Nat.le_of_ble_eq_true rfl, Nat.le_of_ble_eq_true rfl⟩ (fun r1 => ?_)
  refine r_jn 25 (fun (t2 : Unit) => [(0, .ref (x_b X + a))]) (fun (t2 : Unit) => []) (fun t2 => ?_) ?_
  · refine r_aload_n (pc := 25) C dX9_forecast_25 rfl rfl ?_
    refine r_iconst (pc := 26) C dX9_forecast_26 ki_1 ?_
    refine r_cVI (pc := 27) C [.int 1] [] (z_KX.zero hT) (s_X9_fail a 1) mt_X9_fail zc_9 dX9_forecast_27 ml_X9_222 im_X9_fail se_X9_fail rfl rfl rfl (Nat.le_of_ble_eq_true rfl) ⟨Nat.le_of_ble_eq_true rfl, Nat.le_of_ble_eq_true rfl⟩ (fun r10 => ?_)
    exact r_iret (pc := 30) C dX9_forecast_30
  · refine r_if_eq (pc := 13) C (tgt := 25) dX9_forecast_13 rfl (fun _ => ?_) (fun _ => ?_)
    · refine r_sub [(0, .ref (x_b X + a))] rfl ?_
      exact r_br (τ := Unit) ()
    · refine r_iload_n (pc := 16) C dX9_forecast_16 rfl rfl ?_
      refine r_iconst (pc := 17) C dX9_forecast_17 ki_0 ?_
      refine r_iconst (pc := 18) C dX9_forecast_18 ki_5 ?_
      refine r_cSI (pc := 19) C [.int p2, .int 0, .int 5] [] (z_KX.up (z_KX.zero hT)) (s_X9_within p2 0 5) mt_X9_within dX9_forecast_19 ml_X9_103 sm_X9_within rfl rfl rfl (Nat.le_of_ble_eq_true rfl) ⟨Nat.le_of_ble_eq_true rfl, Nat.le_of_ble_eq_true rfl⟩ (fun r3 => ?_)
      refine r_if_ne (pc := 22) C (tgt := 31) dX9_forecast_22 rfl (fun _ => ?_) (fun _ => ?_)
      · refine r_sub [(0, .ref (x_b X + a))] rfl ?_
        exact r_br (τ := Unit) ()
      · refine r_aload_n (pc := 31) C dX9_forecast_31 rfl rfl ?_
        refine r_cVV (pc := 32) C [] [] (z_KX.up (z_KX.zero hT)) (s_X9_setAside a) mt_X9_setAside zc_9 dX9_forecast_32 ml_X9_329 im_X9_setAside se_X9_setAside rfl rfl rfl (Nat.le_of_ble_eq_true rfl) ⟨Nat.le_of_ble_eq_true rfl, Nat.le_of_ble_eq_true rfl⟩ ?_
        refine r_iconst (pc := 35) C dX9_forecast_35 ki_0 ?_
        refine r_sti_n (pc := 36) C 3 [(0, .ref (x_b X + a)), (1, .int p1), (2, .int p2), (3, .int 0)] dX9_forecast_36 rfl (by decide) rfl ?_
        refine r_jn 53 (fun (t5 : Unit) => [(0, .ref (x_b X + a)), (2, .int p2)]) (fun (t5 : Unit) => []) (fun t5 => ?_) ?_
        · refine r_aload_n (pc := 53) C dX9_forecast_53 rfl rfl ?_
          refine r_iload_n (pc := 54) C dX9_forecast_54 rfl rfl ?_
          refine r_cVI (pc := 55) C [.int p2] [] (z_KX.up (z_KX.zero hT)) (s_X9_totalOf a p2) mt_X9_totalOf zc_9 dX9_forecast_55 ml_X9_326 im_X9_totalOf se_X9_totalOf rfl rfl rfl (Nat.le_of_ble_eq_true rfl) ⟨Nat.le_of_ble_eq_true rfl, Nat.le_of_ble_eq_true rfl⟩ (fun r8 => ?_)
          refine r_sti_n (pc := 58) C 3 [(0, .ref (x_b X + a)), (3, .int r8)] dX9_forecast_58 rfl (by decide) rfl ?_
          refine r_aload_n (pc := 59) C dX9_forecast_59 rfl rfl ?_
          refine r_cVV (pc := 60) C [] [] (z_KX.up (z_KX.zero hT)) (s_X9_bringBack a) mt_X9_bringBack zc_9 dX9_forecast_60 ml_X9_335 im_X9_bringBack se_X9_bringBack rfl rfl rfl (Nat.le_of_ble_eq_true rfl) ⟨Nat.le_of_ble_eq_true rfl, Nat.le_of_ble_eq_true rfl⟩ ?_
          refine r_iload_n (pc := 63) C dX9_forecast_63 rfl rfl ?_
          exact r_up (r_iret (pc := 64) C dX9_forecast_64)
        · refine r_sub [(0, .ref (x_b X + a)), (1, .int p1), (2, .int p2), (3, .int 0)] rfl ?_
          refine r_lp (pc := 37) (fun (t6 : Int32) => [(0, .ref (x_b X + a)), (1, .int p1), (2, .int p2), (3, .int t6)]) (fun t6 => ?_) 0
          refine r_iload_n (pc := 37) C dX9_forecast_37 rfl rfl ?_
          refine r_iload_n (pc := 38) C dX9_forecast_38 rfl rfl ?_
          refine r_icmp_ge (pc := 39) C (tgt := 53) dX9_forecast_39 rfl (fun _ => ?_) (fun _ => ?_)
          · refine r_sub [(0, .ref (x_b X + a)), (2, .int p2)] rfl ?_
            exact r_up (r_br (τ := Unit) ())
          · refine r_aload_n (pc := 42) C dX9_forecast_42 rfl rfl ?_
            refine r_cVI (pc := 43) C [] [] (z_KX.up (z_KX.up (z_KX.up (z_KX.zero hT)))) (s_X9_passMinute a) mt_X9_passMinute zc_9 dX9_forecast_43 ml_X9_332 im_X9_passMinute se_X9_passMinute rfl rfl rfl (Nat.le_of_ble_eq_true rfl) ⟨Nat.le_of_ble_eq_true rfl, Nat.le_of_ble_eq_true rfl⟩ (fun r7 => ?_)
            refine r_pop (pc := 46) C dX9_forecast_46 rfl ?_
            refine r_inc (pc := 47) C 1 [(0, .ref (x_b X + a)), (1, .int p1), (2, .int p2), (3, .int (t6 + 1))] dX9_forecast_47 rfl ki_1 (by decide) rfl ?_
            refine r_goto (pc := 50) C (tgt := 37) dX9_forecast_50 rfl ?_
            refine r_sub [(0, .ref (x_b X + a)), (1, .int p1), (2, .int p2), (3, .int (t6 + 1))] rfl ?_
            exact r_br (τ := Int32) ((t6 + 1))
noncomputable def p_X9_runsOut (a : Nat) (p1 : Int32) (p2 : Int32) : zP Int32 := (z_bd (z_pI 9 a 0 0) (fun _ => (z_bd (z_cv 9 a (p_X9_isStation a p1)) (fun r1 => (if r1 = 0 then (z_bd (z_cv 9 a (p_X9_fail a 1)) (fun r11 => (z_pu r11))) else (z_bd (z_cv 9 a (p_X9_setAside a)) (fun _ => (z_jn (τ := Int32) (z_lp (fun (t4 : Int32) => (if 1440 < t4 then (z_pu (.inr (.inl t4))) else (z_jn (τ := Int32) (if p2 = 0 then (z_bd (z_gA 9 a 19) (fun v6 => (z_bd (z_aI 11 v6 (6 + p1)) (fun v7 => (z_pu (.inl v7)))))) else (z_bd (z_cv 9 a (p_X9_free a p1)) (fun r8 => (z_pu (.inl r8))))) (fun t5 => (if t5 ≤ 0 then (z_pu (.inr (.inl t4))) else (z_bd (z_cv 9 a (p_X9_passMinute a)) (fun r9 => (z_pu (.inl ((t4 + 1))))))))))) 0) (fun t3 => (z_bd (z_cv 9 a (p_X9_bringBack a)) (fun _ => (if t3 ≤ 1440 then (z_pu t3) else (z_pu (-1))))))))))))))
set_option maxHeartbeats 4000000 in
set_option maxRecDepth 100000 in
theorem s_X9_runsOut (a : Nat) (p1 : Int32) (p2 : Int32) : z_Sound yX9_runsOut cX9_runsOut 4 (some .int) 7 157 (fun D b => [.ref (b + a), .int p1, .int p2]) z_ivI (p_X9_runsOut a p1 p2) := by
  refine z_ofSim rfl (by intro D b; exact Nat.le_of_ble_eq_true rfl) (fun X C hT => ?_)
  unfold p_X9_runsOut
  refine r_sub [(0, .ref (x_b X + a)), (1, .int p1), (2, .int p2)] rfl ?_
  refine r_aload_n (pc := 0) C dX9_runsOut_0 rfl rfl ?_
  refine r_iconst (pc := 1) C dX9_runsOut_1 ki_0 ?_
  refine r_putI (pc := 2) C dX9_runsOut_2 fl_X9_76 rfl rfl ?_
  refine r_aload_n (pc := 5) C dX9_runsOut_5 rfl rfl ?_
  refine r_iload_n (pc := 6) C dX9_runsOut_6 rfl rfl ?_
  refine r_cVI (pc := 7) C [.int p1] [] (z_KX.zero hT) (s_X9_isStation a p1) mt_X9_isStation zc_9 dX9_runsOut_7 ml_X9_252 im_X9_isStation se_X9_isStation rfl rfl rfl (Nat.le_of_ble_eq_true rfl) ⟨Nat.le_of_ble_eq_true rfl, Nat.le_of_ble_eq_true rfl⟩ (fun r1 => ?_)
  refine r_if_ne (pc := 10) C (tgt := 19) dX9_runsOut_10 rfl (fun _ => ?_) (fun _ => ?_)
  · refine r_aload_n (pc := 13) C dX9_runsOut_13 rfl rfl ?_
    refine r_iconst (pc := 14) C dX9_runsOut_14 ki_1 ?_
    refine r_cVI (pc := 15) C [.int 1] [] (z_KX.zero hT) (s_X9_fail a 1) mt_X9_fail zc_9 dX9_runsOut_15 ml_X9_222 im_X9_fail se_X9_fail rfl rfl rfl (Nat.le_of_ble_eq_true rfl) ⟨Nat.le_of_ble_eq_true rfl, Nat.le_of_ble_eq_true rfl⟩ (fun r11 => ?_)
    exact r_iret (pc := 18) C dX9_runsOut_18
  · refine r_aload_n (pc := 19) C dX9_runsOut_19 rfl rfl ?_
    refine r_cVV (pc := 20) C [] [] (z_KX.zero hT) (s_X9_setAside a) mt_X9_setAside zc_9 dX9_runsOut_20 ml_X9_329 im_X9_setAside se_X9_setAside rfl rfl rfl (Nat.le_of_ble_eq_true rfl) ⟨Nat.le_of_ble_eq_true rfl, Nat.le_of_ble_eq_true rfl⟩ ?_
    refine r_iconst (pc := 23) C dX9_runsOut_23 ki_0 ?_
    refine r_sti_n (pc := 24) C 3 [(0, .ref (x_b X + a)), (1, .int p1), (2, .int p2), (3, .int 0)] dX9_runsOut_24 rfl (by decide) rfl ?_
    refine r_jn 67 (fun (t3 : Int32) => [(0, .ref (x_b X + a)), (3, .int t3)]) (fun (t3 : Int32) => []) (fun t3 => ?_) ?_
    · refine r_aload_n (pc := 67) C dX9_runsOut_67 rfl rfl ?_
      refine r_cVV (pc := 68) C [] [] (z_KX.zero hT) (s_X9_bringBack a) mt_X9_bringBack zc_9 dX9_runsOut_68 ml_X9_335 im_X9_bringBack se_X9_bringBack rfl rfl rfl (Nat.le_of_ble_eq_true rfl) ⟨Nat.le_of_ble_eq_true rfl, Nat.le_of_ble_eq_true rfl⟩ ?_
      refine r_iload_n (pc := 71) C dX9_runsOut_71 rfl rfl ?_
      refine r_sipush (pc := 72) C dX9_runsOut_72 ks_1440 ?_
      refine r_icmp_le (pc := 75) C (tgt := 82) dX9_runsOut_75 rfl (fun _ => ?_) (fun _ => ?_)
      · refine r_iload_n (pc := 82) C dX9_runsOut_82 rfl rfl ?_
        exact r_iret (pc := 83) C dX9_runsOut_83
      · refine r_iconst (pc := 78) C dX9_runsOut_78 ki_m1 ?_
        refine r_goto (pc := 79) C (tgt := 83) dX9_runsOut_79 rfl ?_
        exact r_iret (pc := 83) C dX9_runsOut_83
    · refine r_sub [(0, .ref (x_b X + a)), (1, .int p1), (2, .int p2), (3, .int 0)] rfl ?_
      refine r_lp (pc := 25) (fun (t4 : Int32) => [(0, .ref (x_b X + a)), (1, .int p1), (2, .int p2), (3, .int t4)]) (fun t4 => ?_) 0
      refine r_iload_n (pc := 25) C dX9_runsOut_25 rfl rfl ?_
      refine r_sipush (pc := 26) C dX9_runsOut_26 ks_1440 ?_
      refine r_icmp_gt (pc := 29) C (tgt := 67) dX9_runsOut_29 rfl (fun _ => ?_) (fun _ => ?_)
      · refine r_sub [(0, .ref (x_b X + a)), (3, .int t4)] rfl ?_
        exact r_up (r_br (τ := Int32) t4)
      · refine r_iload_n (pc := 32) C dX9_runsOut_32 rfl rfl ?_
        refine r_jn 53 (fun (t5 : Int32) => [(0, .ref (x_b X + a)), (1, .int p1), (2, .int p2), (3, .int t4)]) (fun (t5 : Int32) => [.int t5]) (fun t5 => ?_) ?_
        · refine r_if_le (pc := 53) C (tgt := 67) dX9_runsOut_53 rfl (fun _ => ?_) (fun _ => ?_)
          · refine r_sub [(0, .ref (x_b X + a)), (3, .int t4)] rfl ?_
            exact r_up (r_br (τ := Int32) t4)
          · refine r_aload_n (pc := 56) C dX9_runsOut_56 rfl rfl ?_
            refine r_cVI (pc := 57) C [] [] (z_KX.up (z_KX.up (z_KX.zero hT))) (s_X9_passMinute a) mt_X9_passMinute zc_9 dX9_runsOut_57 ml_X9_332 im_X9_passMinute se_X9_passMinute rfl rfl rfl (Nat.le_of_ble_eq_true rfl) ⟨Nat.le_of_ble_eq_true rfl, Nat.le_of_ble_eq_true rfl⟩ (fun r9 => ?_)
            refine r_pop (pc := 60) C dX9_runsOut_60 rfl ?_
            refine r_inc (pc := 61) C 1 [(0, .ref (x_b X + a)), (1, .int p1), (2, .int p2), (3, .int (t4 + 1))] dX9_runsOut_61 rfl ki_1 (by decide) rfl ?_
            refine r_goto (pc := 64) C (tgt := 25) dX9_runsOut_64 rfl ?_
            refine r_sub [(0, .ref (x_b X + a)), (1, .int p1), (2, .int p2), (3, .int (t4 + 1))] rfl ?_
            exact r_br (τ := Int32) ((t4 + 1))
        · refine r_if_eq (pc := 33) C (tgt := 44) dX9_runsOut_33 rfl (fun _ => ?_) (fun _ => ?_)
          · refine r_aload_n (pc := 44) C dX9_runsOut_44 rfl rfl ?_
            refine r_getA (pc := 45) C dX9_runsOut_45 fl_X9_32 rfl (fun v6 => ?_)
            refine r_bipush (pc := 48) C dX9_runsOut_48 kb_6 ?_
            refine r_iload_n (pc := 50) C dX9_runsOut_50 rfl rfl ?_
            refine r_iadd (pc := 51) C dX9_runsOut_51 ?_
            refine r_iald (pc := 52) C dX9_runsOut_52 (fun v7 => ?_)
            refine r_sub [(0, .ref (x_b X + a)), (1, .int p1), (2, .int p2), (3, .int t4)] rfl ?_
            exact r_br (τ := Int32) v7
          · refine r_aload_n (pc := 36) C dX9_runsOut_36 rfl rfl ?_
            refine r_iload_n (pc := 37) C dX9_runsOut_37 rfl rfl ?_
            refine r_cVI (pc := 38) C [.int p1] [] (z_KX.up (z_KX.up (z_KX.up (z_KX.zero hT)))) (s_X9_free a p1) mt_X9_free zc_9 dX9_runsOut_38 ml_X9_215 im_X9_free se_X9_free rfl rfl rfl (Nat.le_of_ble_eq_true rfl) ⟨Nat.le_of_ble_eq_true rfl, Nat.le_of_ble_eq_true rfl⟩ (fun r8 => ?_)
            refine r_goto (pc := 41) C (tgt := 53) dX9_runsOut_41 rfl ?_
            refine r_sub [(0, .ref (x_b X + a)), (1, .int p1), (2, .int p2), (3, .int t4)] rfl ?_
            exact r_br (τ := Int32) r8
noncomputable def p_X9_pass (a : Nat) (p1 : Int32) : zP Int32 := (z_bd (z_pI 9 a 0 0) (fun _ => (z_bd (p_X9_within p1 1 1440) (fun r1 => (if r1 = 0 then (z_bd (z_cv 9 a (p_X9_fail a 1)) (fun r9 => (z_pu r9))) else (z_bd (z_gA 9 a 19) (fun v2 => (z_bd (z_aI 11 v2 0) (fun v3 => (if (v3 + p1) ≤ 9999 then (z_bd (z_cv 9 a (p_X9_keep a)) (fun _ => (z_lp (fun (t5 : Int32 × Int32) => (if p1 ≤ t5.2 then (z_pu (.inr t5.1)) else (z_bd (z_cv 9 a (p_X9_passMinute a)) (fun r6 => (z_bd (z_pu ((t5.1 + r6))) (fun x7 => (z_pu (.inl (x7, (t5.2 + 1)))))))))) (0, 0)))) else (z_bd (z_cv 9 a (p_X9_fail a 2)) (fun r8 => (z_pu r8)))))))))))))
set_option maxHeartbeats 4000000 in
set_option maxRecDepth 100000 in
theorem s_X9_pass (a : Nat) (p1 : Int32) : z_Sound yX9_pass cX9_pass 4 (some .int) 7 157 (fun D b => [.ref (b + a), .int p1]) z_ivI (p_X9_pass a p1) := by
  refine z_ofSim rfl (by intro D b; exact Nat.le_of_ble_eq_true rfl) (fun X C hT => ?_)
  unfold p_X9_pass
  refine r_sub [(0, .ref (x_b X + a)), (1, .int p1)] rfl ?_
  refine r_aload_n (pc := 0) C dX9_pass_0 rfl rfl ?_
  refine r_iconst (pc := 1) C dX9_pass_1 ki_0 ?_
  refine r_putI (pc := 2) C dX9_pass_2 fl_X9_76 rfl rfl ?_
  refine r_iload_n (pc := 5) C dX9_pass_5 rfl rfl ?_
  refine r_iconst (pc := 6) C dX9_pass_6 ki_1 ?_
  refine r_sipush (pc := 7) C dX9_pass_7 ks_1440 ?_
  refine r_cSI (pc := 10) C [.int p1, .int 1, .int 1440] [] (z_KX.zero hT) (s_X9_within p1 1 1440) mt_X9_within dX9_pass_10 ml_X9_103 sm_X9_within rfl rfl rfl (Nat.le_of_ble_eq_true rfl) ⟨Nat.le_of_ble_eq_true rfl, Nat.le_of_ble_eq_true rfl⟩ (fun r1 => ?_)
  refine r_if_ne (pc := 13) C (tgt := 22) dX9_pass_13 rfl (fun _ => ?_) (fun _ => ?_)
  · refine r_aload_n (pc := 16) C dX9_pass_16 rfl rfl ?_
    refine r_iconst (pc := 17) C dX9_pass_17 ki_1 ?_
    refine r_cVI (pc := 18) C [.int 1] [] (z_KX.zero hT) (s_X9_fail a 1) mt_X9_fail zc_9 dX9_pass_18 ml_X9_222 im_X9_fail se_X9_fail rfl rfl rfl (Nat.le_of_ble_eq_true rfl) ⟨Nat.le_of_ble_eq_true rfl, Nat.le_of_ble_eq_true rfl⟩ (fun r9 => ?_)
    exact r_iret (pc := 21) C dX9_pass_21
  · refine r_aload_n (pc := 22) C dX9_pass_22 rfl rfl ?_
    refine r_getA (pc := 23) C dX9_pass_23 fl_X9_32 rfl (fun v2 => ?_)
    refine r_iconst (pc := 26) C dX9_pass_26 ki_0 ?_
    refine r_iald (pc := 27) C dX9_pass_27 (fun v3 => ?_)
    refine r_iload_n (pc := 28) C dX9_pass_28 rfl rfl ?_
    refine r_iadd (pc := 29) C dX9_pass_29 ?_
    refine r_sipush (pc := 30) C dX9_pass_30 ks_9999 ?_
    refine r_icmp_le (pc := 33) C (tgt := 42) dX9_pass_33 rfl (fun _ => ?_) (fun _ => ?_)
    · refine r_aload_n (pc := 42) C dX9_pass_42 rfl rfl ?_
      refine r_cVV (pc := 43) C [] [] (z_KX.zero hT) (s_X9_keep a) mt_X9_keep zc_9 dX9_pass_43 ml_X9_338 im_X9_keep se_X9_keep rfl rfl rfl (Nat.le_of_ble_eq_true rfl) ⟨Nat.le_of_ble_eq_true rfl, Nat.le_of_ble_eq_true rfl⟩ ?_
      refine r_iconst (pc := 46) C dX9_pass_46 ki_0 ?_
      refine r_sti_n (pc := 47) C 2 [(0, .ref (x_b X + a)), (1, .int p1), (2, .int 0)] dX9_pass_47 rfl (by decide) rfl ?_
      refine r_iconst (pc := 48) C dX9_pass_48 ki_0 ?_
      refine r_sti_n (pc := 49) C 3 [(0, .ref (x_b X + a)), (1, .int p1), (2, .int 0), (3, .int 0)] dX9_pass_49 rfl (by decide) rfl ?_
      refine r_sub [(0, .ref (x_b X + a)), (1, .int p1), (2, .int 0), (3, .int 0)] rfl ?_
      refine r_lp (pc := 50) (fun (t5 : Int32 × Int32) => [(0, .ref (x_b X + a)), (1, .int p1), (2, .int t5.1), (3, .int t5.2)]) (fun t5 => ?_) (0, 0)
      refine r_iload_n (pc := 50) C dX9_pass_50 rfl rfl ?_
      refine r_iload_n (pc := 51) C dX9_pass_51 rfl rfl ?_
      refine r_icmp_ge (pc := 52) C (tgt := 68) dX9_pass_52 rfl (fun _ => ?_) (fun _ => ?_)
      · refine r_iload_n (pc := 68) C dX9_pass_68 rfl rfl ?_
        exact r_up (r_iret (pc := 69) C dX9_pass_69)
      · refine r_iload_n (pc := 55) C dX9_pass_55 rfl rfl ?_
        refine r_aload_n (pc := 56) C dX9_pass_56 rfl rfl ?_
        refine r_cVI (pc := 57) C [] [.int t5.1] (z_KX.up (z_KX.zero hT)) (s_X9_passMinute a) mt_X9_passMinute zc_9 dX9_pass_57 ml_X9_332 im_X9_passMinute se_X9_passMinute rfl rfl rfl (Nat.le_of_ble_eq_true rfl) ⟨Nat.le_of_ble_eq_true rfl, Nat.le_of_ble_eq_true rfl⟩ (fun r6 => ?_)
        refine r_iadd (pc := 60) C dX9_pass_60 ?_
        refine r_sti_n (pc := 61) C 2 [(0, .ref (x_b X + a)), (1, .int p1), (2, .int (t5.1 + r6)), (3, .int t5.2)] dX9_pass_61 rfl (by decide) rfl ?_
        refine r_let ((t5.1 + r6)) (fun x7 => [(0, .ref (x_b X + a)), (1, .int p1), (2, .int x7), (3, .int t5.2)]) (fun x7 => []) (fun x7 => ?_)
        refine r_inc (pc := 62) C 1 [(0, .ref (x_b X + a)), (1, .int p1), (2, .int x7), (3, .int (t5.2 + 1))] dX9_pass_62 rfl ki_1 (by decide) rfl ?_
        refine r_goto (pc := 65) C (tgt := 50) dX9_pass_65 rfl ?_
        refine r_sub [(0, .ref (x_b X + a)), (1, .int p1), (2, .int x7), (3, .int (t5.2 + 1))] rfl ?_
        exact r_br (τ := Int32 × Int32) (x7, (t5.2 + 1))
    · refine r_aload_n (pc := 36) C dX9_pass_36 rfl rfl ?_
      refine r_iconst (pc := 37) C dX9_pass_37 ki_2 ?_
      refine r_cVI (pc := 38) C [.int 2] [] (z_KX.zero hT) (s_X9_fail a 2) mt_X9_fail zc_9 dX9_pass_38 ml_X9_222 im_X9_fail se_X9_fail rfl rfl rfl (Nat.le_of_ble_eq_true rfl) ⟨Nat.le_of_ble_eq_true rfl, Nat.le_of_ble_eq_true rfl⟩ (fun r8 => ?_)
      exact r_iret (pc := 41) C dX9_pass_41
noncomputable def p_X9_rent (a : Nat) (p1 : Int32) (p2 : Int32) : zP Int32 := (z_bd (z_pI 9 a 0 0) (fun _ => (z_bd (z_cv 9 a (p_X9_areStations a p1 p2)) (fun r1 => (if r1 = 0 then (z_bd (z_cv 9 a (p_X9_fail a 1)) (fun r7 => (z_pu r7))) else (z_bd (z_gA 9 a 19) (fun v2 => (z_bd (z_aI 11 v2 (6 + p1)) (fun v3 => (if v3 = 0 then (z_bd (z_cv 9 a (p_X9_fail a 2)) (fun r6 => (z_pu r6))) else (z_bd (z_cv 9 a (p_X9_keep a)) (fun _ => (z_bd (z_cv 9 a (p_X9_begin a p1 p2)) (fun r5 => (z_pu r5)))))))))))))))
set_option maxHeartbeats 4000000 in
set_option maxRecDepth 100000 in
theorem s_X9_rent (a : Nat) (p1 : Int32) (p2 : Int32) : z_Sound yX9_rent cX9_rent 3 (some .int) 6 133 (fun D b => [.ref (b + a), .int p1, .int p2]) z_ivI (p_X9_rent a p1 p2) := by
  refine z_ofSim rfl (by intro D b; exact Nat.le_of_ble_eq_true rfl) (fun X C hT => ?_)
  unfold p_X9_rent
  refine r_sub [(0, .ref (x_b X + a)), (1, .int p1), (2, .int p2)] rfl ?_
  refine r_aload_n (pc := 0) C dX9_rent_0 rfl rfl ?_
  refine r_iconst (pc := 1) C dX9_rent_1 ki_0 ?_
  refine r_putI (pc := 2) C dX9_rent_2 fl_X9_76 rfl rfl ?_
  refine r_aload_n (pc := 5) C dX9_rent_5 rfl rfl ?_
  refine r_iload_n (pc := 6) C dX9_rent_6 rfl rfl ?_
  refine r_iload_n (pc := 7) C dX9_rent_7 rfl rfl ?_
  refine r_cVI (pc := 8) C [.int p1, .int p2] [] (z_KX.zero hT) (s_X9_areStations a p1 p2) mt_X9_areStations zc_9 dX9_rent_8 ml_X9_265 im_X9_areStations se_X9_areStations rfl rfl rfl (Nat.le_of_ble_eq_true rfl) ⟨Nat.le_of_ble_eq_true rfl, Nat.le_of_ble_eq_true rfl⟩ (fun r1 => ?_)
  refine r_if_ne (pc := 11) C (tgt := 20) dX9_rent_11 rfl (fun _ => ?_) (fun _ => ?_)
  · refine r_aload_n (pc := 14) C dX9_rent_14 rfl rfl ?_
    refine r_iconst (pc := 15) C dX9_rent_15 ki_1 ?_
    refine r_cVI (pc := 16) C [.int 1] [] (z_KX.zero hT) (s_X9_fail a 1) mt_X9_fail zc_9 dX9_rent_16 ml_X9_222 im_X9_fail se_X9_fail rfl rfl rfl (Nat.le_of_ble_eq_true rfl) ⟨Nat.le_of_ble_eq_true rfl, Nat.le_of_ble_eq_true rfl⟩ (fun r7 => ?_)
    exact r_iret (pc := 19) C dX9_rent_19
  · refine r_aload_n (pc := 20) C dX9_rent_20 rfl rfl ?_
    refine r_getA (pc := 21) C dX9_rent_21 fl_X9_32 rfl (fun v2 => ?_)
    refine r_bipush (pc := 24) C dX9_rent_24 kb_6 ?_
    refine r_iload_n (pc := 26) C dX9_rent_26 rfl rfl ?_
    refine r_iadd (pc := 27) C dX9_rent_27 ?_
    refine r_iald (pc := 28) C dX9_rent_28 (fun v3 => ?_)
    refine r_if_ne (pc := 29) C (tgt := 38) dX9_rent_29 rfl (fun _ => ?_) (fun _ => ?_)
    · refine r_aload_n (pc := 32) C dX9_rent_32 rfl rfl ?_
      refine r_iconst (pc := 33) C dX9_rent_33 ki_2 ?_
      refine r_cVI (pc := 34) C [.int 2] [] (z_KX.zero hT) (s_X9_fail a 2) mt_X9_fail zc_9 dX9_rent_34 ml_X9_222 im_X9_fail se_X9_fail rfl rfl rfl (Nat.le_of_ble_eq_true rfl) ⟨Nat.le_of_ble_eq_true rfl, Nat.le_of_ble_eq_true rfl⟩ (fun r6 => ?_)
      exact r_iret (pc := 37) C dX9_rent_37
    · refine r_aload_n (pc := 38) C dX9_rent_38 rfl rfl ?_
      refine r_cVV (pc := 39) C [] [] (z_KX.zero hT) (s_X9_keep a) mt_X9_keep zc_9 dX9_rent_39 ml_X9_338 im_X9_keep se_X9_keep rfl rfl rfl (Nat.le_of_ble_eq_true rfl) ⟨Nat.le_of_ble_eq_true rfl, Nat.le_of_ble_eq_true rfl⟩ ?_
      refine r_aload_n (pc := 42) C dX9_rent_42 rfl rfl ?_
      refine r_iload_n (pc := 43) C dX9_rent_43 rfl rfl ?_
      refine r_iload_n (pc := 44) C dX9_rent_44 rfl rfl ?_
      refine r_cVI (pc := 45) C [.int p1, .int p2] [] (z_KX.zero hT) (s_X9_begin a p1 p2) mt_X9_begin zc_9 dX9_rent_45 ml_X9_323 im_X9_begin se_X9_begin rfl rfl rfl (Nat.le_of_ble_eq_true rfl) ⟨Nat.le_of_ble_eq_true rfl, Nat.le_of_ble_eq_true rfl⟩ (fun r5 => ?_)
      exact r_iret (pc := 48) C dX9_rent_48
noncomputable def p_X9_dispatch (a : Nat) (p1 : Int32) (p2 : Int32) (p3 : Int32) : zP Int32 := (z_bd (z_pI 9 a 0 0) (fun _ => (z_bd (z_cv 9 a (p_X9_isTruck a p1)) (fun r1 => (z_jn (τ := Unit) (if r1 = 0 then (z_pu (.inl ())) else (z_bd (z_cv 9 a (p_X9_isStation a p2)) (fun r3 => (if r3 = 0 then (z_pu (.inl ())) else (z_bd (p_X9_within p3 0 20) (fun r4 => (if r4 = 0 then (z_bd (z_cv 9 a (p_X9_fail a 2)) (fun r16 => (z_pu (.inr r16)))) else (z_bd (z_cv 9 a (p_X9_of a p1 5)) (fun r5 => (if r5 = 6 then (z_bd (z_cv 9 a (p_X9_fail a 3)) (fun r15 => (z_pu (.inr r15)))) else (z_bd (z_cv 9 a (p_X9_keep a)) (fun _ => (z_bd (z_cv 9 a (p_X9_of a p1 5)) (fun r7 => (z_bd (z_cv 9 a (p_X9_put a p1 (6 + (2 * r7)) p2)) (fun _ => (z_bd (z_cv 9 a (p_X9_of a p1 5)) (fun r9 => (z_bd (z_cv 9 a (p_X9_put a p1 ((6 + (2 * r9)) + 1) p3)) (fun _ => (z_bd (z_cv 9 a (p_X9_of a p1 5)) (fun r11 => (z_bd (z_cv 9 a (p_X9_put a p1 5 (r11 + 1))) (fun _ => (z_bd (z_cv 9 a (p_X9_goOn a p1)) (fun _ => (z_bd (z_cv 9 a (p_X9_of a p1 5)) (fun r14 => (z_pu (.inr r14)))))))))))))))))))))))))))))) (fun t2 => (z_bd (z_cv 9 a (p_X9_fail a 1)) (fun r17 => (z_pu r17)))))))))
set_option maxHeartbeats 4000000 in
set_option maxRecDepth 100000 in
theorem s_X9_dispatch (a : Nat) (p1 : Int32) (p2 : Int32) (p3 : Int32) : z_Sound yX9_dispatch cX9_dispatch 4 (some .int) 5 111 (fun D b => [.ref (b + a), .int p1, .int p2, .int p3]) z_ivI (p_X9_dispatch a p1 p2 p3) := by
  refine z_ofSim rfl (by intro D b; exact Nat.le_of_ble_eq_true rfl) (fun X C hT => ?_)
  unfold p_X9_dispatch
  refine r_sub [(0, .ref (x_b X + a)), (1, .int p1), (2, .int p2), (3, .int p3)] rfl ?_
  refine r_aload_n (pc := 0) C dX9_dispatch_0 rfl rfl ?_
  refine r_iconst (pc := 1) C dX9_dispatch_1 ki_0 ?_
  refine r_putI (pc := 2) C dX9_dispatch_2 fl_X9_76 rfl rfl ?_
  refine r_aload_n (pc := 5) C dX9_dispatch_5 rfl rfl ?_
  refine r_iload_n (pc := 6) C dX9_dispatch_6 rfl rfl ?_
  refine r_cVI (pc := 7) C [.int p1] [] (z_KX.zero hT) (s_X9_isTruck a p1) mt_X9_isTruck zc_9 dX9_dispatch_7 ml_X9_280 im_X9_isTruck se_X9_isTruck rfl rfl rfl (Nat.le_of_ble_eq_true rfl) ⟨Nat.le_of_ble_eq_true rfl, Nat.le_of_ble_eq_true rfl⟩ (fun r1 => ?_)
  refine r_jn 21 (fun (t2 : Unit) => [(0, .ref (x_b X + a))]) (fun (t2 : Unit) => []) (fun t2 => ?_) ?_
  · refine r_aload_n (pc := 21) C dX9_dispatch_21 rfl rfl ?_
    refine r_iconst (pc := 22) C dX9_dispatch_22 ki_1 ?_
    refine r_cVI (pc := 23) C [.int 1] [] (z_KX.zero hT) (s_X9_fail a 1) mt_X9_fail zc_9 dX9_dispatch_23 ml_X9_222 im_X9_fail se_X9_fail rfl rfl rfl (Nat.le_of_ble_eq_true rfl) ⟨Nat.le_of_ble_eq_true rfl, Nat.le_of_ble_eq_true rfl⟩ (fun r17 => ?_)
    exact r_iret (pc := 26) C dX9_dispatch_26
  · refine r_if_eq (pc := 10) C (tgt := 21) dX9_dispatch_10 rfl (fun _ => ?_) (fun _ => ?_)
    · refine r_sub [(0, .ref (x_b X + a))] rfl ?_
      exact r_br (τ := Unit) ()
    · refine r_aload_n (pc := 13) C dX9_dispatch_13 rfl rfl ?_
      refine r_iload_n (pc := 14) C dX9_dispatch_14 rfl rfl ?_
      refine r_cVI (pc := 15) C [.int p2] [] (z_KX.up (z_KX.zero hT)) (s_X9_isStation a p2) mt_X9_isStation zc_9 dX9_dispatch_15 ml_X9_252 im_X9_isStation se_X9_isStation rfl rfl rfl (Nat.le_of_ble_eq_true rfl) ⟨Nat.le_of_ble_eq_true rfl, Nat.le_of_ble_eq_true rfl⟩ (fun r3 => ?_)
      refine r_if_ne (pc := 18) C (tgt := 27) dX9_dispatch_18 rfl (fun _ => ?_) (fun _ => ?_)
      · refine r_sub [(0, .ref (x_b X + a))] rfl ?_
        exact r_br (τ := Unit) ()
      · refine r_iload_n (pc := 27) C dX9_dispatch_27 rfl rfl ?_
        refine r_iconst (pc := 28) C dX9_dispatch_28 ki_0 ?_
        refine r_bipush (pc := 29) C dX9_dispatch_29 kb_20 ?_
        refine r_cSI (pc := 31) C [.int p3, .int 0, .int 20] [] (z_KX.up (z_KX.zero hT)) (s_X9_within p3 0 20) mt_X9_within dX9_dispatch_31 ml_X9_103 sm_X9_within rfl rfl rfl (Nat.le_of_ble_eq_true rfl) ⟨Nat.le_of_ble_eq_true rfl, Nat.le_of_ble_eq_true rfl⟩ (fun r4 => ?_)
        refine r_if_ne (pc := 34) C (tgt := 43) dX9_dispatch_34 rfl (fun _ => ?_) (fun _ => ?_)
        · refine r_aload_n (pc := 37) C dX9_dispatch_37 rfl rfl ?_
          refine r_iconst (pc := 38) C dX9_dispatch_38 ki_2 ?_
          refine r_cVI (pc := 39) C [.int 2] [] (z_KX.up (z_KX.zero hT)) (s_X9_fail a 2) mt_X9_fail zc_9 dX9_dispatch_39 ml_X9_222 im_X9_fail se_X9_fail rfl rfl rfl (Nat.le_of_ble_eq_true rfl) ⟨Nat.le_of_ble_eq_true rfl, Nat.le_of_ble_eq_true rfl⟩ (fun r16 => ?_)
          exact r_up (r_iret (pc := 42) C dX9_dispatch_42)
        · refine r_aload_n (pc := 43) C dX9_dispatch_43 rfl rfl ?_
          refine r_iload_n (pc := 44) C dX9_dispatch_44 rfl rfl ?_
          refine r_iconst (pc := 45) C dX9_dispatch_45 ki_5 ?_
          refine r_cVI (pc := 46) C [.int p1, .int 5] [] (z_KX.up (z_KX.zero hT)) (s_X9_of a p1 5) mt_X9_of zc_9 dX9_dispatch_46 ml_X9_243 im_X9_of se_X9_of rfl rfl rfl (Nat.le_of_ble_eq_true rfl) ⟨Nat.le_of_ble_eq_true rfl, Nat.le_of_ble_eq_true rfl⟩ (fun r5 => ?_)
          refine r_bipush (pc := 49) C dX9_dispatch_49 kb_6 ?_
          refine r_icmp_ne (pc := 51) C (tgt := 60) dX9_dispatch_51 rfl (fun _ => ?_) (fun _ => ?_)
          · refine r_aload_n (pc := 54) C dX9_dispatch_54 rfl rfl ?_
            refine r_iconst (pc := 55) C dX9_dispatch_55 ki_3 ?_
            refine r_cVI (pc := 56) C [.int 3] [] (z_KX.up (z_KX.zero hT)) (s_X9_fail a 3) mt_X9_fail zc_9 dX9_dispatch_56 ml_X9_222 im_X9_fail se_X9_fail rfl rfl rfl (Nat.le_of_ble_eq_true rfl) ⟨Nat.le_of_ble_eq_true rfl, Nat.le_of_ble_eq_true rfl⟩ (fun r15 => ?_)
            exact r_up (r_iret (pc := 59) C dX9_dispatch_59)
          · refine r_aload_n (pc := 60) C dX9_dispatch_60 rfl rfl ?_
            refine r_cVV (pc := 61) C [] [] (z_KX.up (z_KX.zero hT)) (s_X9_keep a) mt_X9_keep zc_9 dX9_dispatch_61 ml_X9_338 im_X9_keep se_X9_keep rfl rfl rfl (Nat.le_of_ble_eq_true rfl) ⟨Nat.le_of_ble_eq_true rfl, Nat.le_of_ble_eq_true rfl⟩ ?_
            refine r_aload_n (pc := 64) C dX9_dispatch_64 rfl rfl ?_
            refine r_iload_n (pc := 65) C dX9_dispatch_65 rfl rfl ?_
            refine r_bipush (pc := 66) C dX9_dispatch_66 kb_6 ?_
            refine r_iconst (pc := 68) C dX9_dispatch_68 ki_2 ?_
            refine r_aload_n (pc := 69) C dX9_dispatch_69 rfl rfl ?_
            refine r_iload_n (pc := 70) C dX9_dispatch_70 rfl rfl ?_
            refine r_iconst (pc := 71) C dX9_dispatch_71 ki_5 ?_
            refine r_cVI (pc := 72) C [.int p1, .int 5] [.int 2, .int 6, .int p1, .ref (x_b X + a)] (z_KX.up (z_KX.zero hT)) (s_X9_of a p1 5) mt_X9_of zc_9 dX9_dispatch_72 ml_X9_243 im_X9_of se_X9_of rfl rfl rfl (Nat.le_of_ble_eq_true rfl) ⟨Nat.le_of_ble_eq_true rfl, Nat.le_of_ble_eq_true rfl⟩ (fun r7 => ?_)
            refine r_imul (pc := 75) C dX9_dispatch_75 ?_
            refine r_iadd (pc := 76) C dX9_dispatch_76 ?_
            refine r_iload_n (pc := 77) C dX9_dispatch_77 rfl rfl ?_
            refine r_cVV (pc := 78) C [.int p1, .int (6 + (2 * r7)), .int p2] [] (z_KX.up (z_KX.zero hT)) (s_X9_put a p1 (6 + (2 * r7)) p2) mt_X9_put zc_9 dX9_dispatch_78 ml_X9_132 im_X9_put se_X9_put rfl rfl rfl (Nat.le_of_ble_eq_true rfl) ⟨Nat.le_of_ble_eq_true rfl, Nat.le_of_ble_eq_true rfl⟩ ?_
            refine r_aload_n (pc := 81) C dX9_dispatch_81 rfl rfl ?_
            refine r_iload_n (pc := 82) C dX9_dispatch_82 rfl rfl ?_
            refine r_bipush (pc := 83) C dX9_dispatch_83 kb_6 ?_
            refine r_iconst (pc := 85) C dX9_dispatch_85 ki_2 ?_
            refine r_aload_n (pc := 86) C dX9_dispatch_86 rfl rfl ?_
            refine r_iload_n (pc := 87) C dX9_dispatch_87 rfl rfl ?_
            refine r_iconst (pc := 88) C dX9_dispatch_88 ki_5 ?_
            refine r_cVI (pc := 89) C [.int p1, .int 5] [.int 2, .int 6, .int p1, .ref (x_b X + a)] (z_KX.up (z_KX.zero hT)) (s_X9_of a p1 5) mt_X9_of zc_9 dX9_dispatch_89 ml_X9_243 im_X9_of se_X9_of rfl rfl rfl (Nat.le_of_ble_eq_true rfl) ⟨Nat.le_of_ble_eq_true rfl, Nat.le_of_ble_eq_true rfl⟩ (fun r9 => ?_)
            refine r_imul (pc := 92) C dX9_dispatch_92 ?_
            refine r_iadd (pc := 93) C dX9_dispatch_93 ?_
            refine r_iconst (pc := 94) C dX9_dispatch_94 ki_1 ?_
            refine r_iadd (pc := 95) C dX9_dispatch_95 ?_
            refine r_iload_n (pc := 96) C dX9_dispatch_96 rfl rfl ?_
            refine r_cVV (pc := 97) C [.int p1, .int ((6 + (2 * r9)) + 1), .int p3] [] (z_KX.up (z_KX.zero hT)) (s_X9_put a p1 ((6 + (2 * r9)) + 1) p3) mt_X9_put zc_9 dX9_dispatch_97 ml_X9_132 im_X9_put se_X9_put rfl rfl rfl (Nat.le_of_ble_eq_true rfl) ⟨Nat.le_of_ble_eq_true rfl, Nat.le_of_ble_eq_true rfl⟩ ?_
            refine r_aload_n (pc := 100) C dX9_dispatch_100 rfl rfl ?_
            refine r_iload_n (pc := 101) C dX9_dispatch_101 rfl rfl ?_
            refine r_iconst (pc := 102) C dX9_dispatch_102 ki_5 ?_
            refine r_aload_n (pc := 103) C dX9_dispatch_103 rfl rfl ?_
            refine r_iload_n (pc := 104) C dX9_dispatch_104 rfl rfl ?_
            refine r_iconst (pc := 105) C dX9_dispatch_105 ki_5 ?_
            refine r_cVI (pc := 106) C [.int p1, .int 5] [.int 5, .int p1, .ref (x_b X + a)] (z_KX.up (z_KX.zero hT)) (s_X9_of a p1 5) mt_X9_of zc_9 dX9_dispatch_106 ml_X9_243 im_X9_of se_X9_of rfl rfl rfl (Nat.le_of_ble_eq_true rfl) ⟨Nat.le_of_ble_eq_true rfl, Nat.le_of_ble_eq_true rfl⟩ (fun r11 => ?_)
            refine r_iconst (pc := 109) C dX9_dispatch_109 ki_1 ?_
            refine r_iadd (pc := 110) C dX9_dispatch_110 ?_
            refine r_cVV (pc := 111) C [.int p1, .int 5, .int (r11 + 1)] [] (z_KX.up (z_KX.zero hT)) (s_X9_put a p1 5 (r11 + 1)) mt_X9_put zc_9 dX9_dispatch_111 ml_X9_132 im_X9_put se_X9_put rfl rfl rfl (Nat.le_of_ble_eq_true rfl) ⟨Nat.le_of_ble_eq_true rfl, Nat.le_of_ble_eq_true rfl⟩ ?_
            refine r_aload_n (pc := 114) C dX9_dispatch_114 rfl rfl ?_
            refine r_iload_n (pc := 115) C dX9_dispatch_115 rfl rfl ?_
            refine r_cVV (pc := 116) C [.int p1] [] (z_KX.up (z_KX.zero hT)) (s_X9_goOn a p1) mt_X9_goOn zc_9 dX9_dispatch_116 ml_X9_292 im_X9_goOn se_X9_goOn rfl rfl rfl (Nat.le_of_ble_eq_true rfl) ⟨Nat.le_of_ble_eq_true rfl, Nat.le_of_ble_eq_true rfl⟩ ?_
            refine r_aload_n (pc := 119) C dX9_dispatch_119 rfl rfl ?_
            refine r_iload_n (pc := 120) C dX9_dispatch_120 rfl rfl ?_
            refine r_iconst (pc := 121) C dX9_dispatch_121 ki_5 ?_
            refine r_cVI (pc := 122) C [.int p1, .int 5] [] (z_KX.up (z_KX.zero hT)) (s_X9_of a p1 5) mt_X9_of zc_9 dX9_dispatch_122 ml_X9_243 im_X9_of se_X9_of rfl rfl rfl (Nat.le_of_ble_eq_true rfl) ⟨Nat.le_of_ble_eq_true rfl, Nat.le_of_ble_eq_true rfl⟩ (fun r14 => ?_)
            exact r_up (r_iret (pc := 125) C dX9_dispatch_125)
noncomputable def p_X9_cancel (a : Nat) (p1 : Int32) : zP Int32 := (z_bd (z_pI 9 a 0 0) (fun _ => (z_bd (z_cv 9 a (p_X9_isTruck a p1)) (fun r1 => (if r1 = 0 then (z_bd (z_cv 9 a (p_X9_fail a 1)) (fun r5 => (z_pu r5))) else (z_bd (z_cv 9 a (p_X9_keep a)) (fun _ => (z_bd (z_cv 9 a (p_X9_of a p1 5)) (fun r3 => (z_bd (z_cv 9 a (p_X9_put a p1 5 0)) (fun _ => (z_pu r3))))))))))))
set_option maxHeartbeats 4000000 in
set_option maxRecDepth 100000 in
theorem s_X9_cancel (a : Nat) (p1 : Int32) : z_Sound yX9_cancel cX9_cancel 3 (some .int) 3 63 (fun D b => [.ref (b + a), .int p1]) z_ivI (p_X9_cancel a p1) := by
  refine z_ofSim rfl (by intro D b; exact Nat.le_of_ble_eq_true rfl) (fun X C hT => ?_)
  unfold p_X9_cancel
  refine r_sub [(0, .ref (x_b X + a)), (1, .int p1)] rfl ?_
  refine r_aload_n (pc := 0) C dX9_cancel_0 rfl rfl ?_
  refine r_iconst (pc := 1) C dX9_cancel_1 ki_0 ?_
  refine r_putI (pc := 2) C dX9_cancel_2 fl_X9_76 rfl rfl ?_
  refine r_aload_n (pc := 5) C dX9_cancel_5 rfl rfl ?_
  refine r_iload_n (pc := 6) C dX9_cancel_6 rfl rfl ?_
  refine r_cVI (pc := 7) C [.int p1] [] (z_KX.zero hT) (s_X9_isTruck a p1) mt_X9_isTruck zc_9 dX9_cancel_7 ml_X9_280 im_X9_isTruck se_X9_isTruck rfl rfl rfl (Nat.le_of_ble_eq_true rfl) ⟨Nat.le_of_ble_eq_true rfl, Nat.le_of_ble_eq_true rfl⟩ (fun r1 => ?_)
  refine r_if_ne (pc := 10) C (tgt := 19) dX9_cancel_10 rfl (fun _ => ?_) (fun _ => ?_)
  · refine r_aload_n (pc := 13) C dX9_cancel_13 rfl rfl ?_
    refine r_iconst (pc := 14) C dX9_cancel_14 ki_1 ?_
    refine r_cVI (pc := 15) C [.int 1] [] (z_KX.zero hT) (s_X9_fail a 1) mt_X9_fail zc_9 dX9_cancel_15 ml_X9_222 im_X9_fail se_X9_fail rfl rfl rfl (Nat.le_of_ble_eq_true rfl) ⟨Nat.le_of_ble_eq_true rfl, Nat.le_of_ble_eq_true rfl⟩ (fun r5 => ?_)
    exact r_iret (pc := 18) C dX9_cancel_18
  · refine r_aload_n (pc := 19) C dX9_cancel_19 rfl rfl ?_
    refine r_cVV (pc := 20) C [] [] (z_KX.zero hT) (s_X9_keep a) mt_X9_keep zc_9 dX9_cancel_20 ml_X9_338 im_X9_keep se_X9_keep rfl rfl rfl (Nat.le_of_ble_eq_true rfl) ⟨Nat.le_of_ble_eq_true rfl, Nat.le_of_ble_eq_true rfl⟩ ?_
    refine r_aload_n (pc := 23) C dX9_cancel_23 rfl rfl ?_
    refine r_iload_n (pc := 24) C dX9_cancel_24 rfl rfl ?_
    refine r_iconst (pc := 25) C dX9_cancel_25 ki_5 ?_
    refine r_cVI (pc := 26) C [.int p1, .int 5] [] (z_KX.zero hT) (s_X9_of a p1 5) mt_X9_of zc_9 dX9_cancel_26 ml_X9_243 im_X9_of se_X9_of rfl rfl rfl (Nat.le_of_ble_eq_true rfl) ⟨Nat.le_of_ble_eq_true rfl, Nat.le_of_ble_eq_true rfl⟩ (fun r3 => ?_)
    refine r_sti_n (pc := 29) C 2 [(0, .ref (x_b X + a)), (1, .int p1), (2, .int r3)] dX9_cancel_29 rfl (by decide) rfl ?_
    refine r_aload_n (pc := 30) C dX9_cancel_30 rfl rfl ?_
    refine r_iload_n (pc := 31) C dX9_cancel_31 rfl rfl ?_
    refine r_iconst (pc := 32) C dX9_cancel_32 ki_5 ?_
    refine r_iconst (pc := 33) C dX9_cancel_33 ki_0 ?_
    refine r_cVV (pc := 34) C [.int p1, .int 5, .int 0] [] (z_KX.zero hT) (s_X9_put a p1 5 0) mt_X9_put zc_9 dX9_cancel_34 ml_X9_132 im_X9_put se_X9_put rfl rfl rfl (Nat.le_of_ble_eq_true rfl) ⟨Nat.le_of_ble_eq_true rfl, Nat.le_of_ble_eq_true rfl⟩ ?_
    refine r_iload_n (pc := 37) C dX9_cancel_37 rfl rfl ?_
    exact r_iret (pc := 38) C dX9_cancel_38
noncomputable def p_X9_breakDock (a : Nat) (p1 : Int32) : zP Int32 := (z_bd (z_pI 9 a 0 0) (fun _ => (z_bd (z_cv 9 a (p_X9_isStation a p1)) (fun r1 => (if r1 = 0 then (z_bd (z_cv 9 a (p_X9_fail a 1)) (fun r9 => (z_pu r9))) else (z_bd (z_cv 9 a (p_X9_free a p1)) (fun r2 => (if r2 = 0 then (z_bd (z_cv 9 a (p_X9_fail a 2)) (fun r8 => (z_pu r8))) else (z_bd (z_cv 9 a (p_X9_keep a)) (fun _ => (z_bd (z_gA 9 a 19) (fun v4 => (z_bd (z_aI 11 v4 (14 + p1)) (fun v5 => (z_bd (z_sI 11 v4 (14 + p1) (v5 + 1)) (fun _ => (z_bd (z_gA 9 a 19) (fun v6 => (z_bd (z_aI 11 v6 (14 + p1)) (fun v7 => (z_pu v7)))))))))))))))))))))
set_option maxHeartbeats 4000000 in
set_option maxRecDepth 100000 in
theorem s_X9_breakDock (a : Nat) (p1 : Int32) : z_Sound yX9_breakDock cX9_breakDock 2 (some .int) 3 63 (fun D b => [.ref (b + a), .int p1]) z_ivI (p_X9_breakDock a p1) := by
  refine z_ofSim rfl (by intro D b; exact Nat.le_of_ble_eq_true rfl) (fun X C hT => ?_)
  unfold p_X9_breakDock
  refine r_sub [(0, .ref (x_b X + a)), (1, .int p1)] rfl ?_
  refine r_aload_n (pc := 0) C dX9_breakDock_0 rfl rfl ?_
  refine r_iconst (pc := 1) C dX9_breakDock_1 ki_0 ?_
  refine r_putI (pc := 2) C dX9_breakDock_2 fl_X9_76 rfl rfl ?_
  refine r_aload_n (pc := 5) C dX9_breakDock_5 rfl rfl ?_
  refine r_iload_n (pc := 6) C dX9_breakDock_6 rfl rfl ?_
  refine r_cVI (pc := 7) C [.int p1] [] (z_KX.zero hT) (s_X9_isStation a p1) mt_X9_isStation zc_9 dX9_breakDock_7 ml_X9_252 im_X9_isStation se_X9_isStation rfl rfl rfl (Nat.le_of_ble_eq_true rfl) ⟨Nat.le_of_ble_eq_true rfl, Nat.le_of_ble_eq_true rfl⟩ (fun r1 => ?_)
  refine r_if_ne (pc := 10) C (tgt := 19) dX9_breakDock_10 rfl (fun _ => ?_) (fun _ => ?_)
  · refine r_aload_n (pc := 13) C dX9_breakDock_13 rfl rfl ?_
    refine r_iconst (pc := 14) C dX9_breakDock_14 ki_1 ?_
    refine r_cVI (pc := 15) C [.int 1] [] (z_KX.zero hT) (s_X9_fail a 1) mt_X9_fail zc_9 dX9_breakDock_15 ml_X9_222 im_X9_fail se_X9_fail rfl rfl rfl (Nat.le_of_ble_eq_true rfl) ⟨Nat.le_of_ble_eq_true rfl, Nat.le_of_ble_eq_true rfl⟩ (fun r9 => ?_)
    exact r_iret (pc := 18) C dX9_breakDock_18
  · refine r_aload_n (pc := 19) C dX9_breakDock_19 rfl rfl ?_
    refine r_iload_n (pc := 20) C dX9_breakDock_20 rfl rfl ?_
    refine r_cVI (pc := 21) C [.int p1] [] (z_KX.zero hT) (s_X9_free a p1) mt_X9_free zc_9 dX9_breakDock_21 ml_X9_215 im_X9_free se_X9_free rfl rfl rfl (Nat.le_of_ble_eq_true rfl) ⟨Nat.le_of_ble_eq_true rfl, Nat.le_of_ble_eq_true rfl⟩ (fun r2 => ?_)
    refine r_if_ne (pc := 24) C (tgt := 33) dX9_breakDock_24 rfl (fun _ => ?_) (fun _ => ?_)
    · refine r_aload_n (pc := 27) C dX9_breakDock_27 rfl rfl ?_
      refine r_iconst (pc := 28) C dX9_breakDock_28 ki_2 ?_
      refine r_cVI (pc := 29) C [.int 2] [] (z_KX.zero hT) (s_X9_fail a 2) mt_X9_fail zc_9 dX9_breakDock_29 ml_X9_222 im_X9_fail se_X9_fail rfl rfl rfl (Nat.le_of_ble_eq_true rfl) ⟨Nat.le_of_ble_eq_true rfl, Nat.le_of_ble_eq_true rfl⟩ (fun r8 => ?_)
      exact r_iret (pc := 32) C dX9_breakDock_32
    · refine r_aload_n (pc := 33) C dX9_breakDock_33 rfl rfl ?_
      refine r_cVV (pc := 34) C [] [] (z_KX.zero hT) (s_X9_keep a) mt_X9_keep zc_9 dX9_breakDock_34 ml_X9_338 im_X9_keep se_X9_keep rfl rfl rfl (Nat.le_of_ble_eq_true rfl) ⟨Nat.le_of_ble_eq_true rfl, Nat.le_of_ble_eq_true rfl⟩ ?_
      refine r_aload_n (pc := 37) C dX9_breakDock_37 rfl rfl ?_
      refine r_getA (pc := 38) C dX9_breakDock_38 fl_X9_32 rfl (fun v4 => ?_)
      refine r_bipush (pc := 41) C dX9_breakDock_41 kb_14 ?_
      refine r_iload_n (pc := 43) C dX9_breakDock_43 rfl rfl ?_
      refine r_iadd (pc := 44) C dX9_breakDock_44 ?_
      refine r_dup2 (pc := 45) C dX9_breakDock_45 rfl rfl ?_
      refine r_iald (pc := 46) C dX9_breakDock_46 (fun v5 => ?_)
      refine r_iconst (pc := 47) C dX9_breakDock_47 ki_1 ?_
      refine r_iadd (pc := 48) C dX9_breakDock_48 ?_
      refine r_iast (pc := 49) C dX9_breakDock_49 ?_
      refine r_aload_n (pc := 50) C dX9_breakDock_50 rfl rfl ?_
      refine r_getA (pc := 51) C dX9_breakDock_51 fl_X9_32 rfl (fun v6 => ?_)
      refine r_bipush (pc := 54) C dX9_breakDock_54 kb_14 ?_
      refine r_iload_n (pc := 56) C dX9_breakDock_56 rfl rfl ?_
      refine r_iadd (pc := 57) C dX9_breakDock_57 ?_
      refine r_iald (pc := 58) C dX9_breakDock_58 (fun v7 => ?_)
      exact r_iret (pc := 59) C dX9_breakDock_59
noncomputable def p_X9_repairDock (a : Nat) (p1 : Int32) : zP Int32 := (z_bd (z_pI 9 a 0 0) (fun _ => (z_bd (z_cv 9 a (p_X9_isStation a p1)) (fun r1 => (if r1 = 0 then (z_bd (z_cv 9 a (p_X9_fail a 1)) (fun r10 => (z_pu r10))) else (z_bd (z_gA 9 a 19) (fun v2 => (z_bd (z_aI 11 v2 (14 + p1)) (fun v3 => (if v3 = 0 then (z_bd (z_cv 9 a (p_X9_fail a 2)) (fun r9 => (z_pu r9))) else (z_bd (z_cv 9 a (p_X9_keep a)) (fun _ => (z_bd (z_gA 9 a 19) (fun v5 => (z_bd (z_aI 11 v5 (14 + p1)) (fun v6 => (z_bd (z_sI 11 v5 (14 + p1) (v6 - 1)) (fun _ => (z_bd (z_gA 9 a 19) (fun v7 => (z_bd (z_aI 11 v7 (14 + p1)) (fun v8 => (z_pu v8)))))))))))))))))))))))
set_option maxHeartbeats 4000000 in
set_option maxRecDepth 100000 in
theorem s_X9_repairDock (a : Nat) (p1 : Int32) : z_Sound yX9_repairDock cX9_repairDock 2 (some .int) 3 63 (fun D b => [.ref (b + a), .int p1]) z_ivI (p_X9_repairDock a p1) := by
  refine z_ofSim rfl (by intro D b; exact Nat.le_of_ble_eq_true rfl) (fun X C hT => ?_)
  unfold p_X9_repairDock
  refine r_sub [(0, .ref (x_b X + a)), (1, .int p1)] rfl ?_
  refine r_aload_n (pc := 0) C dX9_repairDock_0 rfl rfl ?_
  refine r_iconst (pc := 1) C dX9_repairDock_1 ki_0 ?_
  refine r_putI (pc := 2) C dX9_repairDock_2 fl_X9_76 rfl rfl ?_
  refine r_aload_n (pc := 5) C dX9_repairDock_5 rfl rfl ?_
  refine r_iload_n (pc := 6) C dX9_repairDock_6 rfl rfl ?_
  refine r_cVI (pc := 7) C [.int p1] [] (z_KX.zero hT) (s_X9_isStation a p1) mt_X9_isStation zc_9 dX9_repairDock_7 ml_X9_252 im_X9_isStation se_X9_isStation rfl rfl rfl (Nat.le_of_ble_eq_true rfl) ⟨Nat.le_of_ble_eq_true rfl, Nat.le_of_ble_eq_true rfl⟩ (fun r1 => ?_)
  refine r_if_ne (pc := 10) C (tgt := 19) dX9_repairDock_10 rfl (fun _ => ?_) (fun _ => ?_)
  · refine r_aload_n (pc := 13) C dX9_repairDock_13 rfl rfl ?_
    refine r_iconst (pc := 14) C dX9_repairDock_14 ki_1 ?_
    refine r_cVI (pc := 15) C [.int 1] [] (z_KX.zero hT) (s_X9_fail a 1) mt_X9_fail zc_9 dX9_repairDock_15 ml_X9_222 im_X9_fail se_X9_fail rfl rfl rfl (Nat.le_of_ble_eq_true rfl) ⟨Nat.le_of_ble_eq_true rfl, Nat.le_of_ble_eq_true rfl⟩ (fun r10 => ?_)
    exact r_iret (pc := 18) C dX9_repairDock_18
  · refine r_aload_n (pc := 19) C dX9_repairDock_19 rfl rfl ?_
    refine r_getA (pc := 20) C dX9_repairDock_20 fl_X9_32 rfl (fun v2 => ?_)
    refine r_bipush (pc := 23) C dX9_repairDock_23 kb_14 ?_
    refine r_iload_n (pc := 25) C dX9_repairDock_25 rfl rfl ?_
    refine r_iadd (pc := 26) C dX9_repairDock_26 ?_
    refine r_iald (pc := 27) C dX9_repairDock_27 (fun v3 => ?_)
    refine r_if_ne (pc := 28) C (tgt := 37) dX9_repairDock_28 rfl (fun _ => ?_) (fun _ => ?_)
    · refine r_aload_n (pc := 31) C dX9_repairDock_31 rfl rfl ?_
      refine r_iconst (pc := 32) C dX9_repairDock_32 ki_2 ?_
      refine r_cVI (pc := 33) C [.int 2] [] (z_KX.zero hT) (s_X9_fail a 2) mt_X9_fail zc_9 dX9_repairDock_33 ml_X9_222 im_X9_fail se_X9_fail rfl rfl rfl (Nat.le_of_ble_eq_true rfl) ⟨Nat.le_of_ble_eq_true rfl, Nat.le_of_ble_eq_true rfl⟩ (fun r9 => ?_)
      exact r_iret (pc := 36) C dX9_repairDock_36
    · refine r_aload_n (pc := 37) C dX9_repairDock_37 rfl rfl ?_
      refine r_cVV (pc := 38) C [] [] (z_KX.zero hT) (s_X9_keep a) mt_X9_keep zc_9 dX9_repairDock_38 ml_X9_338 im_X9_keep se_X9_keep rfl rfl rfl (Nat.le_of_ble_eq_true rfl) ⟨Nat.le_of_ble_eq_true rfl, Nat.le_of_ble_eq_true rfl⟩ ?_
      refine r_aload_n (pc := 41) C dX9_repairDock_41 rfl rfl ?_
      refine r_getA (pc := 42) C dX9_repairDock_42 fl_X9_32 rfl (fun v5 => ?_)
      refine r_bipush (pc := 45) C dX9_repairDock_45 kb_14 ?_
      refine r_iload_n (pc := 47) C dX9_repairDock_47 rfl rfl ?_
      refine r_iadd (pc := 48) C dX9_repairDock_48 ?_
      refine r_dup2 (pc := 49) C dX9_repairDock_49 rfl rfl ?_
      refine r_iald (pc := 50) C dX9_repairDock_50 (fun v6 => ?_)
      refine r_iconst (pc := 51) C dX9_repairDock_51 ki_1 ?_
      refine r_isub (pc := 52) C dX9_repairDock_52 ?_
      refine r_iast (pc := 53) C dX9_repairDock_53 ?_
      refine r_aload_n (pc := 54) C dX9_repairDock_54 rfl rfl ?_
      refine r_getA (pc := 55) C dX9_repairDock_55 fl_X9_32 rfl (fun v7 => ?_)
      refine r_bipush (pc := 58) C dX9_repairDock_58 kb_14 ?_
      refine r_iload_n (pc := 60) C dX9_repairDock_60 rfl rfl ?_
      refine r_iadd (pc := 61) C dX9_repairDock_61 ?_
      refine r_iald (pc := 62) C dX9_repairDock_62 (fun v8 => ?_)
      exact r_iret (pc := 63) C dX9_repairDock_63
noncomputable def p_X9_addBikes (a : Nat) (p1 : Int32) (p2 : Int32) : zP Int32 := (z_bd (z_pI 9 a 0 0) (fun _ => (z_bd (z_cv 9 a (p_X9_isStation a p1)) (fun r1 => (if r1 = 0 then (z_bd (z_cv 9 a (p_X9_fail a 1)) (fun r10 => (z_pu r10))) else (z_bd (p_X9_within p2 1 20) (fun r2 => (if r2 = 0 then (z_bd (z_cv 9 a (p_X9_fail a 2)) (fun r9 => (z_pu r9))) else (z_bd (z_cv 9 a (p_X9_free a p1)) (fun r3 => (if p2 ≤ r3 then (z_bd (z_cv 9 a (p_X9_keep a)) (fun _ => (z_bd (z_gA 9 a 19) (fun v5 => (z_bd (z_aI 11 v5 (6 + p1)) (fun v6 => (z_bd (z_sI 11 v5 (6 + p1) (v6 + p2)) (fun _ => (z_bd (z_cv 9 a (p_X9_all a)) (fun r7 => (z_pu r7))))))))))) else (z_bd (z_cv 9 a (p_X9_fail a 3)) (fun r8 => (z_pu r8))))))))))))))
set_option maxHeartbeats 4000000 in
set_option maxRecDepth 100000 in
theorem s_X9_addBikes (a : Nat) (p1 : Int32) (p2 : Int32) : z_Sound yX9_addBikes cX9_addBikes 3 (some .int) 4 86 (fun D b => [.ref (b + a), .int p1, .int p2]) z_ivI (p_X9_addBikes a p1 p2) := by
  refine z_ofSim rfl (by intro D b; exact Nat.le_of_ble_eq_true rfl) (fun X C hT => ?_)
  unfold p_X9_addBikes
  refine r_sub [(0, .ref (x_b X + a)), (1, .int p1), (2, .int p2)] rfl ?_
  refine r_aload_n (pc := 0) C dX9_addBikes_0 rfl rfl ?_
  refine r_iconst (pc := 1) C dX9_addBikes_1 ki_0 ?_
  refine r_putI (pc := 2) C dX9_addBikes_2 fl_X9_76 rfl rfl ?_
  refine r_aload_n (pc := 5) C dX9_addBikes_5 rfl rfl ?_
  refine r_iload_n (pc := 6) C dX9_addBikes_6 rfl rfl ?_
  refine r_cVI (pc := 7) C [.int p1] [] (z_KX.zero hT) (s_X9_isStation a p1) mt_X9_isStation zc_9 dX9_addBikes_7 ml_X9_252 im_X9_isStation se_X9_isStation rfl rfl rfl (Nat.le_of_ble_eq_true rfl) ⟨Nat.le_of_ble_eq_true rfl, Nat.le_of_ble_eq_true rfl⟩ (fun r1 => ?_)
  refine r_if_ne (pc := 10) C (tgt := 19) dX9_addBikes_10 rfl (fun _ => ?_) (fun _ => ?_)
  · refine r_aload_n (pc := 13) C dX9_addBikes_13 rfl rfl ?_
    refine r_iconst (pc := 14) C dX9_addBikes_14 ki_1 ?_
    refine r_cVI (pc := 15) C [.int 1] [] (z_KX.zero hT) (s_X9_fail a 1) mt_X9_fail zc_9 dX9_addBikes_15 ml_X9_222 im_X9_fail se_X9_fail rfl rfl rfl (Nat.le_of_ble_eq_true rfl) ⟨Nat.le_of_ble_eq_true rfl, Nat.le_of_ble_eq_true rfl⟩ (fun r10 => ?_)
    exact r_iret (pc := 18) C dX9_addBikes_18
  · refine r_iload_n (pc := 19) C dX9_addBikes_19 rfl rfl ?_
    refine r_iconst (pc := 20) C dX9_addBikes_20 ki_1 ?_
    refine r_bipush (pc := 21) C dX9_addBikes_21 kb_20 ?_
    refine r_cSI (pc := 23) C [.int p2, .int 1, .int 20] [] (z_KX.zero hT) (s_X9_within p2 1 20) mt_X9_within dX9_addBikes_23 ml_X9_103 sm_X9_within rfl rfl rfl (Nat.le_of_ble_eq_true rfl) ⟨Nat.le_of_ble_eq_true rfl, Nat.le_of_ble_eq_true rfl⟩ (fun r2 => ?_)
    refine r_if_ne (pc := 26) C (tgt := 35) dX9_addBikes_26 rfl (fun _ => ?_) (fun _ => ?_)
    · refine r_aload_n (pc := 29) C dX9_addBikes_29 rfl rfl ?_
      refine r_iconst (pc := 30) C dX9_addBikes_30 ki_2 ?_
      refine r_cVI (pc := 31) C [.int 2] [] (z_KX.zero hT) (s_X9_fail a 2) mt_X9_fail zc_9 dX9_addBikes_31 ml_X9_222 im_X9_fail se_X9_fail rfl rfl rfl (Nat.le_of_ble_eq_true rfl) ⟨Nat.le_of_ble_eq_true rfl, Nat.le_of_ble_eq_true rfl⟩ (fun r9 => ?_)
      exact r_iret (pc := 34) C dX9_addBikes_34
    · refine r_aload_n (pc := 35) C dX9_addBikes_35 rfl rfl ?_
      refine r_iload_n (pc := 36) C dX9_addBikes_36 rfl rfl ?_
      refine r_cVI (pc := 37) C [.int p1] [] (z_KX.zero hT) (s_X9_free a p1) mt_X9_free zc_9 dX9_addBikes_37 ml_X9_215 im_X9_free se_X9_free rfl rfl rfl (Nat.le_of_ble_eq_true rfl) ⟨Nat.le_of_ble_eq_true rfl, Nat.le_of_ble_eq_true rfl⟩ (fun r3 => ?_)
      refine r_iload_n (pc := 40) C dX9_addBikes_40 rfl rfl ?_
      refine r_icmp_ge (pc := 41) C (tgt := 50) dX9_addBikes_41 rfl (fun _ => ?_) (fun _ => ?_)
      · refine r_aload_n (pc := 50) C dX9_addBikes_50 rfl rfl ?_
        refine r_cVV (pc := 51) C [] [] (z_KX.zero hT) (s_X9_keep a) mt_X9_keep zc_9 dX9_addBikes_51 ml_X9_338 im_X9_keep se_X9_keep rfl rfl rfl (Nat.le_of_ble_eq_true rfl) ⟨Nat.le_of_ble_eq_true rfl, Nat.le_of_ble_eq_true rfl⟩ ?_
        refine r_aload_n (pc := 54) C dX9_addBikes_54 rfl rfl ?_
        refine r_getA (pc := 55) C dX9_addBikes_55 fl_X9_32 rfl (fun v5 => ?_)
        refine r_bipush (pc := 58) C dX9_addBikes_58 kb_6 ?_
        refine r_iload_n (pc := 60) C dX9_addBikes_60 rfl rfl ?_
        refine r_iadd (pc := 61) C dX9_addBikes_61 ?_
        refine r_dup2 (pc := 62) C dX9_addBikes_62 rfl rfl ?_
        refine r_iald (pc := 63) C dX9_addBikes_63 (fun v6 => ?_)
        refine r_iload_n (pc := 64) C dX9_addBikes_64 rfl rfl ?_
        refine r_iadd (pc := 65) C dX9_addBikes_65 ?_
        refine r_iast (pc := 66) C dX9_addBikes_66 ?_
        refine r_aload_n (pc := 67) C dX9_addBikes_67 rfl rfl ?_
        refine r_cVI (pc := 68) C [] [] (z_KX.zero hT) (s_X9_all a) mt_X9_all zc_9 dX9_addBikes_68 ml_X9_249 im_X9_all se_X9_all rfl rfl rfl (Nat.le_of_ble_eq_true rfl) ⟨Nat.le_of_ble_eq_true rfl, Nat.le_of_ble_eq_true rfl⟩ (fun r7 => ?_)
        exact r_iret (pc := 71) C dX9_addBikes_71
      · refine r_aload_n (pc := 44) C dX9_addBikes_44 rfl rfl ?_
        refine r_iconst (pc := 45) C dX9_addBikes_45 ki_3 ?_
        refine r_cVI (pc := 46) C [.int 3] [] (z_KX.zero hT) (s_X9_fail a 3) mt_X9_fail zc_9 dX9_addBikes_46 ml_X9_222 im_X9_fail se_X9_fail rfl rfl rfl (Nat.le_of_ble_eq_true rfl) ⟨Nat.le_of_ble_eq_true rfl, Nat.le_of_ble_eq_true rfl⟩ (fun r8 => ?_)
        exact r_iret (pc := 49) C dX9_addBikes_49
noncomputable def p_X9_removeBikes (a : Nat) (p1 : Int32) (p2 : Int32) : zP Int32 := (z_bd (z_pI 9 a 0 0) (fun _ => (z_bd (z_cv 9 a (p_X9_isStation a p1)) (fun r1 => (if r1 = 0 then (z_bd (z_cv 9 a (p_X9_fail a 1)) (fun r11 => (z_pu r11))) else (z_bd (p_X9_within p2 1 20) (fun r2 => (if r2 = 0 then (z_bd (z_cv 9 a (p_X9_fail a 2)) (fun r10 => (z_pu r10))) else (z_bd (z_gA 9 a 19) (fun v3 => (z_bd (z_aI 11 v3 (6 + p1)) (fun v4 => (if p2 ≤ v4 then (z_bd (z_cv 9 a (p_X9_keep a)) (fun _ => (z_bd (z_gA 9 a 19) (fun v6 => (z_bd (z_aI 11 v6 (6 + p1)) (fun v7 => (z_bd (z_sI 11 v6 (6 + p1) (v7 - p2)) (fun _ => (z_bd (z_cv 9 a (p_X9_all a)) (fun r8 => (z_pu r8))))))))))) else (z_bd (z_cv 9 a (p_X9_fail a 3)) (fun r9 => (z_pu r9))))))))))))))))
set_option maxHeartbeats 4000000 in
set_option maxRecDepth 100000 in
theorem s_X9_removeBikes (a : Nat) (p1 : Int32) (p2 : Int32) : z_Sound yX9_removeBikes cX9_removeBikes 3 (some .int) 4 86 (fun D b => [.ref (b + a), .int p1, .int p2]) z_ivI (p_X9_removeBikes a p1 p2) := by
  refine z_ofSim rfl (by intro D b; exact Nat.le_of_ble_eq_true rfl) (fun X C hT => ?_)
  unfold p_X9_removeBikes
  refine r_sub [(0, .ref (x_b X + a)), (1, .int p1), (2, .int p2)] rfl ?_
  refine r_aload_n (pc := 0) C dX9_removeBikes_0 rfl rfl ?_
  refine r_iconst (pc := 1) C dX9_removeBikes_1 ki_0 ?_
  refine r_putI (pc := 2) C dX9_removeBikes_2 fl_X9_76 rfl rfl ?_
  refine r_aload_n (pc := 5) C dX9_removeBikes_5 rfl rfl ?_
  refine r_iload_n (pc := 6) C dX9_removeBikes_6 rfl rfl ?_
  refine r_cVI (pc := 7) C [.int p1] [] (z_KX.zero hT) (s_X9_isStation a p1) mt_X9_isStation zc_9 dX9_removeBikes_7 ml_X9_252 im_X9_isStation se_X9_isStation rfl rfl rfl (Nat.le_of_ble_eq_true rfl) ⟨Nat.le_of_ble_eq_true rfl, Nat.le_of_ble_eq_true rfl⟩ (fun r1 => ?_)
  refine r_if_ne (pc := 10) C (tgt := 19) dX9_removeBikes_10 rfl (fun _ => ?_) (fun _ => ?_)
  · refine r_aload_n (pc := 13) C dX9_removeBikes_13 rfl rfl ?_
    refine r_iconst (pc := 14) C dX9_removeBikes_14 ki_1 ?_
    refine r_cVI (pc := 15) C [.int 1] [] (z_KX.zero hT) (s_X9_fail a 1) mt_X9_fail zc_9 dX9_removeBikes_15 ml_X9_222 im_X9_fail se_X9_fail rfl rfl rfl (Nat.le_of_ble_eq_true rfl) ⟨Nat.le_of_ble_eq_true rfl, Nat.le_of_ble_eq_true rfl⟩ (fun r11 => ?_)
    exact r_iret (pc := 18) C dX9_removeBikes_18
  · refine r_iload_n (pc := 19) C dX9_removeBikes_19 rfl rfl ?_
    refine r_iconst (pc := 20) C dX9_removeBikes_20 ki_1 ?_
    refine r_bipush (pc := 21) C dX9_removeBikes_21 kb_20 ?_
    refine r_cSI (pc := 23) C [.int p2, .int 1, .int 20] [] (z_KX.zero hT) (s_X9_within p2 1 20) mt_X9_within dX9_removeBikes_23 ml_X9_103 sm_X9_within rfl rfl rfl (Nat.le_of_ble_eq_true rfl) ⟨Nat.le_of_ble_eq_true rfl, Nat.le_of_ble_eq_true rfl⟩ (fun r2 => ?_)
    refine r_if_ne (pc := 26) C (tgt := 35) dX9_removeBikes_26 rfl (fun _ => ?_) (fun _ => ?_)
    · refine r_aload_n (pc := 29) C dX9_removeBikes_29 rfl rfl ?_
      refine r_iconst (pc := 30) C dX9_removeBikes_30 ki_2 ?_
      refine r_cVI (pc := 31) C [.int 2] [] (z_KX.zero hT) (s_X9_fail a 2) mt_X9_fail zc_9 dX9_removeBikes_31 ml_X9_222 im_X9_fail se_X9_fail rfl rfl rfl (Nat.le_of_ble_eq_true rfl) ⟨Nat.le_of_ble_eq_true rfl, Nat.le_of_ble_eq_true rfl⟩ (fun r10 => ?_)
      exact r_iret (pc := 34) C dX9_removeBikes_34
    · refine r_aload_n (pc := 35) C dX9_removeBikes_35 rfl rfl ?_
      refine r_getA (pc := 36) C dX9_removeBikes_36 fl_X9_32 rfl (fun v3 => ?_)
      refine r_bipush (pc := 39) C dX9_removeBikes_39 kb_6 ?_
      refine r_iload_n (pc := 41) C dX9_removeBikes_41 rfl rfl ?_
      refine r_iadd (pc := 42) C dX9_removeBikes_42 ?_
      refine r_iald (pc := 43) C dX9_removeBikes_43 (fun v4 => ?_)
      refine r_iload_n (pc := 44) C dX9_removeBikes_44 rfl rfl ?_
      refine r_icmp_ge (pc := 45) C (tgt := 54) dX9_removeBikes_45 rfl (fun _ => ?_) (fun _ => ?_)
      · refine r_aload_n (pc := 54) C dX9_removeBikes_54 rfl rfl ?_
        refine r_cVV (pc := 55) C [] [] (z_KX.zero hT) (s_X9_keep a) mt_X9_keep zc_9 dX9_removeBikes_55 ml_X9_338 im_X9_keep se_X9_keep rfl rfl rfl (Nat.le_of_ble_eq_true rfl) ⟨Nat.le_of_ble_eq_true rfl, Nat.le_of_ble_eq_true rfl⟩ ?_
        refine r_aload_n (pc := 58) C dX9_removeBikes_58 rfl rfl ?_
        refine r_getA (pc := 59) C dX9_removeBikes_59 fl_X9_32 rfl (fun v6 => ?_)
        refine r_bipush (pc := 62) C dX9_removeBikes_62 kb_6 ?_
        refine r_iload_n (pc := 64) C dX9_removeBikes_64 rfl rfl ?_
        refine r_iadd (pc := 65) C dX9_removeBikes_65 ?_
        refine r_dup2 (pc := 66) C dX9_removeBikes_66 rfl rfl ?_
        refine r_iald (pc := 67) C dX9_removeBikes_67 (fun v7 => ?_)
        refine r_iload_n (pc := 68) C dX9_removeBikes_68 rfl rfl ?_
        refine r_isub (pc := 69) C dX9_removeBikes_69 ?_
        refine r_iast (pc := 70) C dX9_removeBikes_70 ?_
        refine r_aload_n (pc := 71) C dX9_removeBikes_71 rfl rfl ?_
        refine r_cVI (pc := 72) C [] [] (z_KX.zero hT) (s_X9_all a) mt_X9_all zc_9 dX9_removeBikes_72 ml_X9_249 im_X9_all se_X9_all rfl rfl rfl (Nat.le_of_ble_eq_true rfl) ⟨Nat.le_of_ble_eq_true rfl, Nat.le_of_ble_eq_true rfl⟩ (fun r8 => ?_)
        exact r_iret (pc := 75) C dX9_removeBikes_75
      · refine r_aload_n (pc := 48) C dX9_removeBikes_48 rfl rfl ?_
        refine r_iconst (pc := 49) C dX9_removeBikes_49 ki_3 ?_
        refine r_cVI (pc := 50) C [.int 3] [] (z_KX.zero hT) (s_X9_fail a 3) mt_X9_fail zc_9 dX9_removeBikes_50 ml_X9_222 im_X9_fail se_X9_fail rfl rfl rfl (Nat.le_of_ble_eq_true rfl) ⟨Nat.le_of_ble_eq_true rfl, Nat.le_of_ble_eq_true rfl⟩ (fun r9 => ?_)
        exact r_iret (pc := 53) C dX9_removeBikes_53
noncomputable def p_X9_undo (a : Nat) : zP Int32 := (z_bd (z_pI 9 a 0 0) (fun _ => (z_bd (z_gI 9 a 21) (fun v1 => (if v1 = 0 then (z_pu (-1)) else (z_bd (z_gI 9 a 21) (fun v2 => (z_bd (z_pI 9 a 21 (v2 - 1)) (fun _ => (z_jn (τ := Unit) (z_lp (fun (t4 : Int32) => (if 3277 ≤ t4 then (z_pu (.inr (.inl ()))) else (z_bd (z_gA 9 a 19) (fun v5 => (z_bd (z_gA 9 a 20) (fun v6 => (z_bd (z_gI 9 a 21) (fun v7 => (z_bd (z_aI 11 v6 ((3277 * v7) + t4)) (fun v8 => (z_bd (z_sI 11 v5 t4 v8) (fun _ => (z_pu (.inl ((t4 + 1)))))))))))))))) 0) (fun t3 => (z_bd (z_gI 9 a 21) (fun v9 => (z_pu v9))))))))))))))
set_option maxHeartbeats 4000000 in
set_option maxRecDepth 100000 in
theorem s_X9_undo (a : Nat) : z_Sound yX9_undo cX9_undo 2 (some .int) 1 20 (fun D b => [.ref (b + a)]) z_ivI (p_X9_undo a) := by
  refine z_ofSim rfl (by intro D b; exact Nat.le_of_ble_eq_true rfl) (fun X C hT => ?_)
  unfold p_X9_undo
  refine r_sub [(0, .ref (x_b X + a))] rfl ?_
  refine r_aload_n (pc := 0) C dX9_undo_0 rfl rfl ?_
  refine r_iconst (pc := 1) C dX9_undo_1 ki_0 ?_
  refine r_putI (pc := 2) C dX9_undo_2 fl_X9_76 rfl rfl ?_
  refine r_aload_n (pc := 5) C dX9_undo_5 rfl rfl ?_
  refine r_getI (pc := 6) C dX9_undo_6 fl_X9_136 rfl (fun v1 => ?_)
  refine r_if_ne (pc := 9) C (tgt := 14) dX9_undo_9 rfl (fun _ => ?_) (fun _ => ?_)
  · refine r_iconst (pc := 12) C dX9_undo_12 ki_m1 ?_
    exact r_iret (pc := 13) C dX9_undo_13
  · refine r_aload_n (pc := 14) C dX9_undo_14 rfl rfl ?_
    refine r_dup (pc := 15) C dX9_undo_15 rfl ?_
    refine r_getI (pc := 16) C dX9_undo_16 fl_X9_136 rfl (fun v2 => ?_)
    refine r_iconst (pc := 19) C dX9_undo_19 ki_1 ?_
    refine r_isub (pc := 20) C dX9_undo_20 ?_
    refine r_putI (pc := 21) C dX9_undo_21 fl_X9_136 rfl rfl ?_
    refine r_iconst (pc := 24) C dX9_undo_24 ki_0 ?_
    refine r_sti_n (pc := 25) C 1 [(0, .ref (x_b X + a)), (1, .int 0)] dX9_undo_25 rfl (by decide) rfl ?_
    refine r_jn 60 (fun (t3 : Unit) => [(0, .ref (x_b X + a))]) (fun (t3 : Unit) => []) (fun t3 => ?_) ?_
    · refine r_aload_n (pc := 60) C dX9_undo_60 rfl rfl ?_
      refine r_getI (pc := 61) C dX9_undo_61 fl_X9_136 rfl (fun v9 => ?_)
      exact r_iret (pc := 64) C dX9_undo_64
    · refine r_sub [(0, .ref (x_b X + a)), (1, .int 0)] rfl ?_
      refine r_lp (pc := 26) (fun (t4 : Int32) => [(0, .ref (x_b X + a)), (1, .int t4)]) (fun t4 => ?_) 0
      refine r_iload_n (pc := 26) C dX9_undo_26 rfl rfl ?_
      refine r_sipush (pc := 27) C dX9_undo_27 ks_3277 ?_
      refine r_icmp_ge (pc := 30) C (tgt := 60) dX9_undo_30 rfl (fun _ => ?_) (fun _ => ?_)
      · refine r_sub [(0, .ref (x_b X + a))] rfl ?_
        exact r_up (r_br (τ := Unit) ())
      · refine r_aload_n (pc := 33) C dX9_undo_33 rfl rfl ?_
        refine r_getA (pc := 34) C dX9_undo_34 fl_X9_32 rfl (fun v5 => ?_)
        refine r_iload_n (pc := 37) C dX9_undo_37 rfl rfl ?_
        refine r_aload_n (pc := 38) C dX9_undo_38 rfl rfl ?_
        refine r_getA (pc := 39) C dX9_undo_39 fl_X9_36 rfl (fun v6 => ?_)
        refine r_sipush (pc := 42) C dX9_undo_42 ks_3277 ?_
        refine r_aload_n (pc := 45) C dX9_undo_45 rfl rfl ?_
        refine r_getI (pc := 46) C dX9_undo_46 fl_X9_136 rfl (fun v7 => ?_)
        refine r_imul (pc := 49) C dX9_undo_49 ?_
        refine r_iload_n (pc := 50) C dX9_undo_50 rfl rfl ?_
        refine r_iadd (pc := 51) C dX9_undo_51 ?_
        refine r_iald (pc := 52) C dX9_undo_52 (fun v8 => ?_)
        refine r_iast (pc := 53) C dX9_undo_53 ?_
        refine r_inc (pc := 54) C 1 [(0, .ref (x_b X + a)), (1, .int (t4 + 1))] dX9_undo_54 rfl ki_1 (by decide) rfl ?_
        refine r_goto (pc := 57) C (tgt := 26) dX9_undo_57 rfl ?_
        refine r_sub [(0, .ref (x_b X + a)), (1, .int (t4 + 1))] rfl ?_
        exact r_br (τ := Int32) ((t4 + 1))
noncomputable def p_X9_saveSnapshot (a : Nat) (p1 : Int32) : zP Int32 := (z_bd (z_pI 9 a 0 0) (fun _ => (z_bd (p_X9_within p1 0 1) (fun r1 => (if r1 = 0 then (z_pu 0) else (z_jn (τ := Unit) (z_lp (fun (t3 : Int32) => (if 3277 ≤ t3 then (z_pu (.inr (.inl ()))) else (z_bd (z_gA 9 a 22) (fun v4 => (z_bd (z_gA 9 a 19) (fun v5 => (z_bd (z_aI 11 v5 t3) (fun v6 => (z_bd (z_sI 11 v4 ((3277 * p1) + t3) v6) (fun _ => (z_pu (.inl ((t3 + 1)))))))))))))) 0) (fun t2 => (z_bd (z_gA 9 a 23) (fun v7 => (z_bd (z_sZ v7 p1 1) (fun _ => (z_pu 1))))))))))))
set_option maxHeartbeats 4000000 in
set_option maxRecDepth 100000 in
theorem s_X9_saveSnapshot (a : Nat) (p1 : Int32) : z_Sound yX9_saveSnapshot cX9_saveSnapshot 3 (some .boolean) 2 42 (fun D b => [.ref (b + a), .int p1]) z_ivI (p_X9_saveSnapshot a p1) := by
  refine z_ofSim rfl (by intro D b; exact Nat.le_of_ble_eq_true rfl) (fun X C hT => ?_)
  unfold p_X9_saveSnapshot
  refine r_sub [(0, .ref (x_b X + a)), (1, .int p1)] rfl ?_
  refine r_aload_n (pc := 0) C dX9_saveSnapshot_0 rfl rfl ?_
  refine r_iconst (pc := 1) C dX9_saveSnapshot_1 ki_0 ?_
  refine r_putI (pc := 2) C dX9_saveSnapshot_2 fl_X9_76 rfl rfl ?_
  refine r_iload_n (pc := 5) C dX9_saveSnapshot_5 rfl rfl ?_
  refine r_iconst (pc := 6) C dX9_saveSnapshot_6 ki_0 ?_
  refine r_iconst (pc := 7) C dX9_saveSnapshot_7 ki_1 ?_
  refine r_cSI (pc := 8) C [.int p1, .int 0, .int 1] [] (z_KX.zero hT) (s_X9_within p1 0 1) mt_X9_within dX9_saveSnapshot_8 ml_X9_103 sm_X9_within rfl rfl rfl (Nat.le_of_ble_eq_true rfl) ⟨Nat.le_of_ble_eq_true rfl, Nat.le_of_ble_eq_true rfl⟩ (fun r1 => ?_)
  refine r_if_ne (pc := 11) C (tgt := 16) dX9_saveSnapshot_11 rfl (fun _ => ?_) (fun _ => ?_)
  · refine r_iconst (pc := 14) C dX9_saveSnapshot_14 ki_0 ?_
    exact r_zret1 (pc := 15) C dX9_saveSnapshot_15 (by decide)
  · refine r_iconst (pc := 16) C dX9_saveSnapshot_16 ki_0 ?_
    refine r_sti_n (pc := 17) C 2 [(0, .ref (x_b X + a)), (1, .int p1), (2, .int 0)] dX9_saveSnapshot_17 rfl (by decide) rfl ?_
    refine r_jn 49 (fun (t2 : Unit) => [(0, .ref (x_b X + a)), (1, .int p1)]) (fun (t2 : Unit) => []) (fun t2 => ?_) ?_
    · refine r_aload_n (pc := 49) C dX9_saveSnapshot_49 rfl rfl ?_
      refine r_getA (pc := 50) C dX9_saveSnapshot_50 fl_X9_42 rfl (fun v7 => ?_)
      refine r_iload_n (pc := 53) C dX9_saveSnapshot_53 rfl rfl ?_
      refine r_iconst (pc := 54) C dX9_saveSnapshot_54 ki_1 ?_
      refine r_zast (pc := 55) C dX9_saveSnapshot_55 ?_
      refine r_iconst (pc := 56) C dX9_saveSnapshot_56 ki_1 ?_
      exact r_zret1 (pc := 57) C dX9_saveSnapshot_57 (by decide)
    · refine r_sub [(0, .ref (x_b X + a)), (1, .int p1), (2, .int 0)] rfl ?_
      refine r_lp (pc := 18) (fun (t3 : Int32) => [(0, .ref (x_b X + a)), (1, .int p1), (2, .int t3)]) (fun t3 => ?_) 0
      refine r_iload_n (pc := 18) C dX9_saveSnapshot_18 rfl rfl ?_
      refine r_sipush (pc := 19) C dX9_saveSnapshot_19 ks_3277 ?_
      refine r_icmp_ge (pc := 22) C (tgt := 49) dX9_saveSnapshot_22 rfl (fun _ => ?_) (fun _ => ?_)
      · refine r_sub [(0, .ref (x_b X + a)), (1, .int p1)] rfl ?_
        exact r_up (r_br (τ := Unit) ())
      · refine r_aload_n (pc := 25) C dX9_saveSnapshot_25 rfl rfl ?_
        refine r_getA (pc := 26) C dX9_saveSnapshot_26 fl_X9_39 rfl (fun v4 => ?_)
        refine r_sipush (pc := 29) C dX9_saveSnapshot_29 ks_3277 ?_
        refine r_iload_n (pc := 32) C dX9_saveSnapshot_32 rfl rfl ?_
        refine r_imul (pc := 33) C dX9_saveSnapshot_33 ?_
        refine r_iload_n (pc := 34) C dX9_saveSnapshot_34 rfl rfl ?_
        refine r_iadd (pc := 35) C dX9_saveSnapshot_35 ?_
        refine r_aload_n (pc := 36) C dX9_saveSnapshot_36 rfl rfl ?_
        refine r_getA (pc := 37) C dX9_saveSnapshot_37 fl_X9_32 rfl (fun v5 => ?_)
        refine r_iload_n (pc := 40) C dX9_saveSnapshot_40 rfl rfl ?_
        refine r_iald (pc := 41) C dX9_saveSnapshot_41 (fun v6 => ?_)
        refine r_iast (pc := 42) C dX9_saveSnapshot_42 ?_
        refine r_inc (pc := 43) C 1 [(0, .ref (x_b X + a)), (1, .int p1), (2, .int (t3 + 1))] dX9_saveSnapshot_43 rfl ki_1 (by decide) rfl ?_
        refine r_goto (pc := 46) C (tgt := 18) dX9_saveSnapshot_46 rfl ?_
        refine r_sub [(0, .ref (x_b X + a)), (1, .int p1), (2, .int (t3 + 1))] rfl ?_
        exact r_br (τ := Int32) ((t3 + 1))
