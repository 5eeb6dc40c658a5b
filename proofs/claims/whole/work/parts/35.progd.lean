noncomputable def p_X6_init (a : Nat) : zP Unit := (z_bd (z_na 11 8) (fun q1 => (z_bd (z_pR 6 a 0 (some q1)) (fun _ => (z_bd (z_na 11 8) (fun q2 => (z_bd (z_pR 6 a 1 (some q2)) (fun _ => (z_bd (z_na 11 8) (fun q3 => (z_bd (z_pR 6 a 2 (some q3)) (fun _ => (z_bd (z_na 11 8) (fun q4 => (z_bd (z_pR 6 a 3 (some q4)) (fun _ => (z_bd (z_na 11 8) (fun q5 => (z_bd (z_pR 6 a 4 (some q5)) (fun _ => (z_bd (z_na 11 256) (fun q6 => (z_bd (z_pR 6 a 5 (some q6)) (fun _ => (z_pu ())))))))))))))))))))))))))
set_option maxHeartbeats 4000000 in
set_option maxRecDepth 100000 in
theorem s_X6_init (a : Nat) : z_Sound yX6_init cX6_init 1 none 1 20 (fun D b => [.ref (b + a)]) z_ivV (p_X6_init a) := by
  refine z_ofSim rfl (by intro D b; exact Nat.le_of_ble_eq_true rfl) (fun X C hT => ?_)
  unfold p_X6_init
  refine r_sub [(0, .ref (x_b X + a))] rfl ?_
  refine r_aload_n (pc := 0) C dX6_init_0 rfl rfl ?_
  refine r_objInit (pc := 1) C dX6_init_1 ml_X6_3 im_obj cd_obj (Nat.le_of_ble_eq_true rfl) (Nat.le_of_ble_eq_true rfl) ?_
  refine r_aload_n (pc := 4) C dX6_init_4 rfl rfl ?_
  refine r_bipush (pc := 5) C dX6_init_5 kb_8 ?_
  refine r_newa (pc := 7) C (c := 11) (by decide) dX6_init_7 ac_int (fun q1 => ?_)
  refine r_putA (pc := 9) C dX6_init_9 fl_X6_9 rfl (Or.inr ⟨rfl, rfl⟩) ?_
  refine r_aload_n (pc := 12) C dX6_init_12 rfl rfl ?_
  refine r_bipush (pc := 13) C dX6_init_13 kb_8 ?_
  refine r_newa (pc := 15) C (c := 11) (by decide) dX6_init_15 ac_int (fun q2 => ?_)
  refine r_putA (pc := 17) C dX6_init_17 fl_X6_15 rfl (Or.inr ⟨rfl, rfl⟩) ?_
  refine r_aload_n (pc := 20) C dX6_init_20 rfl rfl ?_
  refine r_bipush (pc := 21) C dX6_init_21 kb_8 ?_
  refine r_newa (pc := 23) C (c := 11) (by decide) dX6_init_23 ac_int (fun q3 => ?_)
  refine r_putA (pc := 25) C dX6_init_25 fl_X6_18 rfl (Or.inr ⟨rfl, rfl⟩) ?_
  refine r_aload_n (pc := 28) C dX6_init_28 rfl rfl ?_
  refine r_bipush (pc := 29) C dX6_init_29 kb_8 ?_
  refine r_newa (pc := 31) C (c := 11) (by decide) dX6_init_31 ac_int (fun q4 => ?_)
  refine r_putA (pc := 33) C dX6_init_33 fl_X6_21 rfl (Or.inr ⟨rfl, rfl⟩) ?_
  refine r_aload_n (pc := 36) C dX6_init_36 rfl rfl ?_
  refine r_bipush (pc := 37) C dX6_init_37 kb_8 ?_
  refine r_newa (pc := 39) C (c := 11) (by decide) dX6_init_39 ac_int (fun q5 => ?_)
  refine r_putA (pc := 41) C dX6_init_41 fl_X6_24 rfl (Or.inr ⟨rfl, rfl⟩) ?_
  refine r_aload_n (pc := 44) C dX6_init_44 rfl rfl ?_
  refine r_sipush (pc := 45) C dX6_init_45 ks_256 ?_
  refine r_newa (pc := 48) C (c := 11) (by decide) dX6_init_48 ac_int (fun q6 => ?_)
  refine r_putA (pc := 50) C dX6_init_50 fl_X6_27 rfl (Or.inr ⟨rfl, rfl⟩) ?_
  exact r_vret (pc := 53) C dX6_init_53
noncomputable def p_X6_leastMinutesTo (a : Nat) (p1 : Int32) : zP Int32 := (z_lp (fun (t1 : Int32 × Int32) => (z_bd (z_gA 6 a 6) (fun v2 => (z_bd (z_gI 0 v2 10) (fun v3 => (if v3 ≤ t1.2 then (z_pu (.inr t1.1)) else (if t1.2 = p1 then (z_pu (.inl (t1.1, (t1.2 + 1)))) else (z_jn (τ := Unit) (if t1.1 = 0 then (z_pu (.inl ())) else (z_bd (z_gA 6 a 6) (fun v5 => (z_bd (z_cv 0 v5 (p_X0_truckMinutes v5 t1.2 p1)) (fun r6 => (if t1.1 ≤ r6 then (z_pu (.inr (.inl (t1.1, (t1.2 + 1))))) else (z_pu (.inl ())))))))) (fun t4 => (z_bd (z_gA 6 a 6) (fun v7 => (z_bd (z_cv 0 v7 (p_X0_truckMinutes v7 t1.2 p1)) (fun r8 => (z_pu (.inl (r8, (t1.2 + 1))))))))))))))))) (0, 0))
set_option maxHeartbeats 4000000 in
set_option maxRecDepth 100000 in
theorem s_X6_leastMinutesTo (a : Nat) (p1 : Int32) : z_Sound yX6_leastMinutesTo cX6_leastMinutesTo 4 (some .int) 3 66 (fun D b => [.ref (b + a), .int p1]) z_ivI (p_X6_leastMinutesTo a p1) := by
  refine z_ofSim rfl (by intro D b; exact Nat.le_of_ble_eq_true rfl) (fun X C hT => ?_)
  unfold p_X6_leastMinutesTo
  refine r_sub [(0, .ref (x_b X + a)), (1, .int p1)] rfl ?_
  refine r_iconst (pc := 0) C dX6_leastMinutesTo_0 ki_0 ?_
  refine r_sti_n (pc := 1) C 2 [(0, .ref (x_b X + a)), (1, .int p1), (2, .int 0)] dX6_leastMinutesTo_1 rfl (by decide) rfl ?_
  refine r_iconst (pc := 2) C dX6_leastMinutesTo_2 ki_0 ?_
  refine r_sti_n (pc := 3) C 3 [(0, .ref (x_b X + a)), (1, .int p1), (2, .int 0), (3, .int 0)] dX6_leastMinutesTo_3 rfl (by decide) rfl ?_
  refine r_sub [(0, .ref (x_b X + a)), (1, .int p1), (2, .int 0), (3, .int 0)] rfl ?_
  refine r_lp (pc := 4) (fun (t1 : Int32 × Int32) => [(0, .ref (x_b X + a)), (1, .int p1), (2, .int t1.1), (3, .int t1.2)]) (fun t1 => ?_) (0, 0)
  refine r_iload_n (pc := 4) C dX6_leastMinutesTo_4 rfl rfl ?_
  refine r_aload_n (pc := 5) C dX6_leastMinutesTo_5 rfl rfl ?_
  refine r_getA (pc := 6) C dX6_leastMinutesTo_6 fl_X6_36 rfl (fun v2 => ?_)
  refine r_getI (pc := 9) C dX6_leastMinutesTo_9 fl_X6_65 rfl (fun v3 => ?_)
  refine r_icmp_ge (pc := 12) C (tgt := 53) dX6_leastMinutesTo_12 rfl (fun _ => ?_) (fun _ => ?_)
  · refine r_iload_n (pc := 53) C dX6_leastMinutesTo_53 rfl rfl ?_
    exact r_up (r_iret (pc := 54) C dX6_leastMinutesTo_54)
  · refine r_iload_n (pc := 15) C dX6_leastMinutesTo_15 rfl rfl ?_
    refine r_iload_n (pc := 16) C dX6_leastMinutesTo_16 rfl rfl ?_
    refine r_icmp_eq (pc := 17) C (tgt := 47) dX6_leastMinutesTo_17 rfl (fun _ => ?_) (fun _ => ?_)
    · refine r_inc (pc := 47) C 1 [(0, .ref (x_b X + a)), (1, .int p1), (2, .int t1.1), (3, .int (t1.2 + 1))] dX6_leastMinutesTo_47 rfl ki_1 (by decide) rfl ?_
      refine r_goto (pc := 50) C (tgt := 4) dX6_leastMinutesTo_50 rfl ?_
      refine r_sub [(0, .ref (x_b X + a)), (1, .int p1), (2, .int t1.1), (3, .int (t1.2 + 1))] rfl ?_
      exact r_br (τ := Int32 × Int32) (t1.1, (t1.2 + 1))
    · refine r_iload_n (pc := 20) C dX6_leastMinutesTo_20 rfl rfl ?_
      refine r_jn 37 (fun (t4 : Unit) => [(0, .ref (x_b X + a)), (1, .int p1), (3, .int t1.2)]) (fun (t4 : Unit) => []) (fun t4 => ?_) ?_
      · refine r_aload_n (pc := 37) C dX6_leastMinutesTo_37 rfl rfl ?_
        refine r_getA (pc := 38) C dX6_leastMinutesTo_38 fl_X6_36 rfl (fun v7 => ?_)
        refine r_iload_n (pc := 41) C dX6_leastMinutesTo_41 rfl rfl ?_
        refine r_iload_n (pc := 42) C dX6_leastMinutesTo_42 rfl rfl ?_
        refine r_cVI (pc := 43) C [.int t1.2, .int p1] [] (z_KX.up (z_KX.zero hT)) (s_X0_truckMinutes v7 t1.2 p1) mt_X0_truckMinutes zc_0 dX6_leastMinutesTo_43 ml_X6_97 im_X0_truckMinutes se_X0_truckMinutes rfl rfl rfl (Nat.le_of_ble_eq_true rfl) ⟨Nat.le_of_ble_eq_true rfl, Nat.le_of_ble_eq_true rfl⟩ (fun r8 => ?_)
        refine r_sti_n (pc := 46) C 2 [(0, .ref (x_b X + a)), (1, .int p1), (2, .int r8), (3, .int t1.2)] dX6_leastMinutesTo_46 rfl (by decide) rfl ?_
        refine r_inc (pc := 47) C 1 [(0, .ref (x_b X + a)), (1, .int p1), (2, .int r8), (3, .int (t1.2 + 1))] dX6_leastMinutesTo_47 rfl ki_1 (by decide) rfl ?_
        refine r_goto (pc := 50) C (tgt := 4) dX6_leastMinutesTo_50 rfl ?_
        refine r_sub [(0, .ref (x_b X + a)), (1, .int p1), (2, .int r8), (3, .int (t1.2 + 1))] rfl ?_
        exact r_br (τ := Int32 × Int32) (r8, (t1.2 + 1))
      · refine r_if_eq (pc := 21) C (tgt := 37) dX6_leastMinutesTo_21 rfl (fun _ => ?_) (fun _ => ?_)
        · refine r_sub [(0, .ref (x_b X + a)), (1, .int p1), (3, .int t1.2)] rfl ?_
          exact r_br (τ := Unit) ()
        · refine r_aload_n (pc := 24) C dX6_leastMinutesTo_24 rfl rfl ?_
          refine r_getA (pc := 25) C dX6_leastMinutesTo_25 fl_X6_36 rfl (fun v5 => ?_)
          refine r_iload_n (pc := 28) C dX6_leastMinutesTo_28 rfl rfl ?_
          refine r_iload_n (pc := 29) C dX6_leastMinutesTo_29 rfl rfl ?_
          refine r_cVI (pc := 30) C [.int t1.2, .int p1] [] (z_KX.up (z_KX.up (z_KX.zero hT))) (s_X0_truckMinutes v5 t1.2 p1) mt_X0_truckMinutes zc_0 dX6_leastMinutesTo_30 ml_X6_97 im_X0_truckMinutes se_X0_truckMinutes rfl rfl rfl (Nat.le_of_ble_eq_true rfl) ⟨Nat.le_of_ble_eq_true rfl, Nat.le_of_ble_eq_true rfl⟩ (fun r6 => ?_)
          refine r_iload_n (pc := 33) C dX6_leastMinutesTo_33 rfl rfl ?_
          refine r_icmp_ge (pc := 34) C (tgt := 47) dX6_leastMinutesTo_34 rfl (fun _ => ?_) (fun _ => ?_)
          · refine r_inc (pc := 47) C 1 [(0, .ref (x_b X + a)), (1, .int p1), (2, .int t1.1), (3, .int (t1.2 + 1))] dX6_leastMinutesTo_47 rfl ki_1 (by decide) rfl ?_
            refine r_goto (pc := 50) C (tgt := 4) dX6_leastMinutesTo_50 rfl ?_
            refine r_sub [(0, .ref (x_b X + a)), (1, .int p1), (2, .int t1.1), (3, .int (t1.2 + 1))] rfl ?_
            exact r_up (r_br (τ := Int32 × Int32) (t1.1, (t1.2 + 1)))
          · refine r_sub [(0, .ref (x_b X + a)), (1, .int p1), (3, .int t1.2)] rfl ?_
            exact r_br (τ := Unit) ()
noncomputable def p_X6_prepare (a : Nat) (p1 : Nat) (p2 : Int32) : zP Unit := (z_bd (z_cv 5 p1 (p_X5_mark p1 p2)) (fun r1 => (z_bd (z_gA 6 a 2) (fun v2 => (z_bd (z_cv 5 p1 (p_X5_free p1 p2)) (fun r3 => (z_bd (z_sI 11 v2 p2 (r1 - r3)) (fun _ => (z_bd (z_gA 6 a 3) (fun v4 => (z_bd (z_gA 5 p1 0) (fun v5 => (z_bd (z_aI 11 v5 p2) (fun v6 => (z_bd (z_sI 11 v4 p2 (v6 - r1)) (fun _ => (z_bd (z_gA 6 a 4) (fun v7 => (z_bd (z_sI 11 v7 p2 0) (fun _ => (z_bd (z_cv 5 p1 (p_X5_missing p1 p2)) (fun r8 => (if r8 ≤ 0 then (z_pu ()) else (z_bd (z_gI 6 a 9) (fun v9 => (z_bd (z_pI 6 a 9 (v9 ||| (1 <<< (p2 &&& 31)))) (fun _ => (z_bd (z_gA 6 a 4) (fun v10 => (z_bd (z_cv 6 a (p_X6_leastMinutesTo a p2)) (fun r11 => (z_bd (z_sI 11 v10 p2 r11) (fun _ => (z_pu ()))))))))))))))))))))))))))))))))))
set_option maxHeartbeats 4000000 in
set_option maxRecDepth 100000 in
theorem s_X6_prepare (a : Nat) (p1 : Nat) (p2 : Int32) : z_Sound yX6_prepare cX6_prepare 4 none 4 89 (fun D b => [.ref (b + a), .ref (b + p1), .int p2]) z_ivV (p_X6_prepare a p1 p2) := by
  refine z_ofSim rfl (by intro D b; exact Nat.le_of_ble_eq_true rfl) (fun X C hT => ?_)
  unfold p_X6_prepare
  refine r_sub [(0, .ref (x_b X + a)), (1, .ref (x_b X + p1)), (2, .int p2)] rfl ?_
  refine r_aload_n (pc := 0) C dX6_prepare_0 rfl rfl ?_
  refine r_iload_n (pc := 1) C dX6_prepare_1 rfl rfl ?_
  refine r_cVI (pc := 2) C [.int p2] [] (z_KX.zero hT) (s_X5_mark p1 p2) mt_X5_mark zc_5 dX6_prepare_2 ml_X6_81 im_X5_mark se_X5_mark rfl rfl rfl (Nat.le_of_ble_eq_true rfl) ⟨Nat.le_of_ble_eq_true rfl, Nat.le_of_ble_eq_true rfl⟩ (fun r1 => ?_)
  refine r_sti_n (pc := 5) C 3 [(0, .ref (x_b X + a)), (1, .ref (x_b X + p1)), (2, .int p2), (3, .int r1)] dX6_prepare_5 rfl (by decide) rfl ?_
  refine r_aload_n (pc := 6) C dX6_prepare_6 rfl rfl ?_
  refine r_getA (pc := 7) C dX6_prepare_7 fl_X6_18 rfl (fun v2 => ?_)
  refine r_iload_n (pc := 10) C dX6_prepare_10 rfl rfl ?_
  refine r_iload_n (pc := 11) C dX6_prepare_11 rfl rfl ?_
  refine r_aload_n (pc := 12) C dX6_prepare_12 rfl rfl ?_
  refine r_iload_n (pc := 13) C dX6_prepare_13 rfl rfl ?_
  refine r_cVI (pc := 14) C [.int p2] [.int r1, .int p2, .ref (x_b X + v2)] (z_KX.zero hT) (s_X5_free p1 p2) mt_X5_free zc_5 dX6_prepare_14 ml_X6_85 im_X5_free se_X5_free rfl rfl rfl (Nat.le_of_ble_eq_true rfl) ⟨Nat.le_of_ble_eq_true rfl, Nat.le_of_ble_eq_true rfl⟩ (fun r3 => ?_)
  refine r_isub (pc := 17) C dX6_prepare_17 ?_
  refine r_iast (pc := 18) C dX6_prepare_18 ?_
  refine r_aload_n (pc := 19) C dX6_prepare_19 rfl rfl ?_
  refine r_getA (pc := 20) C dX6_prepare_20 fl_X6_21 rfl (fun v4 => ?_)
  refine r_iload_n (pc := 23) C dX6_prepare_23 rfl rfl ?_
  refine r_aload_n (pc := 24) C dX6_prepare_24 rfl rfl ?_
  refine r_getA (pc := 25) C dX6_prepare_25 fl_X6_88 rfl (fun v5 => ?_)
  refine r_iload_n (pc := 28) C dX6_prepare_28 rfl rfl ?_
  refine r_iald (pc := 29) C dX6_prepare_29 (fun v6 => ?_)
  refine r_iload_n (pc := 30) C dX6_prepare_30 rfl rfl ?_
  refine r_isub (pc := 31) C dX6_prepare_31 ?_
  refine r_iast (pc := 32) C dX6_prepare_32 ?_
  refine r_aload_n (pc := 33) C dX6_prepare_33 rfl rfl ?_
  refine r_getA (pc := 34) C dX6_prepare_34 fl_X6_24 rfl (fun v7 => ?_)
  refine r_iload_n (pc := 37) C dX6_prepare_37 rfl rfl ?_
  refine r_iconst (pc := 38) C dX6_prepare_38 ki_0 ?_
  refine r_iast (pc := 39) C dX6_prepare_39 ?_
  refine r_aload_n (pc := 40) C dX6_prepare_40 rfl rfl ?_
  refine r_iload_n (pc := 41) C dX6_prepare_41 rfl rfl ?_
  refine r_cVI (pc := 42) C [.int p2] [] (z_KX.zero hT) (s_X5_missing p1 p2) mt_X5_missing zc_5 dX6_prepare_42 ml_X6_91 im_X5_missing se_X5_missing rfl rfl rfl (Nat.le_of_ble_eq_true rfl) ⟨Nat.le_of_ble_eq_true rfl, Nat.le_of_ble_eq_true rfl⟩ (fun r8 => ?_)
  refine r_if_le (pc := 45) C (tgt := 71) dX6_prepare_45 rfl (fun _ => ?_) (fun _ => ?_)
  · exact r_vret (pc := 71) C dX6_prepare_71
  · refine r_aload_n (pc := 48) C dX6_prepare_48 rfl rfl ?_
    refine r_dup (pc := 49) C dX6_prepare_49 rfl ?_
    refine r_getI (pc := 50) C dX6_prepare_50 fl_X6_50 rfl (fun v9 => ?_)
    refine r_iconst (pc := 53) C dX6_prepare_53 ki_1 ?_
    refine r_iload_n (pc := 54) C dX6_prepare_54 rfl rfl ?_
    refine r_ishl (pc := 55) C dX6_prepare_55 ?_
    refine r_ior (pc := 56) C dX6_prepare_56 ?_
    refine r_putI (pc := 57) C dX6_prepare_57 fl_X6_50 rfl rfl ?_
    refine r_aload_n (pc := 60) C dX6_prepare_60 rfl rfl ?_
    refine r_getA (pc := 61) C dX6_prepare_61 fl_X6_24 rfl (fun v10 => ?_)
    refine r_iload_n (pc := 64) C dX6_prepare_64 rfl rfl ?_
    refine r_aload_n (pc := 65) C dX6_prepare_65 rfl rfl ?_
    refine r_iload_n (pc := 66) C dX6_prepare_66 rfl rfl ?_
    refine r_cVI (pc := 67) C [.int p2] [.int p2, .ref (x_b X + v10)] (z_KX.zero hT) (s_X6_leastMinutesTo a p2) mt_X6_leastMinutesTo zc_6 dX6_prepare_67 ml_X6_94 im_X6_leastMinutesTo se_X6_leastMinutesTo rfl rfl rfl (Nat.le_of_ble_eq_true rfl) ⟨Nat.le_of_ble_eq_true rfl, Nat.le_of_ble_eq_true rfl⟩ (fun r11 => ?_)
    refine r_iast (pc := 70) C dX6_prepare_70 ?_
    exact r_vret (pc := 71) C dX6_prepare_71
noncomputable def p_X6_keepPath (a : Nat) (p1 : Int32) (p2 : Int32) : zP Unit := (z_bd (z_pI 6 a 10 p2) (fun _ => (z_bd (z_pI 6 a 11 p1) (fun _ => (z_bd (z_gA 6 a 1) (fun v1 => (z_bd (z_gA 6 a 0) (fun v2 => (z_bd (z_cp v1 0 v2 0 p1) (fun _ => (z_pu ())))))))))))
set_option maxHeartbeats 4000000 in
set_option maxRecDepth 100000 in
theorem s_X6_keepPath (a : Nat) (p1 : Int32) (p2 : Int32) : z_Sound yX6_keepPath cX6_keepPath 3 none 1 20 (fun D b => [.ref (b + a), .int p1, .int p2]) z_ivV (p_X6_keepPath a p1 p2) := by
  refine z_ofSim rfl (by intro D b; exact Nat.le_of_ble_eq_true rfl) (fun X C hT => ?_)
  unfold p_X6_keepPath
  refine r_sub [(0, .ref (x_b X + a)), (1, .int p1), (2, .int p2)] rfl ?_
  refine r_aload_n (pc := 0) C dX6_keepPath_0 rfl rfl ?_
  refine r_iload_n (pc := 1) C dX6_keepPath_1 rfl rfl ?_
  refine r_putI (pc := 2) C dX6_keepPath_2 fl_X6_53 rfl rfl ?_
  refine r_aload_n (pc := 5) C dX6_keepPath_5 rfl rfl ?_
  refine r_iload_n (pc := 6) C dX6_keepPath_6 rfl rfl ?_
  refine r_putI (pc := 7) C dX6_keepPath_7 fl_X6_56 rfl rfl ?_
  refine r_aload_n (pc := 10) C dX6_keepPath_10 rfl rfl ?_
  refine r_getA (pc := 11) C dX6_keepPath_11 fl_X6_15 rfl (fun v1 => ?_)
  refine r_iconst (pc := 14) C dX6_keepPath_14 ki_0 ?_
  refine r_aload_n (pc := 15) C dX6_keepPath_15 rfl rfl ?_
  refine r_getA (pc := 16) C dX6_keepPath_16 fl_X6_9 rfl (fun v2 => ?_)
  refine r_iconst (pc := 19) C dX6_keepPath_19 ki_0 ?_
  refine r_iload_n (pc := 20) C dX6_keepPath_20 rfl rfl ?_
  refine r_copy (pc := 21) C dX6_keepPath_21 ml_X6_129 na_acopy sm_acopy ini_sys (Nat.le_of_ble_eq_true rfl) (Nat.le_of_ble_eq_true rfl) ?_
  exact r_vret (pc := 24) C dX6_keepPath_24
noncomputable def p_X6_loads (p1 : Int32) (p2 : Int32) : zP Int32 := (z_pu ((2 <<< (p2 &&& 31)) - (1 <<< (p1 &&& 31))))
set_option maxHeartbeats 4000000 in
set_option maxRecDepth 100000 in
theorem s_X6_loads (p1 : Int32) (p2 : Int32) : z_Sound yX6_loads cX6_loads 2 (some .int) 1 20 (fun D b => [.int p1, .int p2]) z_ivI (p_X6_loads p1 p2) := by
  refine z_ofSim rfl (by intro D b; exact Nat.le_of_ble_eq_true rfl) (fun X C hT => ?_)
  unfold p_X6_loads
  refine r_sub [(0, .int p1), (1, .int p2)] rfl ?_
  refine r_iconst (pc := 0) C dX6_loads_0 ki_2 ?_
  refine r_iload_n (pc := 1) C dX6_loads_1 rfl rfl ?_
  refine r_ishl (pc := 2) C dX6_loads_2 ?_
  refine r_iconst (pc := 3) C dX6_loads_3 ki_1 ?_
  refine r_iload_n (pc := 4) C dX6_loads_4 rfl rfl ?_
  refine r_ishl (pc := 5) C dX6_loads_5 ?_
  refine r_isub (pc := 6) C dX6_loads_6 ?_
  exact r_iret (pc := 7) C dX6_loads_7
noncomputable def p_X6_minutesTo (a : Nat) (p1 : Int32) (p2 : Int32) (p3 : Int32) : zP Int32 := (z_jn (τ := Unit) (if p1 = 0 then (z_bd (z_gI 6 a 7) (fun v2 => (if p3 = v2 then (z_pu (.inr 0)) else (z_pu (.inl ()))))) else (z_pu (.inl ()))) (fun t1 => (z_bd (z_gA 6 a 6) (fun v3 => (z_bd (z_cv 0 v3 (p_X0_truckMinutes v3 p2 p3)) (fun r4 => (z_pu r4)))))))
set_option maxHeartbeats 4000000 in
set_option maxRecDepth 100000 in
theorem s_X6_minutesTo (a : Nat) (p1 : Int32) (p2 : Int32) (p3 : Int32) : z_Sound yX6_minutesTo cX6_minutesTo 4 (some .int) 3 66 (fun D b => [.ref (b + a), .int p1, .int p2, .int p3]) z_ivI (p_X6_minutesTo a p1 p2 p3) := by
  refine z_ofSim rfl (by intro D b; exact Nat.le_of_ble_eq_true rfl) (fun X C hT => ?_)
  unfold p_X6_minutesTo
  refine r_sub [(0, .ref (x_b X + a)), (1, .int p1), (2, .int p2), (3, .int p3)] rfl ?_
  refine r_iload_n (pc := 0) C dX6_minutesTo_0 rfl rfl ?_
  refine r_jn 16 (fun (t1 : Unit) => [(0, .ref (x_b X + a)), (2, .int p2), (3, .int p3)]) (fun (t1 : Unit) => []) (fun t1 => ?_) ?_
  · refine r_aload_n (pc := 16) C dX6_minutesTo_16 rfl rfl ?_
    refine r_getA (pc := 17) C dX6_minutesTo_17 fl_X6_36 rfl (fun v3 => ?_)
    refine r_iload_n (pc := 20) C dX6_minutesTo_20 rfl rfl ?_
    refine r_iload_n (pc := 21) C dX6_minutesTo_21 rfl rfl ?_
    refine r_cVI (pc := 22) C [.int p2, .int p3] [] (z_KX.zero hT) (s_X0_truckMinutes v3 p2 p3) mt_X0_truckMinutes zc_0 dX6_minutesTo_22 ml_X6_97 im_X0_truckMinutes se_X0_truckMinutes rfl rfl rfl (Nat.le_of_ble_eq_true rfl) ⟨Nat.le_of_ble_eq_true rfl, Nat.le_of_ble_eq_true rfl⟩ (fun r4 => ?_)
    exact r_iret (pc := 25) C dX6_minutesTo_25
  · refine r_if_ne (pc := 1) C (tgt := 16) dX6_minutesTo_1 rfl (fun _ => ?_) (fun _ => ?_)
    · refine r_iload_n (pc := 4) C dX6_minutesTo_4 rfl rfl ?_
      refine r_aload_n (pc := 5) C dX6_minutesTo_5 rfl rfl ?_
      refine r_getI (pc := 6) C dX6_minutesTo_6 fl_X6_43 rfl (fun v2 => ?_)
      refine r_icmp_ne (pc := 9) C (tgt := 16) dX6_minutesTo_9 rfl (fun _ => ?_) (fun _ => ?_)
      · refine r_iconst (pc := 12) C dX6_minutesTo_12 ki_0 ?_
        refine r_goto (pc := 13) C (tgt := 25) dX6_minutesTo_13 rfl ?_
        exact r_up (r_iret (pc := 25) C dX6_minutesTo_25)
      · refine r_sub [(0, .ref (x_b X + a)), (2, .int p2), (3, .int p3)] rfl ?_
        exact r_br (τ := Unit) ()
    · refine r_sub [(0, .ref (x_b X + a)), (2, .int p2), (3, .int p3)] rfl ?_
      exact r_br (τ := Unit) ()
noncomputable def p_X6_mayBeBest (a : Nat) (p1 : Int32) (p2 : Int32) (p3 : Int32) : zP Int32 := (z_bd (z_gI 6 a 9) (fun v1 => (z_bd (p_J6_bitCount_0f7a4 (v1 &&& (p2 ^^^ (-1)))) (fun r2 => (z_bd (z_pu ((p1 + r2))) (fun x3 => (z_bd (z_gI 6 a 10) (fun v4 => (if v4 = (-1) then (z_pu 1) else (z_bd (z_gI 6 a 10) (fun v5 => (if p3 < v5 then (z_pu 1) else (z_bd (z_gI 6 a 10) (fun v6 => (if p3 = v6 then (z_bd (z_gI 6 a 11) (fun v7 => (if v7 ≤ x3 then (z_pu 0) else (z_pu 1)))) else (z_pu 0))))))))))))))))
set_option maxHeartbeats 4000000 in
set_option maxRecDepth 100000 in
theorem s_X6_mayBeBest (a : Nat) (p1 : Int32) (p2 : Int32) (p3 : Int32) : z_Sound yX6_mayBeBest cX6_mayBeBest 5 (some .boolean) 2 40 (fun D b => [.ref (b + a), .int p1, .int p2, .int p3]) z_ivI (p_X6_mayBeBest a p1 p2 p3) := by
  refine z_ofSim rfl (by intro D b; exact Nat.le_of_ble_eq_true rfl) (fun X C hT => ?_)
  unfold p_X6_mayBeBest
  refine r_sub [(0, .ref (x_b X + a)), (1, .int p1), (2, .int p2), (3, .int p3)] rfl ?_
  refine r_iload_n (pc := 0) C dX6_mayBeBest_0 rfl rfl ?_
  refine r_aload_n (pc := 1) C dX6_mayBeBest_1 rfl rfl ?_
  refine r_getI (pc := 2) C dX6_mayBeBest_2 fl_X6_50 rfl (fun v1 => ?_)
  refine r_iload_n (pc := 5) C dX6_mayBeBest_5 rfl rfl ?_
  refine r_iconst (pc := 6) C dX6_mayBeBest_6 ki_m1 ?_
  refine r_ixor (pc := 7) C dX6_mayBeBest_7 ?_
  refine r_iand (pc := 8) C dX6_mayBeBest_8 ?_
  refine r_cSI (pc := 9) C [.int (v1 &&& (p2 ^^^ (-1)))] [.int p1] (z_KX.zero hT) (s_J6_bitCount_0f7a4 (v1 &&& (p2 ^^^ (-1)))) mt_J6_bitCount_0f7a4 dX6_mayBeBest_9 ml_X6_124 sm_J6_bitCount_0f7a4 rfl rfl rfl (Nat.le_of_ble_eq_true rfl) ⟨Nat.le_of_ble_eq_true rfl, Nat.le_of_ble_eq_true rfl⟩ (fun r2 => ?_)
  refine r_iadd (pc := 12) C dX6_mayBeBest_12 ?_
  refine r_sti (pc := 13) C [(0, .ref (x_b X + a)), (3, .int p3), (4, .int (p1 + r2))] dX6_mayBeBest_13 (by decide) rfl ?_
  refine r_let ((p1 + r2)) (fun x3 => [(0, .ref (x_b X + a)), (3, .int p3), (4, .int x3)]) (fun x3 => []) (fun x3 => ?_)
  refine r_aload_n (pc := 15) C dX6_mayBeBest_15 rfl rfl ?_
  refine r_getI (pc := 16) C dX6_mayBeBest_16 fl_X6_53 rfl (fun v4 => ?_)
  refine r_iconst (pc := 19) C dX6_mayBeBest_19 ki_m1 ?_
  refine r_icmp_eq (pc := 20) C (tgt := 48) dX6_mayBeBest_20 rfl (fun _ => ?_) (fun _ => ?_)
  · refine r_iconst (pc := 48) C dX6_mayBeBest_48 ki_1 ?_
    refine r_goto (pc := 49) C (tgt := 53) dX6_mayBeBest_49 rfl ?_
    exact r_zret1 (pc := 53) C dX6_mayBeBest_53 (by decide)
  · refine r_iload_n (pc := 23) C dX6_mayBeBest_23 rfl rfl ?_
    refine r_aload_n (pc := 24) C dX6_mayBeBest_24 rfl rfl ?_
    refine r_getI (pc := 25) C dX6_mayBeBest_25 fl_X6_53 rfl (fun v5 => ?_)
    refine r_icmp_lt (pc := 28) C (tgt := 48) dX6_mayBeBest_28 rfl (fun _ => ?_) (fun _ => ?_)
    · refine r_iconst (pc := 48) C dX6_mayBeBest_48 ki_1 ?_
      refine r_goto (pc := 49) C (tgt := 53) dX6_mayBeBest_49 rfl ?_
      exact r_zret1 (pc := 53) C dX6_mayBeBest_53 (by decide)
    · refine r_iload_n (pc := 31) C dX6_mayBeBest_31 rfl rfl ?_
      refine r_aload_n (pc := 32) C dX6_mayBeBest_32 rfl rfl ?_
      refine r_getI (pc := 33) C dX6_mayBeBest_33 fl_X6_53 rfl (fun v6 => ?_)
      refine r_icmp_ne (pc := 36) C (tgt := 52) dX6_mayBeBest_36 rfl (fun _ => ?_) (fun _ => ?_)
      · refine r_iload (pc := 39) C dX6_mayBeBest_39 rfl ?_
        refine r_aload_n (pc := 41) C dX6_mayBeBest_41 rfl rfl ?_
        refine r_getI (pc := 42) C dX6_mayBeBest_42 fl_X6_56 rfl (fun v7 => ?_)
        refine r_icmp_ge (pc := 45) C (tgt := 52) dX6_mayBeBest_45 rfl (fun _ => ?_) (fun _ => ?_)
        · refine r_iconst (pc := 52) C dX6_mayBeBest_52 ki_0 ?_
          exact r_zret1 (pc := 53) C dX6_mayBeBest_53 (by decide)
        · refine r_iconst (pc := 48) C dX6_mayBeBest_48 ki_1 ?_
          refine r_goto (pc := 49) C (tgt := 53) dX6_mayBeBest_49 rfl ?_
          exact r_zret1 (pc := 53) C dX6_mayBeBest_53 (by decide)
      · refine r_iconst (pc := 52) C dX6_mayBeBest_52 ki_0 ?_
        exact r_zret1 (pc := 53) C dX6_mayBeBest_53 (by decide)
noncomputable def p_X6_visitF (rec : Nat → Int32 → Int32 → Int32 → Int32 → Int32 → Int32 → zP Unit) (a : Nat) (p1 : Int32) (p2 : Int32) (p3 : Int32) (p4 : Int32) (p5 : Int32) (p6 : Int32) : zP Unit := (z_bd (z_gI 6 a 9) (fun v1 => (if (v1 &&& (p3 ^^^ (-1))) = 0 then (z_bd (z_cv 6 a (p_X6_keepPath a p1 p6)) (fun _ => (z_pu ()))) else (z_jn (τ := Unit) (z_lp (fun (t3 : Int32) => (z_bd (z_gA 6 a 6) (fun v4 => (z_bd (z_gI 0 v4 10) (fun v5 => (if v5 ≤ t3 then (z_pu (.inr (.inl ()))) else (if 8 ≤ p1 then (z_pu (.inr (.inl ()))) else (z_bd (z_pu ((p3 ||| (1 <<< (t3 &&& 31))))) (fun x6 => (z_bd (z_gA 6 a 2) (fun v7 => (z_bd (z_aI 11 v7 t3) (fun v8 => (z_bd (z_pu (if (0 : Int32) < (p4 + v8) then (p4 + v8) else 0)) (fun x9 => (z_bd (z_gI 6 a 8) (fun v10 => (z_bd (z_gA 6 a 3) (fun v11 => (z_bd (z_aI 11 v11 t3) (fun v12 => (z_bd (z_pu (if (p5 + v12) < v10 then (p5 + v12) else v10)) (fun x13 => (if x6 = p3 then (z_pu (.inl ((t3 + 1)))) else (if x13 < x9 then (z_pu (.inl ((t3 + 1)))) else (z_bd (p_X6_loads x9 x13) (fun r14 => (z_bd (z_gA 6 a 5) (fun v15 => (z_bd (z_aI 11 v15 x6) (fun v16 => (if (r14 &&& (v16 ^^^ (-1))) = 0 then (z_pu (.inl ((t3 + 1)))) else (z_bd (z_cv 6 a (p_X6_minutesTo a p1 p2 t3)) (fun r17 => (z_bd (z_gA 6 a 4) (fun v18 => (z_bd (z_aI 11 v18 t3) (fun v19 => (z_bd (z_pu (((p6 + r17) - v19))) (fun x20 => (z_bd (z_cv 6 a (p_X6_mayBeBest a (p1 + 1) x6 x20)) (fun r21 => (if r21 = 0 then (z_pu (.inl ((t3 + 1)))) else (z_bd (z_gA 6 a 1) (fun v22 => (z_bd (z_sI 11 v22 p1 t3) (fun _ => (z_bd (z_cv 6 a (rec a (p1 + 1) t3 x6 x9 x13 x20)) (fun _ => (z_pu (.inl ((t3 + 1))))))))))))))))))))))))))))))))))))))))))))))))))))) 0) (fun t2 => (z_bd (z_gI 6 a 10) (fun v24 => (if v24 = (-1) then (z_bd (z_gA 6 a 5) (fun v25 => (z_bd (z_aI 11 v25 p3) (fun v26 => (z_bd (p_X6_loads p4 p5) (fun r27 => (z_bd (z_sI 11 v25 p3 (v26 ||| r27)) (fun _ => (z_pu ()))))))))) else (z_pu ())))))))))
noncomputable def p_X6_visitD : Nat → Nat → Int32 → Int32 → Int32 → Int32 → Int32 → Int32 → zP Unit
  | 0 => fun _ _ _ _ _ _ _ => z_fl
  | d + 1 => p_X6_visitF (p_X6_visitD d)
set_option maxHeartbeats 4000000 in
set_option maxRecDepth 100000 in
theorem s_X6_visitF (fr lo : Nat) (rec : Nat → Int32 → Int32 → Int32 → Int32 → Int32 → Int32 → zP Unit) (hrec : ∀ (a : Nat) (p1 : Int32) (p2 : Int32) (p3 : Int32) (p4 : Int32) (p5 : Int32) (p6 : Int32), z_Sound yX6_visit cX6_visit 12 none (4 + fr) (89 + lo) (fun D b => [.ref (b + a), .int p1, .int p2, .int p3, .int p4, .int p5, .int p6]) z_ivV (rec a p1 p2 p3 p4 p5 p6)) (a : Nat) (p1 : Int32) (p2 : Int32) (p3 : Int32) (p4 : Int32) (p5 : Int32) (p6 : Int32) : z_Sound yX6_visit cX6_visit 12 none (4 + fr + 1) (8 + (12 + 11) + (89 + lo)) (fun D b => [.ref (b + a), .int p1, .int p2, .int p3, .int p4, .int p5, .int p6]) z_ivV (p_X6_visitF rec a p1 p2 p3 p4 p5 p6) := by
  refine z_ofSim rfl (by intro D b; exact Nat.le_of_ble_eq_true rfl) (fun X C hT => ?_)
  unfold p_X6_visitF
  refine r_sub [(0, .ref (x_b X + a)), (1, .int p1), (2, .int p2), (3, .int p3), (4, .int p4), (5, .int p5), (6, .int p6)] rfl ?_
  refine r_aload_n (pc := 0) C dX6_visit_0 rfl rfl ?_
  refine r_getI (pc := 1) C dX6_visit_1 fl_X6_50 rfl (fun v1 => ?_)
  refine r_iload_n (pc := 4) C dX6_visit_4 rfl rfl ?_
  refine r_iconst (pc := 5) C dX6_visit_5 ki_m1 ?_
  refine r_ixor (pc := 6) C dX6_visit_6 ?_
  refine r_iand (pc := 7) C dX6_visit_7 ?_
  refine r_if_ne (pc := 8) C (tgt := 19) dX6_visit_8 rfl (fun _ => ?_) (fun _ => ?_)
  · refine r_aload_n (pc := 11) C dX6_visit_11 rfl rfl ?_
    refine r_iload_n (pc := 12) C dX6_visit_12 rfl rfl ?_
    refine r_iload (pc := 13) C dX6_visit_13 rfl ?_
    refine r_cVV (pc := 15) C [.int p1, .int p6] [] (z_KX.zero hT) (s_X6_keepPath a p1 p6) mt_X6_keepPath zc_6 dX6_visit_15 ml_X6_101 im_X6_keepPath se_X6_keepPath rfl rfl rfl (Nat.le_of_ble_eq_true rfl) ⟨by omega, by omega⟩ ?_
    exact r_vret (pc := 18) C dX6_visit_18
  · refine r_iconst (pc := 19) C dX6_visit_19 ki_0 ?_
    refine r_sti (pc := 20) C [(0, .ref (x_b X + a)), (1, .int p1), (2, .int p2), (3, .int p3), (4, .int p4), (5, .int p5), (6, .int p6), (7, .int 0)] dX6_visit_20 (by decide) rfl ?_
    refine r_jn 185 (fun (t2 : Unit) => [(0, .ref (x_b X + a)), (3, .int p3), (4, .int p4), (5, .int p5)]) (fun (t2 : Unit) => []) (fun t2 => ?_) ?_
    · refine r_aload_n (pc := 185) C dX6_visit_185 rfl rfl ?_
      refine r_getI (pc := 186) C dX6_visit_186 fl_X6_53 rfl (fun v24 => ?_)
      refine r_iconst (pc := 189) C dX6_visit_189 ki_m1 ?_
      refine r_icmp_ne (pc := 190) C (tgt := 209) dX6_visit_190 rfl (fun _ => ?_) (fun _ => ?_)
      · refine r_aload_n (pc := 193) C dX6_visit_193 rfl rfl ?_
        refine r_getA (pc := 194) C dX6_visit_194 fl_X6_27 rfl (fun v25 => ?_)
        refine r_iload_n (pc := 197) C dX6_visit_197 rfl rfl ?_
        refine r_dup2 (pc := 198) C dX6_visit_198 rfl rfl ?_
        refine r_iald (pc := 199) C dX6_visit_199 (fun v26 => ?_)
        refine r_iload (pc := 200) C dX6_visit_200 rfl ?_
        refine r_iload (pc := 202) C dX6_visit_202 rfl ?_
        refine r_cSI (pc := 204) C [.int p4, .int p5] [.int v26, .int p3, .ref (x_b X + v25)] (z_KX.zero hT) (s_X6_loads p4 p5) mt_X6_loads dX6_visit_204 ml_X6_113 sm_X6_loads rfl rfl rfl (Nat.le_of_ble_eq_true rfl) ⟨by omega, by omega⟩ (fun r27 => ?_)
        refine r_ior (pc := 207) C dX6_visit_207 ?_
        refine r_iast (pc := 208) C dX6_visit_208 ?_
        exact r_vret (pc := 209) C dX6_visit_209
      · exact r_vret (pc := 209) C dX6_visit_209
    · refine r_sub [(0, .ref (x_b X + a)), (1, .int p1), (2, .int p2), (3, .int p3), (4, .int p4), (5, .int p5), (6, .int p6), (7, .int 0)] rfl ?_
      refine r_lp (pc := 22) (fun (t3 : Int32) => [(0, .ref (x_b X + a)), (1, .int p1), (2, .int p2), (3, .int p3), (4, .int p4), (5, .int p5), (6, .int p6), (7, .int t3)]) (fun t3 => ?_) 0
      refine r_iload (pc := 22) C dX6_visit_22 rfl ?_
      refine r_aload_n (pc := 24) C dX6_visit_24 rfl rfl ?_
      refine r_getA (pc := 25) C dX6_visit_25 fl_X6_36 rfl (fun v4 => ?_)
      refine r_getI (pc := 28) C dX6_visit_28 fl_X6_65 rfl (fun v5 => ?_)
      refine r_icmp_ge (pc := 31) C (tgt := 185) dX6_visit_31 rfl (fun _ => ?_) (fun _ => ?_)
      · refine r_sub [(0, .ref (x_b X + a)), (3, .int p3), (4, .int p4), (5, .int p5)] rfl ?_
        exact r_up (r_br (τ := Unit) ())
      · refine r_iload_n (pc := 34) C dX6_visit_34 rfl rfl ?_
        refine r_bipush (pc := 35) C dX6_visit_35 kb_8 ?_
        refine r_icmp_ge (pc := 37) C (tgt := 185) dX6_visit_37 rfl (fun _ => ?_) (fun _ => ?_)
        · refine r_sub [(0, .ref (x_b X + a)), (3, .int p3), (4, .int p4), (5, .int p5)] rfl ?_
          exact r_up (r_br (τ := Unit) ())
        · refine r_iload_n (pc := 40) C dX6_visit_40 rfl rfl ?_
          refine r_iconst (pc := 41) C dX6_visit_41 ki_1 ?_
          refine r_iload (pc := 42) C dX6_visit_42 rfl ?_
          refine r_ishl (pc := 44) C dX6_visit_44 ?_
          refine r_ior (pc := 45) C dX6_visit_45 ?_
          refine r_sti (pc := 46) C [(0, .ref (x_b X + a)), (1, .int p1), (2, .int p2), (3, .int p3), (4, .int p4), (5, .int p5), (6, .int p6), (7, .int t3), (8, .int (p3 ||| (1 <<< (t3 &&& 31))))] dX6_visit_46 (by decide) rfl ?_
          refine r_let ((p3 ||| (1 <<< (t3 &&& 31)))) (fun x6 => [(0, .ref (x_b X + a)), (1, .int p1), (2, .int p2), (3, .int p3), (4, .int p4), (5, .int p5), (6, .int p6), (7, .int t3), (8, .int x6)]) (fun x6 => []) (fun x6 => ?_)
          refine r_iconst (pc := 48) C dX6_visit_48 ki_0 ?_
          refine r_iload (pc := 49) C dX6_visit_49 rfl ?_
          refine r_aload_n (pc := 51) C dX6_visit_51 rfl rfl ?_
          refine r_getA (pc := 52) C dX6_visit_52 fl_X6_18 rfl (fun v7 => ?_)
          refine r_iload (pc := 55) C dX6_visit_55 rfl ?_
          refine r_iald (pc := 57) C dX6_visit_57 (fun v8 => ?_)
          refine r_iadd (pc := 58) C dX6_visit_58 ?_
          refine r_max (pc := 59) C dX6_visit_59 ml_X6_105 sm_max ini_math cd_max (by omega) (Nat.le_trans (m := 30) (Nat.le_of_ble_eq_true rfl) (by omega)) ?_
          refine r_sub [(0, .ref (x_b X + a)), (1, .int p1), (2, .int p2), (3, .int p3), (4, .int p4), (5, .int p5), (6, .int p6), (7, .int t3), (8, .int x6)] rfl ?_
          refine r_let (if (0 : Int32) < (p4 + v8) then (p4 + v8) else 0) (fun x9 => [(0, .ref (x_b X + a)), (1, .int p1), (2, .int p2), (3, .int p3), (4, .int p4), (5, .int p5), (6, .int p6), (7, .int t3), (8, .int x6)]) (fun x9 => [.int x9]) (fun x9 => ?_)
          refine r_sti (pc := 62) C [(0, .ref (x_b X + a)), (1, .int p1), (2, .int p2), (3, .int p3), (4, .int p4), (5, .int p5), (6, .int p6), (7, .int t3), (8, .int x6), (9, .int x9)] dX6_visit_62 (by decide) rfl ?_
          refine r_aload_n (pc := 64) C dX6_visit_64 rfl rfl ?_
          refine r_getI (pc := 65) C dX6_visit_65 fl_X6_49 rfl (fun v10 => ?_)
          refine r_iload (pc := 68) C dX6_visit_68 rfl ?_
          refine r_aload_n (pc := 70) C dX6_visit_70 rfl rfl ?_
          refine r_getA (pc := 71) C dX6_visit_71 fl_X6_21 rfl (fun v11 => ?_)
          refine r_iload (pc := 74) C dX6_visit_74 rfl ?_
          refine r_iald (pc := 76) C dX6_visit_76 (fun v12 => ?_)
          refine r_iadd (pc := 77) C dX6_visit_77 ?_
          refine r_min (pc := 78) C dX6_visit_78 ml_X6_110 sm_min ini_math cd_min (by omega) (Nat.le_trans (m := 30) (Nat.le_of_ble_eq_true rfl) (by omega)) ?_
          refine r_sub [(0, .ref (x_b X + a)), (1, .int p1), (2, .int p2), (3, .int p3), (4, .int p4), (5, .int p5), (6, .int p6), (7, .int t3), (8, .int x6), (9, .int x9)] rfl ?_
          refine r_let (if (p5 + v12) < v10 then (p5 + v12) else v10) (fun x13 => [(0, .ref (x_b X + a)), (1, .int p1), (2, .int p2), (3, .int p3), (4, .int p4), (5, .int p5), (6, .int p6), (7, .int t3), (8, .int x6), (9, .int x9)]) (fun x13 => [.int x13]) (fun x13 => ?_)
          refine r_sti (pc := 81) C [(0, .ref (x_b X + a)), (1, .int p1), (2, .int p2), (3, .int p3), (4, .int p4), (5, .int p5), (6, .int p6), (7, .int t3), (8, .int x6), (9, .int x9), (10, .int x13)] dX6_visit_81 (by decide) rfl ?_
          refine r_iload (pc := 83) C dX6_visit_83 rfl ?_
          refine r_iload_n (pc := 85) C dX6_visit_85 rfl rfl ?_
          refine r_icmp_eq (pc := 86) C (tgt := 179) dX6_visit_86 rfl (fun _ => ?_) (fun _ => ?_)
          · refine r_inc (pc := 179) C 1 [(0, .ref (x_b X + a)), (1, .int p1), (2, .int p2), (3, .int p3), (4, .int p4), (5, .int p5), (6, .int p6), (7, .int (t3 + 1))] dX6_visit_179 rfl ki_1 (by decide) rfl ?_
            refine r_goto (pc := 182) C (tgt := 22) dX6_visit_182 rfl ?_
            refine r_sub [(0, .ref (x_b X + a)), (1, .int p1), (2, .int p2), (3, .int p3), (4, .int p4), (5, .int p5), (6, .int p6), (7, .int (t3 + 1))] rfl ?_
            exact r_br (τ := Int32) ((t3 + 1))
          · refine r_iload (pc := 89) C dX6_visit_89 rfl ?_
            refine r_iload (pc := 91) C dX6_visit_91 rfl ?_
            refine r_icmp_gt (pc := 93) C (tgt := 179) dX6_visit_93 rfl (fun _ => ?_) (fun _ => ?_)
            · refine r_inc (pc := 179) C 1 [(0, .ref (x_b X + a)), (1, .int p1), (2, .int p2), (3, .int p3), (4, .int p4), (5, .int p5), (6, .int p6), (7, .int (t3 + 1))] dX6_visit_179 rfl ki_1 (by decide) rfl ?_
              refine r_goto (pc := 182) C (tgt := 22) dX6_visit_182 rfl ?_
              refine r_sub [(0, .ref (x_b X + a)), (1, .int p1), (2, .int p2), (3, .int p3), (4, .int p4), (5, .int p5), (6, .int p6), (7, .int (t3 + 1))] rfl ?_
              exact r_br (τ := Int32) ((t3 + 1))
            · refine r_iload (pc := 96) C dX6_visit_96 rfl ?_
              refine r_iload (pc := 98) C dX6_visit_98 rfl ?_
              refine r_cSI (pc := 100) C [.int x9, .int x13] [] (z_KX.up (z_KX.up (z_KX.zero hT))) (s_X6_loads x9 x13) mt_X6_loads dX6_visit_100 ml_X6_113 sm_X6_loads rfl rfl rfl (Nat.le_of_ble_eq_true rfl) ⟨by omega, by omega⟩ (fun r14 => ?_)
              refine r_aload_n (pc := 103) C dX6_visit_103 rfl rfl ?_
              refine r_getA (pc := 104) C dX6_visit_104 fl_X6_27 rfl (fun v15 => ?_)
              refine r_iload (pc := 107) C dX6_visit_107 rfl ?_
              refine r_iald (pc := 109) C dX6_visit_109 (fun v16 => ?_)
              refine r_iconst (pc := 110) C dX6_visit_110 ki_m1 ?_
              refine r_ixor (pc := 111) C dX6_visit_111 ?_
              refine r_iand (pc := 112) C dX6_visit_112 ?_
              refine r_if_ne (pc := 113) C (tgt := 119) dX6_visit_113 rfl (fun _ => ?_) (fun _ => ?_)
              · refine r_goto (pc := 116) C (tgt := 179) dX6_visit_116 rfl ?_
                refine r_inc (pc := 179) C 1 [(0, .ref (x_b X + a)), (1, .int p1), (2, .int p2), (3, .int p3), (4, .int p4), (5, .int p5), (6, .int p6), (7, .int (t3 + 1))] dX6_visit_179 rfl ki_1 (by decide) rfl ?_
                refine r_goto (pc := 182) C (tgt := 22) dX6_visit_182 rfl ?_
                refine r_sub [(0, .ref (x_b X + a)), (1, .int p1), (2, .int p2), (3, .int p3), (4, .int p4), (5, .int p5), (6, .int p6), (7, .int (t3 + 1))] rfl ?_
                exact r_br (τ := Int32) ((t3 + 1))
              · refine r_iload (pc := 119) C dX6_visit_119 rfl ?_
                refine r_aload_n (pc := 121) C dX6_visit_121 rfl rfl ?_
                refine r_iload_n (pc := 122) C dX6_visit_122 rfl rfl ?_
                refine r_iload_n (pc := 123) C dX6_visit_123 rfl rfl ?_
                refine r_iload (pc := 124) C dX6_visit_124 rfl ?_
                refine r_cVI (pc := 126) C [.int p1, .int p2, .int t3] [.int p6] (z_KX.up (z_KX.up (z_KX.zero hT))) (s_X6_minutesTo a p1 p2 t3) mt_X6_minutesTo zc_6 dX6_visit_126 ml_X6_116 im_X6_minutesTo se_X6_minutesTo rfl rfl rfl (Nat.le_of_ble_eq_true rfl) ⟨by omega, by omega⟩ (fun r17 => ?_)
                refine r_iadd (pc := 129) C dX6_visit_129 ?_
                refine r_aload_n (pc := 130) C dX6_visit_130 rfl rfl ?_
                refine r_getA (pc := 131) C dX6_visit_131 fl_X6_24 rfl (fun v18 => ?_)
                refine r_iload (pc := 134) C dX6_visit_134 rfl ?_
                refine r_iald (pc := 136) C dX6_visit_136 (fun v19 => ?_)
                refine r_isub (pc := 137) C dX6_visit_137 ?_
                refine r_sti (pc := 138) C [(0, .ref (x_b X + a)), (1, .int p1), (2, .int p2), (3, .int p3), (4, .int p4), (5, .int p5), (6, .int p6), (7, .int t3), (8, .int x6), (9, .int x9), (10, .int x13), (11, .int ((p6 + r17) - v19))] dX6_visit_138 (by decide) rfl ?_
                refine r_let (((p6 + r17) - v19)) (fun x20 => [(0, .ref (x_b X + a)), (1, .int p1), (2, .int p2), (3, .int p3), (4, .int p4), (5, .int p5), (6, .int p6), (7, .int t3), (8, .int x6), (9, .int x9), (10, .int x13), (11, .int x20)]) (fun x20 => []) (fun x20 => ?_)
                refine r_aload_n (pc := 140) C dX6_visit_140 rfl rfl ?_
                refine r_iload_n (pc := 141) C dX6_visit_141 rfl rfl ?_
                refine r_iconst (pc := 142) C dX6_visit_142 ki_1 ?_
                refine r_iadd (pc := 143) C dX6_visit_143 ?_
                refine r_iload (pc := 144) C dX6_visit_144 rfl ?_
                refine r_iload (pc := 146) C dX6_visit_146 rfl ?_
                refine r_cVI (pc := 148) C [.int (p1 + 1), .int x6, .int x20] [] (z_KX.up (z_KX.up (z_KX.zero hT))) (s_X6_mayBeBest a (p1 + 1) x6 x20) mt_X6_mayBeBest zc_6 dX6_visit_148 ml_X6_120 im_X6_mayBeBest se_X6_mayBeBest rfl rfl rfl (Nat.le_of_ble_eq_true rfl) ⟨by omega, by omega⟩ (fun r21 => ?_)
                refine r_if_eq (pc := 151) C (tgt := 179) dX6_visit_151 rfl (fun _ => ?_) (fun _ => ?_)
                · refine r_inc (pc := 179) C 1 [(0, .ref (x_b X + a)), (1, .int p1), (2, .int p2), (3, .int p3), (4, .int p4), (5, .int p5), (6, .int p6), (7, .int (t3 + 1))] dX6_visit_179 rfl ki_1 (by decide) rfl ?_
                  refine r_goto (pc := 182) C (tgt := 22) dX6_visit_182 rfl ?_
                  refine r_sub [(0, .ref (x_b X + a)), (1, .int p1), (2, .int p2), (3, .int p3), (4, .int p4), (5, .int p5), (6, .int p6), (7, .int (t3 + 1))] rfl ?_
                  exact r_br (τ := Int32) ((t3 + 1))
                · refine r_aload_n (pc := 154) C dX6_visit_154 rfl rfl ?_
                  refine r_getA (pc := 155) C dX6_visit_155 fl_X6_15 rfl (fun v22 => ?_)
                  refine r_iload_n (pc := 158) C dX6_visit_158 rfl rfl ?_
                  refine r_iload (pc := 159) C dX6_visit_159 rfl ?_
                  refine r_iast (pc := 161) C dX6_visit_161 ?_
                  refine r_aload_n (pc := 162) C dX6_visit_162 rfl rfl ?_
                  refine r_iload_n (pc := 163) C dX6_visit_163 rfl rfl ?_
                  refine r_iconst (pc := 164) C dX6_visit_164 ki_1 ?_
                  refine r_iadd (pc := 165) C dX6_visit_165 ?_
                  refine r_iload (pc := 166) C dX6_visit_166 rfl ?_
                  refine r_iload (pc := 168) C dX6_visit_168 rfl ?_
                  refine r_iload (pc := 170) C dX6_visit_170 rfl ?_
                  refine r_iload (pc := 172) C dX6_visit_172 rfl ?_
                  refine r_iload (pc := 174) C dX6_visit_174 rfl ?_
                  refine r_cVV (pc := 176) C [.int (p1 + 1), .int t3, .int x6, .int x9, .int x13, .int x20] [] (z_KX.up (z_KX.up (z_KX.zero hT))) (hrec a (p1 + 1) t3 x6 x9 x13 x20) mt_X6_visit zc_6 dX6_visit_176 ml_X6_77 im_X6_visit se_X6_visit rfl rfl rfl (Nat.le_of_ble_eq_true rfl) ⟨Nat.le_refl _, Nat.le_refl _⟩ ?_
                  refine r_inc (pc := 179) C 1 [(0, .ref (x_b X + a)), (1, .int p1), (2, .int p2), (3, .int p3), (4, .int p4), (5, .int p5), (6, .int p6), (7, .int (t3 + 1))] dX6_visit_179 rfl ki_1 (by decide) rfl ?_
                  refine r_goto (pc := 182) C (tgt := 22) dX6_visit_182 rfl ?_
                  refine r_sub [(0, .ref (x_b X + a)), (1, .int p1), (2, .int p2), (3, .int p3), (4, .int p4), (5, .int p5), (6, .int p6), (7, .int (t3 + 1))] rfl ?_
                  exact r_br (τ := Int32) ((t3 + 1))
set_option maxHeartbeats 4000000 in
set_option maxRecDepth 100000 in
theorem s_X6_visitD : ∀ (d : Nat) (a : Nat) (p1 : Int32) (p2 : Int32) (p3 : Int32) (p4 : Int32) (p5 : Int32) (p6 : Int32), z_Sound yX6_visit cX6_visit 12 none (4 + d) (89 + d * 31) (fun D b => [.ref (b + a), .int p1, .int p2, .int p3, .int p4, .int p5, .int p6]) z_ivV (p_X6_visitD d a p1 p2 p3 p4 p5 p6)
  | 0, a, p1, p2, p3, p4, p5, p6 => z_sound_fl
  | d + 1, a, p1, p2, p3, p4, p5, p6 => by
    have h := s_X6_visitF d (d * 31) (p_X6_visitD d) (s_X6_visitD d) a p1 p2 p3 p4 p5 p6
    rw [show 89 + (d + 1) * 31 = 8 + (12 + 11) + (89 + d * 31) by omega, show 4 + (d + 1) = 4 + d + 1 from rfl]
    exact h
noncomputable def p_X6_visit (a : Nat) (p1 : Int32) (p2 : Int32) (p3 : Int32) (p4 : Int32) (p5 : Int32) (p6 : Int32) : zP Unit := p_X6_visitD 10 a p1 p2 p3 p4 p5 p6
set_option maxHeartbeats 4000000 in
set_option maxRecDepth 100000 in
theorem s_X6_visit (a : Nat) (p1 : Int32) (p2 : Int32) (p3 : Int32) (p4 : Int32) (p5 : Int32) (p6 : Int32) : z_Sound yX6_visit cX6_visit 12 none 14 399 (fun D b => [.ref (b + a), .int p1, .int p2, .int p3, .int p4, .int p5, .int p6]) z_ivV (p_X6_visit a p1 p2 p3 p4 p5 p6) := s_X6_visitD 10 a p1 p2 p3 p4 p5 p6
noncomputable def p_X6_search (a : Nat) (p1 : Nat) (p2 : Nat) : zP Unit := (z_bd (z_gA 5 p1 6) (fun v1 => (z_bd (z_pR 6 a 6 (some v1)) (fun _ => (z_bd (z_gI 7 p2 5) (fun v2 => (z_bd (z_pI 6 a 7 v2) (fun _ => (z_bd (z_gI 7 p2 3) (fun v3 => (z_bd (z_pI 6 a 8 v3) (fun _ => (z_bd (z_pI 6 a 9 0) (fun _ => (z_bd (z_pI 6 a 10 (-1)) (fun _ => (z_bd (z_pI 6 a 11 0) (fun _ => (z_bd (z_gA 6 a 5) (fun v4 => (z_bd (p_J7_fill_53178 v4 0) (fun _ => (z_jn (τ := Int32) (z_lp (fun (t7 : Int32 × Int32) => (z_bd (z_gA 6 a 6) (fun v8 => (z_bd (z_gI 0 v8 10) (fun v9 => (if v9 ≤ t7.2 then (z_pu (.inr (.inl t7.1))) else (z_bd (z_cv 6 a (p_X6_prepare a p1 t7.2)) (fun _ => (z_bd (z_gA 6 a 4) (fun v11 => (z_bd (z_aI 11 v11 t7.2) (fun v12 => (z_bd (z_pu ((t7.1 + v12))) (fun x13 => (z_pu (.inl (x13, (t7.2 + 1)))))))))))))))))) (0, 0)) (fun t6 => (z_bd (z_gI 6 a 7) (fun v14 => (z_bd (z_gI 7 p2 4) (fun v15 => (z_bd (z_gI 7 p2 4) (fun v16 => (z_bd (z_cv 6 a (p_X6_visit a 0 v14 0 v15 v16 t6)) (fun _ => (z_pu ())))))))))))))))))))))))))))))))))
set_option maxHeartbeats 4000000 in
set_option maxRecDepth 100000 in
theorem s_X6_search (a : Nat) (p1 : Nat) (p2 : Nat) : z_Sound yX6_search cX6_search 5 none 15 430 (fun D b => [.ref (b + a), .ref (b + p1), .ref (b + p2)]) z_ivV (p_X6_search a p1 p2) := by
  refine z_ofSim rfl (by intro D b; exact Nat.le_of_ble_eq_true rfl) (fun X C hT => ?_)
  unfold p_X6_search
  refine r_sub [(0, .ref (x_b X + a)), (1, .ref (x_b X + p1)), (2, .ref (x_b X + p2))] rfl ?_
  refine r_aload_n (pc := 0) C dX6_search_0 rfl rfl ?_
  refine r_aload_n (pc := 1) C dX6_search_1 rfl rfl ?_
  refine r_getA (pc := 2) C dX6_search_2 fl_X6_30 rfl (fun v1 => ?_)
  refine r_putA (pc := 5) C dX6_search_5 fl_X6_36 rfl (Or.inl rfl) ?_
  refine r_aload_n (pc := 8) C dX6_search_8 rfl rfl ?_
  refine r_aload_n (pc := 9) C dX6_search_9 rfl rfl ?_
  refine r_getI (pc := 10) C dX6_search_10 fl_X6_37 rfl (fun v2 => ?_)
  refine r_putI (pc := 13) C dX6_search_13 fl_X6_43 rfl rfl ?_
  refine r_aload_n (pc := 16) C dX6_search_16 rfl rfl ?_
  refine r_aload_n (pc := 17) C dX6_search_17 rfl rfl ?_
  refine r_getI (pc := 18) C dX6_search_18 fl_X6_46 rfl (fun v3 => ?_)
  refine r_putI (pc := 21) C dX6_search_21 fl_X6_49 rfl rfl ?_
  refine r_aload_n (pc := 24) C dX6_search_24 rfl rfl ?_
  refine r_iconst (pc := 25) C dX6_search_25 ki_0 ?_
  refine r_putI (pc := 26) C dX6_search_26 fl_X6_50 rfl rfl ?_
  refine r_aload_n (pc := 29) C dX6_search_29 rfl rfl ?_
  refine r_iconst (pc := 30) C dX6_search_30 ki_m1 ?_
  refine r_putI (pc := 31) C dX6_search_31 fl_X6_53 rfl rfl ?_
  refine r_aload_n (pc := 34) C dX6_search_34 rfl rfl ?_
  refine r_iconst (pc := 35) C dX6_search_35 ki_0 ?_
  refine r_putI (pc := 36) C dX6_search_36 fl_X6_56 rfl rfl ?_
  refine r_aload_n (pc := 39) C dX6_search_39 rfl rfl ?_
  refine r_getA (pc := 40) C dX6_search_40 fl_X6_27 rfl (fun v4 => ?_)
  refine r_iconst (pc := 43) C dX6_search_43 ki_0 ?_
  refine r_cSV (pc := 44) C [.ref (x_b X + v4), .int 0] [] (z_KX.zero hT) (s_J7_fill_53178 v4 0) mt_J7_fill_53178 dX6_search_44 ml_X6_59 sm_J7_fill_53178 rfl rfl rfl (Nat.le_of_ble_eq_true rfl) ⟨Nat.le_of_ble_eq_true rfl, Nat.le_of_ble_eq_true rfl⟩ ?_
  refine r_iconst (pc := 47) C dX6_search_47 ki_0 ?_
  refine r_sti_n (pc := 48) C 3 [(0, .ref (x_b X + a)), (1, .ref (x_b X + p1)), (2, .ref (x_b X + p2)), (3, .int 0)] dX6_search_48 rfl (by decide) rfl ?_
  refine r_iconst (pc := 49) C dX6_search_49 ki_0 ?_
  refine r_sti (pc := 50) C [(0, .ref (x_b X + a)), (1, .ref (x_b X + p1)), (2, .ref (x_b X + p2)), (3, .int 0), (4, .int 0)] dX6_search_50 (by decide) rfl ?_
  refine r_jn 87 (fun (t6 : Int32) => [(0, .ref (x_b X + a)), (2, .ref (x_b X + p2)), (3, .int t6)]) (fun (t6 : Int32) => []) (fun t6 => ?_) ?_
  · refine r_aload_n (pc := 87) C dX6_search_87 rfl rfl ?_
    refine r_iconst (pc := 88) C dX6_search_88 ki_0 ?_
    refine r_aload_n (pc := 89) C dX6_search_89 rfl rfl ?_
    refine r_getI (pc := 90) C dX6_search_90 fl_X6_43 rfl (fun v14 => ?_)
    refine r_iconst (pc := 93) C dX6_search_93 ki_0 ?_
    refine r_aload_n (pc := 94) C dX6_search_94 rfl rfl ?_
    refine r_getI (pc := 95) C dX6_search_95 fl_X6_74 rfl (fun v15 => ?_)
    refine r_aload_n (pc := 98) C dX6_search_98 rfl rfl ?_
    refine r_getI (pc := 99) C dX6_search_99 fl_X6_74 rfl (fun v16 => ?_)
    refine r_iload_n (pc := 102) C dX6_search_102 rfl rfl ?_
    refine r_cVV (pc := 103) C [.int 0, .int v14, .int 0, .int v15, .int v16, .int t6] [] (z_KX.zero hT) (s_X6_visit a 0 v14 0 v15 v16 t6) mt_X6_visit zc_6 dX6_search_103 ml_X6_77 im_X6_visit se_X6_visit rfl rfl rfl (Nat.le_of_ble_eq_true rfl) ⟨Nat.le_of_ble_eq_true rfl, Nat.le_of_ble_eq_true rfl⟩ ?_
    exact r_vret (pc := 106) C dX6_search_106
  · refine r_sub [(0, .ref (x_b X + a)), (1, .ref (x_b X + p1)), (2, .ref (x_b X + p2)), (3, .int 0), (4, .int 0)] rfl ?_
    refine r_lp (pc := 52) (fun (t7 : Int32 × Int32) => [(0, .ref (x_b X + a)), (1, .ref (x_b X + p1)), (2, .ref (x_b X + p2)), (3, .int t7.1), (4, .int t7.2)]) (fun t7 => ?_) (0, 0)
    refine r_iload (pc := 52) C dX6_search_52 rfl ?_
    refine r_aload_n (pc := 54) C dX6_search_54 rfl rfl ?_
    refine r_getA (pc := 55) C dX6_search_55 fl_X6_36 rfl (fun v8 => ?_)
    refine r_getI (pc := 58) C dX6_search_58 fl_X6_65 rfl (fun v9 => ?_)
    refine r_icmp_ge (pc := 61) C (tgt := 87) dX6_search_61 rfl (fun _ => ?_) (fun _ => ?_)
    · refine r_sub [(0, .ref (x_b X + a)), (2, .ref (x_b X + p2)), (3, .int t7.1)] rfl ?_
      exact r_up (r_br (τ := Int32) t7.1)
    · refine r_aload_n (pc := 64) C dX6_search_64 rfl rfl ?_
      refine r_aload_n (pc := 65) C dX6_search_65 rfl rfl ?_
      refine r_iload (pc := 66) C dX6_search_66 rfl ?_
      refine r_cVV (pc := 68) C [.ref (x_b X + p1), .int t7.2] [] (z_KX.up (z_KX.up (z_KX.zero hT))) (s_X6_prepare a p1 t7.2) mt_X6_prepare zc_6 dX6_search_68 ml_X6_70 im_X6_prepare se_X6_prepare rfl rfl rfl (Nat.le_of_ble_eq_true rfl) ⟨Nat.le_of_ble_eq_true rfl, Nat.le_of_ble_eq_true rfl⟩ ?_
      refine r_iload_n (pc := 71) C dX6_search_71 rfl rfl ?_
      refine r_aload_n (pc := 72) C dX6_search_72 rfl rfl ?_
      refine r_getA (pc := 73) C dX6_search_73 fl_X6_24 rfl (fun v11 => ?_)
      refine r_iload (pc := 76) C dX6_search_76 rfl ?_
      refine r_iald (pc := 78) C dX6_search_78 (fun v12 => ?_)
      refine r_iadd (pc := 79) C dX6_search_79 ?_
      refine r_sti_n (pc := 80) C 3 [(0, .ref (x_b X + a)), (1, .ref (x_b X + p1)), (2, .ref (x_b X + p2)), (3, .int (t7.1 + v12)), (4, .int t7.2)] dX6_search_80 rfl (by decide) rfl ?_
      refine r_let ((t7.1 + v12)) (fun x13 => [(0, .ref (x_b X + a)), (1, .ref (x_b X + p1)), (2, .ref (x_b X + p2)), (3, .int x13), (4, .int t7.2)]) (fun x13 => []) (fun x13 => ?_)
      refine r_inc (pc := 81) C 1 [(0, .ref (x_b X + a)), (1, .ref (x_b X + p1)), (2, .ref (x_b X + p2)), (3, .int x13), (4, .int (t7.2 + 1))] dX6_search_81 rfl ki_1 (by decide) rfl ?_
      refine r_goto (pc := 84) C (tgt := 52) dX6_search_84 rfl ?_
      refine r_sub [(0, .ref (x_b X + a)), (1, .ref (x_b X + p1)), (2, .ref (x_b X + p2)), (3, .int x13), (4, .int (t7.2 + 1))] rfl ?_
      exact r_br (τ := Int32 × Int32) (x13, (t7.2 + 1))
