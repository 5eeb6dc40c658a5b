noncomputable def p_X9_bringBack (a : Nat) : zP Unit := (z_lp (fun (t1 : Int32) => (if 3277 ≤ t1 then (z_pu (.inr ())) else (z_bd (z_gA 9 a 19) (fun v2 => (z_bd (z_gA 9 a 24) (fun v3 => (z_bd (z_aI 11 v3 t1) (fun v4 => (z_bd (z_sI 11 v2 t1 v4) (fun _ => (z_pu (.inl ((t1 + 1)))))))))))))) 0)
set_option maxHeartbeats 4000000 in
set_option maxRecDepth 100000 in
theorem s_X9_bringBack (a : Nat) : z_Sound yX9_bringBack cX9_bringBack 2 none 1 20 (fun D b => [.ref (b + a)]) z_ivV (p_X9_bringBack a) := by
  refine z_ofSim rfl (by intro D b; exact Nat.le_of_ble_eq_true rfl) (fun X C hT => ?_)
  unfold p_X9_bringBack
  refine r_sub [(0, .ref (x_b X + a))] rfl ?_
  refine r_iconst (pc := 0) C dX9_bringBack_0 ki_0 ?_
  refine r_sti_n (pc := 1) C 1 [(0, .ref (x_b X + a)), (1, .int 0)] dX9_bringBack_1 rfl (by decide) rfl ?_
  refine r_sub [(0, .ref (x_b X + a)), (1, .int 0)] rfl ?_
  refine r_lp (pc := 2) (fun (t1 : Int32) => [(0, .ref (x_b X + a)), (1, .int t1)]) (fun t1 => ?_) 0
  refine r_iload_n (pc := 2) C dX9_bringBack_2 rfl rfl ?_
  refine r_sipush (pc := 3) C dX9_bringBack_3 ks_3277 ?_
  refine r_icmp_ge (pc := 6) C (tgt := 27) dX9_bringBack_6 rfl (fun _ => ?_) (fun _ => ?_)
  · exact r_up (r_vret (pc := 27) C dX9_bringBack_27)
  · refine r_aload_n (pc := 9) C dX9_bringBack_9 rfl rfl ?_
    refine r_getA (pc := 10) C dX9_bringBack_10 fl_X9_32 rfl (fun v2 => ?_)
    refine r_iload_n (pc := 13) C dX9_bringBack_13 rfl rfl ?_
    refine r_aload_n (pc := 14) C dX9_bringBack_14 rfl rfl ?_
    refine r_getA (pc := 15) C dX9_bringBack_15 fl_X9_46 rfl (fun v3 => ?_)
    refine r_iload_n (pc := 18) C dX9_bringBack_18 rfl rfl ?_
    refine r_iald (pc := 19) C dX9_bringBack_19 (fun v4 => ?_)
    refine r_iast (pc := 20) C dX9_bringBack_20 ?_
    refine r_inc (pc := 21) C 1 [(0, .ref (x_b X + a)), (1, .int (t1 + 1))] dX9_bringBack_21 rfl ki_1 (by decide) rfl ?_
    refine r_goto (pc := 24) C (tgt := 2) dX9_bringBack_24 rfl ?_
    refine r_sub [(0, .ref (x_b X + a)), (1, .int (t1 + 1))] rfl ?_
    exact r_br (τ := Int32) ((t1 + 1))
noncomputable def p_X9_isStation (a : Nat) (p1 : Int32) : zP Int32 := (z_bd (z_gA 9 a 11) (fun v1 => (z_bd (z_aI 11 v1 0) (fun v2 => (z_bd (p_X9_within p1 0 (v2 - 1)) (fun r3 => (z_zg r3 (z_pu r3))))))))
set_option maxHeartbeats 4000000 in
set_option maxRecDepth 100000 in
theorem s_X9_isStation (a : Nat) (p1 : Int32) : z_Sound yX9_isStation cX9_isStation 2 (some .boolean) 2 42 (fun D b => [.ref (b + a), .int p1]) z_ivI (p_X9_isStation a p1) := by
  refine z_ofSim rfl (by intro D b; exact Nat.le_of_ble_eq_true rfl) (fun X C hT => ?_)
  unfold p_X9_isStation
  refine r_sub [(0, .ref (x_b X + a)), (1, .int p1)] rfl ?_
  refine r_iload_n (pc := 0) C dX9_isStation_0 rfl rfl ?_
  refine r_iconst (pc := 1) C dX9_isStation_1 ki_0 ?_
  refine r_aload_n (pc := 2) C dX9_isStation_2 rfl rfl ?_
  refine r_getA (pc := 3) C dX9_isStation_3 fl_X9_17 rfl (fun v1 => ?_)
  refine r_iconst (pc := 6) C dX9_isStation_6 ki_0 ?_
  refine r_iald (pc := 7) C dX9_isStation_7 (fun v2 => ?_)
  refine r_iconst (pc := 8) C dX9_isStation_8 ki_1 ?_
  refine r_isub (pc := 9) C dX9_isStation_9 ?_
  refine r_cSI (pc := 10) C [.int p1, .int 0, .int (v2 - 1)] [] (z_KX.zero hT) (s_X9_within p1 0 (v2 - 1)) mt_X9_within dX9_isStation_10 ml_X9_103 sm_X9_within rfl rfl rfl (Nat.le_of_ble_eq_true rfl) ⟨Nat.le_of_ble_eq_true rfl, Nat.le_of_ble_eq_true rfl⟩ (fun r3 => ?_)
  refine r_zg (fun h4 => ?_)
  exact r_zret1 (pc := 13) C dX9_isStation_13 h4
noncomputable def p_X9_isTruck (a : Nat) (p1 : Int32) : zP Int32 := (z_bd (z_gA 9 a 11) (fun v1 => (z_bd (z_aI 11 v1 1) (fun v2 => (z_bd (p_X9_within p1 0 (v2 - 1)) (fun r3 => (z_zg r3 (z_pu r3))))))))
set_option maxHeartbeats 4000000 in
set_option maxRecDepth 100000 in
theorem s_X9_isTruck (a : Nat) (p1 : Int32) : z_Sound yX9_isTruck cX9_isTruck 2 (some .boolean) 2 42 (fun D b => [.ref (b + a), .int p1]) z_ivI (p_X9_isTruck a p1) := by
  refine z_ofSim rfl (by intro D b; exact Nat.le_of_ble_eq_true rfl) (fun X C hT => ?_)
  unfold p_X9_isTruck
  refine r_sub [(0, .ref (x_b X + a)), (1, .int p1)] rfl ?_
  refine r_iload_n (pc := 0) C dX9_isTruck_0 rfl rfl ?_
  refine r_iconst (pc := 1) C dX9_isTruck_1 ki_0 ?_
  refine r_aload_n (pc := 2) C dX9_isTruck_2 rfl rfl ?_
  refine r_getA (pc := 3) C dX9_isTruck_3 fl_X9_17 rfl (fun v1 => ?_)
  refine r_iconst (pc := 6) C dX9_isTruck_6 ki_1 ?_
  refine r_iald (pc := 7) C dX9_isTruck_7 (fun v2 => ?_)
  refine r_iconst (pc := 8) C dX9_isTruck_8 ki_1 ?_
  refine r_isub (pc := 9) C dX9_isTruck_9 ?_
  refine r_cSI (pc := 10) C [.int p1, .int 0, .int (v2 - 1)] [] (z_KX.zero hT) (s_X9_within p1 0 (v2 - 1)) mt_X9_within dX9_isTruck_10 ml_X9_103 sm_X9_within rfl rfl rfl (Nat.le_of_ble_eq_true rfl) ⟨Nat.le_of_ble_eq_true rfl, Nat.le_of_ble_eq_true rfl⟩ (fun r3 => ?_)
  refine r_zg (fun h4 => ?_)
  exact r_zret1 (pc := 13) C dX9_isTruck_13 h4
noncomputable def p_X9_of (a : Nat) (p1 : Int32) (p2 : Int32) : zP Int32 := (z_bd (z_gA 9 a 19) (fun v1 => (z_bd (z_aI 11 v1 ((22 + (18 * p1)) + p2)) (fun v2 => (z_pu v2)))))
set_option maxHeartbeats 4000000 in
set_option maxRecDepth 100000 in
theorem s_X9_of (a : Nat) (p1 : Int32) (p2 : Int32) : z_Sound yX9_of cX9_of 3 (some .int) 1 20 (fun D b => [.ref (b + a), .int p1, .int p2]) z_ivI (p_X9_of a p1 p2) := by
  refine z_ofSim rfl (by intro D b; exact Nat.le_of_ble_eq_true rfl) (fun X C hT => ?_)
  unfold p_X9_of
  refine r_sub [(0, .ref (x_b X + a)), (1, .int p1), (2, .int p2)] rfl ?_
  refine r_aload_n (pc := 0) C dX9_of_0 rfl rfl ?_
  refine r_getA (pc := 1) C dX9_of_1 fl_X9_32 rfl (fun v1 => ?_)
  refine r_bipush (pc := 4) C dX9_of_4 kb_22 ?_
  refine r_bipush (pc := 6) C dX9_of_6 kb_18 ?_
  refine r_iload_n (pc := 8) C dX9_of_8 rfl rfl ?_
  refine r_imul (pc := 9) C dX9_of_9 ?_
  refine r_iadd (pc := 10) C dX9_of_10 ?_
  refine r_iload_n (pc := 11) C dX9_of_11 rfl rfl ?_
  refine r_iadd (pc := 12) C dX9_of_12 ?_
  refine r_iald (pc := 13) C dX9_of_13 (fun v2 => ?_)
  exact r_iret (pc := 14) C dX9_of_14
noncomputable def p_X9_mark (a : Nat) (p1 : Int32) : zP Int32 := (z_bd (z_cv 9 a (p_X9_working a p1)) (fun r1 => (z_bd (z_gA 9 a 11) (fun v2 => (z_bd (z_aI 11 v2 5) (fun v3 => (z_pu ((r1 * v3) / 100))))))))
set_option maxHeartbeats 4000000 in
set_option maxRecDepth 100000 in
theorem s_X9_mark (a : Nat) (p1 : Int32) : z_Sound yX9_mark cX9_mark 2 (some .int) 2 41 (fun D b => [.ref (b + a), .int p1]) z_ivI (p_X9_mark a p1) := by
  refine z_ofSim rfl (by intro D b; exact Nat.le_of_ble_eq_true rfl) (fun X C hT => ?_)
  unfold p_X9_mark
  refine r_sub [(0, .ref (x_b X + a)), (1, .int p1)] rfl ?_
  refine r_aload_n (pc := 0) C dX9_mark_0 rfl rfl ?_
  refine r_iload_n (pc := 1) C dX9_mark_1 rfl rfl ?_
  refine r_cVI (pc := 2) C [.int p1] [] (z_KX.zero hT) (s_X9_working a p1) mt_X9_working zc_9 dX9_mark_2 ml_X9_228 im_X9_working se_X9_working rfl rfl rfl (Nat.le_of_ble_eq_true rfl) ⟨Nat.le_of_ble_eq_true rfl, Nat.le_of_ble_eq_true rfl⟩ (fun r1 => ?_)
  refine r_aload_n (pc := 5) C dX9_mark_5 rfl rfl ?_
  refine r_getA (pc := 6) C dX9_mark_6 fl_X9_17 rfl (fun v2 => ?_)
  refine r_iconst (pc := 9) C dX9_mark_9 ki_5 ?_
  refine r_iald (pc := 10) C dX9_mark_10 (fun v3 => ?_)
  refine r_imul (pc := 11) C dX9_mark_11 ?_
  refine r_bipush (pc := 12) C dX9_mark_12 kb_100 ?_
  refine r_idiv (pc := 14) C dX9_mark_14 (by decide) ?_
  exact r_iret (pc := 15) C dX9_mark_15
noncomputable def p_X9_drive (a : Nat) (p1 : Int32) (p2 : Int32) : zP Int32 := (z_bd (z_cv 9 a (p_X9_distance a p1 p2)) (fun r1 => (z_bd (z_gA 9 a 11) (fun v2 => (z_bd (z_aI 11 v2 4) (fun v3 => (z_pu (1 + ((r1 * v3) / 10)))))))))
set_option maxHeartbeats 4000000 in
set_option maxRecDepth 100000 in
theorem s_X9_drive (a : Nat) (p1 : Int32) (p2 : Int32) : z_Sound yX9_drive cX9_drive 3 (some .int) 3 62 (fun D b => [.ref (b + a), .int p1, .int p2]) z_ivI (p_X9_drive a p1 p2) := by
  refine z_ofSim rfl (by intro D b; exact Nat.le_of_ble_eq_true rfl) (fun X C hT => ?_)
  unfold p_X9_drive
  refine r_sub [(0, .ref (x_b X + a)), (1, .int p1), (2, .int p2)] rfl ?_
  refine r_iconst (pc := 0) C dX9_drive_0 ki_1 ?_
  refine r_aload_n (pc := 1) C dX9_drive_1 rfl rfl ?_
  refine r_iload_n (pc := 2) C dX9_drive_2 rfl rfl ?_
  refine r_iload_n (pc := 3) C dX9_drive_3 rfl rfl ?_
  refine r_cVI (pc := 4) C [.int p1, .int p2] [.int 1] (z_KX.zero hT) (s_X9_distance a p1 p2) mt_X9_distance zc_9 dX9_drive_4 ml_X9_234 im_X9_distance se_X9_distance rfl rfl rfl (Nat.le_of_ble_eq_true rfl) ⟨Nat.le_of_ble_eq_true rfl, Nat.le_of_ble_eq_true rfl⟩ (fun r1 => ?_)
  refine r_aload_n (pc := 7) C dX9_drive_7 rfl rfl ?_
  refine r_getA (pc := 8) C dX9_drive_8 fl_X9_17 rfl (fun v2 => ?_)
  refine r_iconst (pc := 11) C dX9_drive_11 ki_4 ?_
  refine r_iald (pc := 12) C dX9_drive_12 (fun v3 => ?_)
  refine r_imul (pc := 13) C dX9_drive_13 ?_
  refine r_bipush (pc := 14) C dX9_drive_14 kb_10 ?_
  refine r_idiv (pc := 16) C dX9_drive_16 (by decide) ?_
  refine r_iadd (pc := 17) C dX9_drive_17 ?_
  exact r_iret (pc := 18) C dX9_drive_18
noncomputable def p_X9_isEven (a : Nat) (p1 : Int32) : zP Int32 := (z_bd (z_gA 9 a 19) (fun v1 => (z_bd (z_aI 11 v1 (6 + p1)) (fun v2 => (z_bd (z_cv 9 a (p_X9_mark a p1)) (fun r3 => (if v2 < r3 then (z_pu 0) else (z_bd (z_cv 9 a (p_X9_free a p1)) (fun r4 => (z_bd (z_cv 9 a (p_X9_mark a p1)) (fun r5 => (if r4 < r5 then (z_pu 0) else (z_pu 1)))))))))))))
set_option maxHeartbeats 4000000 in
set_option maxRecDepth 100000 in
theorem s_X9_isEven (a : Nat) (p1 : Int32) : z_Sound yX9_isEven cX9_isEven 2 (some .boolean) 3 62 (fun D b => [.ref (b + a), .int p1]) z_ivI (p_X9_isEven a p1) := by
  refine z_ofSim rfl (by intro D b; exact Nat.le_of_ble_eq_true rfl) (fun X C hT => ?_)
  unfold p_X9_isEven
  refine r_sub [(0, .ref (x_b X + a)), (1, .int p1)] rfl ?_
  refine r_aload_n (pc := 0) C dX9_isEven_0 rfl rfl ?_
  refine r_getA (pc := 1) C dX9_isEven_1 fl_X9_32 rfl (fun v1 => ?_)
  refine r_bipush (pc := 4) C dX9_isEven_4 kb_6 ?_
  refine r_iload_n (pc := 6) C dX9_isEven_6 rfl rfl ?_
  refine r_iadd (pc := 7) C dX9_isEven_7 ?_
  refine r_iald (pc := 8) C dX9_isEven_8 (fun v2 => ?_)
  refine r_aload_n (pc := 9) C dX9_isEven_9 rfl rfl ?_
  refine r_iload_n (pc := 10) C dX9_isEven_10 rfl rfl ?_
  refine r_cVI (pc := 11) C [.int p1] [.int v2] (z_KX.zero hT) (s_X9_mark a p1) mt_X9_mark zc_9 dX9_isEven_11 ml_X9_237 im_X9_mark se_X9_mark rfl rfl rfl (Nat.le_of_ble_eq_true rfl) ⟨Nat.le_of_ble_eq_true rfl, Nat.le_of_ble_eq_true rfl⟩ (fun r3 => ?_)
  refine r_icmp_lt (pc := 14) C (tgt := 34) dX9_isEven_14 rfl (fun _ => ?_) (fun _ => ?_)
  · refine r_iconst (pc := 34) C dX9_isEven_34 ki_0 ?_
    exact r_zret1 (pc := 35) C dX9_isEven_35 (by decide)
  · refine r_aload_n (pc := 17) C dX9_isEven_17 rfl rfl ?_
    refine r_iload_n (pc := 18) C dX9_isEven_18 rfl rfl ?_
    refine r_cVI (pc := 19) C [.int p1] [] (z_KX.zero hT) (s_X9_free a p1) mt_X9_free zc_9 dX9_isEven_19 ml_X9_215 im_X9_free se_X9_free rfl rfl rfl (Nat.le_of_ble_eq_true rfl) ⟨Nat.le_of_ble_eq_true rfl, Nat.le_of_ble_eq_true rfl⟩ (fun r4 => ?_)
    refine r_aload_n (pc := 22) C dX9_isEven_22 rfl rfl ?_
    refine r_iload_n (pc := 23) C dX9_isEven_23 rfl rfl ?_
    refine r_cVI (pc := 24) C [.int p1] [.int r4] (z_KX.zero hT) (s_X9_mark a p1) mt_X9_mark zc_9 dX9_isEven_24 ml_X9_237 im_X9_mark se_X9_mark rfl rfl rfl (Nat.le_of_ble_eq_true rfl) ⟨Nat.le_of_ble_eq_true rfl, Nat.le_of_ble_eq_true rfl⟩ (fun r5 => ?_)
    refine r_icmp_lt (pc := 27) C (tgt := 34) dX9_isEven_27 rfl (fun _ => ?_) (fun _ => ?_)
    · refine r_iconst (pc := 34) C dX9_isEven_34 ki_0 ?_
      exact r_zret1 (pc := 35) C dX9_isEven_35 (by decide)
    · refine r_iconst (pc := 30) C dX9_isEven_30 ki_1 ?_
      refine r_goto (pc := 31) C (tgt := 35) dX9_isEven_31 rfl ?_
      exact r_zret1 (pc := 35) C dX9_isEven_35 (by decide)
noncomputable def p_X9_size (a : Nat) (p1 : Int32) : zP Int32 := (z_bd (z_pI 9 a 0 0) (fun _ => (z_bd (p_X9_within p1 0 2) (fun r1 => (if r1 = 0 then (z_bd (z_cv 9 a (p_X9_fail a 1)) (fun r2 => (z_pu r2))) else (z_bd (z_gA 9 a 11) (fun v3 => (z_bd (z_aI 11 v3 (0 + p1)) (fun v4 => (z_pu v4))))))))))
set_option maxHeartbeats 4000000 in
set_option maxRecDepth 100000 in
theorem s_X9_size (a : Nat) (p1 : Int32) : z_Sound yX9_size cX9_size 2 (some .int) 2 42 (fun D b => [.ref (b + a), .int p1]) z_ivI (p_X9_size a p1) := by
  refine z_ofSim rfl (by intro D b; exact Nat.le_of_ble_eq_true rfl) (fun X C hT => ?_)
  unfold p_X9_size
  refine r_sub [(0, .ref (x_b X + a)), (1, .int p1)] rfl ?_
  refine r_aload_n (pc := 0) C dX9_size_0 rfl rfl ?_
  refine r_iconst (pc := 1) C dX9_size_1 ki_0 ?_
  refine r_putI (pc := 2) C dX9_size_2 fl_X9_76 rfl rfl ?_
  refine r_iload_n (pc := 5) C dX9_size_5 rfl rfl ?_
  refine r_iconst (pc := 6) C dX9_size_6 ki_0 ?_
  refine r_iconst (pc := 7) C dX9_size_7 ki_2 ?_
  refine r_cSI (pc := 8) C [.int p1, .int 0, .int 2] [] (z_KX.zero hT) (s_X9_within p1 0 2) mt_X9_within dX9_size_8 ml_X9_103 sm_X9_within rfl rfl rfl (Nat.le_of_ble_eq_true rfl) ⟨Nat.le_of_ble_eq_true rfl, Nat.le_of_ble_eq_true rfl⟩ (fun r1 => ?_)
  refine r_if_eq (pc := 11) C (tgt := 25) dX9_size_11 rfl (fun _ => ?_) (fun _ => ?_)
  · refine r_aload_n (pc := 25) C dX9_size_25 rfl rfl ?_
    refine r_iconst (pc := 26) C dX9_size_26 ki_1 ?_
    refine r_cVI (pc := 27) C [.int 1] [] (z_KX.zero hT) (s_X9_fail a 1) mt_X9_fail zc_9 dX9_size_27 ml_X9_222 im_X9_fail se_X9_fail rfl rfl rfl (Nat.le_of_ble_eq_true rfl) ⟨Nat.le_of_ble_eq_true rfl, Nat.le_of_ble_eq_true rfl⟩ (fun r2 => ?_)
    exact r_iret (pc := 30) C dX9_size_30
  · refine r_aload_n (pc := 14) C dX9_size_14 rfl rfl ?_
    refine r_getA (pc := 15) C dX9_size_15 fl_X9_17 rfl (fun v3 => ?_)
    refine r_iconst (pc := 18) C dX9_size_18 ki_0 ?_
    refine r_iload_n (pc := 19) C dX9_size_19 rfl rfl ?_
    refine r_iadd (pc := 20) C dX9_size_20 ?_
    refine r_iald (pc := 21) C dX9_size_21 (fun v4 => ?_)
    refine r_goto (pc := 22) C (tgt := 30) dX9_size_22 rfl ?_
    exact r_iret (pc := 30) C dX9_size_30
noncomputable def p_X9_time (a : Nat) : zP Int32 := (z_bd (z_gA 9 a 19) (fun v1 => (z_bd (z_aI 11 v1 0) (fun v2 => (z_bd (z_cv 9 a (p_X9_told a v2)) (fun r3 => (z_pu r3)))))))
set_option maxHeartbeats 4000000 in
set_option maxRecDepth 100000 in
theorem s_X9_time (a : Nat) : z_Sound yX9_time cX9_time 1 (some .int) 2 41 (fun D b => [.ref (b + a)]) z_ivI (p_X9_time a) := by
  refine z_ofSim rfl (by intro D b; exact Nat.le_of_ble_eq_true rfl) (fun X C hT => ?_)
  unfold p_X9_time
  refine r_sub [(0, .ref (x_b X + a))] rfl ?_
  refine r_aload_n (pc := 0) C dX9_time_0 rfl rfl ?_
  refine r_aload_n (pc := 1) C dX9_time_1 rfl rfl ?_
  refine r_getA (pc := 2) C dX9_time_2 fl_X9_32 rfl (fun v1 => ?_)
  refine r_iconst (pc := 5) C dX9_time_5 ki_0 ?_
  refine r_iald (pc := 6) C dX9_time_6 (fun v2 => ?_)
  refine r_cVI (pc := 7) C [.int v2] [] (z_KX.zero hT) (s_X9_told a v2) mt_X9_told zc_9 dX9_time_7 ml_X9_240 im_X9_told se_X9_told rfl rfl rfl (Nat.le_of_ble_eq_true rfl) ⟨Nat.le_of_ble_eq_true rfl, Nat.le_of_ble_eq_true rfl⟩ (fun r3 => ?_)
  exact r_iret (pc := 10) C dX9_time_10
noncomputable def p_X9_loads (a : Nat) : zP Int32 := (z_lp (fun (t1 : Int32 × Int32) => (z_bd (z_gA 9 a 11) (fun v2 => (z_bd (z_aI 11 v2 1) (fun v3 => (if v3 ≤ t1.2 then (z_pu (.inr t1.1)) else (z_bd (z_cv 9 a (p_X9_of a t1.2 4)) (fun r4 => (z_bd (z_pu ((t1.1 + r4))) (fun x5 => (z_pu (.inl (x5, (t1.2 + 1)))))))))))))) (0, 0))
set_option maxHeartbeats 4000000 in
set_option maxRecDepth 100000 in
theorem s_X9_loads (a : Nat) : z_Sound yX9_loads cX9_loads 3 (some .int) 2 42 (fun D b => [.ref (b + a)]) z_ivI (p_X9_loads a) := by
  refine z_ofSim rfl (by intro D b; exact Nat.le_of_ble_eq_true rfl) (fun X C hT => ?_)
  unfold p_X9_loads
  refine r_sub [(0, .ref (x_b X + a))] rfl ?_
  refine r_iconst (pc := 0) C dX9_loads_0 ki_0 ?_
  refine r_sti_n (pc := 1) C 1 [(0, .ref (x_b X + a)), (1, .int 0)] dX9_loads_1 rfl (by decide) rfl ?_
  refine r_iconst (pc := 2) C dX9_loads_2 ki_0 ?_
  refine r_sti_n (pc := 3) C 2 [(0, .ref (x_b X + a)), (1, .int 0), (2, .int 0)] dX9_loads_3 rfl (by decide) rfl ?_
  refine r_sub [(0, .ref (x_b X + a)), (1, .int 0), (2, .int 0)] rfl ?_
  refine r_lp (pc := 4) (fun (t1 : Int32 × Int32) => [(0, .ref (x_b X + a)), (1, .int t1.1), (2, .int t1.2)]) (fun t1 => ?_) (0, 0)
  refine r_iload_n (pc := 4) C dX9_loads_4 rfl rfl ?_
  refine r_aload_n (pc := 5) C dX9_loads_5 rfl rfl ?_
  refine r_getA (pc := 6) C dX9_loads_6 fl_X9_17 rfl (fun v2 => ?_)
  refine r_iconst (pc := 9) C dX9_loads_9 ki_1 ?_
  refine r_iald (pc := 10) C dX9_loads_10 (fun v3 => ?_)
  refine r_icmp_ge (pc := 11) C (tgt := 29) dX9_loads_11 rfl (fun _ => ?_) (fun _ => ?_)
  · refine r_iload_n (pc := 29) C dX9_loads_29 rfl rfl ?_
    exact r_up (r_iret (pc := 30) C dX9_loads_30)
  · refine r_iload_n (pc := 14) C dX9_loads_14 rfl rfl ?_
    refine r_aload_n (pc := 15) C dX9_loads_15 rfl rfl ?_
    refine r_iload_n (pc := 16) C dX9_loads_16 rfl rfl ?_
    refine r_iconst (pc := 17) C dX9_loads_17 ki_4 ?_
    refine r_cVI (pc := 18) C [.int t1.2, .int 4] [.int t1.1] (z_KX.up (z_KX.zero hT)) (s_X9_of a t1.2 4) mt_X9_of zc_9 dX9_loads_18 ml_X9_243 im_X9_of se_X9_of rfl rfl rfl (Nat.le_of_ble_eq_true rfl) ⟨Nat.le_of_ble_eq_true rfl, Nat.le_of_ble_eq_true rfl⟩ (fun r4 => ?_)
    refine r_iadd (pc := 21) C dX9_loads_21 ?_
    refine r_sti_n (pc := 22) C 1 [(0, .ref (x_b X + a)), (1, .int (t1.1 + r4)), (2, .int t1.2)] dX9_loads_22 rfl (by decide) rfl ?_
    refine r_let ((t1.1 + r4)) (fun x5 => [(0, .ref (x_b X + a)), (1, .int x5), (2, .int t1.2)]) (fun x5 => []) (fun x5 => ?_)
    refine r_inc (pc := 23) C 1 [(0, .ref (x_b X + a)), (1, .int x5), (2, .int (t1.2 + 1))] dX9_loads_23 rfl ki_1 (by decide) rfl ?_
    refine r_goto (pc := 26) C (tgt := 4) dX9_loads_26 rfl ?_
    refine r_sub [(0, .ref (x_b X + a)), (1, .int x5), (2, .int (t1.2 + 1))] rfl ?_
    exact r_br (τ := Int32 × Int32) (x5, (t1.2 + 1))
noncomputable def p_X9_all (a : Nat) : zP Int32 := (z_bd (z_cv 9 a (p_X9_loads a)) (fun r1 => (z_bd (z_gA 9 a 19) (fun v2 => (z_bd (z_aI 11 v2 204) (fun v3 => (z_bd (z_pu ((r1 + v3))) (fun x4 => (z_lp (fun (t5 : Int32 × Int32) => (z_bd (z_gA 9 a 11) (fun v6 => (z_bd (z_aI 11 v6 0) (fun v7 => (if v7 ≤ t5.2 then (z_pu (.inr t5.1)) else (z_bd (z_gA 9 a 19) (fun v8 => (z_bd (z_aI 11 v8 (6 + t5.2)) (fun v9 => (z_bd (z_pu ((t5.1 + v9))) (fun x10 => (z_pu (.inl (x10, (t5.2 + 1)))))))))))))))) (x4, 0))))))))))
set_option maxHeartbeats 4000000 in
set_option maxRecDepth 100000 in
theorem s_X9_all (a : Nat) : z_Sound yX9_all cX9_all 3 (some .int) 3 64 (fun D b => [.ref (b + a)]) z_ivI (p_X9_all a) := by
  refine z_ofSim rfl (by intro D b; exact Nat.le_of_ble_eq_true rfl) (fun X C hT => ?_)
  unfold p_X9_all
  refine r_sub [(0, .ref (x_b X + a))] rfl ?_
  refine r_aload_n (pc := 0) C dX9_all_0 rfl rfl ?_
  refine r_cVI (pc := 1) C [] [] (z_KX.zero hT) (s_X9_loads a) mt_X9_loads zc_9 dX9_all_1 ml_X9_246 im_X9_loads se_X9_loads rfl rfl rfl (Nat.le_of_ble_eq_true rfl) ⟨Nat.le_of_ble_eq_true rfl, Nat.le_of_ble_eq_true rfl⟩ (fun r1 => ?_)
  refine r_aload_n (pc := 4) C dX9_all_4 rfl rfl ?_
  refine r_getA (pc := 5) C dX9_all_5 fl_X9_32 rfl (fun v2 => ?_)
  refine r_sipush (pc := 8) C dX9_all_8 ks_204 ?_
  refine r_iald (pc := 11) C dX9_all_11 (fun v3 => ?_)
  refine r_iadd (pc := 12) C dX9_all_12 ?_
  refine r_sti_n (pc := 13) C 1 [(0, .ref (x_b X + a)), (1, .int (r1 + v3))] dX9_all_13 rfl (by decide) rfl ?_
  refine r_let ((r1 + v3)) (fun x4 => [(0, .ref (x_b X + a)), (1, .int x4)]) (fun x4 => []) (fun x4 => ?_)
  refine r_iconst (pc := 14) C dX9_all_14 ki_0 ?_
  refine r_sti_n (pc := 15) C 2 [(0, .ref (x_b X + a)), (1, .int x4), (2, .int 0)] dX9_all_15 rfl (by decide) rfl ?_
  refine r_sub [(0, .ref (x_b X + a)), (1, .int x4), (2, .int 0)] rfl ?_
  refine r_lp (pc := 16) (fun (t5 : Int32 × Int32) => [(0, .ref (x_b X + a)), (1, .int t5.1), (2, .int t5.2)]) (fun t5 => ?_) (x4, 0)
  refine r_iload_n (pc := 16) C dX9_all_16 rfl rfl ?_
  refine r_aload_n (pc := 17) C dX9_all_17 rfl rfl ?_
  refine r_getA (pc := 18) C dX9_all_18 fl_X9_17 rfl (fun v6 => ?_)
  refine r_iconst (pc := 21) C dX9_all_21 ki_0 ?_
  refine r_iald (pc := 22) C dX9_all_22 (fun v7 => ?_)
  refine r_icmp_ge (pc := 23) C (tgt := 44) dX9_all_23 rfl (fun _ => ?_) (fun _ => ?_)
  · refine r_iload_n (pc := 44) C dX9_all_44 rfl rfl ?_
    exact r_up (r_iret (pc := 45) C dX9_all_45)
  · refine r_iload_n (pc := 26) C dX9_all_26 rfl rfl ?_
    refine r_aload_n (pc := 27) C dX9_all_27 rfl rfl ?_
    refine r_getA (pc := 28) C dX9_all_28 fl_X9_32 rfl (fun v8 => ?_)
    refine r_bipush (pc := 31) C dX9_all_31 kb_6 ?_
    refine r_iload_n (pc := 33) C dX9_all_33 rfl rfl ?_
    refine r_iadd (pc := 34) C dX9_all_34 ?_
    refine r_iald (pc := 35) C dX9_all_35 (fun v9 => ?_)
    refine r_iadd (pc := 36) C dX9_all_36 ?_
    refine r_sti_n (pc := 37) C 1 [(0, .ref (x_b X + a)), (1, .int (t5.1 + v9)), (2, .int t5.2)] dX9_all_37 rfl (by decide) rfl ?_
    refine r_let ((t5.1 + v9)) (fun x10 => [(0, .ref (x_b X + a)), (1, .int x10), (2, .int t5.2)]) (fun x10 => []) (fun x10 => ?_)
    refine r_inc (pc := 38) C 1 [(0, .ref (x_b X + a)), (1, .int x10), (2, .int (t5.2 + 1))] dX9_all_38 rfl ki_1 (by decide) rfl ?_
    refine r_goto (pc := 41) C (tgt := 16) dX9_all_41 rfl ?_
    refine r_sub [(0, .ref (x_b X + a)), (1, .int x10), (2, .int (t5.2 + 1))] rfl ?_
    exact r_br (τ := Int32 × Int32) (x10, (t5.2 + 1))
noncomputable def p_X9_fleet (a : Nat) : zP Int32 := (z_bd (z_cv 9 a (p_X9_all a)) (fun r1 => (z_bd (z_cv 9 a (p_X9_told a r1)) (fun r2 => (z_pu r2)))))
set_option maxHeartbeats 4000000 in
set_option maxRecDepth 100000 in
theorem s_X9_fleet (a : Nat) : z_Sound yX9_fleet cX9_fleet 1 (some .int) 4 86 (fun D b => [.ref (b + a)]) z_ivI (p_X9_fleet a) := by
  refine z_ofSim rfl (by intro D b; exact Nat.le_of_ble_eq_true rfl) (fun X C hT => ?_)
  unfold p_X9_fleet
  refine r_sub [(0, .ref (x_b X + a))] rfl ?_
  refine r_aload_n (pc := 0) C dX9_fleet_0 rfl rfl ?_
  refine r_aload_n (pc := 1) C dX9_fleet_1 rfl rfl ?_
  refine r_cVI (pc := 2) C [] [.ref (x_b X + a)] (z_KX.zero hT) (s_X9_all a) mt_X9_all zc_9 dX9_fleet_2 ml_X9_249 im_X9_all se_X9_all rfl rfl rfl (Nat.le_of_ble_eq_true rfl) ⟨Nat.le_of_ble_eq_true rfl, Nat.le_of_ble_eq_true rfl⟩ (fun r1 => ?_)
  refine r_cVI (pc := 5) C [.int r1] [] (z_KX.zero hT) (s_X9_told a r1) mt_X9_told zc_9 dX9_fleet_5 ml_X9_240 im_X9_told se_X9_told rfl rfl rfl (Nat.le_of_ble_eq_true rfl) ⟨Nat.le_of_ble_eq_true rfl, Nat.le_of_ble_eq_true rfl⟩ (fun r2 => ?_)
  exact r_iret (pc := 8) C dX9_fleet_8
noncomputable def p_X9_bikes (a : Nat) (p1 : Int32) : zP Int32 := (z_bd (z_pI 9 a 0 0) (fun _ => (z_bd (z_cv 9 a (p_X9_isStation a p1)) (fun r1 => (if r1 = 0 then (z_bd (z_cv 9 a (p_X9_fail a 1)) (fun r2 => (z_pu r2))) else (z_bd (z_gA 9 a 19) (fun v3 => (z_bd (z_aI 11 v3 (6 + p1)) (fun v4 => (z_pu v4))))))))))
set_option maxHeartbeats 4000000 in
set_option maxRecDepth 100000 in
theorem s_X9_bikes (a : Nat) (p1 : Int32) : z_Sound yX9_bikes cX9_bikes 2 (some .int) 3 63 (fun D b => [.ref (b + a), .int p1]) z_ivI (p_X9_bikes a p1) := by
  refine z_ofSim rfl (by intro D b; exact Nat.le_of_ble_eq_true rfl) (fun X C hT => ?_)
  unfold p_X9_bikes
  refine r_sub [(0, .ref (x_b X + a)), (1, .int p1)] rfl ?_
  refine r_aload_n (pc := 0) C dX9_bikes_0 rfl rfl ?_
  refine r_iconst (pc := 1) C dX9_bikes_1 ki_0 ?_
  refine r_putI (pc := 2) C dX9_bikes_2 fl_X9_76 rfl rfl ?_
  refine r_aload_n (pc := 5) C dX9_bikes_5 rfl rfl ?_
  refine r_iload_n (pc := 6) C dX9_bikes_6 rfl rfl ?_
  refine r_cVI (pc := 7) C [.int p1] [] (z_KX.zero hT) (s_X9_isStation a p1) mt_X9_isStation zc_9 dX9_bikes_7 ml_X9_252 im_X9_isStation se_X9_isStation rfl rfl rfl (Nat.le_of_ble_eq_true rfl) ⟨Nat.le_of_ble_eq_true rfl, Nat.le_of_ble_eq_true rfl⟩ (fun r1 => ?_)
  refine r_if_eq (pc := 10) C (tgt := 25) dX9_bikes_10 rfl (fun _ => ?_) (fun _ => ?_)
  · refine r_aload_n (pc := 25) C dX9_bikes_25 rfl rfl ?_
    refine r_iconst (pc := 26) C dX9_bikes_26 ki_1 ?_
    refine r_cVI (pc := 27) C [.int 1] [] (z_KX.zero hT) (s_X9_fail a 1) mt_X9_fail zc_9 dX9_bikes_27 ml_X9_222 im_X9_fail se_X9_fail rfl rfl rfl (Nat.le_of_ble_eq_true rfl) ⟨Nat.le_of_ble_eq_true rfl, Nat.le_of_ble_eq_true rfl⟩ (fun r2 => ?_)
    exact r_iret (pc := 30) C dX9_bikes_30
  · refine r_aload_n (pc := 13) C dX9_bikes_13 rfl rfl ?_
    refine r_getA (pc := 14) C dX9_bikes_14 fl_X9_32 rfl (fun v3 => ?_)
    refine r_bipush (pc := 17) C dX9_bikes_17 kb_6 ?_
    refine r_iload_n (pc := 19) C dX9_bikes_19 rfl rfl ?_
    refine r_iadd (pc := 20) C dX9_bikes_20 ?_
    refine r_iald (pc := 21) C dX9_bikes_21 (fun v4 => ?_)
    refine r_goto (pc := 22) C (tgt := 30) dX9_bikes_22 rfl ?_
    exact r_iret (pc := 30) C dX9_bikes_30
noncomputable def p_X9_freeDocks (a : Nat) (p1 : Int32) : zP Int32 := (z_bd (z_pI 9 a 0 0) (fun _ => (z_bd (z_cv 9 a (p_X9_isStation a p1)) (fun r1 => (if r1 = 0 then (z_bd (z_cv 9 a (p_X9_fail a 1)) (fun r2 => (z_pu r2))) else (z_bd (z_cv 9 a (p_X9_free a p1)) (fun r3 => (z_pu r3))))))))
set_option maxHeartbeats 4000000 in
set_option maxRecDepth 100000 in
theorem s_X9_freeDocks (a : Nat) (p1 : Int32) : z_Sound yX9_freeDocks cX9_freeDocks 2 (some .int) 3 63 (fun D b => [.ref (b + a), .int p1]) z_ivI (p_X9_freeDocks a p1) := by
  refine z_ofSim rfl (by intro D b; exact Nat.le_of_ble_eq_true rfl) (fun X C hT => ?_)
  unfold p_X9_freeDocks
  refine r_sub [(0, .ref (x_b X + a)), (1, .int p1)] rfl ?_
  refine r_aload_n (pc := 0) C dX9_freeDocks_0 rfl rfl ?_
  refine r_iconst (pc := 1) C dX9_freeDocks_1 ki_0 ?_
  refine r_putI (pc := 2) C dX9_freeDocks_2 fl_X9_76 rfl rfl ?_
  refine r_aload_n (pc := 5) C dX9_freeDocks_5 rfl rfl ?_
  refine r_iload_n (pc := 6) C dX9_freeDocks_6 rfl rfl ?_
  refine r_cVI (pc := 7) C [.int p1] [] (z_KX.zero hT) (s_X9_isStation a p1) mt_X9_isStation zc_9 dX9_freeDocks_7 ml_X9_252 im_X9_isStation se_X9_isStation rfl rfl rfl (Nat.le_of_ble_eq_true rfl) ⟨Nat.le_of_ble_eq_true rfl, Nat.le_of_ble_eq_true rfl⟩ (fun r1 => ?_)
  refine r_if_eq (pc := 10) C (tgt := 21) dX9_freeDocks_10 rfl (fun _ => ?_) (fun _ => ?_)
  · refine r_aload_n (pc := 21) C dX9_freeDocks_21 rfl rfl ?_
    refine r_iconst (pc := 22) C dX9_freeDocks_22 ki_1 ?_
    refine r_cVI (pc := 23) C [.int 1] [] (z_KX.zero hT) (s_X9_fail a 1) mt_X9_fail zc_9 dX9_freeDocks_23 ml_X9_222 im_X9_fail se_X9_fail rfl rfl rfl (Nat.le_of_ble_eq_true rfl) ⟨Nat.le_of_ble_eq_true rfl, Nat.le_of_ble_eq_true rfl⟩ (fun r2 => ?_)
    exact r_iret (pc := 26) C dX9_freeDocks_26
  · refine r_aload_n (pc := 13) C dX9_freeDocks_13 rfl rfl ?_
    refine r_iload_n (pc := 14) C dX9_freeDocks_14 rfl rfl ?_
    refine r_cVI (pc := 15) C [.int p1] [] (z_KX.zero hT) (s_X9_free a p1) mt_X9_free zc_9 dX9_freeDocks_15 ml_X9_215 im_X9_free se_X9_free rfl rfl rfl (Nat.le_of_ble_eq_true rfl) ⟨Nat.le_of_ble_eq_true rfl, Nat.le_of_ble_eq_true rfl⟩ (fun r3 => ?_)
    refine r_goto (pc := 18) C (tgt := 26) dX9_freeDocks_18 rfl ?_
    exact r_iret (pc := 26) C dX9_freeDocks_26
noncomputable def p_X9_brokenDocks (a : Nat) (p1 : Int32) : zP Int32 := (z_bd (z_pI 9 a 0 0) (fun _ => (z_bd (z_cv 9 a (p_X9_isStation a p1)) (fun r1 => (if r1 = 0 then (z_bd (z_cv 9 a (p_X9_fail a 1)) (fun r2 => (z_pu r2))) else (z_bd (z_gA 9 a 19) (fun v3 => (z_bd (z_aI 11 v3 (14 + p1)) (fun v4 => (z_pu v4))))))))))
set_option maxHeartbeats 4000000 in
set_option maxRecDepth 100000 in
theorem s_X9_brokenDocks (a : Nat) (p1 : Int32) : z_Sound yX9_brokenDocks cX9_brokenDocks 2 (some .int) 3 63 (fun D b => [.ref (b + a), .int p1]) z_ivI (p_X9_brokenDocks a p1) := by
  refine z_ofSim rfl (by intro D b; exact Nat.le_of_ble_eq_true rfl) (fun X C hT => ?_)
  unfold p_X9_brokenDocks
  refine r_sub [(0, .ref (x_b X + a)), (1, .int p1)] rfl ?_
  refine r_aload_n (pc := 0) C dX9_brokenDocks_0 rfl rfl ?_
  refine r_iconst (pc := 1) C dX9_brokenDocks_1 ki_0 ?_
  refine r_putI (pc := 2) C dX9_brokenDocks_2 fl_X9_76 rfl rfl ?_
  refine r_aload_n (pc := 5) C dX9_brokenDocks_5 rfl rfl ?_
  refine r_iload_n (pc := 6) C dX9_brokenDocks_6 rfl rfl ?_
  refine r_cVI (pc := 7) C [.int p1] [] (z_KX.zero hT) (s_X9_isStation a p1) mt_X9_isStation zc_9 dX9_brokenDocks_7 ml_X9_252 im_X9_isStation se_X9_isStation rfl rfl rfl (Nat.le_of_ble_eq_true rfl) ⟨Nat.le_of_ble_eq_true rfl, Nat.le_of_ble_eq_true rfl⟩ (fun r1 => ?_)
  refine r_if_eq (pc := 10) C (tgt := 25) dX9_brokenDocks_10 rfl (fun _ => ?_) (fun _ => ?_)
  · refine r_aload_n (pc := 25) C dX9_brokenDocks_25 rfl rfl ?_
    refine r_iconst (pc := 26) C dX9_brokenDocks_26 ki_1 ?_
    refine r_cVI (pc := 27) C [.int 1] [] (z_KX.zero hT) (s_X9_fail a 1) mt_X9_fail zc_9 dX9_brokenDocks_27 ml_X9_222 im_X9_fail se_X9_fail rfl rfl rfl (Nat.le_of_ble_eq_true rfl) ⟨Nat.le_of_ble_eq_true rfl, Nat.le_of_ble_eq_true rfl⟩ (fun r2 => ?_)
    exact r_iret (pc := 30) C dX9_brokenDocks_30
  · refine r_aload_n (pc := 13) C dX9_brokenDocks_13 rfl rfl ?_
    refine r_getA (pc := 14) C dX9_brokenDocks_14 fl_X9_32 rfl (fun v3 => ?_)
    refine r_bipush (pc := 17) C dX9_brokenDocks_17 kb_14 ?_
    refine r_iload_n (pc := 19) C dX9_brokenDocks_19 rfl rfl ?_
    refine r_iadd (pc := 20) C dX9_brokenDocks_20 ?_
    refine r_iald (pc := 21) C dX9_brokenDocks_21 (fun v4 => ?_)
    refine r_goto (pc := 22) C (tgt := 30) dX9_brokenDocks_22 rfl ?_
    exact r_iret (pc := 30) C dX9_brokenDocks_30
noncomputable def p_X9_isBalanced (a : Nat) (p1 : Int32) : zP Int32 := (z_bd (z_cv 9 a (p_X9_isStation a p1)) (fun r1 => (z_jn (τ := Int32) (if r1 = 0 then (z_pu (.inl 1)) else (z_pu (.inl 0))) (fun t2 => (z_bd (z_pI 9 a 0 t2) (fun _ => (z_bd (z_gI 9 a 0) (fun v3 => (if v3 = 0 then (z_bd (z_cv 9 a (p_X9_isEven a p1)) (fun r4 => (if r4 = 0 then (z_pu 0) else (z_pu 1)))) else (z_pu 0))))))))))
set_option maxHeartbeats 4000000 in
set_option maxRecDepth 100000 in
theorem s_X9_isBalanced (a : Nat) (p1 : Int32) : z_Sound yX9_isBalanced cX9_isBalanced 2 (some .boolean) 4 83 (fun D b => [.ref (b + a), .int p1]) z_ivI (p_X9_isBalanced a p1) := by
  refine z_ofSim rfl (by intro D b; exact Nat.le_of_ble_eq_true rfl) (fun X C hT => ?_)
  unfold p_X9_isBalanced
  refine r_sub [(0, .ref (x_b X + a)), (1, .int p1)] rfl ?_
  refine r_aload_n (pc := 0) C dX9_isBalanced_0 rfl rfl ?_
  refine r_aload_n (pc := 1) C dX9_isBalanced_1 rfl rfl ?_
  refine r_iload_n (pc := 2) C dX9_isBalanced_2 rfl rfl ?_
  refine r_cVI (pc := 3) C [.int p1] [.ref (x_b X + a)] (z_KX.zero hT) (s_X9_isStation a p1) mt_X9_isStation zc_9 dX9_isBalanced_3 ml_X9_252 im_X9_isStation se_X9_isStation rfl rfl rfl (Nat.le_of_ble_eq_true rfl) ⟨Nat.le_of_ble_eq_true rfl, Nat.le_of_ble_eq_true rfl⟩ (fun r1 => ?_)
  refine r_jn 14 (fun (t2 : Int32) => [(0, .ref (x_b X + a)), (1, .int p1)]) (fun (t2 : Int32) => [.int t2, .ref (x_b X + a)]) (fun t2 => ?_) ?_
  · refine r_putI (pc := 14) C dX9_isBalanced_14 fl_X9_76 rfl rfl ?_
    refine r_aload_n (pc := 17) C dX9_isBalanced_17 rfl rfl ?_
    refine r_getI (pc := 18) C dX9_isBalanced_18 fl_X9_76 rfl (fun v3 => ?_)
    refine r_if_ne (pc := 21) C (tgt := 36) dX9_isBalanced_21 rfl (fun _ => ?_) (fun _ => ?_)
    · refine r_aload_n (pc := 24) C dX9_isBalanced_24 rfl rfl ?_
      refine r_iload_n (pc := 25) C dX9_isBalanced_25 rfl rfl ?_
      refine r_cVI (pc := 26) C [.int p1] [] (z_KX.zero hT) (s_X9_isEven a p1) mt_X9_isEven zc_9 dX9_isBalanced_26 ml_X9_255 im_X9_isEven se_X9_isEven rfl rfl rfl (Nat.le_of_ble_eq_true rfl) ⟨Nat.le_of_ble_eq_true rfl, Nat.le_of_ble_eq_true rfl⟩ (fun r4 => ?_)
      refine r_if_eq (pc := 29) C (tgt := 36) dX9_isBalanced_29 rfl (fun _ => ?_) (fun _ => ?_)
      · refine r_iconst (pc := 36) C dX9_isBalanced_36 ki_0 ?_
        exact r_zret1 (pc := 37) C dX9_isBalanced_37 (by decide)
      · refine r_iconst (pc := 32) C dX9_isBalanced_32 ki_1 ?_
        refine r_goto (pc := 33) C (tgt := 37) dX9_isBalanced_33 rfl ?_
        exact r_zret1 (pc := 37) C dX9_isBalanced_37 (by decide)
    · refine r_iconst (pc := 36) C dX9_isBalanced_36 ki_0 ?_
      exact r_zret1 (pc := 37) C dX9_isBalanced_37 (by decide)
  · refine r_if_eq (pc := 6) C (tgt := 13) dX9_isBalanced_6 rfl (fun _ => ?_) (fun _ => ?_)
    · refine r_iconst (pc := 13) C dX9_isBalanced_13 ki_1 ?_
      refine r_sub [(0, .ref (x_b X + a)), (1, .int p1)] rfl ?_
      exact r_br (τ := Int32) 1
    · refine r_iconst (pc := 9) C dX9_isBalanced_9 ki_0 ?_
      refine r_goto (pc := 10) C (tgt := 14) dX9_isBalanced_10 rfl ?_
      refine r_sub [(0, .ref (x_b X + a)), (1, .int p1)] rfl ?_
      exact r_br (τ := Int32) 0
noncomputable def p_X9_atLeast0 (p1 : Int32) : zP Int32 := (if 0 ≤ p1 then (z_pu p1) else (z_pu 0))
set_option maxHeartbeats 4000000 in
set_option maxRecDepth 100000 in
theorem s_X9_atLeast0 (p1 : Int32) : z_Sound yX9_atLeast0 cX9_atLeast0 1 (some .int) 1 20 (fun D b => [.int p1]) z_ivI (p_X9_atLeast0 p1) := by
  refine z_ofSim rfl (by intro D b; exact Nat.le_of_ble_eq_true rfl) (fun X C hT => ?_)
  unfold p_X9_atLeast0
  refine r_sub [(0, .int p1)] rfl ?_
  refine r_iload_n (pc := 0) C dX9_atLeast0_0 rfl rfl ?_
  refine r_if_ge (pc := 1) C (tgt := 8) dX9_atLeast0_1 rfl (fun _ => ?_) (fun _ => ?_)
  · refine r_iload_n (pc := 8) C dX9_atLeast0_8 rfl rfl ?_
    exact r_iret (pc := 9) C dX9_atLeast0_9
  · refine r_iconst (pc := 4) C dX9_atLeast0_4 ki_0 ?_
    refine r_goto (pc := 5) C (tgt := 9) dX9_atLeast0_5 rfl ?_
    exact r_iret (pc := 9) C dX9_atLeast0_9
noncomputable def p_X9_imbalance (a : Nat) : zP Int32 := (z_jn (τ := Int32) (z_lp (fun (t2 : Int32 × Int32) => (z_bd (z_gA 9 a 11) (fun v3 => (z_bd (z_aI 11 v3 0) (fun v4 => (if v4 ≤ t2.2 then (z_pu (.inr (.inl t2.1))) else (z_bd (z_cv 9 a (p_X9_mark a t2.2)) (fun r5 => (z_bd (z_gA 9 a 19) (fun v6 => (z_bd (z_aI 11 v6 (6 + t2.2)) (fun v7 => (z_bd (p_X9_atLeast0 (r5 - v7)) (fun r8 => (z_bd (z_cv 9 a (p_X9_mark a t2.2)) (fun r9 => (z_bd (z_cv 9 a (p_X9_free a t2.2)) (fun r10 => (z_bd (p_X9_atLeast0 (r9 - r10)) (fun r11 => (z_bd (z_pu ((t2.1 + (r8 + r11)))) (fun x12 => (z_pu (.inl (x12, (t2.2 + 1)))))))))))))))))))))))))) (0, 0)) (fun t1 => (z_bd (z_cv 9 a (p_X9_told a t1)) (fun r13 => (z_pu r13)))))
set_option maxHeartbeats 4000000 in
set_option maxRecDepth 100000 in
theorem s_X9_imbalance (a : Nat) : z_Sound yX9_imbalance cX9_imbalance 3 (some .int) 3 62 (fun D b => [.ref (b + a)]) z_ivI (p_X9_imbalance a) := by
  refine z_ofSim rfl (by intro D b; exact Nat.le_of_ble_eq_true rfl) (fun X C hT => ?_)
  unfold p_X9_imbalance
  refine r_sub [(0, .ref (x_b X + a))] rfl ?_
  refine r_iconst (pc := 0) C dX9_imbalance_0 ki_0 ?_
  refine r_sti_n (pc := 1) C 1 [(0, .ref (x_b X + a)), (1, .int 0)] dX9_imbalance_1 rfl (by decide) rfl ?_
  refine r_iconst (pc := 2) C dX9_imbalance_2 ki_0 ?_
  refine r_sti_n (pc := 3) C 2 [(0, .ref (x_b X + a)), (1, .int 0), (2, .int 0)] dX9_imbalance_3 rfl (by decide) rfl ?_
  refine r_jn 56 (fun (t1 : Int32) => [(0, .ref (x_b X + a)), (1, .int t1)]) (fun (t1 : Int32) => []) (fun t1 => ?_) ?_
  · refine r_aload_n (pc := 56) C dX9_imbalance_56 rfl rfl ?_
    refine r_iload_n (pc := 57) C dX9_imbalance_57 rfl rfl ?_
    refine r_cVI (pc := 58) C [.int t1] [] (z_KX.zero hT) (s_X9_told a t1) mt_X9_told zc_9 dX9_imbalance_58 ml_X9_240 im_X9_told se_X9_told rfl rfl rfl (Nat.le_of_ble_eq_true rfl) ⟨Nat.le_of_ble_eq_true rfl, Nat.le_of_ble_eq_true rfl⟩ (fun r13 => ?_)
    exact r_iret (pc := 61) C dX9_imbalance_61
  · refine r_sub [(0, .ref (x_b X + a)), (1, .int 0), (2, .int 0)] rfl ?_
    refine r_lp (pc := 4) (fun (t2 : Int32 × Int32) => [(0, .ref (x_b X + a)), (1, .int t2.1), (2, .int t2.2)]) (fun t2 => ?_) (0, 0)
    refine r_iload_n (pc := 4) C dX9_imbalance_4 rfl rfl ?_
    refine r_aload_n (pc := 5) C dX9_imbalance_5 rfl rfl ?_
    refine r_getA (pc := 6) C dX9_imbalance_6 fl_X9_17 rfl (fun v3 => ?_)
    refine r_iconst (pc := 9) C dX9_imbalance_9 ki_0 ?_
    refine r_iald (pc := 10) C dX9_imbalance_10 (fun v4 => ?_)
    refine r_icmp_ge (pc := 11) C (tgt := 56) dX9_imbalance_11 rfl (fun _ => ?_) (fun _ => ?_)
    · refine r_sub [(0, .ref (x_b X + a)), (1, .int t2.1)] rfl ?_
      exact r_up (r_br (τ := Int32) t2.1)
    · refine r_iload_n (pc := 14) C dX9_imbalance_14 rfl rfl ?_
      refine r_aload_n (pc := 15) C dX9_imbalance_15 rfl rfl ?_
      refine r_iload_n (pc := 16) C dX9_imbalance_16 rfl rfl ?_
      refine r_cVI (pc := 17) C [.int t2.2] [.int t2.1] (z_KX.up (z_KX.up (z_KX.zero hT))) (s_X9_mark a t2.2) mt_X9_mark zc_9 dX9_imbalance_17 ml_X9_237 im_X9_mark se_X9_mark rfl rfl rfl (Nat.le_of_ble_eq_true rfl) ⟨Nat.le_of_ble_eq_true rfl, Nat.le_of_ble_eq_true rfl⟩ (fun r5 => ?_)
      refine r_aload_n (pc := 20) C dX9_imbalance_20 rfl rfl ?_
      refine r_getA (pc := 21) C dX9_imbalance_21 fl_X9_32 rfl (fun v6 => ?_)
      refine r_bipush (pc := 24) C dX9_imbalance_24 kb_6 ?_
      refine r_iload_n (pc := 26) C dX9_imbalance_26 rfl rfl ?_
      refine r_iadd (pc := 27) C dX9_imbalance_27 ?_
      refine r_iald (pc := 28) C dX9_imbalance_28 (fun v7 => ?_)
      refine r_isub (pc := 29) C dX9_imbalance_29 ?_
      refine r_cSI (pc := 30) C [.int (r5 - v7)] [.int t2.1] (z_KX.up (z_KX.up (z_KX.zero hT))) (s_X9_atLeast0 (r5 - v7)) mt_X9_atLeast0 dX9_imbalance_30 ml_X9_258 sm_X9_atLeast0 rfl rfl rfl (Nat.le_of_ble_eq_true rfl) ⟨Nat.le_of_ble_eq_true rfl, Nat.le_of_ble_eq_true rfl⟩ (fun r8 => ?_)
      refine r_aload_n (pc := 33) C dX9_imbalance_33 rfl rfl ?_
      refine r_iload_n (pc := 34) C dX9_imbalance_34 rfl rfl ?_
      refine r_cVI (pc := 35) C [.int t2.2] [.int r8, .int t2.1] (z_KX.up (z_KX.up (z_KX.zero hT))) (s_X9_mark a t2.2) mt_X9_mark zc_9 dX9_imbalance_35 ml_X9_237 im_X9_mark se_X9_mark rfl rfl rfl (Nat.le_of_ble_eq_true rfl) ⟨Nat.le_of_ble_eq_true rfl, Nat.le_of_ble_eq_true rfl⟩ (fun r9 => ?_)
      refine r_aload_n (pc := 38) C dX9_imbalance_38 rfl rfl ?_
      refine r_iload_n (pc := 39) C dX9_imbalance_39 rfl rfl ?_
      refine r_cVI (pc := 40) C [.int t2.2] [.int r9, .int r8, .int t2.1] (z_KX.up (z_KX.up (z_KX.zero hT))) (s_X9_free a t2.2) mt_X9_free zc_9 dX9_imbalance_40 ml_X9_215 im_X9_free se_X9_free rfl rfl rfl (Nat.le_of_ble_eq_true rfl) ⟨Nat.le_of_ble_eq_true rfl, Nat.le_of_ble_eq_true rfl⟩ (fun r10 => ?_)
      refine r_isub (pc := 43) C dX9_imbalance_43 ?_
      refine r_cSI (pc := 44) C [.int (r9 - r10)] [.int r8, .int t2.1] (z_KX.up (z_KX.up (z_KX.zero hT))) (s_X9_atLeast0 (r9 - r10)) mt_X9_atLeast0 dX9_imbalance_44 ml_X9_258 sm_X9_atLeast0 rfl rfl rfl (Nat.le_of_ble_eq_true rfl) ⟨Nat.le_of_ble_eq_true rfl, Nat.le_of_ble_eq_true rfl⟩ (fun r11 => ?_)
      refine r_iadd (pc := 47) C dX9_imbalance_47 ?_
      refine r_iadd (pc := 48) C dX9_imbalance_48 ?_
      refine r_sti_n (pc := 49) C 1 [(0, .ref (x_b X + a)), (1, .int (t2.1 + (r8 + r11))), (2, .int t2.2)] dX9_imbalance_49 rfl (by decide) rfl ?_
      refine r_let ((t2.1 + (r8 + r11))) (fun x12 => [(0, .ref (x_b X + a)), (1, .int x12), (2, .int t2.2)]) (fun x12 => []) (fun x12 => ?_)
      refine r_inc (pc := 50) C 1 [(0, .ref (x_b X + a)), (1, .int x12), (2, .int (t2.2 + 1))] dX9_imbalance_50 rfl ki_1 (by decide) rfl ?_
      refine r_goto (pc := 53) C (tgt := 4) dX9_imbalance_53 rfl ?_
      refine r_sub [(0, .ref (x_b X + a)), (1, .int x12), (2, .int (t2.2 + 1))] rfl ?_
      exact r_br (τ := Int32 × Int32) (x12, (t2.2 + 1))
noncomputable def p_X9_nearestTo (a : Nat) (p1 : Int32) (p2 : Int32) : zP Int32 := (z_lp (fun (t1 : Int32 × Int32) => (z_bd (z_gA 9 a 11) (fun v2 => (z_bd (z_aI 11 v2 0) (fun v3 => (if v3 ≤ t1.2 then (z_pu (.inr t1.1)) else (if t1.2 = p1 then (z_pu (.inl (t1.1, (t1.2 + 1)))) else (z_jn (τ := Int32) (if p2 = 0 then (z_bd (z_gA 9 a 19) (fun v5 => (z_bd (z_aI 11 v5 (6 + t1.2)) (fun v6 => (z_pu (.inl v6)))))) else (z_bd (z_cv 9 a (p_X9_free a t1.2)) (fun r7 => (z_pu (.inl r7))))) (fun t4 => (if t4 = 0 then (z_pu (.inl (t1.1, (t1.2 + 1)))) else (if t1.1 < 0 then (z_pu (.inl (t1.2, (t1.2 + 1)))) else (z_bd (z_cv 9 a (p_X9_distance a p1 t1.2)) (fun r8 => (z_bd (z_cv 9 a (p_X9_distance a p1 t1.1)) (fun r9 => (if r9 ≤ r8 then (z_pu (.inl (t1.1, (t1.2 + 1)))) else (z_pu (.inl (t1.2, (t1.2 + 1)))))))))))))))))))) ((-1), 0))
set_option maxHeartbeats 4000000 in
set_option maxRecDepth 100000 in
theorem s_X9_nearestTo (a : Nat) (p1 : Int32) (p2 : Int32) : z_Sound yX9_nearestTo cX9_nearestTo 5 (some .int) 3 62 (fun D b => [.ref (b + a), .int p1, .int p2]) z_ivI (p_X9_nearestTo a p1 p2) := by
  refine z_ofSim rfl (by intro D b; exact Nat.le_of_ble_eq_true rfl) (fun X C hT => ?_)
  unfold p_X9_nearestTo
  refine r_sub [(0, .ref (x_b X + a)), (1, .int p1), (2, .int p2)] rfl ?_
  refine r_iconst (pc := 0) C dX9_nearestTo_0 ki_m1 ?_
  refine r_sti_n (pc := 1) C 3 [(0, .ref (x_b X + a)), (1, .int p1), (2, .int p2), (3, .int (-1))] dX9_nearestTo_1 rfl (by decide) rfl ?_
  refine r_iconst (pc := 2) C dX9_nearestTo_2 ki_0 ?_
  refine r_sti (pc := 3) C [(0, .ref (x_b X + a)), (1, .int p1), (2, .int p2), (3, .int (-1)), (4, .int 0)] dX9_nearestTo_3 (by decide) rfl ?_
  refine r_sub [(0, .ref (x_b X + a)), (1, .int p1), (2, .int p2), (3, .int (-1)), (4, .int 0)] rfl ?_
  refine r_lp (pc := 5) (fun (t1 : Int32 × Int32) => [(0, .ref (x_b X + a)), (1, .int p1), (2, .int p2), (3, .int t1.1), (4, .int t1.2)]) (fun t1 => ?_) ((-1), 0)
  refine r_iload (pc := 5) C dX9_nearestTo_5 rfl ?_
  refine r_aload_n (pc := 7) C dX9_nearestTo_7 rfl rfl ?_
  refine r_getA (pc := 8) C dX9_nearestTo_8 fl_X9_17 rfl (fun v2 => ?_)
  refine r_iconst (pc := 11) C dX9_nearestTo_11 ki_0 ?_
  refine r_iald (pc := 12) C dX9_nearestTo_12 (fun v3 => ?_)
  refine r_icmp_ge (pc := 13) C (tgt := 80) dX9_nearestTo_13 rfl (fun _ => ?_) (fun _ => ?_)
  · refine r_iload_n (pc := 80) C dX9_nearestTo_80 rfl rfl ?_
    exact r_up (r_iret (pc := 81) C dX9_nearestTo_81)
  · refine r_iload (pc := 16) C dX9_nearestTo_16 rfl ?_
    refine r_iload_n (pc := 18) C dX9_nearestTo_18 rfl rfl ?_
    refine r_icmp_eq (pc := 19) C (tgt := 74) dX9_nearestTo_19 rfl (fun _ => ?_) (fun _ => ?_)
    · refine r_inc (pc := 74) C 1 [(0, .ref (x_b X + a)), (1, .int p1), (2, .int p2), (3, .int t1.1), (4, .int (t1.2 + 1))] dX9_nearestTo_74 rfl ki_1 (by decide) rfl ?_
      refine r_goto (pc := 77) C (tgt := 5) dX9_nearestTo_77 rfl ?_
      refine r_sub [(0, .ref (x_b X + a)), (1, .int p1), (2, .int p2), (3, .int t1.1), (4, .int (t1.2 + 1))] rfl ?_
      exact r_br (τ := Int32 × Int32) (t1.1, (t1.2 + 1))
    · refine r_iload_n (pc := 22) C dX9_nearestTo_22 rfl rfl ?_
      refine r_jn 45 (fun (t4 : Int32) => [(0, .ref (x_b X + a)), (1, .int p1), (2, .int p2), (3, .int t1.1), (4, .int t1.2)]) (fun (t4 : Int32) => [.int t4]) (fun t4 => ?_) ?_
      · refine r_if_ne (pc := 45) C (tgt := 51) dX9_nearestTo_45 rfl (fun _ => ?_) (fun _ => ?_)
        · refine r_goto (pc := 48) C (tgt := 74) dX9_nearestTo_48 rfl ?_
          refine r_inc (pc := 74) C 1 [(0, .ref (x_b X + a)), (1, .int p1), (2, .int p2), (3, .int t1.1), (4, .int (t1.2 + 1))] dX9_nearestTo_74 rfl ki_1 (by decide) rfl ?_
          refine r_goto (pc := 77) C (tgt := 5) dX9_nearestTo_77 rfl ?_
          refine r_sub [(0, .ref (x_b X + a)), (1, .int p1), (2, .int p2), (3, .int t1.1), (4, .int (t1.2 + 1))] rfl ?_
          exact r_br (τ := Int32 × Int32) (t1.1, (t1.2 + 1))
        · refine r_iload_n (pc := 51) C dX9_nearestTo_51 rfl rfl ?_
          refine r_if_lt (pc := 52) C (tgt := 71) dX9_nearestTo_52 rfl (fun _ => ?_) (fun _ => ?_)
          · refine r_iload (pc := 71) C dX9_nearestTo_71 rfl ?_
            refine r_sti_n (pc := 73) C 3 [(0, .ref (x_b X + a)), (1, .int p1), (2, .int p2), (3, .int t1.2), (4, .int t1.2)] dX9_nearestTo_73 rfl (by decide) rfl ?_
            refine r_inc (pc := 74) C 1 [(0, .ref (x_b X + a)), (1, .int p1), (2, .int p2), (3, .int t1.2), (4, .int (t1.2 + 1))] dX9_nearestTo_74 rfl ki_1 (by decide) rfl ?_
            refine r_goto (pc := 77) C (tgt := 5) dX9_nearestTo_77 rfl ?_
            refine r_sub [(0, .ref (x_b X + a)), (1, .int p1), (2, .int p2), (3, .int t1.2), (4, .int (t1.2 + 1))] rfl ?_
            exact r_br (τ := Int32 × Int32) (t1.2, (t1.2 + 1))
          · refine r_aload_n (pc := 55) C dX9_nearestTo_55 rfl rfl ?_
            refine r_iload_n (pc := 56) C dX9_nearestTo_56 rfl rfl ?_
            refine r_iload (pc := 57) C dX9_nearestTo_57 rfl ?_
            refine r_cVI (pc := 59) C [.int p1, .int t1.2] [] (z_KX.up (z_KX.zero hT)) (s_X9_distance a p1 t1.2) mt_X9_distance zc_9 dX9_nearestTo_59 ml_X9_234 im_X9_distance se_X9_distance rfl rfl rfl (Nat.le_of_ble_eq_true rfl) ⟨Nat.le_of_ble_eq_true rfl, Nat.le_of_ble_eq_true rfl⟩ (fun r8 => ?_)
            refine r_aload_n (pc := 62) C dX9_nearestTo_62 rfl rfl ?_
            refine r_iload_n (pc := 63) C dX9_nearestTo_63 rfl rfl ?_
            refine r_iload_n (pc := 64) C dX9_nearestTo_64 rfl rfl ?_
            refine r_cVI (pc := 65) C [.int p1, .int t1.1] [.int r8] (z_KX.up (z_KX.zero hT)) (s_X9_distance a p1 t1.1) mt_X9_distance zc_9 dX9_nearestTo_65 ml_X9_234 im_X9_distance se_X9_distance rfl rfl rfl (Nat.le_of_ble_eq_true rfl) ⟨Nat.le_of_ble_eq_true rfl, Nat.le_of_ble_eq_true rfl⟩ (fun r9 => ?_)
            refine r_icmp_ge (pc := 68) C (tgt := 74) dX9_nearestTo_68 rfl (fun _ => ?_) (fun _ => ?_)
            · refine r_inc (pc := 74) C 1 [(0, .ref (x_b X + a)), (1, .int p1), (2, .int p2), (3, .int t1.1), (4, .int (t1.2 + 1))] dX9_nearestTo_74 rfl ki_1 (by decide) rfl ?_
              refine r_goto (pc := 77) C (tgt := 5) dX9_nearestTo_77 rfl ?_
              refine r_sub [(0, .ref (x_b X + a)), (1, .int p1), (2, .int p2), (3, .int t1.1), (4, .int (t1.2 + 1))] rfl ?_
              exact r_br (τ := Int32 × Int32) (t1.1, (t1.2 + 1))
            · refine r_iload (pc := 71) C dX9_nearestTo_71 rfl ?_
              refine r_sti_n (pc := 73) C 3 [(0, .ref (x_b X + a)), (1, .int p1), (2, .int p2), (3, .int t1.2), (4, .int t1.2)] dX9_nearestTo_73 rfl (by decide) rfl ?_
              refine r_inc (pc := 74) C 1 [(0, .ref (x_b X + a)), (1, .int p1), (2, .int p2), (3, .int t1.2), (4, .int (t1.2 + 1))] dX9_nearestTo_74 rfl ki_1 (by decide) rfl ?_
              refine r_goto (pc := 77) C (tgt := 5) dX9_nearestTo_77 rfl ?_
              refine r_sub [(0, .ref (x_b X + a)), (1, .int p1), (2, .int p2), (3, .int t1.2), (4, .int (t1.2 + 1))] rfl ?_
              exact r_br (τ := Int32 × Int32) (t1.2, (t1.2 + 1))
      · refine r_if_eq (pc := 23) C (tgt := 35) dX9_nearestTo_23 rfl (fun _ => ?_) (fun _ => ?_)
        · refine r_aload_n (pc := 35) C dX9_nearestTo_35 rfl rfl ?_
          refine r_getA (pc := 36) C dX9_nearestTo_36 fl_X9_32 rfl (fun v5 => ?_)
          refine r_bipush (pc := 39) C dX9_nearestTo_39 kb_6 ?_
          refine r_iload (pc := 41) C dX9_nearestTo_41 rfl ?_
          refine r_iadd (pc := 43) C dX9_nearestTo_43 ?_
          refine r_iald (pc := 44) C dX9_nearestTo_44 (fun v6 => ?_)
          refine r_sub [(0, .ref (x_b X + a)), (1, .int p1), (2, .int p2), (3, .int t1.1), (4, .int t1.2)] rfl ?_
          exact r_br (τ := Int32) v6
        · refine r_aload_n (pc := 26) C dX9_nearestTo_26 rfl rfl ?_
          refine r_iload (pc := 27) C dX9_nearestTo_27 rfl ?_
          refine r_cVI (pc := 29) C [.int t1.2] [] (z_KX.up (z_KX.up (z_KX.zero hT))) (s_X9_free a t1.2) mt_X9_free zc_9 dX9_nearestTo_29 ml_X9_215 im_X9_free se_X9_free rfl rfl rfl (Nat.le_of_ble_eq_true rfl) ⟨Nat.le_of_ble_eq_true rfl, Nat.le_of_ble_eq_true rfl⟩ (fun r7 => ?_)
          refine r_goto (pc := 32) C (tgt := 45) dX9_nearestTo_32 rfl ?_
          refine r_sub [(0, .ref (x_b X + a)), (1, .int p1), (2, .int p2), (3, .int t1.1), (4, .int t1.2)] rfl ?_
          exact r_br (τ := Int32) r7
noncomputable def p_X9_nearest (a : Nat) (p1 : Int32) (p2 : Int32) : zP Int32 := (z_bd (z_pI 9 a 0 0) (fun _ => (z_bd (z_cv 9 a (p_X9_isStation a p1)) (fun r1 => (if r1 = 0 then (z_bd (z_cv 9 a (p_X9_fail a 1)) (fun r2 => (z_pu r2))) else (z_bd (z_cv 9 a (p_X9_nearestTo a p1 p2)) (fun r3 => (z_pu r3))))))))
set_option maxHeartbeats 4000000 in
set_option maxRecDepth 100000 in
theorem s_X9_nearest (a : Nat) (p1 : Int32) (p2 : Int32) : z_Sound yX9_nearest cX9_nearest 3 (some .int) 4 86 (fun D b => [.ref (b + a), .int p1, .int p2]) z_ivI (p_X9_nearest a p1 p2) := by
  refine z_ofSim rfl (by intro D b; exact Nat.le_of_ble_eq_true rfl) (fun X C hT => ?_)
  unfold p_X9_nearest
  refine r_sub [(0, .ref (x_b X + a)), (1, .int p1), (2, .int p2)] rfl ?_
  refine r_aload_n (pc := 0) C dX9_nearest_0 rfl rfl ?_
  refine r_iconst (pc := 1) C dX9_nearest_1 ki_0 ?_
  refine r_putI (pc := 2) C dX9_nearest_2 fl_X9_76 rfl rfl ?_
  refine r_aload_n (pc := 5) C dX9_nearest_5 rfl rfl ?_
  refine r_iload_n (pc := 6) C dX9_nearest_6 rfl rfl ?_
  refine r_cVI (pc := 7) C [.int p1] [] (z_KX.zero hT) (s_X9_isStation a p1) mt_X9_isStation zc_9 dX9_nearest_7 ml_X9_252 im_X9_isStation se_X9_isStation rfl rfl rfl (Nat.le_of_ble_eq_true rfl) ⟨Nat.le_of_ble_eq_true rfl, Nat.le_of_ble_eq_true rfl⟩ (fun r1 => ?_)
  refine r_if_eq (pc := 10) C (tgt := 22) dX9_nearest_10 rfl (fun _ => ?_) (fun _ => ?_)
  · refine r_aload_n (pc := 22) C dX9_nearest_22 rfl rfl ?_
    refine r_iconst (pc := 23) C dX9_nearest_23 ki_1 ?_
    refine r_cVI (pc := 24) C [.int 1] [] (z_KX.zero hT) (s_X9_fail a 1) mt_X9_fail zc_9 dX9_nearest_24 ml_X9_222 im_X9_fail se_X9_fail rfl rfl rfl (Nat.le_of_ble_eq_true rfl) ⟨Nat.le_of_ble_eq_true rfl, Nat.le_of_ble_eq_true rfl⟩ (fun r2 => ?_)
    exact r_iret (pc := 27) C dX9_nearest_27
  · refine r_aload_n (pc := 13) C dX9_nearest_13 rfl rfl ?_
    refine r_iload_n (pc := 14) C dX9_nearest_14 rfl rfl ?_
    refine r_iload_n (pc := 15) C dX9_nearest_15 rfl rfl ?_
    refine r_cVI (pc := 16) C [.int p1, .int p2] [] (z_KX.zero hT) (s_X9_nearestTo a p1 p2) mt_X9_nearestTo zc_9 dX9_nearest_16 ml_X9_261 im_X9_nearestTo se_X9_nearestTo rfl rfl rfl (Nat.le_of_ble_eq_true rfl) ⟨Nat.le_of_ble_eq_true rfl, Nat.le_of_ble_eq_true rfl⟩ (fun r3 => ?_)
    refine r_goto (pc := 19) C (tgt := 27) dX9_nearest_19 rfl ?_
    exact r_iret (pc := 27) C dX9_nearest_27
noncomputable def p_X9_areStations (a : Nat) (p1 : Int32) (p2 : Int32) : zP Int32 := (z_bd (z_cv 9 a (p_X9_isStation a p1)) (fun r1 => (if r1 = 0 then (z_pu 0) else (z_bd (z_cv 9 a (p_X9_isStation a p2)) (fun r2 => (if r2 = 0 then (z_pu 0) else (z_pu 1)))))))
set_option maxHeartbeats 4000000 in
set_option maxRecDepth 100000 in
theorem s_X9_areStations (a : Nat) (p1 : Int32) (p2 : Int32) : z_Sound yX9_areStations cX9_areStations 3 (some .boolean) 3 63 (fun D b => [.ref (b + a), .int p1, .int p2]) z_ivI (p_X9_areStations a p1 p2) := by
  refine z_ofSim rfl (by intro D b; exact Nat.le_of_ble_eq_true rfl) (fun X C hT => ?_)
  unfold p_X9_areStations
  refine r_sub [(0, .ref (x_b X + a)), (1, .int p1), (2, .int p2)] rfl ?_
  refine r_aload_n (pc := 0) C dX9_areStations_0 rfl rfl ?_
  refine r_iload_n (pc := 1) C dX9_areStations_1 rfl rfl ?_
  refine r_cVI (pc := 2) C [.int p1] [] (z_KX.zero hT) (s_X9_isStation a p1) mt_X9_isStation zc_9 dX9_areStations_2 ml_X9_252 im_X9_isStation se_X9_isStation rfl rfl rfl (Nat.le_of_ble_eq_true rfl) ⟨Nat.le_of_ble_eq_true rfl, Nat.le_of_ble_eq_true rfl⟩ (fun r1 => ?_)
  refine r_if_eq (pc := 5) C (tgt := 20) dX9_areStations_5 rfl (fun _ => ?_) (fun _ => ?_)
  · refine r_iconst (pc := 20) C dX9_areStations_20 ki_0 ?_
    exact r_zret1 (pc := 21) C dX9_areStations_21 (by decide)
  · refine r_aload_n (pc := 8) C dX9_areStations_8 rfl rfl ?_
    refine r_iload_n (pc := 9) C dX9_areStations_9 rfl rfl ?_
    refine r_cVI (pc := 10) C [.int p2] [] (z_KX.zero hT) (s_X9_isStation a p2) mt_X9_isStation zc_9 dX9_areStations_10 ml_X9_252 im_X9_isStation se_X9_isStation rfl rfl rfl (Nat.le_of_ble_eq_true rfl) ⟨Nat.le_of_ble_eq_true rfl, Nat.le_of_ble_eq_true rfl⟩ (fun r2 => ?_)
    refine r_if_eq (pc := 13) C (tgt := 20) dX9_areStations_13 rfl (fun _ => ?_) (fun _ => ?_)
    · refine r_iconst (pc := 20) C dX9_areStations_20 ki_0 ?_
      exact r_zret1 (pc := 21) C dX9_areStations_21 (by decide)
    · refine r_iconst (pc := 16) C dX9_areStations_16 ki_1 ?_
      refine r_goto (pc := 17) C (tgt := 21) dX9_areStations_17 rfl ?_
      exact r_zret1 (pc := 21) C dX9_areStations_21 (by decide)
noncomputable def p_X9_rideMinutes (a : Nat) (p1 : Int32) (p2 : Int32) : zP Int32 := (z_bd (z_pI 9 a 0 0) (fun _ => (z_bd (z_cv 9 a (p_X9_areStations a p1 p2)) (fun r1 => (if r1 = 0 then (z_bd (z_cv 9 a (p_X9_fail a 1)) (fun r2 => (z_pu r2))) else (z_bd (z_cv 9 a (p_X9_ride a p1 p2)) (fun r3 => (z_pu r3))))))))
set_option maxHeartbeats 4000000 in
set_option maxRecDepth 100000 in
theorem s_X9_rideMinutes (a : Nat) (p1 : Int32) (p2 : Int32) : z_Sound yX9_rideMinutes cX9_rideMinutes 3 (some .int) 4 85 (fun D b => [.ref (b + a), .int p1, .int p2]) z_ivI (p_X9_rideMinutes a p1 p2) := by
  refine z_ofSim rfl (by intro D b; exact Nat.le_of_ble_eq_true rfl) (fun X C hT => ?_)
  unfold p_X9_rideMinutes
  refine r_sub [(0, .ref (x_b X + a)), (1, .int p1), (2, .int p2)] rfl ?_
  refine r_aload_n (pc := 0) C dX9_rideMinutes_0 rfl rfl ?_
  refine r_iconst (pc := 1) C dX9_rideMinutes_1 ki_0 ?_
  refine r_putI (pc := 2) C dX9_rideMinutes_2 fl_X9_76 rfl rfl ?_
  refine r_aload_n (pc := 5) C dX9_rideMinutes_5 rfl rfl ?_
  refine r_iload_n (pc := 6) C dX9_rideMinutes_6 rfl rfl ?_
  refine r_iload_n (pc := 7) C dX9_rideMinutes_7 rfl rfl ?_
  refine r_cVI (pc := 8) C [.int p1, .int p2] [] (z_KX.zero hT) (s_X9_areStations a p1 p2) mt_X9_areStations zc_9 dX9_rideMinutes_8 ml_X9_265 im_X9_areStations se_X9_areStations rfl rfl rfl (Nat.le_of_ble_eq_true rfl) ⟨Nat.le_of_ble_eq_true rfl, Nat.le_of_ble_eq_true rfl⟩ (fun r1 => ?_)
  refine r_if_eq (pc := 11) C (tgt := 23) dX9_rideMinutes_11 rfl (fun _ => ?_) (fun _ => ?_)
  · refine r_aload_n (pc := 23) C dX9_rideMinutes_23 rfl rfl ?_
    refine r_iconst (pc := 24) C dX9_rideMinutes_24 ki_1 ?_
    refine r_cVI (pc := 25) C [.int 1] [] (z_KX.zero hT) (s_X9_fail a 1) mt_X9_fail zc_9 dX9_rideMinutes_25 ml_X9_222 im_X9_fail se_X9_fail rfl rfl rfl (Nat.le_of_ble_eq_true rfl) ⟨Nat.le_of_ble_eq_true rfl, Nat.le_of_ble_eq_true rfl⟩ (fun r2 => ?_)
    exact r_iret (pc := 28) C dX9_rideMinutes_28
  · refine r_aload_n (pc := 14) C dX9_rideMinutes_14 rfl rfl ?_
    refine r_iload_n (pc := 15) C dX9_rideMinutes_15 rfl rfl ?_
    refine r_iload_n (pc := 16) C dX9_rideMinutes_16 rfl rfl ?_
    refine r_cVI (pc := 17) C [.int p1, .int p2] [] (z_KX.zero hT) (s_X9_ride a p1 p2) mt_X9_ride zc_9 dX9_rideMinutes_17 ml_X9_212 im_X9_ride se_X9_ride rfl rfl rfl (Nat.le_of_ble_eq_true rfl) ⟨Nat.le_of_ble_eq_true rfl, Nat.le_of_ble_eq_true rfl⟩ (fun r3 => ?_)
    refine r_goto (pc := 20) C (tgt := 28) dX9_rideMinutes_20 rfl ?_
    exact r_iret (pc := 28) C dX9_rideMinutes_28
noncomputable def p_X9_quote (a : Nat) (p1 : Int32) (p2 : Int32) : zP Int32 := (z_bd (z_pI 9 a 0 0) (fun _ => (z_bd (z_cv 9 a (p_X9_areStations a p1 p2)) (fun r1 => (if r1 = 0 then (z_bd (z_cv 9 a (p_X9_fail a 1)) (fun r2 => (z_pu r2))) else (z_bd (z_cv 9 a (p_X9_fareOf a p1 p2)) (fun r3 => (z_pu r3))))))))
set_option maxHeartbeats 4000000 in
set_option maxRecDepth 100000 in
theorem s_X9_quote (a : Nat) (p1 : Int32) (p2 : Int32) : z_Sound yX9_quote cX9_quote 3 (some .int) 5 109 (fun D b => [.ref (b + a), .int p1, .int p2]) z_ivI (p_X9_quote a p1 p2) := by
  refine z_ofSim rfl (by intro D b; exact Nat.le_of_ble_eq_true rfl) (fun X C hT => ?_)
  unfold p_X9_quote
  refine r_sub [(0, .ref (x_b X + a)), (1, .int p1), (2, .int p2)] rfl ?_
  refine r_aload_n (pc := 0) C dX9_quote_0 rfl rfl ?_
  refine r_iconst (pc := 1) C dX9_quote_1 ki_0 ?_
  refine r_putI (pc := 2) C dX9_quote_2 fl_X9_76 rfl rfl ?_
  refine r_aload_n (pc := 5) C dX9_quote_5 rfl rfl ?_
  refine r_iload_n (pc := 6) C dX9_quote_6 rfl rfl ?_
  refine r_iload_n (pc := 7) C dX9_quote_7 rfl rfl ?_
  refine r_cVI (pc := 8) C [.int p1, .int p2] [] (z_KX.zero hT) (s_X9_areStations a p1 p2) mt_X9_areStations zc_9 dX9_quote_8 ml_X9_265 im_X9_areStations se_X9_areStations rfl rfl rfl (Nat.le_of_ble_eq_true rfl) ⟨Nat.le_of_ble_eq_true rfl, Nat.le_of_ble_eq_true rfl⟩ (fun r1 => ?_)
  refine r_if_eq (pc := 11) C (tgt := 23) dX9_quote_11 rfl (fun _ => ?_) (fun _ => ?_)
  · refine r_aload_n (pc := 23) C dX9_quote_23 rfl rfl ?_
    refine r_iconst (pc := 24) C dX9_quote_24 ki_1 ?_
    refine r_cVI (pc := 25) C [.int 1] [] (z_KX.zero hT) (s_X9_fail a 1) mt_X9_fail zc_9 dX9_quote_25 ml_X9_222 im_X9_fail se_X9_fail rfl rfl rfl (Nat.le_of_ble_eq_true rfl) ⟨Nat.le_of_ble_eq_true rfl, Nat.le_of_ble_eq_true rfl⟩ (fun r2 => ?_)
    exact r_iret (pc := 28) C dX9_quote_28
  · refine r_aload_n (pc := 14) C dX9_quote_14 rfl rfl ?_
    refine r_iload_n (pc := 15) C dX9_quote_15 rfl rfl ?_
    refine r_iload_n (pc := 16) C dX9_quote_16 rfl rfl ?_
    refine r_cVI (pc := 17) C [.int p1, .int p2] [] (z_KX.zero hT) (s_X9_fareOf a p1 p2) mt_X9_fareOf zc_9 dX9_quote_17 ml_X9_268 im_X9_fareOf se_X9_fareOf rfl rfl rfl (Nat.le_of_ble_eq_true rfl) ⟨Nat.le_of_ble_eq_true rfl, Nat.le_of_ble_eq_true rfl⟩ (fun r3 => ?_)
    refine r_goto (pc := 20) C (tgt := 28) dX9_quote_20 rfl ?_
    exact r_iret (pc := 28) C dX9_quote_28
noncomputable def p_X9_bonus (a : Nat) (p1 : Int32) : zP Int32 := (z_bd (z_gA 9 a 19) (fun v1 => (z_bd (z_aI 11 v1 (6 + p1)) (fun v2 => (z_bd (z_gA 9 a 11) (fun v3 => (z_bd (z_aI 11 v3 6) (fun v4 => (z_bd (z_cv 9 a (p_X9_working a p1)) (fun r5 => (if (v4 * r5) ≤ (v2 * 100) then (z_pu 0) else (z_bd (z_gA 9 a 11) (fun v6 => (z_bd (z_aI 11 v6 7) (fun v7 => (z_pu v7))))))))))))))))
set_option maxHeartbeats 4000000 in
set_option maxRecDepth 100000 in
theorem s_X9_bonus (a : Nat) (p1 : Int32) : z_Sound yX9_bonus cX9_bonus 2 (some .int) 2 41 (fun D b => [.ref (b + a), .int p1]) z_ivI (p_X9_bonus a p1) := by
  refine z_ofSim rfl (by intro D b; exact Nat.le_of_ble_eq_true rfl) (fun X C hT => ?_)
  unfold p_X9_bonus
  refine r_sub [(0, .ref (x_b X + a)), (1, .int p1)] rfl ?_
  refine r_aload_n (pc := 0) C dX9_bonus_0 rfl rfl ?_
  refine r_getA (pc := 1) C dX9_bonus_1 fl_X9_32 rfl (fun v1 => ?_)
  refine r_bipush (pc := 4) C dX9_bonus_4 kb_6 ?_
  refine r_iload_n (pc := 6) C dX9_bonus_6 rfl rfl ?_
  refine r_iadd (pc := 7) C dX9_bonus_7 ?_
  refine r_iald (pc := 8) C dX9_bonus_8 (fun v2 => ?_)
  refine r_bipush (pc := 9) C dX9_bonus_9 kb_100 ?_
  refine r_imul (pc := 11) C dX9_bonus_11 ?_
  refine r_aload_n (pc := 12) C dX9_bonus_12 rfl rfl ?_
  refine r_getA (pc := 13) C dX9_bonus_13 fl_X9_17 rfl (fun v3 => ?_)
  refine r_bipush (pc := 16) C dX9_bonus_16 kb_6 ?_
  refine r_iald (pc := 18) C dX9_bonus_18 (fun v4 => ?_)
  refine r_aload_n (pc := 19) C dX9_bonus_19 rfl rfl ?_
  refine r_iload_n (pc := 20) C dX9_bonus_20 rfl rfl ?_
  refine r_cVI (pc := 21) C [.int p1] [.int v4, .int (v2 * 100)] (z_KX.zero hT) (s_X9_working a p1) mt_X9_working zc_9 dX9_bonus_21 ml_X9_228 im_X9_working se_X9_working rfl rfl rfl (Nat.le_of_ble_eq_true rfl) ⟨Nat.le_of_ble_eq_true rfl, Nat.le_of_ble_eq_true rfl⟩ (fun r5 => ?_)
  refine r_imul (pc := 24) C dX9_bonus_24 ?_
  refine r_icmp_ge (pc := 25) C (tgt := 38) dX9_bonus_25 rfl (fun _ => ?_) (fun _ => ?_)
  · refine r_iconst (pc := 38) C dX9_bonus_38 ki_0 ?_
    exact r_iret (pc := 39) C dX9_bonus_39
  · refine r_aload_n (pc := 28) C dX9_bonus_28 rfl rfl ?_
    refine r_getA (pc := 29) C dX9_bonus_29 fl_X9_17 rfl (fun v6 => ?_)
    refine r_bipush (pc := 32) C dX9_bonus_32 kb_7 ?_
    refine r_iald (pc := 34) C dX9_bonus_34 (fun v7 => ?_)
    refine r_goto (pc := 35) C (tgt := 39) dX9_bonus_35 rfl ?_
    exact r_iret (pc := 39) C dX9_bonus_39
noncomputable def p_X9_bonusAt (a : Nat) (p1 : Int32) : zP Int32 := (z_bd (z_pI 9 a 0 0) (fun _ => (z_bd (z_cv 9 a (p_X9_isStation a p1)) (fun r1 => (if r1 = 0 then (z_bd (z_cv 9 a (p_X9_fail a 1)) (fun r2 => (z_pu r2))) else (z_bd (z_cv 9 a (p_X9_bonus a p1)) (fun r3 => (z_pu r3))))))))
set_option maxHeartbeats 4000000 in
set_option maxRecDepth 100000 in
theorem s_X9_bonusAt (a : Nat) (p1 : Int32) : z_Sound yX9_bonusAt cX9_bonusAt 2 (some .int) 3 63 (fun D b => [.ref (b + a), .int p1]) z_ivI (p_X9_bonusAt a p1) := by
  refine z_ofSim rfl (by intro D b; exact Nat.le_of_ble_eq_true rfl) (fun X C hT => ?_)
  unfold p_X9_bonusAt
  refine r_sub [(0, .ref (x_b X + a)), (1, .int p1)] rfl ?_
  refine r_aload_n (pc := 0) C dX9_bonusAt_0 rfl rfl ?_
  refine r_iconst (pc := 1) C dX9_bonusAt_1 ki_0 ?_
  refine r_putI (pc := 2) C dX9_bonusAt_2 fl_X9_76 rfl rfl ?_
  refine r_aload_n (pc := 5) C dX9_bonusAt_5 rfl rfl ?_
  refine r_iload_n (pc := 6) C dX9_bonusAt_6 rfl rfl ?_
  refine r_cVI (pc := 7) C [.int p1] [] (z_KX.zero hT) (s_X9_isStation a p1) mt_X9_isStation zc_9 dX9_bonusAt_7 ml_X9_252 im_X9_isStation se_X9_isStation rfl rfl rfl (Nat.le_of_ble_eq_true rfl) ⟨Nat.le_of_ble_eq_true rfl, Nat.le_of_ble_eq_true rfl⟩ (fun r1 => ?_)
  refine r_if_eq (pc := 10) C (tgt := 21) dX9_bonusAt_10 rfl (fun _ => ?_) (fun _ => ?_)
  · refine r_aload_n (pc := 21) C dX9_bonusAt_21 rfl rfl ?_
    refine r_iconst (pc := 22) C dX9_bonusAt_22 ki_1 ?_
    refine r_cVI (pc := 23) C [.int 1] [] (z_KX.zero hT) (s_X9_fail a 1) mt_X9_fail zc_9 dX9_bonusAt_23 ml_X9_222 im_X9_fail se_X9_fail rfl rfl rfl (Nat.le_of_ble_eq_true rfl) ⟨Nat.le_of_ble_eq_true rfl, Nat.le_of_ble_eq_true rfl⟩ (fun r2 => ?_)
    exact r_iret (pc := 26) C dX9_bonusAt_26
  · refine r_aload_n (pc := 13) C dX9_bonusAt_13 rfl rfl ?_
    refine r_iload_n (pc := 14) C dX9_bonusAt_14 rfl rfl ?_
    refine r_cVI (pc := 15) C [.int p1] [] (z_KX.zero hT) (s_X9_bonus a p1) mt_X9_bonus zc_9 dX9_bonusAt_15 ml_X9_271 im_X9_bonus se_X9_bonus rfl rfl rfl (Nat.le_of_ble_eq_true rfl) ⟨Nat.le_of_ble_eq_true rfl, Nat.le_of_ble_eq_true rfl⟩ (fun r3 => ?_)
    refine r_goto (pc := 18) C (tgt := 26) dX9_bonusAt_18 rfl ?_
    exact r_iret (pc := 26) C dX9_bonusAt_26
noncomputable def p_X9_bestDeal (a : Nat) (p1 : Int32) : zP Int32 := (z_bd (z_pI 9 a 0 0) (fun _ => (z_bd (z_cv 9 a (p_X9_isStation a p1)) (fun r1 => (if r1 = 0 then (z_bd (z_cv 9 a (p_X9_fail a 1)) (fun r9 => (z_pu r9))) else (z_lp (fun (t2 : Int32 × Int32 × Int32) => (z_bd (z_gA 9 a 11) (fun v3 => (z_bd (z_aI 11 v3 0) (fun v4 => (if v4 ≤ t2.2.2 then (z_pu (.inr t2.1)) else (if t2.2.2 = p1 then (z_pu (.inl (t2.1, t2.2.1, (t2.2.2 + 1)))) else (z_bd (z_cv 9 a (p_X9_free a t2.2.2)) (fun r5 => (if r5 = 0 then (z_pu (.inl (t2.1, t2.2.1, (t2.2.2 + 1)))) else (z_bd (z_cv 9 a (p_X9_fareOf a p1 t2.2.2)) (fun r6 => (z_bd (z_cv 9 a (p_X9_bonus a t2.2.2)) (fun r7 => (z_bd (z_pu ((r6 - r7))) (fun x8 => (if t2.1 < 0 then (z_pu (.inl (t2.2.2, x8, (t2.2.2 + 1)))) else (if x8 < t2.2.1 then (z_pu (.inl (t2.2.2, x8, (t2.2.2 + 1)))) else (z_pu (.inl (t2.1, t2.2.1, (t2.2.2 + 1)))))))))))))))))))))) ((-1), 0, 0)))))))
set_option maxHeartbeats 4000000 in
set_option maxRecDepth 100000 in
theorem s_X9_bestDeal (a : Nat) (p1 : Int32) : z_Sound yX9_bestDeal cX9_bestDeal 6 (some .int) 5 109 (fun D b => [.ref (b + a), .int p1]) z_ivI (p_X9_bestDeal a p1) := by
  refine z_ofSim rfl (by intro D b; exact Nat.le_of_ble_eq_true rfl) (fun X C hT => ?_)
  unfold p_X9_bestDeal
  refine r_sub [(0, .ref (x_b X + a)), (1, .int p1)] rfl ?_
  refine r_aload_n (pc := 0) C dX9_bestDeal_0 rfl rfl ?_
  refine r_iconst (pc := 1) C dX9_bestDeal_1 ki_0 ?_
  refine r_putI (pc := 2) C dX9_bestDeal_2 fl_X9_76 rfl rfl ?_
  refine r_aload_n (pc := 5) C dX9_bestDeal_5 rfl rfl ?_
  refine r_iload_n (pc := 6) C dX9_bestDeal_6 rfl rfl ?_
  refine r_cVI (pc := 7) C [.int p1] [] (z_KX.zero hT) (s_X9_isStation a p1) mt_X9_isStation zc_9 dX9_bestDeal_7 ml_X9_252 im_X9_isStation se_X9_isStation rfl rfl rfl (Nat.le_of_ble_eq_true rfl) ⟨Nat.le_of_ble_eq_true rfl, Nat.le_of_ble_eq_true rfl⟩ (fun r1 => ?_)
  refine r_if_ne (pc := 10) C (tgt := 19) dX9_bestDeal_10 rfl (fun _ => ?_) (fun _ => ?_)
  · refine r_aload_n (pc := 13) C dX9_bestDeal_13 rfl rfl ?_
    refine r_iconst (pc := 14) C dX9_bestDeal_14 ki_1 ?_
    refine r_cVI (pc := 15) C [.int 1] [] (z_KX.zero hT) (s_X9_fail a 1) mt_X9_fail zc_9 dX9_bestDeal_15 ml_X9_222 im_X9_fail se_X9_fail rfl rfl rfl (Nat.le_of_ble_eq_true rfl) ⟨Nat.le_of_ble_eq_true rfl, Nat.le_of_ble_eq_true rfl⟩ (fun r9 => ?_)
    exact r_iret (pc := 18) C dX9_bestDeal_18
  · refine r_iconst (pc := 19) C dX9_bestDeal_19 ki_m1 ?_
    refine r_sti_n (pc := 20) C 2 [(0, .ref (x_b X + a)), (1, .int p1), (2, .int (-1))] dX9_bestDeal_20 rfl (by decide) rfl ?_
    refine r_iconst (pc := 21) C dX9_bestDeal_21 ki_0 ?_
    refine r_sti_n (pc := 22) C 3 [(0, .ref (x_b X + a)), (1, .int p1), (2, .int (-1)), (3, .int 0)] dX9_bestDeal_22 rfl (by decide) rfl ?_
    refine r_iconst (pc := 23) C dX9_bestDeal_23 ki_0 ?_
    refine r_sti (pc := 24) C [(0, .ref (x_b X + a)), (1, .int p1), (2, .int (-1)), (3, .int 0), (4, .int 0)] dX9_bestDeal_24 (by decide) rfl ?_
    refine r_sub [(0, .ref (x_b X + a)), (1, .int p1), (2, .int (-1)), (3, .int 0), (4, .int 0)] rfl ?_
    refine r_lp (pc := 26) (fun (t2 : Int32 × Int32 × Int32) => [(0, .ref (x_b X + a)), (1, .int p1), (2, .int t2.1), (3, .int t2.2.1), (4, .int t2.2.2)]) (fun t2 => ?_) ((-1), 0, 0)
    refine r_iload (pc := 26) C dX9_bestDeal_26 rfl ?_
    refine r_aload_n (pc := 28) C dX9_bestDeal_28 rfl rfl ?_
    refine r_getA (pc := 29) C dX9_bestDeal_29 fl_X9_17 rfl (fun v3 => ?_)
    refine r_iconst (pc := 32) C dX9_bestDeal_32 ki_0 ?_
    refine r_iald (pc := 33) C dX9_bestDeal_33 (fun v4 => ?_)
    refine r_icmp_ge (pc := 34) C (tgt := 96) dX9_bestDeal_34 rfl (fun _ => ?_) (fun _ => ?_)
    · refine r_iload_n (pc := 96) C dX9_bestDeal_96 rfl rfl ?_
      exact r_up (r_iret (pc := 97) C dX9_bestDeal_97)
    · refine r_iload (pc := 37) C dX9_bestDeal_37 rfl ?_
      refine r_iload_n (pc := 39) C dX9_bestDeal_39 rfl rfl ?_
      refine r_icmp_eq (pc := 40) C (tgt := 90) dX9_bestDeal_40 rfl (fun _ => ?_) (fun _ => ?_)
      · refine r_inc (pc := 90) C 1 [(0, .ref (x_b X + a)), (1, .int p1), (2, .int t2.1), (3, .int t2.2.1), (4, .int (t2.2.2 + 1))] dX9_bestDeal_90 rfl ki_1 (by decide) rfl ?_
        refine r_goto (pc := 93) C (tgt := 26) dX9_bestDeal_93 rfl ?_
        refine r_sub [(0, .ref (x_b X + a)), (1, .int p1), (2, .int t2.1), (3, .int t2.2.1), (4, .int (t2.2.2 + 1))] rfl ?_
        exact r_br (τ := Int32 × Int32 × Int32) (t2.1, t2.2.1, (t2.2.2 + 1))
      · refine r_aload_n (pc := 43) C dX9_bestDeal_43 rfl rfl ?_
        refine r_iload (pc := 44) C dX9_bestDeal_44 rfl ?_
        refine r_cVI (pc := 46) C [.int t2.2.2] [] (z_KX.up (z_KX.zero hT)) (s_X9_free a t2.2.2) mt_X9_free zc_9 dX9_bestDeal_46 ml_X9_215 im_X9_free se_X9_free rfl rfl rfl (Nat.le_of_ble_eq_true rfl) ⟨Nat.le_of_ble_eq_true rfl, Nat.le_of_ble_eq_true rfl⟩ (fun r5 => ?_)
        refine r_if_ne (pc := 49) C (tgt := 55) dX9_bestDeal_49 rfl (fun _ => ?_) (fun _ => ?_)
        · refine r_goto (pc := 52) C (tgt := 90) dX9_bestDeal_52 rfl ?_
          refine r_inc (pc := 90) C 1 [(0, .ref (x_b X + a)), (1, .int p1), (2, .int t2.1), (3, .int t2.2.1), (4, .int (t2.2.2 + 1))] dX9_bestDeal_90 rfl ki_1 (by decide) rfl ?_
          refine r_goto (pc := 93) C (tgt := 26) dX9_bestDeal_93 rfl ?_
          refine r_sub [(0, .ref (x_b X + a)), (1, .int p1), (2, .int t2.1), (3, .int t2.2.1), (4, .int (t2.2.2 + 1))] rfl ?_
          exact r_br (τ := Int32 × Int32 × Int32) (t2.1, t2.2.1, (t2.2.2 + 1))
        · refine r_aload_n (pc := 55) C dX9_bestDeal_55 rfl rfl ?_
          refine r_iload_n (pc := 56) C dX9_bestDeal_56 rfl rfl ?_
          refine r_iload (pc := 57) C dX9_bestDeal_57 rfl ?_
          refine r_cVI (pc := 59) C [.int p1, .int t2.2.2] [] (z_KX.up (z_KX.zero hT)) (s_X9_fareOf a p1 t2.2.2) mt_X9_fareOf zc_9 dX9_bestDeal_59 ml_X9_268 im_X9_fareOf se_X9_fareOf rfl rfl rfl (Nat.le_of_ble_eq_true rfl) ⟨Nat.le_of_ble_eq_true rfl, Nat.le_of_ble_eq_true rfl⟩ (fun r6 => ?_)
          refine r_aload_n (pc := 62) C dX9_bestDeal_62 rfl rfl ?_
          refine r_iload (pc := 63) C dX9_bestDeal_63 rfl ?_
          refine r_cVI (pc := 65) C [.int t2.2.2] [.int r6] (z_KX.up (z_KX.zero hT)) (s_X9_bonus a t2.2.2) mt_X9_bonus zc_9 dX9_bestDeal_65 ml_X9_271 im_X9_bonus se_X9_bonus rfl rfl rfl (Nat.le_of_ble_eq_true rfl) ⟨Nat.le_of_ble_eq_true rfl, Nat.le_of_ble_eq_true rfl⟩ (fun r7 => ?_)
          refine r_isub (pc := 68) C dX9_bestDeal_68 ?_
          refine r_sti (pc := 69) C [(0, .ref (x_b X + a)), (1, .int p1), (2, .int t2.1), (3, .int t2.2.1), (4, .int t2.2.2), (5, .int (r6 - r7))] dX9_bestDeal_69 (by decide) rfl ?_
          refine r_let ((r6 - r7)) (fun x8 => [(0, .ref (x_b X + a)), (1, .int p1), (2, .int t2.1), (3, .int t2.2.1), (4, .int t2.2.2), (5, .int x8)]) (fun x8 => []) (fun x8 => ?_)
          refine r_iload_n (pc := 71) C dX9_bestDeal_71 rfl rfl ?_
          refine r_if_lt (pc := 72) C (tgt := 84) dX9_bestDeal_72 rfl (fun _ => ?_) (fun _ => ?_)
          · refine r_iload (pc := 84) C dX9_bestDeal_84 rfl ?_
            refine r_sti_n (pc := 86) C 2 [(0, .ref (x_b X + a)), (1, .int p1), (2, .int t2.2.2), (4, .int t2.2.2), (5, .int x8)] dX9_bestDeal_86 rfl (by decide) rfl ?_
            refine r_iload (pc := 87) C dX9_bestDeal_87 rfl ?_
            refine r_sti_n (pc := 89) C 3 [(0, .ref (x_b X + a)), (1, .int p1), (2, .int t2.2.2), (3, .int x8), (4, .int t2.2.2)] dX9_bestDeal_89 rfl (by decide) rfl ?_
            refine r_inc (pc := 90) C 1 [(0, .ref (x_b X + a)), (1, .int p1), (2, .int t2.2.2), (3, .int x8), (4, .int (t2.2.2 + 1))] dX9_bestDeal_90 rfl ki_1 (by decide) rfl ?_
            refine r_goto (pc := 93) C (tgt := 26) dX9_bestDeal_93 rfl ?_
            refine r_sub [(0, .ref (x_b X + a)), (1, .int p1), (2, .int t2.2.2), (3, .int x8), (4, .int (t2.2.2 + 1))] rfl ?_
            exact r_br (τ := Int32 × Int32 × Int32) (t2.2.2, x8, (t2.2.2 + 1))
          · refine r_iload (pc := 75) C dX9_bestDeal_75 rfl ?_
            refine r_iload_n (pc := 77) C dX9_bestDeal_77 rfl rfl ?_
            refine r_icmp_lt (pc := 78) C (tgt := 84) dX9_bestDeal_78 rfl (fun _ => ?_) (fun _ => ?_)
            · refine r_iload (pc := 84) C dX9_bestDeal_84 rfl ?_
              refine r_sti_n (pc := 86) C 2 [(0, .ref (x_b X + a)), (1, .int p1), (2, .int t2.2.2), (4, .int t2.2.2), (5, .int x8)] dX9_bestDeal_86 rfl (by decide) rfl ?_
              refine r_iload (pc := 87) C dX9_bestDeal_87 rfl ?_
              refine r_sti_n (pc := 89) C 3 [(0, .ref (x_b X + a)), (1, .int p1), (2, .int t2.2.2), (3, .int x8), (4, .int t2.2.2)] dX9_bestDeal_89 rfl (by decide) rfl ?_
              refine r_inc (pc := 90) C 1 [(0, .ref (x_b X + a)), (1, .int p1), (2, .int t2.2.2), (3, .int x8), (4, .int (t2.2.2 + 1))] dX9_bestDeal_90 rfl ki_1 (by decide) rfl ?_
              refine r_goto (pc := 93) C (tgt := 26) dX9_bestDeal_93 rfl ?_
              refine r_sub [(0, .ref (x_b X + a)), (1, .int p1), (2, .int t2.2.2), (3, .int x8), (4, .int (t2.2.2 + 1))] rfl ?_
              exact r_br (τ := Int32 × Int32 × Int32) (t2.2.2, x8, (t2.2.2 + 1))
            · refine r_goto (pc := 81) C (tgt := 90) dX9_bestDeal_81 rfl ?_
              refine r_inc (pc := 90) C 1 [(0, .ref (x_b X + a)), (1, .int p1), (2, .int t2.1), (3, .int t2.2.1), (4, .int (t2.2.2 + 1))] dX9_bestDeal_90 rfl ki_1 (by decide) rfl ?_
              refine r_goto (pc := 93) C (tgt := 26) dX9_bestDeal_93 rfl ?_
              refine r_sub [(0, .ref (x_b X + a)), (1, .int p1), (2, .int t2.1), (3, .int t2.2.1), (4, .int (t2.2.2 + 1))] rfl ?_
              exact r_br (τ := Int32 × Int32 × Int32) (t2.1, t2.2.1, (t2.2.2 + 1))
noncomputable def p_X9_riders (a : Nat) : zP Int32 := (z_bd (z_gA 9 a 19) (fun v1 => (z_bd (z_aI 11 v1 204) (fun v2 => (z_bd (z_cv 9 a (p_X9_told a v2)) (fun r3 => (z_pu r3)))))))
set_option maxHeartbeats 4000000 in
set_option maxRecDepth 100000 in
theorem s_X9_riders (a : Nat) : z_Sound yX9_riders cX9_riders 1 (some .int) 2 41 (fun D b => [.ref (b + a)]) z_ivI (p_X9_riders a) := by
  refine z_ofSim rfl (by intro D b; exact Nat.le_of_ble_eq_true rfl) (fun X C hT => ?_)
  unfold p_X9_riders
  refine r_sub [(0, .ref (x_b X + a))] rfl ?_
  refine r_aload_n (pc := 0) C dX9_riders_0 rfl rfl ?_
  refine r_aload_n (pc := 1) C dX9_riders_1 rfl rfl ?_
  refine r_getA (pc := 2) C dX9_riders_2 fl_X9_32 rfl (fun v1 => ?_)
  refine r_sipush (pc := 5) C dX9_riders_5 ks_204 ?_
  refine r_iald (pc := 8) C dX9_riders_8 (fun v2 => ?_)
  refine r_cVI (pc := 9) C [.int v2] [] (z_KX.zero hT) (s_X9_told a v2) mt_X9_told zc_9 dX9_riders_9 ml_X9_240 im_X9_told se_X9_told rfl rfl rfl (Nat.le_of_ble_eq_true rfl) ⟨Nat.le_of_ble_eq_true rfl, Nat.le_of_ble_eq_true rfl⟩ (fun r3 => ?_)
  exact r_iret (pc := 12) C dX9_riders_12
noncomputable def p_X9_riderAt (a : Nat) (p1 : Int32) (p2 : Int32) : zP Int32 := (z_bd (z_gA 9 a 19) (fun v1 => (z_bd (z_aI 11 v1 ((205 + (3 * p1)) + p2)) (fun v2 => (z_pu v2)))))
set_option maxHeartbeats 4000000 in
set_option maxRecDepth 100000 in
theorem s_X9_riderAt (a : Nat) (p1 : Int32) (p2 : Int32) : z_Sound yX9_riderAt cX9_riderAt 3 (some .int) 1 20 (fun D b => [.ref (b + a), .int p1, .int p2]) z_ivI (p_X9_riderAt a p1 p2) := by
  refine z_ofSim rfl (by intro D b; exact Nat.le_of_ble_eq_true rfl) (fun X C hT => ?_)
  unfold p_X9_riderAt
  refine r_sub [(0, .ref (x_b X + a)), (1, .int p1), (2, .int p2)] rfl ?_
  refine r_aload_n (pc := 0) C dX9_riderAt_0 rfl rfl ?_
  refine r_getA (pc := 1) C dX9_riderAt_1 fl_X9_32 rfl (fun v1 => ?_)
  refine r_sipush (pc := 4) C dX9_riderAt_4 ks_205 ?_
  refine r_iconst (pc := 7) C dX9_riderAt_7 ki_3 ?_
  refine r_iload_n (pc := 8) C dX9_riderAt_8 rfl rfl ?_
  refine r_imul (pc := 9) C dX9_riderAt_9 ?_
  refine r_iadd (pc := 10) C dX9_riderAt_10 ?_
  refine r_iload_n (pc := 11) C dX9_riderAt_11 rfl rfl ?_
  refine r_iadd (pc := 12) C dX9_riderAt_12 ?_
  refine r_iald (pc := 13) C dX9_riderAt_13 (fun v2 => ?_)
  exact r_iret (pc := 14) C dX9_riderAt_14
noncomputable def p_X9_isAhead (a : Nat) (p1 : Int32) (p2 : Int32) : zP Int32 := (z_bd (z_cv 9 a (p_X9_riderAt a p1 0)) (fun r1 => (z_bd (z_cv 9 a (p_X9_riderAt a p2 0)) (fun r2 => (if r1 = r2 then (if p2 ≤ p1 then (z_pu 0) else (z_pu 1)) else (z_bd (z_cv 9 a (p_X9_riderAt a p1 0)) (fun r3 => (z_bd (z_cv 9 a (p_X9_riderAt a p2 0)) (fun r4 => (if r4 ≤ r3 then (z_pu 0) else (z_pu 1)))))))))))
set_option maxHeartbeats 4000000 in
set_option maxRecDepth 100000 in
theorem s_X9_isAhead (a : Nat) (p1 : Int32) (p2 : Int32) : z_Sound yX9_isAhead cX9_isAhead 3 (some .boolean) 2 42 (fun D b => [.ref (b + a), .int p1, .int p2]) z_ivI (p_X9_isAhead a p1 p2) := by
  refine z_ofSim rfl (by intro D b; exact Nat.le_of_ble_eq_true rfl) (fun X C hT => ?_)
  unfold p_X9_isAhead
  refine r_sub [(0, .ref (x_b X + a)), (1, .int p1), (2, .int p2)] rfl ?_
  refine r_aload_n (pc := 0) C dX9_isAhead_0 rfl rfl ?_
  refine r_iload_n (pc := 1) C dX9_isAhead_1 rfl rfl ?_
  refine r_iconst (pc := 2) C dX9_isAhead_2 ki_0 ?_
  refine r_cVI (pc := 3) C [.int p1, .int 0] [] (z_KX.zero hT) (s_X9_riderAt a p1 0) mt_X9_riderAt zc_9 dX9_isAhead_3 ml_X9_274 im_X9_riderAt se_X9_riderAt rfl rfl rfl (Nat.le_of_ble_eq_true rfl) ⟨Nat.le_of_ble_eq_true rfl, Nat.le_of_ble_eq_true rfl⟩ (fun r1 => ?_)
  refine r_aload_n (pc := 6) C dX9_isAhead_6 rfl rfl ?_
  refine r_iload_n (pc := 7) C dX9_isAhead_7 rfl rfl ?_
  refine r_iconst (pc := 8) C dX9_isAhead_8 ki_0 ?_
  refine r_cVI (pc := 9) C [.int p2, .int 0] [.int r1] (z_KX.zero hT) (s_X9_riderAt a p2 0) mt_X9_riderAt zc_9 dX9_isAhead_9 ml_X9_274 im_X9_riderAt se_X9_riderAt rfl rfl rfl (Nat.le_of_ble_eq_true rfl) ⟨Nat.le_of_ble_eq_true rfl, Nat.le_of_ble_eq_true rfl⟩ (fun r2 => ?_)
  refine r_icmp_eq (pc := 12) C (tgt := 38) dX9_isAhead_12 rfl (fun _ => ?_) (fun _ => ?_)
  · refine r_iload_n (pc := 38) C dX9_isAhead_38 rfl rfl ?_
    refine r_iload_n (pc := 39) C dX9_isAhead_39 rfl rfl ?_
    refine r_icmp_ge (pc := 40) C (tgt := 47) dX9_isAhead_40 rfl (fun _ => ?_) (fun _ => ?_)
    · refine r_iconst (pc := 47) C dX9_isAhead_47 ki_0 ?_
      exact r_zret1 (pc := 48) C dX9_isAhead_48 (by decide)
    · refine r_iconst (pc := 43) C dX9_isAhead_43 ki_1 ?_
      refine r_goto (pc := 44) C (tgt := 48) dX9_isAhead_44 rfl ?_
      exact r_zret1 (pc := 48) C dX9_isAhead_48 (by decide)
  · refine r_aload_n (pc := 15) C dX9_isAhead_15 rfl rfl ?_
    refine r_iload_n (pc := 16) C dX9_isAhead_16 rfl rfl ?_
    refine r_iconst (pc := 17) C dX9_isAhead_17 ki_0 ?_
    refine r_cVI (pc := 18) C [.int p1, .int 0] [] (z_KX.zero hT) (s_X9_riderAt a p1 0) mt_X9_riderAt zc_9 dX9_isAhead_18 ml_X9_274 im_X9_riderAt se_X9_riderAt rfl rfl rfl (Nat.le_of_ble_eq_true rfl) ⟨Nat.le_of_ble_eq_true rfl, Nat.le_of_ble_eq_true rfl⟩ (fun r3 => ?_)
    refine r_aload_n (pc := 21) C dX9_isAhead_21 rfl rfl ?_
    refine r_iload_n (pc := 22) C dX9_isAhead_22 rfl rfl ?_
    refine r_iconst (pc := 23) C dX9_isAhead_23 ki_0 ?_
    refine r_cVI (pc := 24) C [.int p2, .int 0] [.int r3] (z_KX.zero hT) (s_X9_riderAt a p2 0) mt_X9_riderAt zc_9 dX9_isAhead_24 ml_X9_274 im_X9_riderAt se_X9_riderAt rfl rfl rfl (Nat.le_of_ble_eq_true rfl) ⟨Nat.le_of_ble_eq_true rfl, Nat.le_of_ble_eq_true rfl⟩ (fun r4 => ?_)
    refine r_icmp_ge (pc := 27) C (tgt := 34) dX9_isAhead_27 rfl (fun _ => ?_) (fun _ => ?_)
    · refine r_iconst (pc := 34) C dX9_isAhead_34 ki_0 ?_
      refine r_goto (pc := 35) C (tgt := 48) dX9_isAhead_35 rfl ?_
      exact r_zret1 (pc := 48) C dX9_isAhead_48 (by decide)
    · refine r_iconst (pc := 30) C dX9_isAhead_30 ki_1 ?_
      refine r_goto (pc := 31) C (tgt := 48) dX9_isAhead_31 rfl ?_
      exact r_zret1 (pc := 48) C dX9_isAhead_48 (by decide)
noncomputable def p_X9_rider (a : Nat) (p1 : Int32) (p2 : Int32) : zP Int32 := (z_bd (z_pI 9 a 0 0) (fun _ => (z_bd (z_gA 9 a 19) (fun v1 => (z_bd (z_aI 11 v1 204) (fun v2 => (z_bd (p_X9_within p1 0 (v2 - 1)) (fun r3 => (if r3 = 0 then (z_bd (z_cv 9 a (p_X9_fail a 1)) (fun r16 => (z_pu r16))) else (z_bd (p_X9_within p2 0 2) (fun r4 => (if r4 = 0 then (z_bd (z_cv 9 a (p_X9_fail a 2)) (fun r15 => (z_pu r15))) else (z_jn (τ := Int32) (z_lp (fun (t6 : Int32 × Int32) => (z_bd (z_gA 9 a 19) (fun v7 => (z_bd (z_aI 11 v7 204) (fun v8 => (if v8 ≤ t6.2 then (z_pu (.inr (.inl t6.1))) else (if 0 ≤ t6.1 then (z_pu (.inr (.inl t6.1))) else (z_jn (τ := Int32) (z_lp (fun (t10 : Int32 × Int32) => (z_bd (z_gA 9 a 19) (fun v11 => (z_bd (z_aI 11 v11 204) (fun v12 => (if v12 ≤ t10.2 then (z_pu (.inr (.inl t10.1))) else (if t10.2 = t6.2 then (z_pu (.inl (t10.1, (t10.2 + 1)))) else (z_bd (z_cv 9 a (p_X9_isAhead a t10.2 t6.2)) (fun r13 => (if r13 = 0 then (z_pu (.inl (t10.1, (t10.2 + 1)))) else (z_pu (.inl ((t10.1 + 1), (t10.2 + 1)))))))))))))) (0, 0)) (fun t9 => (if t9 = p1 then (z_pu (.inl (t6.2, (t6.2 + 1)))) else (z_pu (.inl (t6.1, (t6.2 + 1)))))))))))))) ((-1), 0)) (fun t5 => (z_bd (z_cv 9 a (p_X9_riderAt a t5 p2)) (fun r14 => (z_pu r14)))))))))))))))))
set_option maxHeartbeats 4000000 in
set_option maxRecDepth 100000 in
theorem s_X9_rider (a : Nat) (p1 : Int32) (p2 : Int32) : z_Sound yX9_rider cX9_rider 7 (some .int) 3 64 (fun D b => [.ref (b + a), .int p1, .int p2]) z_ivI (p_X9_rider a p1 p2) := by
  refine z_ofSim rfl (by intro D b; exact Nat.le_of_ble_eq_true rfl) (fun X C hT => ?_)
  unfold p_X9_rider
  refine r_sub [(0, .ref (x_b X + a)), (1, .int p1), (2, .int p2)] rfl ?_
  refine r_aload_n (pc := 0) C dX9_rider_0 rfl rfl ?_
  refine r_iconst (pc := 1) C dX9_rider_1 ki_0 ?_
  refine r_putI (pc := 2) C dX9_rider_2 fl_X9_76 rfl rfl ?_
  refine r_iload_n (pc := 5) C dX9_rider_5 rfl rfl ?_
  refine r_iconst (pc := 6) C dX9_rider_6 ki_0 ?_
  refine r_aload_n (pc := 7) C dX9_rider_7 rfl rfl ?_
  refine r_getA (pc := 8) C dX9_rider_8 fl_X9_32 rfl (fun v1 => ?_)
  refine r_sipush (pc := 11) C dX9_rider_11 ks_204 ?_
  refine r_iald (pc := 14) C dX9_rider_14 (fun v2 => ?_)
  refine r_iconst (pc := 15) C dX9_rider_15 ki_1 ?_
  refine r_isub (pc := 16) C dX9_rider_16 ?_
  refine r_cSI (pc := 17) C [.int p1, .int 0, .int (v2 - 1)] [] (z_KX.zero hT) (s_X9_within p1 0 (v2 - 1)) mt_X9_within dX9_rider_17 ml_X9_103 sm_X9_within rfl rfl rfl (Nat.le_of_ble_eq_true rfl) ⟨Nat.le_of_ble_eq_true rfl, Nat.le_of_ble_eq_true rfl⟩ (fun r3 => ?_)
  refine r_if_ne (pc := 20) C (tgt := 29) dX9_rider_20 rfl (fun _ => ?_) (fun _ => ?_)
  · refine r_aload_n (pc := 23) C dX9_rider_23 rfl rfl ?_
    refine r_iconst (pc := 24) C dX9_rider_24 ki_1 ?_
    refine r_cVI (pc := 25) C [.int 1] [] (z_KX.zero hT) (s_X9_fail a 1) mt_X9_fail zc_9 dX9_rider_25 ml_X9_222 im_X9_fail se_X9_fail rfl rfl rfl (Nat.le_of_ble_eq_true rfl) ⟨Nat.le_of_ble_eq_true rfl, Nat.le_of_ble_eq_true rfl⟩ (fun r16 => ?_)
    exact r_iret (pc := 28) C dX9_rider_28
  · refine r_iload_n (pc := 29) C dX9_rider_29 rfl rfl ?_
    refine r_iconst (pc := 30) C dX9_rider_30 ki_0 ?_
    refine r_iconst (pc := 31) C dX9_rider_31 ki_2 ?_
    refine r_cSI (pc := 32) C [.int p2, .int 0, .int 2] [] (z_KX.zero hT) (s_X9_within p2 0 2) mt_X9_within dX9_rider_32 ml_X9_103 sm_X9_within rfl rfl rfl (Nat.le_of_ble_eq_true rfl) ⟨Nat.le_of_ble_eq_true rfl, Nat.le_of_ble_eq_true rfl⟩ (fun r4 => ?_)
    refine r_if_ne (pc := 35) C (tgt := 44) dX9_rider_35 rfl (fun _ => ?_) (fun _ => ?_)
    · refine r_aload_n (pc := 38) C dX9_rider_38 rfl rfl ?_
      refine r_iconst (pc := 39) C dX9_rider_39 ki_2 ?_
      refine r_cVI (pc := 40) C [.int 2] [] (z_KX.zero hT) (s_X9_fail a 2) mt_X9_fail zc_9 dX9_rider_40 ml_X9_222 im_X9_fail se_X9_fail rfl rfl rfl (Nat.le_of_ble_eq_true rfl) ⟨Nat.le_of_ble_eq_true rfl, Nat.le_of_ble_eq_true rfl⟩ (fun r15 => ?_)
      exact r_iret (pc := 43) C dX9_rider_43
    · refine r_iconst (pc := 44) C dX9_rider_44 ki_m1 ?_
      refine r_sti_n (pc := 45) C 3 [(0, .ref (x_b X + a)), (1, .int p1), (2, .int p2), (3, .int (-1))] dX9_rider_45 rfl (by decide) rfl ?_
      refine r_iconst (pc := 46) C dX9_rider_46 ki_0 ?_
      refine r_sti (pc := 47) C [(0, .ref (x_b X + a)), (1, .int p1), (2, .int p2), (3, .int (-1)), (4, .int 0)] dX9_rider_47 (by decide) rfl ?_
      refine r_jn 127 (fun (t5 : Int32) => [(0, .ref (x_b X + a)), (2, .int p2), (3, .int t5)]) (fun (t5 : Int32) => []) (fun t5 => ?_) ?_
      · refine r_aload_n (pc := 127) C dX9_rider_127 rfl rfl ?_
        refine r_iload_n (pc := 128) C dX9_rider_128 rfl rfl ?_
        refine r_iload_n (pc := 129) C dX9_rider_129 rfl rfl ?_
        refine r_cVI (pc := 130) C [.int t5, .int p2] [] (z_KX.zero hT) (s_X9_riderAt a t5 p2) mt_X9_riderAt zc_9 dX9_rider_130 ml_X9_274 im_X9_riderAt se_X9_riderAt rfl rfl rfl (Nat.le_of_ble_eq_true rfl) ⟨Nat.le_of_ble_eq_true rfl, Nat.le_of_ble_eq_true rfl⟩ (fun r14 => ?_)
        exact r_iret (pc := 133) C dX9_rider_133
      · refine r_sub [(0, .ref (x_b X + a)), (1, .int p1), (2, .int p2), (3, .int (-1)), (4, .int 0)] rfl ?_
        refine r_lp (pc := 49) (fun (t6 : Int32 × Int32) => [(0, .ref (x_b X + a)), (1, .int p1), (2, .int p2), (3, .int t6.1), (4, .int t6.2)]) (fun t6 => ?_) ((-1), 0)
        refine r_iload (pc := 49) C dX9_rider_49 rfl ?_
        refine r_aload_n (pc := 51) C dX9_rider_51 rfl rfl ?_
        refine r_getA (pc := 52) C dX9_rider_52 fl_X9_32 rfl (fun v7 => ?_)
        refine r_sipush (pc := 55) C dX9_rider_55 ks_204 ?_
        refine r_iald (pc := 58) C dX9_rider_58 (fun v8 => ?_)
        refine r_icmp_ge (pc := 59) C (tgt := 127) dX9_rider_59 rfl (fun _ => ?_) (fun _ => ?_)
        · refine r_sub [(0, .ref (x_b X + a)), (2, .int p2), (3, .int t6.1)] rfl ?_
          exact r_up (r_br (τ := Int32) t6.1)
        · refine r_iload_n (pc := 62) C dX9_rider_62 rfl rfl ?_
          refine r_if_ge (pc := 63) C (tgt := 127) dX9_rider_63 rfl (fun _ => ?_) (fun _ => ?_)
          · refine r_sub [(0, .ref (x_b X + a)), (2, .int p2), (3, .int t6.1)] rfl ?_
            exact r_up (r_br (τ := Int32) t6.1)
          · refine r_iconst (pc := 66) C dX9_rider_66 ki_0 ?_
            refine r_sti (pc := 67) C [(0, .ref (x_b X + a)), (1, .int p1), (2, .int p2), (3, .int t6.1), (4, .int t6.2), (5, .int 0)] dX9_rider_67 (by decide) rfl ?_
            refine r_iconst (pc := 69) C dX9_rider_69 ki_0 ?_
            refine r_sti (pc := 70) C [(0, .ref (x_b X + a)), (1, .int p1), (2, .int p2), (3, .int t6.1), (4, .int t6.2), (5, .int 0), (6, .int 0)] dX9_rider_70 (by decide) rfl ?_
            refine r_jn 112 (fun (t9 : Int32) => [(0, .ref (x_b X + a)), (1, .int p1), (2, .int p2), (3, .int t6.1), (4, .int t6.2), (5, .int t9)]) (fun (t9 : Int32) => []) (fun t9 => ?_) ?_
            · refine r_iload (pc := 112) C dX9_rider_112 rfl ?_
              refine r_iload_n (pc := 114) C dX9_rider_114 rfl rfl ?_
              refine r_icmp_ne (pc := 115) C (tgt := 121) dX9_rider_115 rfl (fun _ => ?_) (fun _ => ?_)
              · refine r_iload (pc := 118) C dX9_rider_118 rfl ?_
                refine r_sti_n (pc := 120) C 3 [(0, .ref (x_b X + a)), (1, .int p1), (2, .int p2), (3, .int t6.2), (4, .int t6.2)] dX9_rider_120 rfl (by decide) rfl ?_
                refine r_inc (pc := 121) C 1 [(0, .ref (x_b X + a)), (1, .int p1), (2, .int p2), (3, .int t6.2), (4, .int (t6.2 + 1))] dX9_rider_121 rfl ki_1 (by decide) rfl ?_
                refine r_goto (pc := 124) C (tgt := 49) dX9_rider_124 rfl ?_
                refine r_sub [(0, .ref (x_b X + a)), (1, .int p1), (2, .int p2), (3, .int t6.2), (4, .int (t6.2 + 1))] rfl ?_
                exact r_br (τ := Int32 × Int32) (t6.2, (t6.2 + 1))
              · refine r_inc (pc := 121) C 1 [(0, .ref (x_b X + a)), (1, .int p1), (2, .int p2), (3, .int t6.1), (4, .int (t6.2 + 1))] dX9_rider_121 rfl ki_1 (by decide) rfl ?_
                refine r_goto (pc := 124) C (tgt := 49) dX9_rider_124 rfl ?_
                refine r_sub [(0, .ref (x_b X + a)), (1, .int p1), (2, .int p2), (3, .int t6.1), (4, .int (t6.2 + 1))] rfl ?_
                exact r_br (τ := Int32 × Int32) (t6.1, (t6.2 + 1))
            · refine r_sub [(0, .ref (x_b X + a)), (1, .int p1), (2, .int p2), (3, .int t6.1), (4, .int t6.2), (5, .int 0), (6, .int 0)] rfl ?_
              refine r_lp (pc := 72) (fun (t10 : Int32 × Int32) => [(0, .ref (x_b X + a)), (1, .int p1), (2, .int p2), (3, .int t6.1), (4, .int t6.2), (5, .int t10.1), (6, .int t10.2)]) (fun t10 => ?_) (0, 0)
              refine r_iload (pc := 72) C dX9_rider_72 rfl ?_
              refine r_aload_n (pc := 74) C dX9_rider_74 rfl rfl ?_
              refine r_getA (pc := 75) C dX9_rider_75 fl_X9_32 rfl (fun v11 => ?_)
              refine r_sipush (pc := 78) C dX9_rider_78 ks_204 ?_
              refine r_iald (pc := 81) C dX9_rider_81 (fun v12 => ?_)
              refine r_icmp_ge (pc := 82) C (tgt := 112) dX9_rider_82 rfl (fun _ => ?_) (fun _ => ?_)
              · refine r_sub [(0, .ref (x_b X + a)), (1, .int p1), (2, .int p2), (3, .int t6.1), (4, .int t6.2), (5, .int t10.1)] rfl ?_
                exact r_up (r_br (τ := Int32) t10.1)
              · refine r_iload (pc := 85) C dX9_rider_85 rfl ?_
                refine r_iload (pc := 87) C dX9_rider_87 rfl ?_
                refine r_icmp_eq (pc := 89) C (tgt := 106) dX9_rider_89 rfl (fun _ => ?_) (fun _ => ?_)
                · refine r_inc (pc := 106) C 1 [(0, .ref (x_b X + a)), (1, .int p1), (2, .int p2), (3, .int t6.1), (4, .int t6.2), (5, .int t10.1), (6, .int (t10.2 + 1))] dX9_rider_106 rfl ki_1 (by decide) rfl ?_
                  refine r_goto (pc := 109) C (tgt := 72) dX9_rider_109 rfl ?_
                  refine r_sub [(0, .ref (x_b X + a)), (1, .int p1), (2, .int p2), (3, .int t6.1), (4, .int t6.2), (5, .int t10.1), (6, .int (t10.2 + 1))] rfl ?_
                  exact r_br (τ := Int32 × Int32) (t10.1, (t10.2 + 1))
                · refine r_aload_n (pc := 92) C dX9_rider_92 rfl rfl ?_
                  refine r_iload (pc := 93) C dX9_rider_93 rfl ?_
                  refine r_iload (pc := 95) C dX9_rider_95 rfl ?_
                  refine r_cVI (pc := 97) C [.int t10.2, .int t6.2] [] (z_KX.up (z_KX.up (z_KX.up (z_KX.up (z_KX.zero hT))))) (s_X9_isAhead a t10.2 t6.2) mt_X9_isAhead zc_9 dX9_rider_97 ml_X9_277 im_X9_isAhead se_X9_isAhead rfl rfl rfl (Nat.le_of_ble_eq_true rfl) ⟨Nat.le_of_ble_eq_true rfl, Nat.le_of_ble_eq_true rfl⟩ (fun r13 => ?_)
                  refine r_if_eq (pc := 100) C (tgt := 106) dX9_rider_100 rfl (fun _ => ?_) (fun _ => ?_)
                  · refine r_inc (pc := 106) C 1 [(0, .ref (x_b X + a)), (1, .int p1), (2, .int p2), (3, .int t6.1), (4, .int t6.2), (5, .int t10.1), (6, .int (t10.2 + 1))] dX9_rider_106 rfl ki_1 (by decide) rfl ?_
                    refine r_goto (pc := 109) C (tgt := 72) dX9_rider_109 rfl ?_
                    refine r_sub [(0, .ref (x_b X + a)), (1, .int p1), (2, .int p2), (3, .int t6.1), (4, .int t6.2), (5, .int t10.1), (6, .int (t10.2 + 1))] rfl ?_
                    exact r_br (τ := Int32 × Int32) (t10.1, (t10.2 + 1))
                  · refine r_inc (pc := 103) C 1 [(0, .ref (x_b X + a)), (1, .int p1), (2, .int p2), (3, .int t6.1), (4, .int t6.2), (5, .int (t10.1 + 1)), (6, .int t10.2)] dX9_rider_103 rfl ki_1 (by decide) rfl ?_
                    refine r_inc (pc := 106) C 1 [(0, .ref (x_b X + a)), (1, .int p1), (2, .int p2), (3, .int t6.1), (4, .int t6.2), (5, .int (t10.1 + 1)), (6, .int (t10.2 + 1))] dX9_rider_106 rfl ki_1 (by decide) rfl ?_
                    refine r_goto (pc := 109) C (tgt := 72) dX9_rider_109 rfl ?_
                    refine r_sub [(0, .ref (x_b X + a)), (1, .int p1), (2, .int p2), (3, .int t6.1), (4, .int t6.2), (5, .int (t10.1 + 1)), (6, .int (t10.2 + 1))] rfl ?_
                    exact r_br (τ := Int32 × Int32) ((t10.1 + 1), (t10.2 + 1))
